/-! THE LAW, call by call: what a turn of it does -/
noncomputable def DC_0 (f1_variables : Int64) (f1_rowsFresh : Bool) (f1_gatesFresh : Bool) (f1_store_equationCount : Int32) (n1_store_equations : Nat) (h1_store_equations : Nat → Int64) (f2_thrown : Int32) (f2_n : Int32) (f2_equations : Int32) (n2_eSet : Nat) (h2_eSet : Nat → Int64) (n2_eRight : Nat) (h2_eRight : Nat → Int32) (n3 : Nat) (h3 : Nat → Int64) (xs : Nat → Int32) (x4 : Int32) : Option (Bool × Bool × Int32 × (Nat → Int64) × Int32 × Int32 × (Nat → Int64) × (Nat → Int32) × (Nat → Int64)) :=
  Option.bind (D_L_equation f1_variables f1_rowsFresh f1_gatesFresh f1_store_equationCount n1_store_equations h1_store_equations n3 h3 ((jshl ((xs (x4 + (1 : Int32)).toNatClampNeg).toInt64) (32 : Int32)) ||| (((xs (x4 + (2 : Int32)).toNatClampNeg).toInt64) &&& (4294967295 : Int64))) (xs (x4 + (3 : Int32)).toNatClampNeg)) (fun u_1 =>
    Option.bind (D_X8_equation f2_thrown f2_n f2_equations n2_eSet h2_eSet n2_eRight h2_eRight ((jshl ((xs (x4 + (1 : Int32)).toNatClampNeg).toInt64) (32 : Int32)) ||| (((xs (x4 + (2 : Int32)).toNatClampNeg).toInt64) &&& (4294967295 : Int64))) (xs (x4 + (3 : Int32)).toNatClampNeg)) (fun u_3 =>
      Option.bind (D_X8_thrown u_3.2.1) (fun u_5 =>
        cif (u_5 = u_1.1)
          (cif (u_1.1 = 0)
            (cif (vp_in (0 : Int32) n3)
              (cif ((u_1.2.2.2.2.2 (0 : Int32).toNatClampNeg) = u_3.1.toInt64)
                (some (u_1.2.1, u_1.2.2.1, u_1.2.2.2.1, u_1.2.2.2.2.1, u_3.2.1, u_3.2.2.1, u_3.2.2.2.1, u_3.2.2.2.2, u_1.2.2.2.2.2))
                (none))
              (none))
            (some (u_1.2.1, u_1.2.2.1, u_1.2.2.2.1, u_1.2.2.2.2.1, u_3.2.1, u_3.2.2.1, u_3.2.2.2.1, u_3.2.2.2.2, u_1.2.2.2.2.2)))
          (none))))
noncomputable def DC_1 (f1_variables : Int64) (f1_rowsFresh : Bool) (f1_gatesFresh : Bool) (f1_store_clauseCount : Int32) (n1_store_yes : Nat) (h1_store_yes : Nat → Int64) (n1_store_no : Nat) (h1_store_no : Nat → Int64) (f2_thrown : Int32) (f2_n : Int32) (f2_clauses : Int32) (n2_cYes : Nat) (h2_cYes : Nat → Int64) (n2_cNo : Nat) (h2_cNo : Nat → Int64) (n3 : Nat) (h3 : Nat → Int64) (xs : Nat → Int32) (x4 : Int32) : Option (Bool × Bool × Int32 × (Nat → Int64) × (Nat → Int64) × Int32 × Int32 × (Nat → Int64) × (Nat → Int64) × (Nat → Int64)) :=
  Option.bind (D_L_clause f1_variables f1_rowsFresh f1_gatesFresh f1_store_clauseCount n1_store_yes h1_store_yes n1_store_no h1_store_no n3 h3 ((jshl ((xs (x4 + (1 : Int32)).toNatClampNeg).toInt64) (32 : Int32)) ||| (((xs (x4 + (2 : Int32)).toNatClampNeg).toInt64) &&& (4294967295 : Int64))) ((jshl ((xs (x4 + (3 : Int32)).toNatClampNeg).toInt64) (32 : Int32)) ||| (((xs (x4 + (4 : Int32)).toNatClampNeg).toInt64) &&& (4294967295 : Int64)))) (fun u_1 =>
    Option.bind (D_X8_clause f2_thrown f2_n f2_clauses n2_cYes h2_cYes n2_cNo h2_cNo ((jshl ((xs (x4 + (1 : Int32)).toNatClampNeg).toInt64) (32 : Int32)) ||| (((xs (x4 + (2 : Int32)).toNatClampNeg).toInt64) &&& (4294967295 : Int64))) ((jshl ((xs (x4 + (3 : Int32)).toNatClampNeg).toInt64) (32 : Int32)) ||| (((xs (x4 + (4 : Int32)).toNatClampNeg).toInt64) &&& (4294967295 : Int64)))) (fun u_3 =>
      Option.bind (D_X8_thrown u_3.2.1) (fun u_5 =>
        cif (u_5 = u_1.1)
          (cif (u_1.1 = 0)
            (cif (vp_in (0 : Int32) n3)
              (cif ((u_1.2.2.2.2.2.2 (0 : Int32).toNatClampNeg) = u_3.1.toInt64)
                (some (u_1.2.1, u_1.2.2.1, u_1.2.2.2.1, u_1.2.2.2.2.1, u_1.2.2.2.2.2.1, u_3.2.1, u_3.2.2.1, u_3.2.2.2.1, u_3.2.2.2.2, u_1.2.2.2.2.2.2))
                (none))
              (none))
            (some (u_1.2.1, u_1.2.2.1, u_1.2.2.2.1, u_1.2.2.2.2.1, u_1.2.2.2.2.2.1, u_3.2.1, u_3.2.2.1, u_3.2.2.2.1, u_3.2.2.2.2, u_1.2.2.2.2.2.2)))
          (none))))
noncomputable def DC_2 (f1_tape_length : Int32) (n1_tape_bytes : Nat) (h1_tape_bytes : Nat → Int32) (f2_thrown : Int32) (f2_tapeSize : Int32) (n2_tape : Nat) (h2_tape : Nat → Int32) (n3 : Nat) (h3 : Nat → Int64) (xs : Nat → Int32) (x4 : Int32) : Option (Int32 × (Nat → Int32) × Int32 × Int32 × (Nat → Int32) × (Nat → Int64)) :=
  Option.bind (D_L_feed f1_tape_length n1_tape_bytes h1_tape_bytes n3 h3 ((jshl ((xs (x4 + (1 : Int32)).toNatClampNeg).toInt64) (32 : Int32)) ||| (((xs (x4 + (2 : Int32)).toNatClampNeg).toInt64) &&& (4294967295 : Int64))) (xs (x4 + (3 : Int32)).toNatClampNeg)) (fun u_1 =>
    Option.bind (D_X8_feed f2_thrown f2_tapeSize n2_tape h2_tape ((jshl ((xs (x4 + (1 : Int32)).toNatClampNeg).toInt64) (32 : Int32)) ||| (((xs (x4 + (2 : Int32)).toNatClampNeg).toInt64) &&& (4294967295 : Int64))) (xs (x4 + (3 : Int32)).toNatClampNeg)) (fun u_3 =>
      Option.bind (D_X8_thrown u_3.2.1) (fun u_5 =>
        cif (u_5 = u_1.1)
          (cif (u_1.1 = 0)
            (cif (vp_in (0 : Int32) n3)
              (cif ((u_1.2.2.2 (0 : Int32).toNatClampNeg) = u_3.1.toInt64)
                (some (u_1.2.1, u_1.2.2.1, u_3.2.1, u_3.2.2.1, u_3.2.2.2, u_1.2.2.2))
                (none))
              (none))
            (some (u_1.2.1, u_1.2.2.1, u_3.2.1, u_3.2.2.1, u_3.2.2.2, u_1.2.2.2)))
          (none))))
noncomputable def DC_3 (f1_n : Int32) (f1_rowsFresh : Bool) (f1_gatesFresh : Bool) (f1_latestFault : Int32) (f1_store_equationCount : Int32) (f1_store_clauseCount : Int32) (n1_store_equations : Nat) (h1_store_equations : Nat → Int64) (n1_store_yes : Nat) (h1_store_yes : Nat → Int64) (n1_store_no : Nat) (h1_store_no : Nat → Int64) (f1_tape_length : Int32) (f1_tape_fault : Int32) (f1_tape_place : Int32) (f1_tape_isEquation : Bool) (f1_tape_first : Int64) (f1_tape_second : Int64) (f1_tape_rightIsOne : Bool) (n1_tape_bytes : Nat) (h1_tape_bytes : Nat → Int32) (f2_thrown : Int32) (f2_n : Int32) (f2_equations : Int32) (f2_clauses : Int32) (f2_tapeSize : Int32) (f2_faultIs : Int32) (f2_faultAt : Int32) (f2_at : Int32) (f2_newEquations : Int32) (f2_newClauses : Int32) (f2_lineYes : Int64) (f2_lineNo : Int64) (n2_eSet : Nat) (h2_eSet : Nat → Int64) (n2_eRight : Nat) (h2_eRight : Nat → Int32) (n2_cYes : Nat) (h2_cYes : Nat → Int64) (n2_cNo : Nat) (h2_cNo : Nat → Int64) (n2_tape : Nat) (h2_tape : Nat → Int32) (n2_newSet : Nat) (h2_newSet : Nat → Int64) (n2_newRight : Nat) (h2_newRight : Nat → Int32) (n2_newYes : Nat) (h2_newYes : Nat → Int64) (n2_newNo : Nat) (h2_newNo : Nat → Int64) (xs : Nat → Int32) (x4 : Int32) : Option (Bool × Bool × Int32 × Int32 × Int32 × (Nat → Int64) × (Nat → Int64) × (Nat → Int64) × Int32 × Int32 × Int32 × Bool × Int64 × Int64 × Bool × Int32 × Int32 × Int32 × Int32 × Int32 × Int32 × Int32 × Int32 × Int32 × Int64 × Int64 × (Nat → Int64) × (Nat → Int32) × (Nat → Int64) × (Nat → Int64) × (Nat → Int64) × (Nat → Int32) × (Nat → Int64) × (Nat → Int64)) :=
  Option.bind (D_X7_read f1_n f1_rowsFresh f1_gatesFresh f1_latestFault f1_store_equationCount f1_store_clauseCount n1_store_equations h1_store_equations n1_store_yes h1_store_yes n1_store_no h1_store_no f1_tape_length f1_tape_fault f1_tape_place f1_tape_isEquation f1_tape_first f1_tape_second f1_tape_rightIsOne n1_tape_bytes h1_tape_bytes) (fun u_1 =>
    Option.bind (D_X8_read f2_thrown f2_n f2_equations f2_clauses f2_tapeSize f2_faultIs f2_faultAt f2_at f2_newEquations f2_newClauses f2_lineYes f2_lineNo n2_eSet h2_eSet n2_eRight h2_eRight n2_cYes h2_cYes n2_cNo h2_cNo n2_tape h2_tape n2_newSet h2_newSet n2_newRight h2_newRight n2_newYes h2_newYes n2_newNo h2_newNo) (fun u_3 =>
      cif (u_1.1 = u_3.1)
        (some (u_1.2.1, u_1.2.2.1, u_1.2.2.2.1, u_1.2.2.2.2.1, u_1.2.2.2.2.2.1, u_1.2.2.2.2.2.2.1, u_1.2.2.2.2.2.2.2.1, u_1.2.2.2.2.2.2.2.2.1, u_1.2.2.2.2.2.2.2.2.2.1, u_1.2.2.2.2.2.2.2.2.2.2.1, u_1.2.2.2.2.2.2.2.2.2.2.2.1, u_1.2.2.2.2.2.2.2.2.2.2.2.2.1, u_1.2.2.2.2.2.2.2.2.2.2.2.2.2.1, u_1.2.2.2.2.2.2.2.2.2.2.2.2.2.2.1, u_1.2.2.2.2.2.2.2.2.2.2.2.2.2.2.2, u_3.2.1, u_3.2.2.1, u_3.2.2.2.1, u_3.2.2.2.2.1, u_3.2.2.2.2.2.1, u_3.2.2.2.2.2.2.1, u_3.2.2.2.2.2.2.2.1, u_3.2.2.2.2.2.2.2.2.1, u_3.2.2.2.2.2.2.2.2.2.1, u_3.2.2.2.2.2.2.2.2.2.2.1, u_3.2.2.2.2.2.2.2.2.2.2.2.1, u_3.2.2.2.2.2.2.2.2.2.2.2.2.1, u_3.2.2.2.2.2.2.2.2.2.2.2.2.2.1, u_3.2.2.2.2.2.2.2.2.2.2.2.2.2.2.1, u_3.2.2.2.2.2.2.2.2.2.2.2.2.2.2.2.1, u_3.2.2.2.2.2.2.2.2.2.2.2.2.2.2.2.2.1, u_3.2.2.2.2.2.2.2.2.2.2.2.2.2.2.2.2.2.1, u_3.2.2.2.2.2.2.2.2.2.2.2.2.2.2.2.2.2.2.1, u_3.2.2.2.2.2.2.2.2.2.2.2.2.2.2.2.2.2.2.2))
        (none)))
noncomputable def DC_4 (f1_latestFault : Int32) (f2_thrown : Int32) (f2_faultIs : Int32) (xs : Nat → Int32) (x4 : Int32) : Option (Int32) :=
  Option.bind (D_X7_fault f1_latestFault) (fun u_1 =>
    Option.bind (D_X8_fault f2_thrown f2_faultIs) (fun u_3 =>
      cif (u_1 = u_3.1)
        (some u_3.2)
        (none)))
noncomputable def DC_5 (f1_store_equationCount : Int32) (f1_store_clauseCount : Int32) (f1_store_levelCount : Int32) (n1_store_equationsBefore : Nat) (h1_store_equationsBefore : Nat → Int32) (n1_store_clausesBefore : Nat) (h1_store_clausesBefore : Nat → Int32) (f2_thrown : Int32) (f2_equations : Int32) (f2_clauses : Int32) (f2_levels : Int32) (n2_levelEquations : Nat) (h2_levelEquations : Nat → Int32) (n2_levelClauses : Nat) (h2_levelClauses : Nat → Int32) (n3 : Nat) (h3 : Nat → Int64) (xs : Nat → Int32) (x4 : Int32) : Option (Int32 × (Nat → Int32) × (Nat → Int32) × Int32 × Int32 × (Nat → Int32) × (Nat → Int32) × (Nat → Int64)) :=
  Option.bind (D_L_push f1_store_equationCount f1_store_clauseCount f1_store_levelCount n1_store_equationsBefore h1_store_equationsBefore n1_store_clausesBefore h1_store_clausesBefore n3 h3) (fun u_1 =>
    Option.bind (D_X8_push f2_thrown f2_equations f2_clauses f2_levels n2_levelEquations h2_levelEquations n2_levelClauses h2_levelClauses) (fun u_3 =>
      Option.bind (D_X8_thrown u_3.2.1) (fun u_5 =>
        cif (u_5 = u_1.1)
          (cif (u_1.1 = 0)
            (cif (vp_in (0 : Int32) n3)
              (cif ((u_1.2.2.2.2 (0 : Int32).toNatClampNeg) = u_3.1.toInt64)
                (some (u_1.2.1, u_1.2.2.1, u_1.2.2.2.1, u_3.2.1, u_3.2.2.1, u_3.2.2.2.1, u_3.2.2.2.2, u_1.2.2.2.2))
                (none))
              (none))
            (some (u_1.2.1, u_1.2.2.1, u_1.2.2.2.1, u_3.2.1, u_3.2.2.1, u_3.2.2.2.1, u_3.2.2.2.2, u_1.2.2.2.2)))
          (none))))
noncomputable def DC_6 (f1_rowsFresh : Bool) (f1_gatesFresh : Bool) (f1_store_equationCount : Int32) (f1_store_clauseCount : Int32) (f1_store_levelCount : Int32) (n1_store_equationsBefore : Nat) (h1_store_equationsBefore : Nat → Int32) (n1_store_clausesBefore : Nat) (h1_store_clausesBefore : Nat → Int32) (f2_thrown : Int32) (f2_equations : Int32) (f2_clauses : Int32) (f2_levels : Int32) (n2_levelEquations : Nat) (h2_levelEquations : Nat → Int32) (n2_levelClauses : Nat) (h2_levelClauses : Nat → Int32) (n3 : Nat) (h3 : Nat → Int64) (xs : Nat → Int32) (x4 : Int32) : Option (Bool × Bool × Int32 × Int32 × Int32 × Int32 × Int32 × Int32 × Int32 × (Nat → Int64)) :=
  Option.bind (D_L_pop f1_rowsFresh f1_gatesFresh f1_store_equationCount f1_store_clauseCount f1_store_levelCount n1_store_equationsBefore h1_store_equationsBefore n1_store_clausesBefore h1_store_clausesBefore n3 h3 (xs (x4 + (1 : Int32)).toNatClampNeg)) (fun u_1 =>
    Option.bind (D_X8_pop f2_thrown f2_equations f2_clauses f2_levels n2_levelEquations h2_levelEquations n2_levelClauses h2_levelClauses (xs (x4 + (1 : Int32)).toNatClampNeg)) (fun u_3 =>
      Option.bind (D_X8_thrown u_3.2.1) (fun u_5 =>
        cif (u_5 = u_1.1)
          (cif (u_1.1 = 0)
            (cif (vp_in (0 : Int32) n3)
              (cif ((u_1.2.2.2.2.2.2 (0 : Int32).toNatClampNeg) = u_3.1.toInt64)
                (some (u_1.2.1, u_1.2.2.1, u_1.2.2.2.1, u_1.2.2.2.2.1, u_1.2.2.2.2.2.1, u_3.2.1, u_3.2.2.1, u_3.2.2.2.1, u_3.2.2.2.2, u_1.2.2.2.2.2.2))
                (none))
              (none))
            (some (u_1.2.1, u_1.2.2.1, u_1.2.2.2.1, u_1.2.2.2.2.1, u_1.2.2.2.2.2.1, u_3.2.1, u_3.2.2.1, u_3.2.2.2.1, u_3.2.2.2.2, u_1.2.2.2.2.2.2)))
          (none))))
noncomputable def DC_7 (f1_store_equationCount : Int32) (f1_store_clauseCount : Int32) (n1_store_equations : Nat) (h1_store_equations : Nat → Int64) (n1_store_yes : Nat) (h1_store_yes : Nat → Int64) (n1_store_no : Nat) (h1_store_no : Nat → Int64) (f2_thrown : Int32) (f2_equations : Int32) (f2_clauses : Int32) (n2_eSet : Nat) (h2_eSet : Nat → Int64) (n2_eRight : Nat) (h2_eRight : Nat → Int32) (n2_cYes : Nat) (h2_cYes : Nat → Int64) (n2_cNo : Nat) (h2_cNo : Nat → Int64) (n3 : Nat) (h3 : Nat → Int64) (xs : Nat → Int32) (x4 : Int32) : Option (Int32 × (Nat → Int64)) :=
  Option.bind (D_L_told f1_store_equationCount f1_store_clauseCount n1_store_equations h1_store_equations n1_store_yes h1_store_yes n1_store_no h1_store_no n3 h3 (xs (x4 + (1 : Int32)).toNatClampNeg) (xs (x4 + (2 : Int32)).toNatClampNeg)) (fun u_1 =>
    Option.bind (D_X8_told f2_thrown f2_equations f2_clauses n2_eSet h2_eSet n2_eRight h2_eRight n2_cYes h2_cYes n2_cNo h2_cNo (xs (x4 + (1 : Int32)).toNatClampNeg) (xs (x4 + (2 : Int32)).toNatClampNeg)) (fun u_3 =>
      Option.bind (D_X8_thrown u_3.2) (fun u_5 =>
        cif (u_5 = u_1.1)
          (cif (u_1.1 = 0)
            (cif (vp_in (0 : Int32) n3)
              (cif ((u_1.2 (0 : Int32).toNatClampNeg) = u_3.1)
                (some (u_3.2, u_1.2))
                (none))
              (none))
            (some (u_3.2, u_1.2)))
          (none))))
noncomputable def DC_8 (f1_rowsFresh : Bool) (f1_store_equationCount : Int32) (n1_store_equations : Nat) (h1_store_equations : Nat → Int64) (f1_base_n : Int32) (f1_base_impossible : Bool) (n1_base_byHead : Nat) (h1_base_byHead : Nat → Int64) (f2_thrown : Int32) (f2_equations : Int32) (f2_rowCount : Int32) (f2_isImpossible : Bool) (n2_eSet : Nat) (h2_eSet : Nat → Int64) (n2_eRight : Nat) (h2_eRight : Nat → Int32) (n2_rSet : Nat) (h2_rSet : Nat → Int64) (n2_rRight : Nat) (h2_rRight : Nat → Int32) (xs : Nat → Int32) (x4 : Int32) : Option (Bool × Bool × (Nat → Int64) × Int32 × Int32 × Bool × (Nat → Int64) × (Nat → Int32)) :=
  Option.bind (D_X7_rows f1_rowsFresh f1_store_equationCount n1_store_equations h1_store_equations f1_base_n f1_base_impossible n1_base_byHead h1_base_byHead) (fun u_1 =>
    Option.bind (D_X8_rows f2_thrown f2_equations f2_rowCount f2_isImpossible n2_eSet h2_eSet n2_eRight h2_eRight n2_rSet h2_rSet n2_rRight h2_rRight) (fun u_3 =>
      cif (u_1.1 = u_3.1)
        (some (u_1.2.1, u_1.2.2.1, u_1.2.2.2, u_3.2.1, u_3.2.2.1, u_3.2.2.2.1, u_3.2.2.2.2.1, u_3.2.2.2.2.2))
        (none)))
noncomputable def DC_9 (f1_rowsFresh : Bool) (f1_store_equationCount : Int32) (n1_store_equations : Nat) (h1_store_equations : Nat → Int64) (f1_base_n : Int32) (f1_base_impossible : Bool) (n1_base_byHead : Nat) (h1_base_byHead : Nat → Int64) (f2_thrown : Int32) (f2_equations : Int32) (f2_rowCount : Int32) (f2_isImpossible : Bool) (n2_eSet : Nat) (h2_eSet : Nat → Int64) (n2_eRight : Nat) (h2_eRight : Nat → Int32) (n2_rSet : Nat) (h2_rSet : Nat → Int64) (n2_rRight : Nat) (h2_rRight : Nat → Int32) (n3 : Nat) (h3 : Nat → Int64) (xs : Nat → Int32) (x4 : Int32) : Option (Bool × Bool × (Nat → Int64) × Int32 × Int32 × Bool × (Nat → Int64) × (Nat → Int32) × (Nat → Int64)) :=
  Option.bind (D_L_row f1_rowsFresh f1_store_equationCount n1_store_equations h1_store_equations f1_base_n f1_base_impossible n1_base_byHead h1_base_byHead n3 h3 (xs (x4 + (1 : Int32)).toNatClampNeg)) (fun u_1 =>
    Option.bind (D_X8_row f2_thrown f2_equations f2_rowCount f2_isImpossible n2_eSet h2_eSet n2_eRight h2_eRight n2_rSet h2_rSet n2_rRight h2_rRight (xs (x4 + (1 : Int32)).toNatClampNeg)) (fun u_3 =>
      Option.bind (D_X8_thrown u_3.2.1) (fun u_5 =>
        cif (u_5 = u_1.1)
          (cif (u_1.1 = 0)
            (cif (vp_in (0 : Int32) n3)
              (cif ((u_1.2.2.2.2 (0 : Int32).toNatClampNeg) = u_3.1)
                (some (u_1.2.1, u_1.2.2.1, u_1.2.2.2.1, u_3.2.1, u_3.2.2.1, u_3.2.2.2.1, u_3.2.2.2.2.1, u_3.2.2.2.2.2, u_1.2.2.2.2))
                (none))
              (none))
            (some (u_1.2.1, u_1.2.2.1, u_1.2.2.2.1, u_3.2.1, u_3.2.2.1, u_3.2.2.2.1, u_3.2.2.2.2.1, u_3.2.2.2.2.2, u_1.2.2.2.2)))
          (none))))
noncomputable def DC_10 (f1_rowsFresh : Bool) (f1_store_equationCount : Int32) (n1_store_equations : Nat) (h1_store_equations : Nat → Int64) (f1_base_n : Int32) (f1_base_impossible : Bool) (n1_base_byHead : Nat) (h1_base_byHead : Nat → Int64) (f1_blamed_n : Int32) (n1_blamed_byHead : Nat) (h1_blamed_byHead : Nat → Int64) (n1_blamed_madeOf : Nat) (h1_blamed_madeOf : Nat → Int64) (f2_thrown : Int32) (f2_equations : Int32) (f2_empties : Int32) (n2_eSet : Nat) (h2_eSet : Nat → Int64) (n2_eRight : Nat) (h2_eRight : Nat → Int32) (n2_sumSet : Nat) (h2_sumSet : Nat → Int64) (n2_sumOf : Nat) (h2_sumOf : Nat → Int64) (n2_sumRight : Nat) (h2_sumRight : Nat → Int32) (n2_empty : Nat) (h2_empty : Nat → Int64) (xs : Nat → Int32) (x4 : Int32) : Option (Bool × Bool × (Nat → Int64) × (Nat → Int64) × (Nat → Int64) × Int32 × Int32 × (Nat → Int64) × (Nat → Int64) × (Nat → Int32) × (Nat → Int64)) :=
  Option.bind (D_X7_blame f1_rowsFresh f1_store_equationCount n1_store_equations h1_store_equations f1_base_n f1_base_impossible n1_base_byHead h1_base_byHead f1_blamed_n n1_blamed_byHead h1_blamed_byHead n1_blamed_madeOf h1_blamed_madeOf) (fun u_1 =>
    Option.bind (D_X8_blame f2_thrown f2_equations f2_empties n2_eSet h2_eSet n2_eRight h2_eRight n2_sumSet h2_sumSet n2_sumOf h2_sumOf n2_sumRight h2_sumRight n2_empty h2_empty) (fun u_3 =>
      cif (u_1.1 = u_3.1)
        (some (u_1.2.1, u_1.2.2.1, u_1.2.2.2.1, u_1.2.2.2.2.1, u_1.2.2.2.2.2, u_3.2.1, u_3.2.2.1, u_3.2.2.2.1, u_3.2.2.2.2.1, u_3.2.2.2.2.2.1, u_3.2.2.2.2.2.2))
        (none)))
noncomputable def DC_11 (f1_n : Int32) (f1_rowsFresh : Bool) (f1_store_equationCount : Int32) (n1_store_equations : Nat) (h1_store_equations : Nat → Int64) (f1_base_n : Int32) (f1_base_impossible : Bool) (n1_base_byHead : Nat) (h1_base_byHead : Nat → Int64) (f2_thrown : Int32) (f2_n : Int32) (f2_equations : Int32) (f2_rowCount : Int32) (f2_isImpossible : Bool) (n2_eSet : Nat) (h2_eSet : Nat → Int64) (n2_eRight : Nat) (h2_eRight : Nat → Int32) (n2_rSet : Nat) (h2_rSet : Nat → Int64) (n2_rRight : Nat) (h2_rRight : Nat → Int32) (xs : Nat → Int32) (x4 : Int32) : Option (Bool × Bool × (Nat → Int64) × Int32 × Int32 × Bool × (Nat → Int64) × (Nat → Int32)) :=
  Option.bind (D_X7_solutions f1_n f1_rowsFresh f1_store_equationCount n1_store_equations h1_store_equations f1_base_n f1_base_impossible n1_base_byHead h1_base_byHead) (fun u_1 =>
    Option.bind (D_X8_solutions f2_thrown f2_n f2_equations f2_rowCount f2_isImpossible n2_eSet h2_eSet n2_eRight h2_eRight n2_rSet h2_rSet n2_rRight h2_rRight) (fun u_3 =>
      cif (u_1.1 = u_3.1)
        (some (u_1.2.1, u_1.2.2.1, u_1.2.2.2, u_3.2.1, u_3.2.2.1, u_3.2.2.2.1, u_3.2.2.2.2.1, u_3.2.2.2.2.2))
        (none)))
noncomputable def DC_12 (f1_n : Int32) (f1_rowsFresh : Bool) (f1_store_equationCount : Int32) (n1_store_equations : Nat) (h1_store_equations : Nat → Int64) (f1_base_n : Int32) (f1_base_impossible : Bool) (n1_base_byHead : Nat) (h1_base_byHead : Nat → Int64) (f1_taking_n : Int32) (f1_taking_taken : Int64) (f1_taking_ones : Int64) (f1_taking_rows_n : Int32) (f1_taking_rows_impossible : Bool) (n1_taking_rows_byHead : Nat) (h1_taking_rows_byHead : Nat → Int64) (f2_thrown : Int32) (f2_n : Int32) (f2_equations : Int32) (f2_rowCount : Int32) (f2_isImpossible : Bool) (n2_eSet : Nat) (h2_eSet : Nat → Int64) (n2_eRight : Nat) (h2_eRight : Nat → Int32) (n2_rSet : Nat) (h2_rSet : Nat → Int64) (n2_rRight : Nat) (h2_rRight : Nat → Int32) (xs : Nat → Int32) (x4 : Int32) : Option (Bool × Bool × (Nat → Int64) × Int64 × Int64 × Bool × (Nat → Int64) × Int32 × Int32 × Bool × (Nat → Int64) × (Nat → Int32)) :=
  Option.bind (D_X7_solution f1_n f1_rowsFresh f1_store_equationCount n1_store_equations h1_store_equations f1_base_n f1_base_impossible n1_base_byHead h1_base_byHead f1_taking_n f1_taking_taken f1_taking_ones f1_taking_rows_n f1_taking_rows_impossible n1_taking_rows_byHead h1_taking_rows_byHead ((jshl ((xs (x4 + (1 : Int32)).toNatClampNeg).toInt64) (32 : Int32)) ||| (((xs (x4 + (2 : Int32)).toNatClampNeg).toInt64) &&& (4294967295 : Int64)))) (fun u_1 =>
    Option.bind (D_X8_solution f2_thrown f2_n f2_equations f2_rowCount f2_isImpossible n2_eSet h2_eSet n2_eRight h2_eRight n2_rSet h2_rSet n2_rRight h2_rRight ((jshl ((xs (x4 + (1 : Int32)).toNatClampNeg).toInt64) (32 : Int32)) ||| (((xs (x4 + (2 : Int32)).toNatClampNeg).toInt64) &&& (4294967295 : Int64)))) (fun u_3 =>
      cif (u_1.1 = u_3.1)
        (some (u_1.2.1, u_1.2.2.1, u_1.2.2.2.1, u_1.2.2.2.2.1, u_1.2.2.2.2.2.1, u_1.2.2.2.2.2.2.1, u_1.2.2.2.2.2.2.2, u_3.2.1, u_3.2.2.1, u_3.2.2.2.1, u_3.2.2.2.2.1, u_3.2.2.2.2.2))
        (none)))
noncomputable def DC_13 (f1_variables : Int64) (f1_rowsFresh : Bool) (f1_store_equationCount : Int32) (n1_store_equations : Nat) (h1_store_equations : Nat → Int64) (f1_base_n : Int32) (f1_base_impossible : Bool) (n1_base_byHead : Nat) (h1_base_byHead : Nat → Int64) (f2_thrown : Int32) (f2_n : Int32) (f2_equations : Int32) (f2_rowCount : Int32) (f2_isImpossible : Bool) (n2_eSet : Nat) (h2_eSet : Nat → Int64) (n2_eRight : Nat) (h2_eRight : Nat → Int32) (n2_rSet : Nat) (h2_rSet : Nat → Int64) (n2_rRight : Nat) (h2_rRight : Nat → Int32) (n3 : Nat) (h3 : Nat → Int64) (xs : Nat → Int32) (x4 : Int32) : Option (Bool × Bool × (Nat → Int64) × Int32 × Int32 × Bool × (Nat → Int64) × (Nat → Int32) × (Nat → Int64)) :=
  Option.bind (D_L_sum f1_variables f1_rowsFresh f1_store_equationCount n1_store_equations h1_store_equations f1_base_n f1_base_impossible n1_base_byHead h1_base_byHead n3 h3 ((jshl ((xs (x4 + (1 : Int32)).toNatClampNeg).toInt64) (32 : Int32)) ||| (((xs (x4 + (2 : Int32)).toNatClampNeg).toInt64) &&& (4294967295 : Int64)))) (fun u_1 =>
    Option.bind (D_X8_sum f2_thrown f2_n f2_equations f2_rowCount f2_isImpossible n2_eSet h2_eSet n2_eRight h2_eRight n2_rSet h2_rSet n2_rRight h2_rRight ((jshl ((xs (x4 + (1 : Int32)).toNatClampNeg).toInt64) (32 : Int32)) ||| (((xs (x4 + (2 : Int32)).toNatClampNeg).toInt64) &&& (4294967295 : Int64)))) (fun u_3 =>
      Option.bind (D_X8_thrown u_3.2.1) (fun u_5 =>
        cif (u_5 = u_1.1)
          (cif (u_1.1 = 0)
            (cif (vp_in (0 : Int32) n3)
              (cif ((u_1.2.2.2.2 (0 : Int32).toNatClampNeg) = u_3.1.toInt64)
                (some (u_1.2.1, u_1.2.2.1, u_1.2.2.2.1, u_3.2.1, u_3.2.2.1, u_3.2.2.2.1, u_3.2.2.2.2.1, u_3.2.2.2.2.2, u_1.2.2.2.2))
                (none))
              (none))
            (some (u_1.2.1, u_1.2.2.1, u_1.2.2.2.1, u_3.2.1, u_3.2.2.1, u_3.2.2.2.1, u_3.2.2.2.2.1, u_3.2.2.2.2.2, u_1.2.2.2.2)))
          (none))))
noncomputable def DC_14 (f1_variables : Int64) (f1_rowsFresh : Bool) (f1_store_equationCount : Int32) (f1_store_clauseCount : Int32) (n1_store_equations : Nat) (h1_store_equations : Nat → Int64) (n1_store_yes : Nat) (h1_store_yes : Nat → Int64) (n1_store_no : Nat) (h1_store_no : Nat → Int64) (f1_base_n : Int32) (f1_base_impossible : Bool) (n1_base_byHead : Nat) (h1_base_byHead : Nat → Int64) (f1_taking_n : Int32) (f1_taking_taken : Int64) (f1_taking_ones : Int64) (f1_taking_rows_n : Int32) (f1_taking_rows_impossible : Bool) (n1_taking_rows_byHead : Nat) (h1_taking_rows_byHead : Nat → Int64) (f2_thrown : Int32) (f2_n : Int32) (f2_equations : Int32) (f2_clauses : Int32) (f2_rowCount : Int32) (f2_isImpossible : Bool) (f2_taken : Int64) (f2_ones : Int64) (n2_eSet : Nat) (h2_eSet : Nat → Int64) (n2_eRight : Nat) (h2_eRight : Nat → Int32) (n2_cYes : Nat) (h2_cYes : Nat → Int64) (n2_cNo : Nat) (h2_cNo : Nat → Int64) (n2_rSet : Nat) (h2_rSet : Nat → Int64) (n2_rRight : Nat) (h2_rRight : Nat → Int32) (n3 : Nat) (h3 : Nat → Int64) (xs : Nat → Int32) (x4 : Int32) : Option (Bool × Bool × (Nat → Int64) × Int64 × Int64 × Bool × (Nat → Int64) × Int32 × Int32 × Bool × Int64 × Int64 × (Nat → Int64) × (Nat → Int32) × (Nat → Int64)) :=
  cif ((xs (x4 + (5 : Int32)).toNatClampNeg) = 0)
    (Option.bind (D_L_follow f1_variables f1_rowsFresh f1_store_equationCount f1_store_clauseCount n1_store_equations h1_store_equations n1_store_yes h1_store_yes n1_store_no h1_store_no f1_base_n f1_base_impossible n1_base_byHead h1_base_byHead f1_taking_n f1_taking_taken f1_taking_ones f1_taking_rows_n f1_taking_rows_impossible n1_taking_rows_byHead h1_taking_rows_byHead n3 h3 ((jshl ((xs (x4 + (1 : Int32)).toNatClampNeg).toInt64) (32 : Int32)) ||| (((xs (x4 + (2 : Int32)).toNatClampNeg).toInt64) &&& (4294967295 : Int64))) ((jshl ((xs (x4 + (3 : Int32)).toNatClampNeg).toInt64) (32 : Int32)) ||| (((xs (x4 + (4 : Int32)).toNatClampNeg).toInt64) &&& (4294967295 : Int64))) false) (fun u_3 =>
      Option.bind (D_X8_follow f2_thrown f2_n f2_equations f2_clauses f2_rowCount f2_isImpossible f2_taken f2_ones n2_eSet h2_eSet n2_eRight h2_eRight n2_cYes h2_cYes n2_cNo h2_cNo n2_rSet h2_rSet n2_rRight h2_rRight ((jshl ((xs (x4 + (1 : Int32)).toNatClampNeg).toInt64) (32 : Int32)) ||| (((xs (x4 + (2 : Int32)).toNatClampNeg).toInt64) &&& (4294967295 : Int64))) ((jshl ((xs (x4 + (3 : Int32)).toNatClampNeg).toInt64) (32 : Int32)) ||| (((xs (x4 + (4 : Int32)).toNatClampNeg).toInt64) &&& (4294967295 : Int64))) false) (fun u_6 =>
        Option.bind (D_X8_thrown u_6.2.1) (fun u_8 =>
          cif (u_8 = u_3.1)
            (cif (u_3.1 = 0)
              (cif (vp_in (0 : Int32) n3)
                (cif ((u_3.2.2.2.2.2.2.2.2 (0 : Int32).toNatClampNeg) = u_6.1)
                  (some (u_3.2.1, u_3.2.2.1, u_3.2.2.2.1, u_3.2.2.2.2.1, u_3.2.2.2.2.2.1, u_3.2.2.2.2.2.2.1, u_3.2.2.2.2.2.2.2.1, u_6.2.1, u_6.2.2.1, u_6.2.2.2.1, u_6.2.2.2.2.1, u_6.2.2.2.2.2.1, u_6.2.2.2.2.2.2.1, u_6.2.2.2.2.2.2.2, u_3.2.2.2.2.2.2.2.2))
                  (none))
                (none))
              (some (u_3.2.1, u_3.2.2.1, u_3.2.2.2.1, u_3.2.2.2.2.1, u_3.2.2.2.2.2.1, u_3.2.2.2.2.2.2.1, u_3.2.2.2.2.2.2.2.1, u_6.2.1, u_6.2.2.1, u_6.2.2.2.1, u_6.2.2.2.2.1, u_6.2.2.2.2.2.1, u_6.2.2.2.2.2.2.1, u_6.2.2.2.2.2.2.2, u_3.2.2.2.2.2.2.2.2)))
            (none)))))
    (Option.bind (D_L_follow f1_variables f1_rowsFresh f1_store_equationCount f1_store_clauseCount n1_store_equations h1_store_equations n1_store_yes h1_store_yes n1_store_no h1_store_no f1_base_n f1_base_impossible n1_base_byHead h1_base_byHead f1_taking_n f1_taking_taken f1_taking_ones f1_taking_rows_n f1_taking_rows_impossible n1_taking_rows_byHead h1_taking_rows_byHead n3 h3 ((jshl ((xs (x4 + (1 : Int32)).toNatClampNeg).toInt64) (32 : Int32)) ||| (((xs (x4 + (2 : Int32)).toNatClampNeg).toInt64) &&& (4294967295 : Int64))) ((jshl ((xs (x4 + (3 : Int32)).toNatClampNeg).toInt64) (32 : Int32)) ||| (((xs (x4 + (4 : Int32)).toNatClampNeg).toInt64) &&& (4294967295 : Int64))) true) (fun u_17 =>
      Option.bind (D_X8_follow f2_thrown f2_n f2_equations f2_clauses f2_rowCount f2_isImpossible f2_taken f2_ones n2_eSet h2_eSet n2_eRight h2_eRight n2_cYes h2_cYes n2_cNo h2_cNo n2_rSet h2_rSet n2_rRight h2_rRight ((jshl ((xs (x4 + (1 : Int32)).toNatClampNeg).toInt64) (32 : Int32)) ||| (((xs (x4 + (2 : Int32)).toNatClampNeg).toInt64) &&& (4294967295 : Int64))) ((jshl ((xs (x4 + (3 : Int32)).toNatClampNeg).toInt64) (32 : Int32)) ||| (((xs (x4 + (4 : Int32)).toNatClampNeg).toInt64) &&& (4294967295 : Int64))) true) (fun u_20 =>
        Option.bind (D_X8_thrown u_20.2.1) (fun u_22 =>
          cif (u_22 = u_17.1)
            (cif (u_17.1 = 0)
              (cif (vp_in (0 : Int32) n3)
                (cif ((u_17.2.2.2.2.2.2.2.2 (0 : Int32).toNatClampNeg) = u_20.1)
                  (some (u_17.2.1, u_17.2.2.1, u_17.2.2.2.1, u_17.2.2.2.2.1, u_17.2.2.2.2.2.1, u_17.2.2.2.2.2.2.1, u_17.2.2.2.2.2.2.2.1, u_20.2.1, u_20.2.2.1, u_20.2.2.2.1, u_20.2.2.2.2.1, u_20.2.2.2.2.2.1, u_20.2.2.2.2.2.2.1, u_20.2.2.2.2.2.2.2, u_17.2.2.2.2.2.2.2.2))
                  (none))
                (none))
              (some (u_17.2.1, u_17.2.2.1, u_17.2.2.2.1, u_17.2.2.2.2.1, u_17.2.2.2.2.2.1, u_17.2.2.2.2.2.2.1, u_17.2.2.2.2.2.2.2.1, u_20.2.1, u_20.2.2.1, u_20.2.2.2.1, u_20.2.2.2.2.1, u_20.2.2.2.2.2.1, u_20.2.2.2.2.2.2.1, u_20.2.2.2.2.2.2.2, u_17.2.2.2.2.2.2.2.2)))
            (none)))))
noncomputable def DC_15 (f1_rowsFresh : Bool) (f1_latestNodes : Int32) (f1_latestModel : Int64) (f1_store_equationCount : Int32) (f1_store_clauseCount : Int32) (n1_store_equations : Nat) (h1_store_equations : Nat → Int64) (n1_store_yes : Nat) (h1_store_yes : Nat → Int64) (n1_store_no : Nat) (h1_store_no : Nat → Int64) (f1_base_n : Int32) (f1_base_impossible : Bool) (n1_base_byHead : Nat) (h1_base_byHead : Nat → Int64) (f1_search_n : Int32) (f1_search_pileSize : Int32) (f1_search_nodeCount : Int32) (f1_search_modelCount : Int32) (f1_search_lastModel : Int64) (f1_search_cut : Bool) (f1_search_start_n : Int32) (f1_search_start_taken : Int64) (f1_search_start_ones : Int64) (f1_search_start_rows_n : Int32) (f1_search_start_rows_impossible : Bool) (n1_search_start_rows_byHead : Nat) (h1_search_start_rows_byHead : Nat → Int64) (n1_search_pileRows : Nat) (h1_search_pileRows : Nat → Int64) (n1_search_pileTaken : Nat) (h1_search_pileTaken : Nat → Int64) (n1_search_pileOnes : Nat) (h1_search_pileOnes : Nat → Int64) (f2_thrown : Int32) (f2_n : Int32) (f2_equations : Int32) (f2_clauses : Int32) (f2_rowCount : Int32) (f2_isImpossible : Bool) (f2_taken : Int64) (f2_ones : Int64) (f2_nodeCount : Int32) (f2_lastModel : Int64) (f2_modelCount : Int64) (f2_modelIs : Int64) (n2_eSet : Nat) (h2_eSet : Nat → Int64) (n2_eRight : Nat) (h2_eRight : Nat → Int32) (n2_cYes : Nat) (h2_cYes : Nat → Int64) (n2_cNo : Nat) (h2_cNo : Nat → Int64) (n2_rSet : Nat) (h2_rSet : Nat → Int64) (n2_rRight : Nat) (h2_rRight : Nat → Int32) (n2_waitTaken : Nat) (h2_waitTaken : Nat → Int64) (n2_waitOnes : Nat) (h2_waitOnes : Nat → Int64) (n3 : Nat) (h3 : Nat → Int64) (xs : Nat → Int32) (x4 : Int32) : Option (Bool × Int32 × Int64 × Bool × (Nat → Int64) × Int32 × Int32 × Int32 × Int64 × Bool × Int64 × Int64 × Bool × (Nat → Int64) × (Nat → Int64) × (Nat → Int64) × (Nat → Int64) × Int32 × Int32 × Bool × Int64 × Int64 × Int32 × Int64 × Int64 × Int64 × (Nat → Int64) × (Nat → Int32) × (Nat → Int64) × (Nat → Int64) × (Nat → Int64)) :=
  Option.bind (D_L_solve f1_rowsFresh f1_latestNodes f1_latestModel f1_store_equationCount f1_store_clauseCount n1_store_equations h1_store_equations n1_store_yes h1_store_yes n1_store_no h1_store_no f1_base_n f1_base_impossible n1_base_byHead h1_base_byHead f1_search_n f1_search_pileSize f1_search_nodeCount f1_search_modelCount f1_search_lastModel f1_search_cut f1_search_start_n f1_search_start_taken f1_search_start_ones f1_search_start_rows_n f1_search_start_rows_impossible n1_search_start_rows_byHead h1_search_start_rows_byHead n1_search_pileRows h1_search_pileRows n1_search_pileTaken h1_search_pileTaken n1_search_pileOnes h1_search_pileOnes n3 h3 (xs (x4 + (1 : Int32)).toNatClampNeg)) (fun u_1 =>
    Option.bind (D_X8_solve f2_thrown f2_n f2_equations f2_clauses f2_rowCount f2_isImpossible f2_taken f2_ones f2_nodeCount f2_lastModel f2_modelCount f2_modelIs n2_eSet h2_eSet n2_eRight h2_eRight n2_cYes h2_cYes n2_cNo h2_cNo n2_rSet h2_rSet n2_rRight h2_rRight n2_waitTaken h2_waitTaken n2_waitOnes h2_waitOnes (xs (x4 + (1 : Int32)).toNatClampNeg)) (fun u_3 =>
      Option.bind (D_X8_thrown u_3.2.1) (fun u_5 =>
        cif (u_5 = u_1.1)
          (cif (u_1.1 = 0)
            (cif (vp_in (0 : Int32) n3)
              (cif ((u_1.2.2.2.2.2.2.2.2.2.2.2.2.2.2.2.2.2.2 (0 : Int32).toNatClampNeg) = u_3.1.toInt64)
                (some (u_1.2.1, u_1.2.2.1, u_1.2.2.2.1, u_1.2.2.2.2.1, u_1.2.2.2.2.2.1, u_1.2.2.2.2.2.2.1, u_1.2.2.2.2.2.2.2.1, u_1.2.2.2.2.2.2.2.2.1, u_1.2.2.2.2.2.2.2.2.2.1, u_1.2.2.2.2.2.2.2.2.2.2.1, u_1.2.2.2.2.2.2.2.2.2.2.2.1, u_1.2.2.2.2.2.2.2.2.2.2.2.2.1, u_1.2.2.2.2.2.2.2.2.2.2.2.2.2.1, u_1.2.2.2.2.2.2.2.2.2.2.2.2.2.2.1, u_1.2.2.2.2.2.2.2.2.2.2.2.2.2.2.2.1, u_1.2.2.2.2.2.2.2.2.2.2.2.2.2.2.2.2.1, u_1.2.2.2.2.2.2.2.2.2.2.2.2.2.2.2.2.2.1, u_3.2.1, u_3.2.2.1, u_3.2.2.2.1, u_3.2.2.2.2.1, u_3.2.2.2.2.2.1, u_3.2.2.2.2.2.2.1, u_3.2.2.2.2.2.2.2.1, u_3.2.2.2.2.2.2.2.2.1, u_3.2.2.2.2.2.2.2.2.2.1, u_3.2.2.2.2.2.2.2.2.2.2.1, u_3.2.2.2.2.2.2.2.2.2.2.2.1, u_3.2.2.2.2.2.2.2.2.2.2.2.2.1, u_3.2.2.2.2.2.2.2.2.2.2.2.2.2, u_1.2.2.2.2.2.2.2.2.2.2.2.2.2.2.2.2.2.2))
                (none))
              (none))
            (some (u_1.2.1, u_1.2.2.1, u_1.2.2.2.1, u_1.2.2.2.2.1, u_1.2.2.2.2.2.1, u_1.2.2.2.2.2.2.1, u_1.2.2.2.2.2.2.2.1, u_1.2.2.2.2.2.2.2.2.1, u_1.2.2.2.2.2.2.2.2.2.1, u_1.2.2.2.2.2.2.2.2.2.2.1, u_1.2.2.2.2.2.2.2.2.2.2.2.1, u_1.2.2.2.2.2.2.2.2.2.2.2.2.1, u_1.2.2.2.2.2.2.2.2.2.2.2.2.2.1, u_1.2.2.2.2.2.2.2.2.2.2.2.2.2.2.1, u_1.2.2.2.2.2.2.2.2.2.2.2.2.2.2.2.1, u_1.2.2.2.2.2.2.2.2.2.2.2.2.2.2.2.2.1, u_1.2.2.2.2.2.2.2.2.2.2.2.2.2.2.2.2.2.1, u_3.2.1, u_3.2.2.1, u_3.2.2.2.1, u_3.2.2.2.2.1, u_3.2.2.2.2.2.1, u_3.2.2.2.2.2.2.1, u_3.2.2.2.2.2.2.2.1, u_3.2.2.2.2.2.2.2.2.1, u_3.2.2.2.2.2.2.2.2.2.1, u_3.2.2.2.2.2.2.2.2.2.2.1, u_3.2.2.2.2.2.2.2.2.2.2.2.1, u_3.2.2.2.2.2.2.2.2.2.2.2.2.1, u_3.2.2.2.2.2.2.2.2.2.2.2.2.2, u_1.2.2.2.2.2.2.2.2.2.2.2.2.2.2.2.2.2.2)))
          (none))))
noncomputable def DC_16 (f1_latestModel : Int64) (f2_thrown : Int32) (f2_lastModel : Int64) (xs : Nat → Int32) (x4 : Int32) : Option (Int32) :=
  Option.bind (D_X7_model f1_latestModel) (fun u_1 =>
    Option.bind (D_X8_model f2_thrown f2_lastModel) (fun u_3 =>
      cif (u_1 = u_3.1)
        (some u_3.2)
        (none)))
noncomputable def DC_17 (f1_rowsFresh : Bool) (f1_latestNodes : Int32) (f1_store_equationCount : Int32) (f1_store_clauseCount : Int32) (n1_store_equations : Nat) (h1_store_equations : Nat → Int64) (n1_store_yes : Nat) (h1_store_yes : Nat → Int64) (n1_store_no : Nat) (h1_store_no : Nat → Int64) (f1_base_n : Int32) (f1_base_impossible : Bool) (n1_base_byHead : Nat) (h1_base_byHead : Nat → Int64) (f1_search_n : Int32) (f1_search_pileSize : Int32) (f1_search_nodeCount : Int32) (f1_search_modelCount : Int32) (f1_search_lastModel : Int64) (f1_search_cut : Bool) (f1_search_start_n : Int32) (f1_search_start_taken : Int64) (f1_search_start_ones : Int64) (f1_search_start_rows_n : Int32) (f1_search_start_rows_impossible : Bool) (n1_search_start_rows_byHead : Nat) (h1_search_start_rows_byHead : Nat → Int64) (n1_search_pileRows : Nat) (h1_search_pileRows : Nat → Int64) (n1_search_pileTaken : Nat) (h1_search_pileTaken : Nat → Int64) (n1_search_pileOnes : Nat) (h1_search_pileOnes : Nat → Int64) (f2_thrown : Int32) (f2_n : Int32) (f2_equations : Int32) (f2_clauses : Int32) (f2_rowCount : Int32) (f2_isImpossible : Bool) (f2_taken : Int64) (f2_ones : Int64) (f2_nodeCount : Int32) (f2_modelCount : Int64) (f2_modelIs : Int64) (n2_eSet : Nat) (h2_eSet : Nat → Int64) (n2_eRight : Nat) (h2_eRight : Nat → Int32) (n2_cYes : Nat) (h2_cYes : Nat → Int64) (n2_cNo : Nat) (h2_cNo : Nat → Int64) (n2_rSet : Nat) (h2_rSet : Nat → Int64) (n2_rRight : Nat) (h2_rRight : Nat → Int32) (n2_waitTaken : Nat) (h2_waitTaken : Nat → Int64) (n2_waitOnes : Nat) (h2_waitOnes : Nat → Int64) (n3 : Nat) (h3 : Nat → Int64) (xs : Nat → Int32) (x4 : Int32) : Option (Bool × Int32 × Bool × (Nat → Int64) × Int32 × Int32 × Int32 × Int64 × Bool × Int64 × Int64 × Bool × (Nat → Int64) × (Nat → Int64) × (Nat → Int64) × (Nat → Int64) × Int32 × Int32 × Bool × Int64 × Int64 × Int32 × Int64 × Int64 × (Nat → Int64) × (Nat → Int32) × (Nat → Int64) × (Nat → Int64) × (Nat → Int64)) :=
  Option.bind (D_L_models f1_rowsFresh f1_latestNodes f1_store_equationCount f1_store_clauseCount n1_store_equations h1_store_equations n1_store_yes h1_store_yes n1_store_no h1_store_no f1_base_n f1_base_impossible n1_base_byHead h1_base_byHead f1_search_n f1_search_pileSize f1_search_nodeCount f1_search_modelCount f1_search_lastModel f1_search_cut f1_search_start_n f1_search_start_taken f1_search_start_ones f1_search_start_rows_n f1_search_start_rows_impossible n1_search_start_rows_byHead h1_search_start_rows_byHead n1_search_pileRows h1_search_pileRows n1_search_pileTaken h1_search_pileTaken n1_search_pileOnes h1_search_pileOnes n3 h3 (xs (x4 + (1 : Int32)).toNatClampNeg)) (fun u_1 =>
    Option.bind (D_X8_models f2_thrown f2_n f2_equations f2_clauses f2_rowCount f2_isImpossible f2_taken f2_ones f2_nodeCount f2_modelCount f2_modelIs n2_eSet h2_eSet n2_eRight h2_eRight n2_cYes h2_cYes n2_cNo h2_cNo n2_rSet h2_rSet n2_rRight h2_rRight n2_waitTaken h2_waitTaken n2_waitOnes h2_waitOnes (xs (x4 + (1 : Int32)).toNatClampNeg)) (fun u_3 =>
      Option.bind (D_X8_thrown u_3.2.1) (fun u_5 =>
        cif (u_5 = u_1.1)
          (cif (u_1.1 = 0)
            (cif (vp_in (0 : Int32) n3)
              (cif ((u_1.2.2.2.2.2.2.2.2.2.2.2.2.2.2.2.2.2 (0 : Int32).toNatClampNeg) = u_3.1)
                (some (u_1.2.1, u_1.2.2.1, u_1.2.2.2.1, u_1.2.2.2.2.1, u_1.2.2.2.2.2.1, u_1.2.2.2.2.2.2.1, u_1.2.2.2.2.2.2.2.1, u_1.2.2.2.2.2.2.2.2.1, u_1.2.2.2.2.2.2.2.2.2.1, u_1.2.2.2.2.2.2.2.2.2.2.1, u_1.2.2.2.2.2.2.2.2.2.2.2.1, u_1.2.2.2.2.2.2.2.2.2.2.2.2.1, u_1.2.2.2.2.2.2.2.2.2.2.2.2.2.1, u_1.2.2.2.2.2.2.2.2.2.2.2.2.2.2.1, u_1.2.2.2.2.2.2.2.2.2.2.2.2.2.2.2.1, u_1.2.2.2.2.2.2.2.2.2.2.2.2.2.2.2.2.1, u_3.2.1, u_3.2.2.1, u_3.2.2.2.1, u_3.2.2.2.2.1, u_3.2.2.2.2.2.1, u_3.2.2.2.2.2.2.1, u_3.2.2.2.2.2.2.2.1, u_3.2.2.2.2.2.2.2.2.1, u_3.2.2.2.2.2.2.2.2.2.1, u_3.2.2.2.2.2.2.2.2.2.2.1, u_3.2.2.2.2.2.2.2.2.2.2.2.1, u_3.2.2.2.2.2.2.2.2.2.2.2.2, u_1.2.2.2.2.2.2.2.2.2.2.2.2.2.2.2.2.2))
                (none))
              (none))
            (some (u_1.2.1, u_1.2.2.1, u_1.2.2.2.1, u_1.2.2.2.2.1, u_1.2.2.2.2.2.1, u_1.2.2.2.2.2.2.1, u_1.2.2.2.2.2.2.2.1, u_1.2.2.2.2.2.2.2.2.1, u_1.2.2.2.2.2.2.2.2.2.1, u_1.2.2.2.2.2.2.2.2.2.2.1, u_1.2.2.2.2.2.2.2.2.2.2.2.1, u_1.2.2.2.2.2.2.2.2.2.2.2.2.1, u_1.2.2.2.2.2.2.2.2.2.2.2.2.2.1, u_1.2.2.2.2.2.2.2.2.2.2.2.2.2.2.1, u_1.2.2.2.2.2.2.2.2.2.2.2.2.2.2.2.1, u_1.2.2.2.2.2.2.2.2.2.2.2.2.2.2.2.2.1, u_3.2.1, u_3.2.2.1, u_3.2.2.2.1, u_3.2.2.2.2.1, u_3.2.2.2.2.2.1, u_3.2.2.2.2.2.2.1, u_3.2.2.2.2.2.2.2.1, u_3.2.2.2.2.2.2.2.2.1, u_3.2.2.2.2.2.2.2.2.2.1, u_3.2.2.2.2.2.2.2.2.2.2.1, u_3.2.2.2.2.2.2.2.2.2.2.2.1, u_3.2.2.2.2.2.2.2.2.2.2.2.2, u_1.2.2.2.2.2.2.2.2.2.2.2.2.2.2.2.2.2)))
          (none))))
noncomputable def DC_18 (f1_latestNodes : Int32) (f2_thrown : Int32) (f2_nodeCount : Int32) (xs : Nat → Int32) (x4 : Int32) : Option (Int32) :=
  Option.bind (D_X7_nodes f1_latestNodes) (fun u_1 =>
    Option.bind (D_X8_nodes f2_thrown f2_nodeCount) (fun u_3 =>
      cif (u_1 = u_3.1)
        (some u_3.2)
        (none)))
noncomputable def DC_19 (f1_n : Int32) (f1_rowsFresh : Bool) (f1_latestNodes : Int32) (f1_store_equationCount : Int32) (f1_store_clauseCount : Int32) (n1_store_equations : Nat) (h1_store_equations : Nat → Int64) (n1_store_yes : Nat) (h1_store_yes : Nat → Int64) (n1_store_no : Nat) (h1_store_no : Nat → Int64) (f1_base_n : Int32) (f1_base_impossible : Bool) (n1_base_byHead : Nat) (h1_base_byHead : Nat → Int64) (f1_search_n : Int32) (f1_search_pileSize : Int32) (f1_search_nodeCount : Int32) (f1_search_modelCount : Int32) (f1_search_lastModel : Int64) (f1_search_cut : Bool) (f1_search_start_n : Int32) (f1_search_start_taken : Int64) (f1_search_start_ones : Int64) (f1_search_start_rows_n : Int32) (f1_search_start_rows_impossible : Bool) (n1_search_start_rows_byHead : Nat) (h1_search_start_rows_byHead : Nat → Int64) (n1_search_pileRows : Nat) (h1_search_pileRows : Nat → Int64) (n1_search_pileTaken : Nat) (h1_search_pileTaken : Nat → Int64) (n1_search_pileOnes : Nat) (h1_search_pileOnes : Nat → Int64) (f2_thrown : Int32) (f2_n : Int32) (f2_equations : Int32) (f2_clauses : Int32) (f2_rowCount : Int32) (f2_isImpossible : Bool) (f2_taken : Int64) (f2_ones : Int64) (f2_nodeCount : Int32) (f2_modelCount : Int64) (f2_modelIs : Int64) (n2_eSet : Nat) (h2_eSet : Nat → Int64) (n2_eRight : Nat) (h2_eRight : Nat → Int32) (n2_cYes : Nat) (h2_cYes : Nat → Int64) (n2_cNo : Nat) (h2_cNo : Nat → Int64) (n2_rSet : Nat) (h2_rSet : Nat → Int64) (n2_rRight : Nat) (h2_rRight : Nat → Int32) (n2_waitTaken : Nat) (h2_waitTaken : Nat → Int64) (n2_waitOnes : Nat) (h2_waitOnes : Nat → Int64) (n3 : Nat) (h3 : Nat → Int64) (xs : Nat → Int32) (x4 : Int32) : Option (Bool × Int32 × Bool × (Nat → Int64) × Int32 × Int32 × Int32 × Int64 × Bool × Int64 × Int64 × Bool × (Nat → Int64) × (Nat → Int64) × (Nat → Int64) × (Nat → Int64) × Int32 × Int32 × Bool × Int64 × Int64 × Int32 × Int64 × Int64 × (Nat → Int64) × (Nat → Int32) × (Nat → Int64) × (Nat → Int64) × (Nat → Int64)) :=
  Option.bind (D_L_must f1_n f1_rowsFresh f1_latestNodes f1_store_equationCount f1_store_clauseCount n1_store_equations h1_store_equations n1_store_yes h1_store_yes n1_store_no h1_store_no f1_base_n f1_base_impossible n1_base_byHead h1_base_byHead f1_search_n f1_search_pileSize f1_search_nodeCount f1_search_modelCount f1_search_lastModel f1_search_cut f1_search_start_n f1_search_start_taken f1_search_start_ones f1_search_start_rows_n f1_search_start_rows_impossible n1_search_start_rows_byHead h1_search_start_rows_byHead n1_search_pileRows h1_search_pileRows n1_search_pileTaken h1_search_pileTaken n1_search_pileOnes h1_search_pileOnes n3 h3 (xs (x4 + (1 : Int32)).toNatClampNeg) (xs (x4 + (2 : Int32)).toNatClampNeg)) (fun u_1 =>
    Option.bind (D_X8_must f2_thrown f2_n f2_equations f2_clauses f2_rowCount f2_isImpossible f2_taken f2_ones f2_nodeCount f2_modelCount f2_modelIs n2_eSet h2_eSet n2_eRight h2_eRight n2_cYes h2_cYes n2_cNo h2_cNo n2_rSet h2_rSet n2_rRight h2_rRight n2_waitTaken h2_waitTaken n2_waitOnes h2_waitOnes (xs (x4 + (1 : Int32)).toNatClampNeg) (xs (x4 + (2 : Int32)).toNatClampNeg)) (fun u_3 =>
      Option.bind (D_X8_thrown u_3.2.1) (fun u_5 =>
        cif (u_5 = u_1.1)
          (cif (u_1.1 = 0)
            (cif (vp_in (0 : Int32) n3)
              (cif ((u_1.2.2.2.2.2.2.2.2.2.2.2.2.2.2.2.2.2 (0 : Int32).toNatClampNeg) = u_3.1.toInt64)
                (some (u_1.2.1, u_1.2.2.1, u_1.2.2.2.1, u_1.2.2.2.2.1, u_1.2.2.2.2.2.1, u_1.2.2.2.2.2.2.1, u_1.2.2.2.2.2.2.2.1, u_1.2.2.2.2.2.2.2.2.1, u_1.2.2.2.2.2.2.2.2.2.1, u_1.2.2.2.2.2.2.2.2.2.2.1, u_1.2.2.2.2.2.2.2.2.2.2.2.1, u_1.2.2.2.2.2.2.2.2.2.2.2.2.1, u_1.2.2.2.2.2.2.2.2.2.2.2.2.2.1, u_1.2.2.2.2.2.2.2.2.2.2.2.2.2.2.1, u_1.2.2.2.2.2.2.2.2.2.2.2.2.2.2.2.1, u_1.2.2.2.2.2.2.2.2.2.2.2.2.2.2.2.2.1, u_3.2.1, u_3.2.2.1, u_3.2.2.2.1, u_3.2.2.2.2.1, u_3.2.2.2.2.2.1, u_3.2.2.2.2.2.2.1, u_3.2.2.2.2.2.2.2.1, u_3.2.2.2.2.2.2.2.2.1, u_3.2.2.2.2.2.2.2.2.2.1, u_3.2.2.2.2.2.2.2.2.2.2.1, u_3.2.2.2.2.2.2.2.2.2.2.2.1, u_3.2.2.2.2.2.2.2.2.2.2.2.2, u_1.2.2.2.2.2.2.2.2.2.2.2.2.2.2.2.2.2))
                (none))
              (none))
            (some (u_1.2.1, u_1.2.2.1, u_1.2.2.2.1, u_1.2.2.2.2.1, u_1.2.2.2.2.2.1, u_1.2.2.2.2.2.2.1, u_1.2.2.2.2.2.2.2.1, u_1.2.2.2.2.2.2.2.2.1, u_1.2.2.2.2.2.2.2.2.2.1, u_1.2.2.2.2.2.2.2.2.2.2.1, u_1.2.2.2.2.2.2.2.2.2.2.2.1, u_1.2.2.2.2.2.2.2.2.2.2.2.2.1, u_1.2.2.2.2.2.2.2.2.2.2.2.2.2.1, u_1.2.2.2.2.2.2.2.2.2.2.2.2.2.2.1, u_1.2.2.2.2.2.2.2.2.2.2.2.2.2.2.2.1, u_1.2.2.2.2.2.2.2.2.2.2.2.2.2.2.2.2.1, u_3.2.1, u_3.2.2.1, u_3.2.2.2.1, u_3.2.2.2.2.1, u_3.2.2.2.2.2.1, u_3.2.2.2.2.2.2.1, u_3.2.2.2.2.2.2.2.1, u_3.2.2.2.2.2.2.2.2.1, u_3.2.2.2.2.2.2.2.2.2.1, u_3.2.2.2.2.2.2.2.2.2.2.1, u_3.2.2.2.2.2.2.2.2.2.2.2.1, u_3.2.2.2.2.2.2.2.2.2.2.2.2, u_1.2.2.2.2.2.2.2.2.2.2.2.2.2.2.2.2.2)))
          (none))))
noncomputable def DC_20 (f1_gatesFresh : Bool) (f1_store_clauseCount : Int32) (n1_store_yes : Nat) (h1_store_yes : Nat → Int64) (n1_store_no : Nat) (h1_store_no : Nat → Int64) (f1_gateList_size : Int32) (n1_gateList_found : Nat) (h1_gateList_found : Nat → Int64) (f2_thrown : Int32) (f2_clauses : Int32) (f2_gateCount : Int32) (n2_cYes : Nat) (h2_cYes : Nat → Int64) (n2_cNo : Nat) (h2_cNo : Nat → Int64) (n2_gSet : Nat) (h2_gSet : Nat → Int64) (xs : Nat → Int32) (x4 : Int32) : Option (Bool × Int32 × (Nat → Int64) × Int32 × Int32 × (Nat → Int64)) :=
  Option.bind (D_X7_gates f1_gatesFresh f1_store_clauseCount n1_store_yes h1_store_yes n1_store_no h1_store_no f1_gateList_size n1_gateList_found h1_gateList_found) (fun u_1 =>
    Option.bind (D_X8_gates f2_thrown f2_clauses f2_gateCount n2_cYes h2_cYes n2_cNo h2_cNo n2_gSet h2_gSet) (fun u_3 =>
      cif (u_1.1 = u_3.1)
        (some (u_1.2.1, u_1.2.2.1, u_1.2.2.2, u_3.2.1, u_3.2.2.1, u_3.2.2.2))
        (none)))
noncomputable def DC_21 (f1_gatesFresh : Bool) (f1_store_clauseCount : Int32) (n1_store_yes : Nat) (h1_store_yes : Nat → Int64) (n1_store_no : Nat) (h1_store_no : Nat → Int64) (f1_gateList_size : Int32) (n1_gateList_found : Nat) (h1_gateList_found : Nat → Int64) (f2_thrown : Int32) (f2_clauses : Int32) (f2_gateCount : Int32) (n2_cYes : Nat) (h2_cYes : Nat → Int64) (n2_cNo : Nat) (h2_cNo : Nat → Int64) (n2_gSet : Nat) (h2_gSet : Nat → Int64) (n3 : Nat) (h3 : Nat → Int64) (xs : Nat → Int32) (x4 : Int32) : Option (Bool × Int32 × (Nat → Int64) × Int32 × Int32 × (Nat → Int64) × (Nat → Int64)) :=
  Option.bind (D_L_gate f1_gatesFresh f1_store_clauseCount n1_store_yes h1_store_yes n1_store_no h1_store_no f1_gateList_size n1_gateList_found h1_gateList_found n3 h3 (xs (x4 + (1 : Int32)).toNatClampNeg)) (fun u_1 =>
    Option.bind (D_X8_gate f2_thrown f2_clauses f2_gateCount n2_cYes h2_cYes n2_cNo h2_cNo n2_gSet h2_gSet (xs (x4 + (1 : Int32)).toNatClampNeg)) (fun u_3 =>
      Option.bind (D_X8_thrown u_3.2.1) (fun u_5 =>
        cif (u_5 = u_1.1)
          (cif (u_1.1 = 0)
            (cif (vp_in (0 : Int32) n3)
              (cif ((u_1.2.2.2.2 (0 : Int32).toNatClampNeg) = u_3.1)
                (some (u_1.2.1, u_1.2.2.1, u_1.2.2.2.1, u_3.2.1, u_3.2.2.1, u_3.2.2.2, u_1.2.2.2.2))
                (none))
              (none))
            (some (u_1.2.1, u_1.2.2.1, u_1.2.2.2.1, u_3.2.1, u_3.2.2.1, u_3.2.2.2, u_1.2.2.2.2)))
          (none))))
noncomputable def DC_22 (f1_n : Int32) (f1_store_equationCount : Int32) (f1_store_clauseCount : Int32) (f1_store_levelCount : Int32) (f1_tape_length : Int32) (f2_thrown : Int32) (f2_n : Int32) (f2_equations : Int32) (f2_clauses : Int32) (f2_levels : Int32) (f2_tapeSize : Int32) (n3 : Nat) (h3 : Nat → Int64) (xs : Nat → Int32) (x4 : Int32) : Option (Int32 × (Nat → Int64)) :=
  Option.bind (D_L_count f1_n f1_store_equationCount f1_store_clauseCount f1_store_levelCount f1_tape_length n3 h3 (xs (x4 + (1 : Int32)).toNatClampNeg)) (fun u_1 =>
    Option.bind (D_X8_count f2_thrown f2_n f2_equations f2_clauses f2_levels f2_tapeSize (xs (x4 + (1 : Int32)).toNatClampNeg)) (fun u_3 =>
      Option.bind (D_X8_thrown u_3.2) (fun u_5 =>
        cif (u_5 = u_1.1)
          (cif (u_1.1 = 0)
            (cif (vp_in (0 : Int32) n3)
              (cif ((u_1.2 (0 : Int32).toNatClampNeg) = u_3.1.toInt64)
                (some (u_3.2, u_1.2))
                (none))
              (none))
            (some (u_3.2, u_1.2)))
          (none))))
noncomputable def DC_23 (f1_rowsFresh : Bool) (f1_gatesFresh : Bool) (f1_store_equationCount : Int32) (f1_store_clauseCount : Int32) (f1_store_levelCount : Int32) (f1_tape_length : Int32) (f2_thrown : Int32) (f2_equations : Int32) (f2_clauses : Int32) (f2_levels : Int32) (f2_tapeSize : Int32) (xs : Nat → Int32) (x4 : Int32) : Option (Bool × Bool × Int32 × Int32 × Int32 × Int32 × Int32 × Int32 × Int32 × Int32 × Int32) :=
  Option.bind (D_X7_clear f1_rowsFresh f1_gatesFresh f1_store_equationCount f1_store_clauseCount f1_store_levelCount f1_tape_length) (fun u_1 =>
    Option.bind (D_X8_clear f2_thrown f2_equations f2_clauses f2_levels f2_tapeSize) (fun u_3 =>
      some (u_1.1, u_1.2.1, u_1.2.2.1, u_1.2.2.2.1, u_1.2.2.2.2.1, u_1.2.2.2.2.2, u_3.1, u_3.2.1, u_3.2.2.1, u_3.2.2.2.1, u_3.2.2.2.2)))
