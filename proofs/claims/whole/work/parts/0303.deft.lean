noncomputable def D_L_gate (f0_gatesFresh : Bool) (f0_store_clauseCount : Int32) (n0_store_yes : Nat) (h0_store_yes : Nat → Int64) (n0_store_no : Nat) (h0_store_no : Nat → Int64) (f0_gateList_size : Int32) (n0_gateList_found : Nat) (h0_gateList_found : Nat → Int64) (n2 : Nat) (h2 : Nat → Int64) (x1 : Int32) : Option (Int32 × Bool × Int32 × (Nat → Int64) × (Nat → Int64)) :=
  Option.bind (D_X7_gate f0_gatesFresh f0_store_clauseCount n0_store_yes h0_store_yes n0_store_no h0_store_no f0_gateList_size n0_gateList_found h0_gateList_found x1) (fun u_1 =>
    sme u_1.1 (fun x_3 =>
      cif (vp_in (0 : Int32) n2)
        (some ((0 : Int32), u_1.2.1, u_1.2.2.1, u_1.2.2.2, vp_updL h2 (0 : Int32).toNatClampNeg x_3))
        (none)) (fun e_4 =>
      cif (e_4 = 2)
        (some ((1 : Int32), u_1.2.1, u_1.2.2.1, u_1.2.2.2, h2))
        (none)))
noncomputable def D_L_count (f0_n : Int32) (f0_store_equationCount : Int32) (f0_store_clauseCount : Int32) (f0_store_levelCount : Int32) (f0_tape_length : Int32) (n2 : Nat) (h2 : Nat → Int64) (x1 : Int32) : Option (Int32 × (Nat → Int64)) :=
  Option.bind (D_X7_count f0_n f0_store_equationCount f0_store_clauseCount f0_store_levelCount f0_tape_length x1) (fun u_1 =>
    sme u_1 (fun x_3 =>
      cif (vp_in (0 : Int32) n2)
        (some ((0 : Int32), vp_updL h2 (0 : Int32).toNatClampNeg x_3.toInt64))
        (none)) (fun e_4 =>
      cif (e_4 = 0)
        (some ((1 : Int32), h2))
        (none)))
