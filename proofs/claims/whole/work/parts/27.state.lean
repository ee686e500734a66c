def fl_X4_copyFrom_32 (k58 : tt_State → Option tt_State) (S1 : tt_Row) : Nat → tt_State → Int32 → Option tt_State
  | 0, _, _ => none
  | n + 1, S0, x2 =>
  if (gf_State_length S0) ≤ x2 then k58 S0 else gd_ (ix_ x2 100) (lt_ ((gf_Row_signs S1) x2.toNatClampNeg) fun y_9 => gd_ (ix_ x2 100) (lt_ (sf_State_signs S0 (upd (gf_State_signs S0) x2.toNatClampNeg y_9)) fun S_11 => lt_ (x2 + (1 : Int32)) fun y_12 => fl_X4_copyFrom_32 k58 S1 n S_11 y_12))
def fn_X4_copyFrom (S0 : tt_State) (S1 : tt_Row) : Option tt_State :=
  lt_ (gf_Row_length S1) fun y_1 => lt_ (sf_State_length S0 y_1) fun S_2 => lt_ (gf_Pasts_depth (gf_Row_pasts S1)) fun y_3 => lt_ (sf_State_depth S_2 y_3) fun S_4 => lt_ (gf_Pasts_guesser (gf_Row_pasts S1)) fun y_5 => lt_ (sf_State_guesser S_4 y_5) fun S_6 => fl_X4_copyFrom_32 (fun (S0_e58_13 : tt_State) => some S0_e58_13) S1 fu_ S_6 (0 : Int32)
def fl_X4_copySignsTo_2 (k28 : tt_Row → Option tt_Row) (S0 : tt_State) : Nat → tt_Row → Int32 → Option tt_Row
  | 0, _, _ => none
  | n + 1, S1, x2 =>
  if (gf_State_length S0) ≤ x2 then k28 S1 else gd_ (ix_ x2 100) (lt_ ((gf_State_signs S0) x2.toNatClampNeg) fun y_3 => gd_ (ix_ x2 100) (lt_ (sf_Row_signs S1 (upd (gf_Row_signs S1) x2.toNatClampNeg y_3)) fun S_5 => lt_ (x2 + (1 : Int32)) fun y_6 => fl_X4_copySignsTo_2 k28 S0 n S_5 y_6))
def fn_X4_copySignsTo (S0 : tt_State) (S1 : tt_Row) : Option tt_Row :=
  fl_X4_copySignsTo_2 (fun (S1_e28_7 : tt_Row) => some S1_e28_7) S0 fu_ S1 (0 : Int32)
def fn_X5_keep_22 (S1 : tt_Row) (S0 : tt_States) (t1 : Int32) : Option tt_States :=
  lt_ (sf_States_top S0 t1) fun S_2 => lt_ (if ((gf_States_size S_2) + (1 : Int32)) < (6 : Int32) then ((gf_States_size S_2) + (1 : Int32)) else (6 : Int32)) fun y_3 => lt_ (sf_States_size S_2 y_3) fun S_4 => gd_ (ix_ (gf_States_top S_4) 6) (lt_ ((gf_States_top S_4).toNatClampNeg) fun j_6 => bd_ (fn_X4_copyFrom ((gf_States_ring S_4) j_6) S1) fun P_7 => lt_ (sf_States_ring S_4 (va_up (gf_States_ring S_4) j_6 (P_7))) fun S_9 => some S_9)
def fn_X5_keep (S0 : tt_States) (S1 : tt_Row) : Option tt_States :=
  if (6 : Int32) ≤ ((gf_States_top S0) + (1 : Int32)) then fn_X5_keep_22 S1 S0 (0 : Int32) else fn_X5_keep_22 S1 S0 ((gf_States_top S0) + (1 : Int32))
def fn_X5_release_28 (S0 : tt_States) (j1 : Nat) (t1 : Int32) : Option (Nat × tt_States) :=
  lt_ (sf_States_top S0 t1) fun S_4 => lt_ (if (0 : Int32) < ((gf_States_size S_4) - (1 : Int32)) then ((gf_States_size S_4) - (1 : Int32)) else (0 : Int32)) fun y_5 => lt_ (sf_States_size S_4 y_5) fun S_6 => some (j1, S_6)
def fn_X5_release (S0 : tt_States) : Option (Nat × tt_States) :=
  gd_ (ix_ (gf_States_top S0) 6) (lt_ ((gf_States_top S0).toNatClampNeg) fun j_2 => if (gf_States_top S0) ≤ 0 then fn_X5_release_28 S0 j_2 (5 : Int32) else fn_X5_release_28 S0 j_2 ((gf_States_top S0) - (1 : Int32)))
theorem cu_C19 {G : xG} {a b : Nat → Nat} {S0 : tt_States} {S1 : tt_Row} : [2, 3, 14, 15, 16, 17, 18, 19, 20, 21, 22, 23, 24].map (fun i => (wd_States G a S0 ++ wd_Row G b S1)[i]?) = (wd_State G (fun i => a (2 + i)) ((gf_States_ring S0) 0) ++ wd_Row G b S1 : va_W).map some := rfl
theorem cu_R19 {G : xG} {a b : Nat → Nat} {S0 : tt_States} {S1 : tt_Row} : ([0, 1, 4, 5, 6, 7, 8, 9, 10, 11, 12, 13] : List Nat).map (fun i => (wd_States G a S0 ++ wd_Row G b S1)[i]?) = ([(a 0, .inr (5, [.ref (a 1), .int (gf_States_size S0), .int (gf_States_top S0)])), (a 1, .inl (G.2.2.2, 6, .inr (.inr (.inr (.inr (fun i => some (a (2 + 2 * i)))))))), (a 4, .inr (4, [.ref (a 5), .int (gf_State_length ((gf_States_ring S0) 1)), .int (gf_State_depth ((gf_States_ring S0) 1)), .int (gf_State_guesser ((gf_States_ring S0) 1))])), (a 5, .inl (G.2.1, 100, .inl (gf_State_signs ((gf_States_ring S0) 1)))), (a 6, .inr (4, [.ref (a 7), .int (gf_State_length ((gf_States_ring S0) 2)), .int (gf_State_depth ((gf_States_ring S0) 2)), .int (gf_State_guesser ((gf_States_ring S0) 2))])), (a 7, .inl (G.2.1, 100, .inl (gf_State_signs ((gf_States_ring S0) 2)))), (a 8, .inr (4, [.ref (a 9), .int (gf_State_length ((gf_States_ring S0) 3)), .int (gf_State_depth ((gf_States_ring S0) 3)), .int (gf_State_guesser ((gf_States_ring S0) 3))])), (a 9, .inl (G.2.1, 100, .inl (gf_State_signs ((gf_States_ring S0) 3)))), (a 10, .inr (4, [.ref (a 11), .int (gf_State_length ((gf_States_ring S0) 4)), .int (gf_State_depth ((gf_States_ring S0) 4)), .int (gf_State_guesser ((gf_States_ring S0) 4))])), (a 11, .inl (G.2.1, 100, .inl (gf_State_signs ((gf_States_ring S0) 4)))), (a 12, .inr (4, [.ref (a 13), .int (gf_State_length ((gf_States_ring S0) 5)), .int (gf_State_depth ((gf_States_ring S0) 5)), .int (gf_State_guesser ((gf_States_ring S0) 5))])), (a 13, .inl (G.2.1, 100, .inl (gf_State_signs ((gf_States_ring S0) 5))))] : va_W).map some := rfl
theorem cu_J19 {G : xG} {a b : Nat → Nat} {S0 : tt_States} {S1 : tt_Row} {P0 : tt_State} : [0, 1, 12, 13, 2, 3, 4, 5, 6, 7, 8, 9, 10, 11, 14, 15, 16, 17, 18, 19, 20, 21, 22, 23, 24].map (fun i => (([(a 0, .inr (5, [.ref (a 1), .int (gf_States_size S0), .int (gf_States_top S0)])), (a 1, .inl (G.2.2.2, 6, .inr (.inr (.inr (.inr (fun i => some (a (2 + 2 * i)))))))), (a 4, .inr (4, [.ref (a 5), .int (gf_State_length ((gf_States_ring S0) 1)), .int (gf_State_depth ((gf_States_ring S0) 1)), .int (gf_State_guesser ((gf_States_ring S0) 1))])), (a 5, .inl (G.2.1, 100, .inl (gf_State_signs ((gf_States_ring S0) 1)))), (a 6, .inr (4, [.ref (a 7), .int (gf_State_length ((gf_States_ring S0) 2)), .int (gf_State_depth ((gf_States_ring S0) 2)), .int (gf_State_guesser ((gf_States_ring S0) 2))])), (a 7, .inl (G.2.1, 100, .inl (gf_State_signs ((gf_States_ring S0) 2)))), (a 8, .inr (4, [.ref (a 9), .int (gf_State_length ((gf_States_ring S0) 3)), .int (gf_State_depth ((gf_States_ring S0) 3)), .int (gf_State_guesser ((gf_States_ring S0) 3))])), (a 9, .inl (G.2.1, 100, .inl (gf_State_signs ((gf_States_ring S0) 3)))), (a 10, .inr (4, [.ref (a 11), .int (gf_State_length ((gf_States_ring S0) 4)), .int (gf_State_depth ((gf_States_ring S0) 4)), .int (gf_State_guesser ((gf_States_ring S0) 4))])), (a 11, .inl (G.2.1, 100, .inl (gf_State_signs ((gf_States_ring S0) 4)))), (a 12, .inr (4, [.ref (a 13), .int (gf_State_length ((gf_States_ring S0) 5)), .int (gf_State_depth ((gf_States_ring S0) 5)), .int (gf_State_guesser ((gf_States_ring S0) 5))])), (a 13, .inl (G.2.1, 100, .inl (gf_State_signs ((gf_States_ring S0) 5))))] : va_W) ++ (wd_State G (fun i => a (2 + i)) P0 ++ wd_Row G b S1))[i]?) = (wd_States G a (sf_States_ring S0 (va_up (gf_States_ring S0) 0 (P0))) ++ wd_Row G b S1 : va_W).map some := rfl
theorem cu_C20 {G : xG} {a b : Nat → Nat} {S0 : tt_States} {S1 : tt_Row} : [4, 5, 14, 15, 16, 17, 18, 19, 20, 21, 22, 23, 24].map (fun i => (wd_States G a S0 ++ wd_Row G b S1)[i]?) = (wd_State G (fun i => a (4 + i)) ((gf_States_ring S0) 1) ++ wd_Row G b S1 : va_W).map some := rfl
theorem cu_R20 {G : xG} {a b : Nat → Nat} {S0 : tt_States} {S1 : tt_Row} : ([0, 1, 2, 3, 6, 7, 8, 9, 10, 11, 12, 13] : List Nat).map (fun i => (wd_States G a S0 ++ wd_Row G b S1)[i]?) = ([(a 0, .inr (5, [.ref (a 1), .int (gf_States_size S0), .int (gf_States_top S0)])), (a 1, .inl (G.2.2.2, 6, .inr (.inr (.inr (.inr (fun i => some (a (2 + 2 * i)))))))), (a 2, .inr (4, [.ref (a 3), .int (gf_State_length ((gf_States_ring S0) 0)), .int (gf_State_depth ((gf_States_ring S0) 0)), .int (gf_State_guesser ((gf_States_ring S0) 0))])), (a 3, .inl (G.2.1, 100, .inl (gf_State_signs ((gf_States_ring S0) 0)))), (a 6, .inr (4, [.ref (a 7), .int (gf_State_length ((gf_States_ring S0) 2)), .int (gf_State_depth ((gf_States_ring S0) 2)), .int (gf_State_guesser ((gf_States_ring S0) 2))])), (a 7, .inl (G.2.1, 100, .inl (gf_State_signs ((gf_States_ring S0) 2)))), (a 8, .inr (4, [.ref (a 9), .int (gf_State_length ((gf_States_ring S0) 3)), .int (gf_State_depth ((gf_States_ring S0) 3)), .int (gf_State_guesser ((gf_States_ring S0) 3))])), (a 9, .inl (G.2.1, 100, .inl (gf_State_signs ((gf_States_ring S0) 3)))), (a 10, .inr (4, [.ref (a 11), .int (gf_State_length ((gf_States_ring S0) 4)), .int (gf_State_depth ((gf_States_ring S0) 4)), .int (gf_State_guesser ((gf_States_ring S0) 4))])), (a 11, .inl (G.2.1, 100, .inl (gf_State_signs ((gf_States_ring S0) 4)))), (a 12, .inr (4, [.ref (a 13), .int (gf_State_length ((gf_States_ring S0) 5)), .int (gf_State_depth ((gf_States_ring S0) 5)), .int (gf_State_guesser ((gf_States_ring S0) 5))])), (a 13, .inl (G.2.1, 100, .inl (gf_State_signs ((gf_States_ring S0) 5))))] : va_W).map some := rfl
theorem cu_J20 {G : xG} {a b : Nat → Nat} {S0 : tt_States} {S1 : tt_Row} {P0 : tt_State} : [0, 1, 2, 3, 12, 13, 4, 5, 6, 7, 8, 9, 10, 11, 14, 15, 16, 17, 18, 19, 20, 21, 22, 23, 24].map (fun i => (([(a 0, .inr (5, [.ref (a 1), .int (gf_States_size S0), .int (gf_States_top S0)])), (a 1, .inl (G.2.2.2, 6, .inr (.inr (.inr (.inr (fun i => some (a (2 + 2 * i)))))))), (a 2, .inr (4, [.ref (a 3), .int (gf_State_length ((gf_States_ring S0) 0)), .int (gf_State_depth ((gf_States_ring S0) 0)), .int (gf_State_guesser ((gf_States_ring S0) 0))])), (a 3, .inl (G.2.1, 100, .inl (gf_State_signs ((gf_States_ring S0) 0)))), (a 6, .inr (4, [.ref (a 7), .int (gf_State_length ((gf_States_ring S0) 2)), .int (gf_State_depth ((gf_States_ring S0) 2)), .int (gf_State_guesser ((gf_States_ring S0) 2))])), (a 7, .inl (G.2.1, 100, .inl (gf_State_signs ((gf_States_ring S0) 2)))), (a 8, .inr (4, [.ref (a 9), .int (gf_State_length ((gf_States_ring S0) 3)), .int (gf_State_depth ((gf_States_ring S0) 3)), .int (gf_State_guesser ((gf_States_ring S0) 3))])), (a 9, .inl (G.2.1, 100, .inl (gf_State_signs ((gf_States_ring S0) 3)))), (a 10, .inr (4, [.ref (a 11), .int (gf_State_length ((gf_States_ring S0) 4)), .int (gf_State_depth ((gf_States_ring S0) 4)), .int (gf_State_guesser ((gf_States_ring S0) 4))])), (a 11, .inl (G.2.1, 100, .inl (gf_State_signs ((gf_States_ring S0) 4)))), (a 12, .inr (4, [.ref (a 13), .int (gf_State_length ((gf_States_ring S0) 5)), .int (gf_State_depth ((gf_States_ring S0) 5)), .int (gf_State_guesser ((gf_States_ring S0) 5))])), (a 13, .inl (G.2.1, 100, .inl (gf_State_signs ((gf_States_ring S0) 5))))] : va_W) ++ (wd_State G (fun i => a (4 + i)) P0 ++ wd_Row G b S1))[i]?) = (wd_States G a (sf_States_ring S0 (va_up (gf_States_ring S0) 1 (P0))) ++ wd_Row G b S1 : va_W).map some := rfl
theorem cu_C21 {G : xG} {a b : Nat → Nat} {S0 : tt_States} {S1 : tt_Row} : [6, 7, 14, 15, 16, 17, 18, 19, 20, 21, 22, 23, 24].map (fun i => (wd_States G a S0 ++ wd_Row G b S1)[i]?) = (wd_State G (fun i => a (6 + i)) ((gf_States_ring S0) 2) ++ wd_Row G b S1 : va_W).map some := rfl
theorem cu_R21 {G : xG} {a b : Nat → Nat} {S0 : tt_States} {S1 : tt_Row} : ([0, 1, 2, 3, 4, 5, 8, 9, 10, 11, 12, 13] : List Nat).map (fun i => (wd_States G a S0 ++ wd_Row G b S1)[i]?) = ([(a 0, .inr (5, [.ref (a 1), .int (gf_States_size S0), .int (gf_States_top S0)])), (a 1, .inl (G.2.2.2, 6, .inr (.inr (.inr (.inr (fun i => some (a (2 + 2 * i)))))))), (a 2, .inr (4, [.ref (a 3), .int (gf_State_length ((gf_States_ring S0) 0)), .int (gf_State_depth ((gf_States_ring S0) 0)), .int (gf_State_guesser ((gf_States_ring S0) 0))])), (a 3, .inl (G.2.1, 100, .inl (gf_State_signs ((gf_States_ring S0) 0)))), (a 4, .inr (4, [.ref (a 5), .int (gf_State_length ((gf_States_ring S0) 1)), .int (gf_State_depth ((gf_States_ring S0) 1)), .int (gf_State_guesser ((gf_States_ring S0) 1))])), (a 5, .inl (G.2.1, 100, .inl (gf_State_signs ((gf_States_ring S0) 1)))), (a 8, .inr (4, [.ref (a 9), .int (gf_State_length ((gf_States_ring S0) 3)), .int (gf_State_depth ((gf_States_ring S0) 3)), .int (gf_State_guesser ((gf_States_ring S0) 3))])), (a 9, .inl (G.2.1, 100, .inl (gf_State_signs ((gf_States_ring S0) 3)))), (a 10, .inr (4, [.ref (a 11), .int (gf_State_length ((gf_States_ring S0) 4)), .int (gf_State_depth ((gf_States_ring S0) 4)), .int (gf_State_guesser ((gf_States_ring S0) 4))])), (a 11, .inl (G.2.1, 100, .inl (gf_State_signs ((gf_States_ring S0) 4)))), (a 12, .inr (4, [.ref (a 13), .int (gf_State_length ((gf_States_ring S0) 5)), .int (gf_State_depth ((gf_States_ring S0) 5)), .int (gf_State_guesser ((gf_States_ring S0) 5))])), (a 13, .inl (G.2.1, 100, .inl (gf_State_signs ((gf_States_ring S0) 5))))] : va_W).map some := rfl
theorem cu_J21 {G : xG} {a b : Nat → Nat} {S0 : tt_States} {S1 : tt_Row} {P0 : tt_State} : [0, 1, 2, 3, 4, 5, 12, 13, 6, 7, 8, 9, 10, 11, 14, 15, 16, 17, 18, 19, 20, 21, 22, 23, 24].map (fun i => (([(a 0, .inr (5, [.ref (a 1), .int (gf_States_size S0), .int (gf_States_top S0)])), (a 1, .inl (G.2.2.2, 6, .inr (.inr (.inr (.inr (fun i => some (a (2 + 2 * i)))))))), (a 2, .inr (4, [.ref (a 3), .int (gf_State_length ((gf_States_ring S0) 0)), .int (gf_State_depth ((gf_States_ring S0) 0)), .int (gf_State_guesser ((gf_States_ring S0) 0))])), (a 3, .inl (G.2.1, 100, .inl (gf_State_signs ((gf_States_ring S0) 0)))), (a 4, .inr (4, [.ref (a 5), .int (gf_State_length ((gf_States_ring S0) 1)), .int (gf_State_depth ((gf_States_ring S0) 1)), .int (gf_State_guesser ((gf_States_ring S0) 1))])), (a 5, .inl (G.2.1, 100, .inl (gf_State_signs ((gf_States_ring S0) 1)))), (a 8, .inr (4, [.ref (a 9), .int (gf_State_length ((gf_States_ring S0) 3)), .int (gf_State_depth ((gf_States_ring S0) 3)), .int (gf_State_guesser ((gf_States_ring S0) 3))])), (a 9, .inl (G.2.1, 100, .inl (gf_State_signs ((gf_States_ring S0) 3)))), (a 10, .inr (4, [.ref (a 11), .int (gf_State_length ((gf_States_ring S0) 4)), .int (gf_State_depth ((gf_States_ring S0) 4)), .int (gf_State_guesser ((gf_States_ring S0) 4))])), (a 11, .inl (G.2.1, 100, .inl (gf_State_signs ((gf_States_ring S0) 4)))), (a 12, .inr (4, [.ref (a 13), .int (gf_State_length ((gf_States_ring S0) 5)), .int (gf_State_depth ((gf_States_ring S0) 5)), .int (gf_State_guesser ((gf_States_ring S0) 5))])), (a 13, .inl (G.2.1, 100, .inl (gf_State_signs ((gf_States_ring S0) 5))))] : va_W) ++ (wd_State G (fun i => a (6 + i)) P0 ++ wd_Row G b S1))[i]?) = (wd_States G a (sf_States_ring S0 (va_up (gf_States_ring S0) 2 (P0))) ++ wd_Row G b S1 : va_W).map some := rfl
theorem cu_C22 {G : xG} {a b : Nat → Nat} {S0 : tt_States} {S1 : tt_Row} : [8, 9, 14, 15, 16, 17, 18, 19, 20, 21, 22, 23, 24].map (fun i => (wd_States G a S0 ++ wd_Row G b S1)[i]?) = (wd_State G (fun i => a (8 + i)) ((gf_States_ring S0) 3) ++ wd_Row G b S1 : va_W).map some := rfl
theorem cu_R22 {G : xG} {a b : Nat → Nat} {S0 : tt_States} {S1 : tt_Row} : ([0, 1, 2, 3, 4, 5, 6, 7, 10, 11, 12, 13] : List Nat).map (fun i => (wd_States G a S0 ++ wd_Row G b S1)[i]?) = ([(a 0, .inr (5, [.ref (a 1), .int (gf_States_size S0), .int (gf_States_top S0)])), (a 1, .inl (G.2.2.2, 6, .inr (.inr (.inr (.inr (fun i => some (a (2 + 2 * i)))))))), (a 2, .inr (4, [.ref (a 3), .int (gf_State_length ((gf_States_ring S0) 0)), .int (gf_State_depth ((gf_States_ring S0) 0)), .int (gf_State_guesser ((gf_States_ring S0) 0))])), (a 3, .inl (G.2.1, 100, .inl (gf_State_signs ((gf_States_ring S0) 0)))), (a 4, .inr (4, [.ref (a 5), .int (gf_State_length ((gf_States_ring S0) 1)), .int (gf_State_depth ((gf_States_ring S0) 1)), .int (gf_State_guesser ((gf_States_ring S0) 1))])), (a 5, .inl (G.2.1, 100, .inl (gf_State_signs ((gf_States_ring S0) 1)))), (a 6, .inr (4, [.ref (a 7), .int (gf_State_length ((gf_States_ring S0) 2)), .int (gf_State_depth ((gf_States_ring S0) 2)), .int (gf_State_guesser ((gf_States_ring S0) 2))])), (a 7, .inl (G.2.1, 100, .inl (gf_State_signs ((gf_States_ring S0) 2)))), (a 10, .inr (4, [.ref (a 11), .int (gf_State_length ((gf_States_ring S0) 4)), .int (gf_State_depth ((gf_States_ring S0) 4)), .int (gf_State_guesser ((gf_States_ring S0) 4))])), (a 11, .inl (G.2.1, 100, .inl (gf_State_signs ((gf_States_ring S0) 4)))), (a 12, .inr (4, [.ref (a 13), .int (gf_State_length ((gf_States_ring S0) 5)), .int (gf_State_depth ((gf_States_ring S0) 5)), .int (gf_State_guesser ((gf_States_ring S0) 5))])), (a 13, .inl (G.2.1, 100, .inl (gf_State_signs ((gf_States_ring S0) 5))))] : va_W).map some := rfl
theorem cu_J22 {G : xG} {a b : Nat → Nat} {S0 : tt_States} {S1 : tt_Row} {P0 : tt_State} : [0, 1, 2, 3, 4, 5, 6, 7, 12, 13, 8, 9, 10, 11, 14, 15, 16, 17, 18, 19, 20, 21, 22, 23, 24].map (fun i => (([(a 0, .inr (5, [.ref (a 1), .int (gf_States_size S0), .int (gf_States_top S0)])), (a 1, .inl (G.2.2.2, 6, .inr (.inr (.inr (.inr (fun i => some (a (2 + 2 * i)))))))), (a 2, .inr (4, [.ref (a 3), .int (gf_State_length ((gf_States_ring S0) 0)), .int (gf_State_depth ((gf_States_ring S0) 0)), .int (gf_State_guesser ((gf_States_ring S0) 0))])), (a 3, .inl (G.2.1, 100, .inl (gf_State_signs ((gf_States_ring S0) 0)))), (a 4, .inr (4, [.ref (a 5), .int (gf_State_length ((gf_States_ring S0) 1)), .int (gf_State_depth ((gf_States_ring S0) 1)), .int (gf_State_guesser ((gf_States_ring S0) 1))])), (a 5, .inl (G.2.1, 100, .inl (gf_State_signs ((gf_States_ring S0) 1)))), (a 6, .inr (4, [.ref (a 7), .int (gf_State_length ((gf_States_ring S0) 2)), .int (gf_State_depth ((gf_States_ring S0) 2)), .int (gf_State_guesser ((gf_States_ring S0) 2))])), (a 7, .inl (G.2.1, 100, .inl (gf_State_signs ((gf_States_ring S0) 2)))), (a 10, .inr (4, [.ref (a 11), .int (gf_State_length ((gf_States_ring S0) 4)), .int (gf_State_depth ((gf_States_ring S0) 4)), .int (gf_State_guesser ((gf_States_ring S0) 4))])), (a 11, .inl (G.2.1, 100, .inl (gf_State_signs ((gf_States_ring S0) 4)))), (a 12, .inr (4, [.ref (a 13), .int (gf_State_length ((gf_States_ring S0) 5)), .int (gf_State_depth ((gf_States_ring S0) 5)), .int (gf_State_guesser ((gf_States_ring S0) 5))])), (a 13, .inl (G.2.1, 100, .inl (gf_State_signs ((gf_States_ring S0) 5))))] : va_W) ++ (wd_State G (fun i => a (8 + i)) P0 ++ wd_Row G b S1))[i]?) = (wd_States G a (sf_States_ring S0 (va_up (gf_States_ring S0) 3 (P0))) ++ wd_Row G b S1 : va_W).map some := rfl
theorem cu_C23 {G : xG} {a b : Nat → Nat} {S0 : tt_States} {S1 : tt_Row} : [10, 11, 14, 15, 16, 17, 18, 19, 20, 21, 22, 23, 24].map (fun i => (wd_States G a S0 ++ wd_Row G b S1)[i]?) = (wd_State G (fun i => a (10 + i)) ((gf_States_ring S0) 4) ++ wd_Row G b S1 : va_W).map some := rfl
theorem cu_R23 {G : xG} {a b : Nat → Nat} {S0 : tt_States} {S1 : tt_Row} : ([0, 1, 2, 3, 4, 5, 6, 7, 8, 9, 12, 13] : List Nat).map (fun i => (wd_States G a S0 ++ wd_Row G b S1)[i]?) = ([(a 0, .inr (5, [.ref (a 1), .int (gf_States_size S0), .int (gf_States_top S0)])), (a 1, .inl (G.2.2.2, 6, .inr (.inr (.inr (.inr (fun i => some (a (2 + 2 * i)))))))), (a 2, .inr (4, [.ref (a 3), .int (gf_State_length ((gf_States_ring S0) 0)), .int (gf_State_depth ((gf_States_ring S0) 0)), .int (gf_State_guesser ((gf_States_ring S0) 0))])), (a 3, .inl (G.2.1, 100, .inl (gf_State_signs ((gf_States_ring S0) 0)))), (a 4, .inr (4, [.ref (a 5), .int (gf_State_length ((gf_States_ring S0) 1)), .int (gf_State_depth ((gf_States_ring S0) 1)), .int (gf_State_guesser ((gf_States_ring S0) 1))])), (a 5, .inl (G.2.1, 100, .inl (gf_State_signs ((gf_States_ring S0) 1)))), (a 6, .inr (4, [.ref (a 7), .int (gf_State_length ((gf_States_ring S0) 2)), .int (gf_State_depth ((gf_States_ring S0) 2)), .int (gf_State_guesser ((gf_States_ring S0) 2))])), (a 7, .inl (G.2.1, 100, .inl (gf_State_signs ((gf_States_ring S0) 2)))), (a 8, .inr (4, [.ref (a 9), .int (gf_State_length ((gf_States_ring S0) 3)), .int (gf_State_depth ((gf_States_ring S0) 3)), .int (gf_State_guesser ((gf_States_ring S0) 3))])), (a 9, .inl (G.2.1, 100, .inl (gf_State_signs ((gf_States_ring S0) 3)))), (a 12, .inr (4, [.ref (a 13), .int (gf_State_length ((gf_States_ring S0) 5)), .int (gf_State_depth ((gf_States_ring S0) 5)), .int (gf_State_guesser ((gf_States_ring S0) 5))])), (a 13, .inl (G.2.1, 100, .inl (gf_State_signs ((gf_States_ring S0) 5))))] : va_W).map some := rfl
theorem cu_J23 {G : xG} {a b : Nat → Nat} {S0 : tt_States} {S1 : tt_Row} {P0 : tt_State} : [0, 1, 2, 3, 4, 5, 6, 7, 8, 9, 12, 13, 10, 11, 14, 15, 16, 17, 18, 19, 20, 21, 22, 23, 24].map (fun i => (([(a 0, .inr (5, [.ref (a 1), .int (gf_States_size S0), .int (gf_States_top S0)])), (a 1, .inl (G.2.2.2, 6, .inr (.inr (.inr (.inr (fun i => some (a (2 + 2 * i)))))))), (a 2, .inr (4, [.ref (a 3), .int (gf_State_length ((gf_States_ring S0) 0)), .int (gf_State_depth ((gf_States_ring S0) 0)), .int (gf_State_guesser ((gf_States_ring S0) 0))])), (a 3, .inl (G.2.1, 100, .inl (gf_State_signs ((gf_States_ring S0) 0)))), (a 4, .inr (4, [.ref (a 5), .int (gf_State_length ((gf_States_ring S0) 1)), .int (gf_State_depth ((gf_States_ring S0) 1)), .int (gf_State_guesser ((gf_States_ring S0) 1))])), (a 5, .inl (G.2.1, 100, .inl (gf_State_signs ((gf_States_ring S0) 1)))), (a 6, .inr (4, [.ref (a 7), .int (gf_State_length ((gf_States_ring S0) 2)), .int (gf_State_depth ((gf_States_ring S0) 2)), .int (gf_State_guesser ((gf_States_ring S0) 2))])), (a 7, .inl (G.2.1, 100, .inl (gf_State_signs ((gf_States_ring S0) 2)))), (a 8, .inr (4, [.ref (a 9), .int (gf_State_length ((gf_States_ring S0) 3)), .int (gf_State_depth ((gf_States_ring S0) 3)), .int (gf_State_guesser ((gf_States_ring S0) 3))])), (a 9, .inl (G.2.1, 100, .inl (gf_State_signs ((gf_States_ring S0) 3)))), (a 12, .inr (4, [.ref (a 13), .int (gf_State_length ((gf_States_ring S0) 5)), .int (gf_State_depth ((gf_States_ring S0) 5)), .int (gf_State_guesser ((gf_States_ring S0) 5))])), (a 13, .inl (G.2.1, 100, .inl (gf_State_signs ((gf_States_ring S0) 5))))] : va_W) ++ (wd_State G (fun i => a (10 + i)) P0 ++ wd_Row G b S1))[i]?) = (wd_States G a (sf_States_ring S0 (va_up (gf_States_ring S0) 4 (P0))) ++ wd_Row G b S1 : va_W).map some := rfl
theorem cu_C24 {G : xG} {a b : Nat → Nat} {S0 : tt_States} {S1 : tt_Row} : [12, 13, 14, 15, 16, 17, 18, 19, 20, 21, 22, 23, 24].map (fun i => (wd_States G a S0 ++ wd_Row G b S1)[i]?) = (wd_State G (fun i => a (12 + i)) ((gf_States_ring S0) 5) ++ wd_Row G b S1 : va_W).map some := rfl
theorem cu_R24 {G : xG} {a b : Nat → Nat} {S0 : tt_States} {S1 : tt_Row} : ([0, 1, 2, 3, 4, 5, 6, 7, 8, 9, 10, 11] : List Nat).map (fun i => (wd_States G a S0 ++ wd_Row G b S1)[i]?) = ([(a 0, .inr (5, [.ref (a 1), .int (gf_States_size S0), .int (gf_States_top S0)])), (a 1, .inl (G.2.2.2, 6, .inr (.inr (.inr (.inr (fun i => some (a (2 + 2 * i)))))))), (a 2, .inr (4, [.ref (a 3), .int (gf_State_length ((gf_States_ring S0) 0)), .int (gf_State_depth ((gf_States_ring S0) 0)), .int (gf_State_guesser ((gf_States_ring S0) 0))])), (a 3, .inl (G.2.1, 100, .inl (gf_State_signs ((gf_States_ring S0) 0)))), (a 4, .inr (4, [.ref (a 5), .int (gf_State_length ((gf_States_ring S0) 1)), .int (gf_State_depth ((gf_States_ring S0) 1)), .int (gf_State_guesser ((gf_States_ring S0) 1))])), (a 5, .inl (G.2.1, 100, .inl (gf_State_signs ((gf_States_ring S0) 1)))), (a 6, .inr (4, [.ref (a 7), .int (gf_State_length ((gf_States_ring S0) 2)), .int (gf_State_depth ((gf_States_ring S0) 2)), .int (gf_State_guesser ((gf_States_ring S0) 2))])), (a 7, .inl (G.2.1, 100, .inl (gf_State_signs ((gf_States_ring S0) 2)))), (a 8, .inr (4, [.ref (a 9), .int (gf_State_length ((gf_States_ring S0) 3)), .int (gf_State_depth ((gf_States_ring S0) 3)), .int (gf_State_guesser ((gf_States_ring S0) 3))])), (a 9, .inl (G.2.1, 100, .inl (gf_State_signs ((gf_States_ring S0) 3)))), (a 10, .inr (4, [.ref (a 11), .int (gf_State_length ((gf_States_ring S0) 4)), .int (gf_State_depth ((gf_States_ring S0) 4)), .int (gf_State_guesser ((gf_States_ring S0) 4))])), (a 11, .inl (G.2.1, 100, .inl (gf_State_signs ((gf_States_ring S0) 4))))] : va_W).map some := rfl
theorem cu_J24 {G : xG} {a b : Nat → Nat} {S0 : tt_States} {S1 : tt_Row} {P0 : tt_State} : [0, 1, 2, 3, 4, 5, 6, 7, 8, 9, 10, 11, 12, 13, 14, 15, 16, 17, 18, 19, 20, 21, 22, 23, 24].map (fun i => (([(a 0, .inr (5, [.ref (a 1), .int (gf_States_size S0), .int (gf_States_top S0)])), (a 1, .inl (G.2.2.2, 6, .inr (.inr (.inr (.inr (fun i => some (a (2 + 2 * i)))))))), (a 2, .inr (4, [.ref (a 3), .int (gf_State_length ((gf_States_ring S0) 0)), .int (gf_State_depth ((gf_States_ring S0) 0)), .int (gf_State_guesser ((gf_States_ring S0) 0))])), (a 3, .inl (G.2.1, 100, .inl (gf_State_signs ((gf_States_ring S0) 0)))), (a 4, .inr (4, [.ref (a 5), .int (gf_State_length ((gf_States_ring S0) 1)), .int (gf_State_depth ((gf_States_ring S0) 1)), .int (gf_State_guesser ((gf_States_ring S0) 1))])), (a 5, .inl (G.2.1, 100, .inl (gf_State_signs ((gf_States_ring S0) 1)))), (a 6, .inr (4, [.ref (a 7), .int (gf_State_length ((gf_States_ring S0) 2)), .int (gf_State_depth ((gf_States_ring S0) 2)), .int (gf_State_guesser ((gf_States_ring S0) 2))])), (a 7, .inl (G.2.1, 100, .inl (gf_State_signs ((gf_States_ring S0) 2)))), (a 8, .inr (4, [.ref (a 9), .int (gf_State_length ((gf_States_ring S0) 3)), .int (gf_State_depth ((gf_States_ring S0) 3)), .int (gf_State_guesser ((gf_States_ring S0) 3))])), (a 9, .inl (G.2.1, 100, .inl (gf_State_signs ((gf_States_ring S0) 3)))), (a 10, .inr (4, [.ref (a 11), .int (gf_State_length ((gf_States_ring S0) 4)), .int (gf_State_depth ((gf_States_ring S0) 4)), .int (gf_State_guesser ((gf_States_ring S0) 4))])), (a 11, .inl (G.2.1, 100, .inl (gf_State_signs ((gf_States_ring S0) 4))))] : va_W) ++ (wd_State G (fun i => a (12 + i)) P0 ++ wd_Row G b S1))[i]?) = (wd_States G a (sf_States_ring S0 (va_up (gf_States_ring S0) 5 (P0))) ++ wd_Row G b S1 : va_W).map some := rfl
set_option maxHeartbeats 4000000 in
set_option maxRecDepth 100000 in
theorem lb_X4_copyFrom_32 {l : Launch} {p : Program} {e : Env} {s : State} {m : MethodId} {args : Array Value} {below : List Frame} {meth : Method} {c : Code} {G : xG} {A : Nat → Prop} {a b : Nat → Nat} (C0 : xC p s m meth c cX4_copyFrom 3 (none) RX4 args) (KN : xKN G s) (hA : ∀ q, s.heap.size ≤ q → A q) (S1 : tt_Row) (So0 : tt_State) (k58 : tt_State → Option tt_State) (hk58 : ∀ (S0 : tt_State), k58 S0 = some So0 → ∀ (H : Heap) (locs : List Loc) (ls : Array Slot), xS G A s.heap (wd_State G a S0 ++ wd_Row G b S1) H locs → lv_has ls 3 [(0, .ref (a 0)), (1, .ref (b 0))] → W p l e ({ frames := 0, cells := 0, slots := 0, locals := 0 }) s m args below meth c H locs 0 0 (MQ below (xQo G none A (wd_State G a So0 ++ wd_Row G b S1)) args s 0 0 A) (F0 m 58 ls [])) : ∀ (n : Nat) (S0 : tt_State) (x2 : Int32), fl_X4_copyFrom_32 k58 S1 n S0 x2 = some So0 → ∀ (H : Heap) (locs : List Loc) (ls : Array Slot), xS G A s.heap (wd_State G a S0 ++ wd_Row G b S1) H locs → lv_has ls 3 [(0, .ref (a 0)), (1, .ref (b 0)), (2, .int x2)] → W p l e ({ frames := 0, cells := 0, slots := 0, locals := 0 }) s m args below meth c H locs 0 0 (MQ below (xQo G none A (wd_State G a So0 ++ wd_Row G b S1)) args s 0 0 A) (F0 m 32 ls []) := by
  have hx := C0.1
  have hb := C0.2.1
  intro n
  induction n with
  | zero =>
    intro S0 x2 hf
    have hf : none = some So0 := hf
    cases hf
  | succ n ih =>
    intro S0 x2 hf H locs ls X hl
    rw [fl_X4_copyFrom_32] at hf
    refine lv_iload_n (pc := 32) hx hb dX4_copyFrom_32 rfl (lv_at hl 2 rfl) ?_
    refine lv_aload_n (pc := 33) hx hb dX4_copyFrom_33 rfl (lv_at hl 0 rfl) ?_
    refine x_get (pc := 34) (ci := 4) C0 KN X 0 rfl rfl inlX4 1 (by decide) kw_7_2 rfl dX4_copyFrom_34 ?_
    refine W.eq (g2 := F0 m 37 ls [.int (gf_State_length S0), .int x2]) rfl ?_
    refine lv_icmp_ge (pc := 37) (tgt := 58) hx hb dX4_copyFrom_37 (by decide) (fun c_7 => ?_) (fun c_7 => ?_)
    · have hf := it_p hf c_7
      exact hk58 _ hf _ _ _ X (lv_sub hl [0, 1] rfl)
    · have hf := it_n hf c_7
      refine lv_aload_n (pc := 40) hx hb dX4_copyFrom_40 rfl (lv_at hl 0 rfl) ?_
      refine x_get (pc := 41) (ci := 4) C0 KN X 0 rfl rfl inlX4 0 (by decide) kw_7_1 rfl dX4_copyFrom_41 ?_
      refine lv_iload_n (pc := 44) hx hb dX4_copyFrom_44 rfl (lv_at hl 2 rfl) ?_
      refine lv_aload_n (pc := 45) hx hb dX4_copyFrom_45 rfl (lv_at hl 1 rfl) ?_
      refine x_get (pc := 46) (ci := 3) C0 KN X 2 rfl rfl inlX3 0 (by decide) kw_9_12 rfl dX4_copyFrom_46 ?_
      refine lv_iload_n (pc := 49) hx hb dX4_copyFrom_49 rfl (lv_at hl 2 rfl) ?_
      obtain ⟨g_8, hf⟩ := gd_e hf
      refine x_ald (pc := 50) C0 KN X 3 rfl g_8 dX4_copyFrom_50 ?_
      refine W.eq (g2 := F0 m 51 ls [.int ((gf_Row_signs S1) x2.toNatClampNeg), .int x2, .ref (a 1)]) rfl ?_
      refine lv_topi (fun y_9 ey_9 => ?_)
      have hf := lt_sb hf ey_9
      obtain ⟨g_10, hf⟩ := gd_e hf
      obtain ⟨S_11, eS_11, hf⟩ := lt_e hf
      refine x_ast (pc := 51) (ws' := wd_State G a S_11 ++ wd_Row G b S1) C0 KN X 1 rfl g_10 (by subst eS_11; rfl) dX4_copyFrom_51 (fun H locs X => ?_)
      obtain ⟨y_12, ey_12⟩ : ∃ y : Int32, y = x2 + (1 : Int32) := ⟨_, rfl⟩
      have hf := lt_sb hf ey_12
      refine lv_iinc (pc := 52) (v := y_12) (lv' := [(2, .int y_12), (0, .ref (a 0)), (1, .ref (b 0))]) hx hb dX4_copyFrom_52 hl (k := 2) rfl (by rw [ey_12]; rfl) (by decide) rfl (fun ls hl => ?_)
      refine lv_goto (pc := 55) (tgt := 32) hx hb dX4_copyFrom_55 (by decide) ?_
      exact ih _ _ hf _ _ _ X (lv_sub hl [1, 2, 0] rfl)
theorem hd_X4_copyFrom : yX4_copyFrom.cls ≠ "java/lang/invoke/MethodHandle" ∧ yX4_copyFrom.cls ≠ "java/lang/invoke/VarHandle" ∧ (parseMethodDescriptor yX4_copyFrom.desc).map (fun d => d.parameters.length) = some 1 := by decide +kernel
set_option maxHeartbeats 4000000 in
set_option maxRecDepth 100000 in
theorem ct_X4_copyFrom (l : Launch) (G : xG) (a b : Nat → Nat) (S0 : tt_State) (S1 : tt_Row) (So0 : tt_State) (hf : fn_X4_copyFrom S0 S1 = some So0) : xM l yX4_copyFrom cX4_copyFrom 3 (none) 0 0 G [.ref (a 0), .ref (b 0)] (wd_State G a S0 ++ wd_Row G b S1) (wd_State G a So0 ++ wd_Row G b S1) none := by
  refine xMi (by decide) (Nat.le_of_ble_eq_true rfl) ?_
  intro p e s m below meth c A C0 KN hA X ls hl
  have hx := C0.1
  have hb := C0.2.1
  have C0 : xC p s m meth c cX4_copyFrom 3 (none) RX4 _ := C0
  have hl : lv_has ls 3 [(0, .ref (a 0)), (1, .ref (b 0))] := hl
  unfold fn_X4_copyFrom at hf
  refine lv_aload_n (pc := 0) hx hb dX4_copyFrom_0 rfl (lv_at hl 0 rfl) ?_
  refine lv_aload_n (pc := 1) hx hb dX4_copyFrom_1 rfl (lv_at hl 1 rfl) ?_
  refine x_get (pc := 2) (ci := 3) C0 KN X 2 rfl rfl inlX3 4 (by decide) kw_9_8 rfl dX4_copyFrom_2 ?_
  refine W.eq (g2 := F0 m 5 ls [.int (gf_Row_length S1), .ref (a 0)]) rfl ?_
  refine lv_topi (fun y_1 ey_1 => ?_)
  have hf := lt_sb hf ey_1
  obtain ⟨S_2, eS_2, hf⟩ := lt_e hf
  refine x_put (pc := 5) (ci := 4) (ws' := wd_State G a S_2 ++ wd_Row G b S1) C0 KN X 0 rfl rfl inlX4 tyX4_ok nmX4 1 (by decide) kw_7_2 rfl rfl rfl (Nat.le_of_ble_eq_true rfl) (by subst eS_2; rfl) dX4_copyFrom_5 (fun H locs X => ?_)
  refine lv_aload_n (pc := 8) hx hb dX4_copyFrom_8 rfl (lv_at hl 0 rfl) ?_
  refine lv_aload_n (pc := 9) hx hb dX4_copyFrom_9 rfl (lv_at hl 1 rfl) ?_
  refine x_get (pc := 10) (ci := 3) C0 KN X 2 rfl rfl inlX3 3 (by decide) kw_9_9 rfl dX4_copyFrom_10 ?_
  refine x_get (pc := 13) (ci := 2) C0 KN X 6 rfl rfl inlX2 6 (by decide) kw_9_10 rfl dX4_copyFrom_13 ?_
  refine W.eq (g2 := F0 m 16 ls [.int (gf_Pasts_depth (gf_Row_pasts S1)), .ref (a 0)]) rfl ?_
  refine lv_topi (fun y_3 ey_3 => ?_)
  have hf := lt_sb hf ey_3
  obtain ⟨S_4, eS_4, hf⟩ := lt_e hf
  refine x_put (pc := 16) (ci := 4) (ws' := wd_State G a S_4 ++ wd_Row G b S1) C0 KN X 0 rfl rfl inlX4 tyX4_ok nmX4 2 (by decide) kw_7_3 rfl rfl rfl (Nat.le_of_ble_eq_true rfl) (by subst eS_4; rfl) dX4_copyFrom_16 (fun H locs X => ?_)
  refine lv_aload_n (pc := 19) hx hb dX4_copyFrom_19 rfl (lv_at hl 0 rfl) ?_
  refine lv_aload_n (pc := 20) hx hb dX4_copyFrom_20 rfl (lv_at hl 1 rfl) ?_
  refine x_get (pc := 21) (ci := 3) C0 KN X 2 rfl rfl inlX3 3 (by decide) kw_9_9 rfl dX4_copyFrom_21 ?_
  refine x_get (pc := 24) (ci := 2) C0 KN X 6 rfl rfl inlX2 7 (by decide) kw_9_11 rfl dX4_copyFrom_24 ?_
  refine W.eq (g2 := F0 m 27 ls [.int (gf_Pasts_guesser (gf_Row_pasts S1)), .ref (a 0)]) rfl ?_
  refine lv_topi (fun y_5 ey_5 => ?_)
  have hf := lt_sb hf ey_5
  obtain ⟨S_6, eS_6, hf⟩ := lt_e hf
  refine x_put (pc := 27) (ci := 4) (ws' := wd_State G a S_6 ++ wd_Row G b S1) C0 KN X 0 rfl rfl inlX4 tyX4_ok nmX4 3 (by decide) kw_7_4 rfl rfl rfl (Nat.le_of_ble_eq_true rfl) (by subst eS_6; rfl) dX4_copyFrom_27 (fun H locs X => ?_)
  refine lv_iconst (pc := 30) (v := 0) hx hb dX4_copyFrom_30 (by decide) ?_
  refine lv_istore_n (pc := 31) (lv' := [(2, .int (0 : Int32)), (0, .ref (a 0)), (1, .ref (b 0))]) hx hb dX4_copyFrom_31 rfl hl (by decide) rfl (fun ls hl => ?_)
  refine lb_X4_copyFrom_32 C0 KN hA S1 _ _ ?_ _ _ _ hf _ _ _ X (lv_sub hl [1, 2, 0] rfl)
  · intro S0_e58_13 hf H locs ls X hl
    obtain rfl := so_1 hf
    exact x_vret (pc := 58) C0 X dX4_copyFrom_58
set_option maxHeartbeats 4000000 in
set_option maxRecDepth 100000 in
theorem lb_X4_copySignsTo_2 {l : Launch} {p : Program} {e : Env} {s : State} {m : MethodId} {args : Array Value} {below : List Frame} {meth : Method} {c : Code} {G : xG} {A : Nat → Prop} {a b : Nat → Nat} (C0 : xC p s m meth c cX4_copySignsTo 3 (none) RX4 args) (KN : xKN G s) (hA : ∀ q, s.heap.size ≤ q → A q) (S0 : tt_State) (So1 : tt_Row) (k28 : tt_Row → Option tt_Row) (hk28 : ∀ (S1 : tt_Row), k28 S1 = some So1 → ∀ (H : Heap) (locs : List Loc) (ls : Array Slot), xS G A s.heap (wd_State G a S0 ++ wd_Row G b S1) H locs → lv_has ls 3 [(0, .ref (a 0)), (1, .ref (b 0))] → W p l e ({ frames := 0, cells := 0, slots := 0, locals := 0 }) s m args below meth c H locs 0 0 (MQ below (xQo G none A (wd_State G a S0 ++ wd_Row G b So1)) args s 0 0 A) (F0 m 28 ls [])) : ∀ (n : Nat) (S1 : tt_Row) (x2 : Int32), fl_X4_copySignsTo_2 k28 S0 n S1 x2 = some So1 → ∀ (H : Heap) (locs : List Loc) (ls : Array Slot), xS G A s.heap (wd_State G a S0 ++ wd_Row G b S1) H locs → lv_has ls 3 [(0, .ref (a 0)), (1, .ref (b 0)), (2, .int x2)] → W p l e ({ frames := 0, cells := 0, slots := 0, locals := 0 }) s m args below meth c H locs 0 0 (MQ below (xQo G none A (wd_State G a S0 ++ wd_Row G b So1)) args s 0 0 A) (F0 m 2 ls []) := by
  have hx := C0.1
  have hb := C0.2.1
  intro n
  induction n with
  | zero =>
    intro S1 x2 hf
    have hf : none = some So1 := hf
    cases hf
  | succ n ih =>
    intro S1 x2 hf H locs ls X hl
    rw [fl_X4_copySignsTo_2] at hf
    refine lv_iload_n (pc := 2) hx hb dX4_copySignsTo_2 rfl (lv_at hl 2 rfl) ?_
    refine lv_aload_n (pc := 3) hx hb dX4_copySignsTo_3 rfl (lv_at hl 0 rfl) ?_
    refine x_get (pc := 4) (ci := 4) C0 KN X 0 rfl rfl inlX4 1 (by decide) kw_7_2 rfl dX4_copySignsTo_4 ?_
    refine W.eq (g2 := F0 m 7 ls [.int (gf_State_length S0), .int x2]) rfl ?_
    refine lv_icmp_ge (pc := 7) (tgt := 28) hx hb dX4_copySignsTo_7 (by decide) (fun c_1 => ?_) (fun c_1 => ?_)
    · have hf := it_p hf c_1
      exact hk28 _ hf _ _ _ X (lv_sub hl [0, 1] rfl)
    · have hf := it_n hf c_1
      refine lv_aload_n (pc := 10) hx hb dX4_copySignsTo_10 rfl (lv_at hl 1 rfl) ?_
      refine x_get (pc := 11) (ci := 3) C0 KN X 2 rfl rfl inlX3 0 (by decide) kw_9_12 rfl dX4_copySignsTo_11 ?_
      refine lv_iload_n (pc := 14) hx hb dX4_copySignsTo_14 rfl (lv_at hl 2 rfl) ?_
      refine lv_aload_n (pc := 15) hx hb dX4_copySignsTo_15 rfl (lv_at hl 0 rfl) ?_
      refine x_get (pc := 16) (ci := 4) C0 KN X 0 rfl rfl inlX4 0 (by decide) kw_7_1 rfl dX4_copySignsTo_16 ?_
      refine lv_iload_n (pc := 19) hx hb dX4_copySignsTo_19 rfl (lv_at hl 2 rfl) ?_
      obtain ⟨g_2, hf⟩ := gd_e hf
      refine x_ald (pc := 20) C0 KN X 1 rfl g_2 dX4_copySignsTo_20 ?_
      refine W.eq (g2 := F0 m 21 ls [.int ((gf_State_signs S0) x2.toNatClampNeg), .int x2, .ref (b 1)]) rfl ?_
      refine lv_topi (fun y_3 ey_3 => ?_)
      have hf := lt_sb hf ey_3
      obtain ⟨g_4, hf⟩ := gd_e hf
      obtain ⟨S_5, eS_5, hf⟩ := lt_e hf
      refine x_ast (pc := 21) (ws' := wd_State G a S0 ++ wd_Row G b S_5) C0 KN X 3 rfl g_4 (by subst eS_5; rfl) dX4_copySignsTo_21 (fun H locs X => ?_)
      obtain ⟨y_6, ey_6⟩ : ∃ y : Int32, y = x2 + (1 : Int32) := ⟨_, rfl⟩
      have hf := lt_sb hf ey_6
      refine lv_iinc (pc := 22) (v := y_6) (lv' := [(2, .int y_6), (0, .ref (a 0)), (1, .ref (b 0))]) hx hb dX4_copySignsTo_22 hl (k := 2) rfl (by rw [ey_6]; rfl) (by decide) rfl (fun ls hl => ?_)
      refine lv_goto (pc := 25) (tgt := 2) hx hb dX4_copySignsTo_25 (by decide) ?_
      exact ih _ _ hf _ _ _ X (lv_sub hl [1, 2, 0] rfl)
theorem hd_X4_copySignsTo : yX4_copySignsTo.cls ≠ "java/lang/invoke/MethodHandle" ∧ yX4_copySignsTo.cls ≠ "java/lang/invoke/VarHandle" ∧ (parseMethodDescriptor yX4_copySignsTo.desc).map (fun d => d.parameters.length) = some 1 := by decide +kernel
set_option maxHeartbeats 4000000 in
set_option maxRecDepth 100000 in
theorem ct_X4_copySignsTo (l : Launch) (G : xG) (a b : Nat → Nat) (S0 : tt_State) (S1 : tt_Row) (So1 : tt_Row) (hf : fn_X4_copySignsTo S0 S1 = some So1) : xM l yX4_copySignsTo cX4_copySignsTo 3 (none) 0 0 G [.ref (a 0), .ref (b 0)] (wd_State G a S0 ++ wd_Row G b S1) (wd_State G a S0 ++ wd_Row G b So1) none := by
  refine xMi (by decide) (Nat.le_of_ble_eq_true rfl) ?_
  intro p e s m below meth c A C0 KN hA X ls hl
  have hx := C0.1
  have hb := C0.2.1
  have C0 : xC p s m meth c cX4_copySignsTo 3 (none) RX4 _ := C0
  have hl : lv_has ls 3 [(0, .ref (a 0)), (1, .ref (b 0))] := hl
  unfold fn_X4_copySignsTo at hf
  refine lv_iconst (pc := 0) (v := 0) hx hb dX4_copySignsTo_0 (by decide) ?_
  refine lv_istore_n (pc := 1) (lv' := [(2, .int (0 : Int32)), (0, .ref (a 0)), (1, .ref (b 0))]) hx hb dX4_copySignsTo_1 rfl hl (by decide) rfl (fun ls hl => ?_)
  refine lb_X4_copySignsTo_2 C0 KN hA S0 _ _ ?_ _ _ _ hf _ _ _ X (lv_sub hl [1, 2, 0] rfl)
  · intro S1_e28_7 hf H locs ls X hl
    obtain rfl := so_1 hf
    exact x_vret (pc := 28) C0 X dX4_copySignsTo_28
set_option maxHeartbeats 4000000 in
set_option maxRecDepth 100000 in
theorem lb_X5_keep_22 {l : Launch} {p : Program} {e : Env} {s : State} {m : MethodId} {args : Array Value} {below : List Frame} {meth : Method} {c : Code} {G : xG} {A : Nat → Prop} {a b : Nat → Nat} (C0 : xC p s m meth c cX5_keep 2 (none) RX5 args) (KN : xKN G s) (hA : ∀ q, s.heap.size ≤ q → A q) (S1 : tt_Row) (So0 : tt_States) : ∀ (S0 : tt_States) (t1 : Int32), fn_X5_keep_22 S1 S0 t1 = some So0 → ∀ (H : Heap) (locs : List Loc) (ls : Array Slot), xS G A s.heap (wd_States G a S0 ++ wd_Row G b S1) H locs → lv_has ls 2 [(0, .ref (a 0)), (1, .ref (b 0))] → W p l e ({ frames := 1, cells := 0, slots := 0, locals := 22 }) s m args below meth c H locs 0 0 (MQ below (xQo G none A (wd_States G a So0 ++ wd_Row G b S1)) args s 0 0 A) (F0 m 22 ls [.int t1, .ref (a 0)]) := by
  have hx := C0.1
  have hb := C0.2.1
  intro S0 t1 hf H locs ls X hl
  unfold fn_X5_keep_22 at hf
  obtain ⟨S_2, eS_2, hf⟩ := lt_e hf
  refine x_put (pc := 22) (ci := 5) (ws' := wd_States G a S_2 ++ wd_Row G b S1) C0 KN X 0 rfl rfl inlX5 tyX5_ok nmX5 2 (by decide) kw_6_19 rfl rfl rfl (Nat.le_of_ble_eq_true rfl) (by subst eS_2; rfl) dX5_keep_22 (fun H locs X => ?_)
  refine lv_aload_n (pc := 25) hx hb dX5_keep_25 rfl (lv_at hl 0 rfl) ?_
  refine lv_bipush (pc := 26) (v := 6) hx hb dX5_keep_26 (by decide) ?_
  refine lv_aload_n (pc := 28) hx hb dX5_keep_28 rfl (lv_at hl 0 rfl) ?_
  refine x_get (pc := 29) (ci := 5) C0 KN X 0 rfl rfl inlX5 1 (by decide) kw_6_18 rfl dX5_keep_29 ?_
  refine W.eq (g2 := F0 m 32 ls [.int (gf_States_size S_2), .int (6 : Int32), .ref (a 0)]) rfl ?_
  refine lv_iconst (pc := 32) (v := 1) hx hb dX5_keep_32 (by decide) ?_
  refine lv_iadd (pc := 33) hx hb dX5_keep_33 ?_
  refine x_mmin (pc := 34) C0 hl.1 kw_9_0 kw_9_1 kw_9_2 kw_9_3 (by decide) (Nat.le_of_ble_eq_true rfl) ⟨Nat.zero_le _, Nat.zero_le _⟩ dX5_keep_34 ?_
  refine lv_topi (fun y_3 ey_3 => ?_)
  have hf := lt_sb hf ey_3
  obtain ⟨S_4, eS_4, hf⟩ := lt_e hf
  refine x_put (pc := 37) (ci := 5) (ws' := wd_States G a S_4 ++ wd_Row G b S1) C0 KN X 0 rfl rfl inlX5 tyX5_ok nmX5 1 (by decide) kw_6_18 rfl rfl rfl (Nat.le_of_ble_eq_true rfl) (by subst eS_4; rfl) dX5_keep_37 (fun H locs X => ?_)
  refine lv_aload_n (pc := 40) hx hb dX5_keep_40 rfl (lv_at hl 0 rfl) ?_
  refine x_get (pc := 41) (ci := 5) C0 KN X 0 rfl rfl inlX5 0 (by decide) kw_6_17 rfl dX5_keep_41 ?_
  refine lv_aload_n (pc := 44) hx hb dX5_keep_44 rfl (lv_at hl 0 rfl) ?_
  refine x_get (pc := 45) (ci := 5) C0 KN X 0 rfl rfl inlX5 2 (by decide) kw_6_19 rfl dX5_keep_45 ?_
  refine W.eq (g2 := F0 m 48 ls [.int (gf_States_top S_4), .ref (a 1)]) rfl ?_
  obtain ⟨g_5, hf⟩ := gd_e hf
  obtain ⟨j_6, ej_6, hf⟩ := lt_e hf
  have hj_j_6 : j_6 < 6 := by rw [ej_6]; exact Nat.not_le.mp (fun z => g_5 (Or.inr z))
  refine x_aldq (pc := 48) C0 KN X 1 rfl g_5 dX5_keep_48 ?_
  refine W.eq (g2 := F0 m 49 ls [.ref (a (2 + 2 * j_6))]) (by rw [ej_6]; rfl) ?_
  refine lv_aload_n (pc := 49) hx hb dX5_keep_49 rfl (lv_at hl 1 rfl) ?_
  rcases lt6_ hj_j_6 with rfl | rfl | rfl | rfl | rfl | rfl
  · have hl : lv_has ls 2 [(0, .ref (a 0)), (1, .ref (b 0))] := hl
    refine W.eq (g2 := F0 m 50 ls [.ref (b 0), .ref (a 2)]) rfl ?_
    obtain ⟨P_10, h_11, hf⟩ := bd_e hf
    obtain ⟨S_12, eS_12, hf⟩ := lt_e hf
    refine x_cv (pc := 50) (ws' := wd_States G a S_12 ++ wd_Row G b S1) (As := [.ref (b 0)]) (rest := []) (ci := 4) (qr := 2) C0 KN X hA [2, 3, 14, 15, 16, 17, 18, 19, 20, 21, 22, 23, 24] [0, 1, 4, 5, 6, 7, 8, 9, 10, 11, 12, 13] [0, 1, 12, 13, 2, 3, 4, 5, 6, 7, 8, 9, 10, 11, 14, 15, 16, 17, 18, 19, 20, 21, 22, 23, 24] cu_C19 rfl cu_R19 rfl (by decide) (by subst eS_12; exact (cu_J19 (S0 := S_4) (S1 := S1))) rfl (ct_X4_copyFrom l G (fun i => a (2 + i)) b ((gf_States_ring S_4) 0) S1 P_10 h_11) rfl rfl rfl kw_9_7 kw_9_4 kw_9_5 kw_9_6 kw_6_21 hd_X4_copyFrom ⟨by decide, by decide⟩ hl.1 rfl (Nat.le_of_ble_eq_true rfl) ⟨Nat.zero_le _, Nat.zero_le _⟩ dX5_keep_50 (fun H locs X => ?_)
    refine W.eq (g2 := F0 m 53 ls []) rfl ?_
    obtain rfl := so_1 hf
    exact x_vret (pc := 53) C0 X dX5_keep_53
  · have hl : lv_has ls 2 [(0, .ref (a 0)), (1, .ref (b 0))] := hl
    refine W.eq (g2 := F0 m 50 ls [.ref (b 0), .ref (a 4)]) rfl ?_
    obtain ⟨P_13, h_14, hf⟩ := bd_e hf
    obtain ⟨S_15, eS_15, hf⟩ := lt_e hf
    refine x_cv (pc := 50) (ws' := wd_States G a S_15 ++ wd_Row G b S1) (As := [.ref (b 0)]) (rest := []) (ci := 4) (qr := 4) C0 KN X hA [4, 5, 14, 15, 16, 17, 18, 19, 20, 21, 22, 23, 24] [0, 1, 2, 3, 6, 7, 8, 9, 10, 11, 12, 13] [0, 1, 2, 3, 12, 13, 4, 5, 6, 7, 8, 9, 10, 11, 14, 15, 16, 17, 18, 19, 20, 21, 22, 23, 24] cu_C20 rfl cu_R20 rfl (by decide) (by subst eS_15; exact (cu_J20 (S0 := S_4) (S1 := S1))) rfl (ct_X4_copyFrom l G (fun i => a (4 + i)) b ((gf_States_ring S_4) 1) S1 P_13 h_14) rfl rfl rfl kw_9_7 kw_9_4 kw_9_5 kw_9_6 kw_6_21 hd_X4_copyFrom ⟨by decide, by decide⟩ hl.1 rfl (Nat.le_of_ble_eq_true rfl) ⟨Nat.zero_le _, Nat.zero_le _⟩ dX5_keep_50 (fun H locs X => ?_)
    refine W.eq (g2 := F0 m 53 ls []) rfl ?_
    obtain rfl := so_1 hf
    exact x_vret (pc := 53) C0 X dX5_keep_53
  · have hl : lv_has ls 2 [(0, .ref (a 0)), (1, .ref (b 0))] := hl
    refine W.eq (g2 := F0 m 50 ls [.ref (b 0), .ref (a 6)]) rfl ?_
    obtain ⟨P_16, h_17, hf⟩ := bd_e hf
    obtain ⟨S_18, eS_18, hf⟩ := lt_e hf
    refine x_cv (pc := 50) (ws' := wd_States G a S_18 ++ wd_Row G b S1) (As := [.ref (b 0)]) (rest := []) (ci := 4) (qr := 6) C0 KN X hA [6, 7, 14, 15, 16, 17, 18, 19, 20, 21, 22, 23, 24] [0, 1, 2, 3, 4, 5, 8, 9, 10, 11, 12, 13] [0, 1, 2, 3, 4, 5, 12, 13, 6, 7, 8, 9, 10, 11, 14, 15, 16, 17, 18, 19, 20, 21, 22, 23, 24] cu_C21 rfl cu_R21 rfl (by decide) (by subst eS_18; exact (cu_J21 (S0 := S_4) (S1 := S1))) rfl (ct_X4_copyFrom l G (fun i => a (6 + i)) b ((gf_States_ring S_4) 2) S1 P_16 h_17) rfl rfl rfl kw_9_7 kw_9_4 kw_9_5 kw_9_6 kw_6_21 hd_X4_copyFrom ⟨by decide, by decide⟩ hl.1 rfl (Nat.le_of_ble_eq_true rfl) ⟨Nat.zero_le _, Nat.zero_le _⟩ dX5_keep_50 (fun H locs X => ?_)
    refine W.eq (g2 := F0 m 53 ls []) rfl ?_
    obtain rfl := so_1 hf
    exact x_vret (pc := 53) C0 X dX5_keep_53
  · have hl : lv_has ls 2 [(0, .ref (a 0)), (1, .ref (b 0))] := hl
    refine W.eq (g2 := F0 m 50 ls [.ref (b 0), .ref (a 8)]) rfl ?_
    obtain ⟨P_19, h_20, hf⟩ := bd_e hf
    obtain ⟨S_21, eS_21, hf⟩ := lt_e hf
    refine x_cv (pc := 50) (ws' := wd_States G a S_21 ++ wd_Row G b S1) (As := [.ref (b 0)]) (rest := []) (ci := 4) (qr := 8) C0 KN X hA [8, 9, 14, 15, 16, 17, 18, 19, 20, 21, 22, 23, 24] [0, 1, 2, 3, 4, 5, 6, 7, 10, 11, 12, 13] [0, 1, 2, 3, 4, 5, 6, 7, 12, 13, 8, 9, 10, 11, 14, 15, 16, 17, 18, 19, 20, 21, 22, 23, 24] cu_C22 rfl cu_R22 rfl (by decide) (by subst eS_21; exact (cu_J22 (S0 := S_4) (S1 := S1))) rfl (ct_X4_copyFrom l G (fun i => a (8 + i)) b ((gf_States_ring S_4) 3) S1 P_19 h_20) rfl rfl rfl kw_9_7 kw_9_4 kw_9_5 kw_9_6 kw_6_21 hd_X4_copyFrom ⟨by decide, by decide⟩ hl.1 rfl (Nat.le_of_ble_eq_true rfl) ⟨Nat.zero_le _, Nat.zero_le _⟩ dX5_keep_50 (fun H locs X => ?_)
    refine W.eq (g2 := F0 m 53 ls []) rfl ?_
    obtain rfl := so_1 hf
    exact x_vret (pc := 53) C0 X dX5_keep_53
  · have hl : lv_has ls 2 [(0, .ref (a 0)), (1, .ref (b 0))] := hl
    refine W.eq (g2 := F0 m 50 ls [.ref (b 0), .ref (a 10)]) rfl ?_
    obtain ⟨P_22, h_23, hf⟩ := bd_e hf
    obtain ⟨S_24, eS_24, hf⟩ := lt_e hf
    refine x_cv (pc := 50) (ws' := wd_States G a S_24 ++ wd_Row G b S1) (As := [.ref (b 0)]) (rest := []) (ci := 4) (qr := 10) C0 KN X hA [10, 11, 14, 15, 16, 17, 18, 19, 20, 21, 22, 23, 24] [0, 1, 2, 3, 4, 5, 6, 7, 8, 9, 12, 13] [0, 1, 2, 3, 4, 5, 6, 7, 8, 9, 12, 13, 10, 11, 14, 15, 16, 17, 18, 19, 20, 21, 22, 23, 24] cu_C23 rfl cu_R23 rfl (by decide) (by subst eS_24; exact (cu_J23 (S0 := S_4) (S1 := S1))) rfl (ct_X4_copyFrom l G (fun i => a (10 + i)) b ((gf_States_ring S_4) 4) S1 P_22 h_23) rfl rfl rfl kw_9_7 kw_9_4 kw_9_5 kw_9_6 kw_6_21 hd_X4_copyFrom ⟨by decide, by decide⟩ hl.1 rfl (Nat.le_of_ble_eq_true rfl) ⟨Nat.zero_le _, Nat.zero_le _⟩ dX5_keep_50 (fun H locs X => ?_)
    refine W.eq (g2 := F0 m 53 ls []) rfl ?_
    obtain rfl := so_1 hf
    exact x_vret (pc := 53) C0 X dX5_keep_53
  · have hl : lv_has ls 2 [(0, .ref (a 0)), (1, .ref (b 0))] := hl
    refine W.eq (g2 := F0 m 50 ls [.ref (b 0), .ref (a 12)]) rfl ?_
    obtain ⟨P_25, h_26, hf⟩ := bd_e hf
    obtain ⟨S_27, eS_27, hf⟩ := lt_e hf
    refine x_cv (pc := 50) (ws' := wd_States G a S_27 ++ wd_Row G b S1) (As := [.ref (b 0)]) (rest := []) (ci := 4) (qr := 12) C0 KN X hA [12, 13, 14, 15, 16, 17, 18, 19, 20, 21, 22, 23, 24] [0, 1, 2, 3, 4, 5, 6, 7, 8, 9, 10, 11] [0, 1, 2, 3, 4, 5, 6, 7, 8, 9, 10, 11, 12, 13, 14, 15, 16, 17, 18, 19, 20, 21, 22, 23, 24] cu_C24 rfl cu_R24 rfl (by decide) (by subst eS_27; exact (cu_J24 (S0 := S_4) (S1 := S1))) rfl (ct_X4_copyFrom l G (fun i => a (12 + i)) b ((gf_States_ring S_4) 5) S1 P_25 h_26) rfl rfl rfl kw_9_7 kw_9_4 kw_9_5 kw_9_6 kw_6_21 hd_X4_copyFrom ⟨by decide, by decide⟩ hl.1 rfl (Nat.le_of_ble_eq_true rfl) ⟨Nat.zero_le _, Nat.zero_le _⟩ dX5_keep_50 (fun H locs X => ?_)
    refine W.eq (g2 := F0 m 53 ls []) rfl ?_
    obtain rfl := so_1 hf
    exact x_vret (pc := 53) C0 X dX5_keep_53
theorem hd_X5_keep : yX5_keep.cls ≠ "java/lang/invoke/MethodHandle" ∧ yX5_keep.cls ≠ "java/lang/invoke/VarHandle" ∧ (parseMethodDescriptor yX5_keep.desc).map (fun d => d.parameters.length) = some 1 := by decide +kernel
set_option maxHeartbeats 4000000 in
set_option maxRecDepth 100000 in
theorem ct_X5_keep (l : Launch) (G : xG) (a b : Nat → Nat) (S0 : tt_States) (S1 : tt_Row) (So0 : tt_States) (hf : fn_X5_keep S0 S1 = some So0) : xM l yX5_keep cX5_keep 2 (none) 1 22 G [.ref (a 0), .ref (b 0)] (wd_States G a S0 ++ wd_Row G b S1) (wd_States G a So0 ++ wd_Row G b S1) none := by
  refine xMi (by decide) (Nat.le_of_ble_eq_true rfl) ?_
  intro p e s m below meth c A C0 KN hA X ls hl
  have hx := C0.1
  have hb := C0.2.1
  have C0 : xC p s m meth c cX5_keep 2 (none) RX5 _ := C0
  have hl : lv_has ls 2 [(0, .ref (a 0)), (1, .ref (b 0))] := hl
  unfold fn_X5_keep at hf
  refine lv_aload_n (pc := 0) hx hb dX5_keep_0 rfl (lv_at hl 0 rfl) ?_
  refine lv_aload_n (pc := 1) hx hb dX5_keep_1 rfl (lv_at hl 0 rfl) ?_
  refine x_get (pc := 2) (ci := 5) C0 KN X 0 rfl rfl inlX5 2 (by decide) kw_6_19 rfl dX5_keep_2 ?_
  refine W.eq (g2 := F0 m 5 ls [.int (gf_States_top S0), .ref (a 0)]) rfl ?_
  refine lv_iconst (pc := 5) (v := 1) hx hb dX5_keep_5 (by decide) ?_
  refine lv_iadd (pc := 6) hx hb dX5_keep_6 ?_
  refine lv_bipush (pc := 7) (v := 6) hx hb dX5_keep_7 (by decide) ?_
  refine lv_icmp_ge (pc := 9) (tgt := 21) hx hb dX5_keep_9 (by decide) (fun c_1 => ?_) (fun c_1 => ?_)
  · have hf := it_p hf c_1
    refine lv_iconst (pc := 21) (v := 0) hx hb dX5_keep_21 (by decide) ?_
    exact lb_X5_keep_22 C0 KN hA S1 _  _ _ hf _ _ _ X (lv_sub hl [0, 1] rfl)
  · have hf := it_n hf c_1
    refine lv_aload_n (pc := 12) hx hb dX5_keep_12 rfl (lv_at hl 0 rfl) ?_
    refine x_get (pc := 13) (ci := 5) C0 KN X 0 rfl rfl inlX5 2 (by decide) kw_6_19 rfl dX5_keep_13 ?_
    refine W.eq (g2 := F0 m 16 ls [.int (gf_States_top S0), .ref (a 0)]) rfl ?_
    refine lv_iconst (pc := 16) (v := 1) hx hb dX5_keep_16 (by decide) ?_
    refine lv_iadd (pc := 17) hx hb dX5_keep_17 ?_
    refine lv_goto (pc := 18) (tgt := 22) hx hb dX5_keep_18 (by decide) ?_
    exact lb_X5_keep_22 C0 KN hA S1 _  _ _ hf _ _ _ X (lv_sub hl [0, 1] rfl)
set_option maxHeartbeats 4000000 in
set_option maxRecDepth 100000 in
theorem lb_X5_release_28 {l : Launch} {p : Program} {e : Env} {s : State} {m : MethodId} {args : Array Value} {below : List Frame} {meth : Method} {c : Code} {G : xG} {A : Nat → Prop} {a : Nat → Nat} (C0 : xC p s m meth c cX5_release 2 (some (.object "TreeOdds$State")) RX5 args) (KN : xKN G s) (hA : ∀ q, s.heap.size ≤ q → A q) (ro : Nat) (So0 : tt_States) : ∀ (S0 : tt_States) (j1 : Nat) (t1 : Int32), fn_X5_release_28 S0 j1 t1 = some (ro, So0) → ∀ (H : Heap) (locs : List Loc) (ls : Array Slot), xS G A s.heap (wd_States G a S0) H locs → lv_has ls 2 [(0, .ref (a 0)), (1, .ref (a (2 + 2 * j1)))] → W p l e ({ frames := 1, cells := 0, slots := 0, locals := 21 }) s m args below meth c H locs 0 0 (MQ below (xQo G (some (.ref (a (2 + 2 * ro)))) A (wd_States G a So0)) args s 0 0 A) (F0 m 28 ls [.int t1, .ref (a 0)]) := by
  have hx := C0.1
  have hb := C0.2.1
  intro S0 j1 t1 hf H locs ls X hl
  unfold fn_X5_release_28 at hf
  obtain ⟨S_4, eS_4, hf⟩ := lt_e hf
  refine x_put (pc := 28) (ci := 5) (ws' := wd_States G a S_4) C0 KN X 0 rfl rfl inlX5 tyX5_ok nmX5 2 (by decide) kw_6_19 rfl rfl rfl (Nat.le_of_ble_eq_true rfl) (by subst eS_4; rfl) dX5_release_28 (fun H locs X => ?_)
  refine lv_aload_n (pc := 31) hx hb dX5_release_31 rfl (lv_at hl 0 rfl) ?_
  refine lv_iconst (pc := 32) (v := 0) hx hb dX5_release_32 (by decide) ?_
  refine lv_aload_n (pc := 33) hx hb dX5_release_33 rfl (lv_at hl 0 rfl) ?_
  refine x_get (pc := 34) (ci := 5) C0 KN X 0 rfl rfl inlX5 1 (by decide) kw_6_18 rfl dX5_release_34 ?_
  refine W.eq (g2 := F0 m 37 ls [.int (gf_States_size S_4), .int (0 : Int32), .ref (a 0)]) rfl ?_
  refine lv_iconst (pc := 37) (v := 1) hx hb dX5_release_37 (by decide) ?_
  refine lv_isub (pc := 38) hx hb dX5_release_38 ?_
  refine x_mmax (pc := 39) C0 hl.1 kw_32_4 kw_30_6 kw_9_2 kw_30_7 (by decide) (Nat.le_of_ble_eq_true rfl) ⟨Nat.zero_le _, Nat.zero_le _⟩ dX5_release_39 ?_
  refine lv_topi (fun y_5 ey_5 => ?_)
  have hf := lt_sb hf ey_5
  obtain ⟨S_6, eS_6, hf⟩ := lt_e hf
  refine x_put (pc := 42) (ci := 5) (ws' := wd_States G a S_6) C0 KN X 0 rfl rfl inlX5 tyX5_ok nmX5 1 (by decide) kw_6_18 rfl rfl rfl (Nat.le_of_ble_eq_true rfl) (by subst eS_6; rfl) dX5_release_42 (fun H locs X => ?_)
  refine lv_aload_n (pc := 45) hx hb dX5_release_45 rfl (lv_at hl 1 rfl) ?_
  obtain ⟨rfl, rfl⟩ := so_2 hf
  exact x_aret (pc := 46) C0 X dX5_release_46
theorem hd_X5_release : yX5_release.cls ≠ "java/lang/invoke/MethodHandle" ∧ yX5_release.cls ≠ "java/lang/invoke/VarHandle" ∧ (parseMethodDescriptor yX5_release.desc).map (fun d => d.parameters.length) = some 0 := by decide +kernel
set_option maxHeartbeats 4000000 in
set_option maxRecDepth 100000 in
theorem ct_X5_release (l : Launch) (G : xG) (a : Nat → Nat) (S0 : tt_States) (ro : Nat) (So0 : tt_States) (hf : fn_X5_release S0 = some (ro, So0)) : xM l yX5_release cX5_release 2 (some (.object "TreeOdds$State")) 1 21 G [.ref (a 0)] (wd_States G a S0) (wd_States G a So0) (some (.ref (a (2 + 2 * ro)))) := by
  refine xMi (by decide) (Nat.le_of_ble_eq_true rfl) ?_
  intro p e s m below meth c A C0 KN hA X ls hl
  have hx := C0.1
  have hb := C0.2.1
  have C0 : xC p s m meth c cX5_release 2 (some (.object "TreeOdds$State")) RX5 _ := C0
  have hl : lv_has ls 2 [(0, .ref (a 0))] := hl
  unfold fn_X5_release at hf
  refine lv_aload_n (pc := 0) hx hb dX5_release_0 rfl (lv_at hl 0 rfl) ?_
  refine x_get (pc := 1) (ci := 5) C0 KN X 0 rfl rfl inlX5 0 (by decide) kw_6_17 rfl dX5_release_1 ?_
  refine lv_aload_n (pc := 4) hx hb dX5_release_4 rfl (lv_at hl 0 rfl) ?_
  refine x_get (pc := 5) (ci := 5) C0 KN X 0 rfl rfl inlX5 2 (by decide) kw_6_19 rfl dX5_release_5 ?_
  refine W.eq (g2 := F0 m 8 ls [.int (gf_States_top S0), .ref (a 1)]) rfl ?_
  obtain ⟨g_1, hf⟩ := gd_e hf
  obtain ⟨j_2, ej_2, hf⟩ := lt_e hf
  have hj_j_2 : j_2 < 6 := by rw [ej_2]; exact Nat.not_le.mp (fun z => g_1 (Or.inr z))
  refine x_aldq (pc := 8) C0 KN X 1 rfl g_1 dX5_release_8 ?_
  refine W.eq (g2 := F0 m 9 ls [.ref (a (2 + 2 * j_2))]) (by rw [ej_2]; rfl) ?_
  refine lv_astore_n (pc := 9) (lv' := [(1, .ref (a (2 + 2 * j_2))), (0, .ref (a 0))]) hx hb dX5_release_9 rfl hl (by decide) rfl (fun ls hl => ?_)
  refine lv_aload_n (pc := 10) hx hb dX5_release_10 rfl (lv_at hl 1 rfl) ?_
  refine lv_aload_n (pc := 11) hx hb dX5_release_11 rfl (lv_at hl 1 rfl) ?_
  refine x_get (pc := 12) (ci := 5) C0 KN X 0 rfl rfl inlX5 2 (by decide) kw_6_19 rfl dX5_release_12 ?_
  refine W.eq (g2 := F0 m 15 ls [.int (gf_States_top S0), .ref (a 0)]) rfl ?_
  refine lv_if_le (pc := 15) (tgt := 27) hx hb dX5_release_15 (by decide) (fun c_3 => ?_) (fun c_3 => ?_)
  · have hf := it_p hf c_3
    refine lv_iconst (pc := 27) (v := 5) hx hb dX5_release_27 (by decide) ?_
    exact lb_X5_release_28 C0 KN hA _ _  _ _ _ hf _ _ _ X (lv_sub hl [1, 0] rfl)
  · have hf := it_n hf c_3
    refine lv_aload_n (pc := 18) hx hb dX5_release_18 rfl (lv_at hl 1 rfl) ?_
    refine x_get (pc := 19) (ci := 5) C0 KN X 0 rfl rfl inlX5 2 (by decide) kw_6_19 rfl dX5_release_19 ?_
    refine W.eq (g2 := F0 m 22 ls [.int (gf_States_top S0), .ref (a 0)]) rfl ?_
    refine lv_iconst (pc := 22) (v := 1) hx hb dX5_release_22 (by decide) ?_
    refine lv_isub (pc := 23) hx hb dX5_release_23 ?_
    refine lv_goto (pc := 24) (tgt := 28) hx hb dX5_release_24 (by decide) ?_
    exact lb_X5_release_28 C0 KN hA _ _  _ _ _ hf _ _ _ X (lv_sub hl [1, 0] rfl)
