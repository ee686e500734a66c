def fn_X9_ownOf_134 (S0 : tt_Model) (x4 : Int32) (t0 : Int32) : Option Int32 :=
  gd_ (¬ t0.toInt64 = 0) (bd_ (fn_X9_held (((65536 : Int64) * x4.toInt64) / t0.toInt64)) fun r_10 => some r_10)
def fn_X9_ownOf_87 (S0 : tt_Model) (x2 : Int32) (x3 : Int32) (t0 : Int32) : Option Int32 :=
  if (gf_Model_byGuesser S0) = (1 : Int32) then fn_X9_ownOf_134 S0 t0 ((x2 + x3) + (2 : Int32)) else if (gf_Model_byGuesser S0) = (2 : Int32) then fn_X9_ownOf_134 S0 t0 ((((4 : Int32) * x2) + ((4 : Int32) * x3)) + (2 : Int32)) else fn_X9_ownOf_134 S0 t0 ((((2 : Int32) * x2) + ((2 : Int32) * x3)) + (2 : Int32))
def fn_X9_ownOf_51 (S0 : tt_Model) (x2 : Int32) (t0 : Int32) : Option Int32 :=
  if (gf_Model_byGuesser S0) = (1 : Int32) then fn_X9_ownOf_87 S0 x2 t0 (t0 + (1 : Int32)) else if (gf_Model_byGuesser S0) = (2 : Int32) then fn_X9_ownOf_87 S0 x2 t0 (((4 : Int32) * t0) + (1 : Int32)) else fn_X9_ownOf_87 S0 x2 t0 (((2 : Int32) * t0) + (1 : Int32))
def fn_X9_ownOf_25 (S0 : tt_Model) (x1 : Int32) (t0 : Int32) : Option Int32 :=
  if (gf_Model_byGuesser S0) = (3 : Int32) then gd_ (ix_ x1 127) (fn_X9_ownOf_51 S0 t0 (((gf_Model_ones S0) x1.toNatClampNeg) / (2 : Int32))) else gd_ (ix_ x1 127) (fn_X9_ownOf_51 S0 t0 ((gf_Model_ones S0) x1.toNatClampNeg))
def fn_X9_ownOf (S0 : tt_Model) (x1 : Int32) : Option Int32 :=
  if (gf_Model_byGuesser S0) = (3 : Int32) then gd_ (ix_ x1 127) (fn_X9_ownOf_25 S0 x1 (((gf_Model_noughts S0) x1.toNatClampNeg) / (2 : Int32))) else gd_ (ix_ x1 127) (fn_X9_ownOf_25 S0 x1 ((gf_Model_noughts S0) x1.toNatClampNeg))
def fn_X9_guesses_70 (k4 : tt_Model → Int32 → Int32 → Option (Int32 × tt_Model)) (S0 : tt_Model) (x2 : Int32) (t0 : Int32) (t1 : Int32) : Option (Int32 × tt_Model) :=
  lt_ (t0 ||| t1) fun y_12 => lt_ (x2 + (1 : Int32)) fun y_13 => k4 S0 y_12 y_13
def fl_X9_guesses_4 (k78 : tt_Model → Option (Int32 × tt_Model)) : Nat → tt_Model → Int32 → Int32 → Option (Int32 × tt_Model)
  | 0, _, _, _ => none
  | n + 1, S0, x1, x2 =>
  if (gf_Model_byDepth S0) < x2 then k78 S0 else bd_ (fn_X9_nodeOf x2 x1) fun r_2 => gd_ (ix_ x2 7) (lt_ (sf_Model_way S0 (upd (gf_Model_way S0) x2.toNatClampNeg r_2)) fun S_5 => gd_ (ix_ x2 7) (bd_ (fn_X9_ownOf S_5 ((gf_Model_way S_5) x2.toNatClampNeg)) fun r_7 => gd_ (ix_ x2 7) (lt_ (sf_Model_own S_5 (upd (gf_Model_own S_5) x2.toNatClampNeg r_7)) fun S_10 => if (((gf_Model_came S_10) - (1 : Int32)) - x2) < 0 then fn_X9_guesses_70 (fl_X9_guesses_4 k78 n) S_10 x2 x1 (0 : Int32) else gd_ (ix_ (((gf_Model_came S_10) - (1 : Int32)) - x2) 128) (fn_X9_guesses_70 (fl_X9_guesses_4 k78 n) S_10 x2 x1 (((gf_Model_line S_10) (((gf_Model_came S_10) - (1 : Int32)) - x2).toNatClampNeg) <<< (x2 &&& 31))))))
def fl_X9_guesses_103 (k164 : tt_Model → Option (Int32 × tt_Model)) : Nat → tt_Model → Int32 → Option (Int32 × tt_Model)
  | 0, _, _ => none
  | n + 1, S0, x2 =>
  if x2 < 0 then k164 S0 else gd_ (ix_ x2 7) (gd_ (ix_ ((gf_Model_way S0) x2.toNatClampNeg) 127) (lt_ (((gf_Model_weights S0) ((gf_Model_way S0) x2.toNatClampNeg).toNatClampNeg).toInt64) fun y_24 => gd_ (ix_ x2 7) (gd_ (ix_ (x2 + (1 : Int32)) 7) (bd_ (fn_X9_held (((y_24 * (((gf_Model_own S0) x2.toNatClampNeg).toInt64)) + (((65536 : Int64) - y_24) * (((gf_Model_mixed S0) (x2 + (1 : Int32)).toNatClampNeg).toInt64))) / (65536 : Int64))) fun r_27 => gd_ (ix_ x2 7) (lt_ (sf_Model_mixed S0 (upd (gf_Model_mixed S0) x2.toNatClampNeg r_27)) fun S_30 => lt_ (x2 + (-1 : Int32)) fun y_31 => fl_X9_guesses_103 k164 n S_30 y_31)))))
def fn_X9_guesses (S0 : tt_Model) : Option (Int32 × tt_Model) :=
  fl_X9_guesses_4 (fun (S0_e78_15 : tt_Model) => gd_ (ix_ (gf_Model_byDepth S0_e78_15) 7) (lt_ ((gf_Model_own S0_e78_15) (gf_Model_byDepth S0_e78_15).toNatClampNeg) fun y_17 => gd_ (ix_ (gf_Model_byDepth S0_e78_15) 7) (lt_ (sf_Model_mixed S0_e78_15 (upd (gf_Model_mixed S0_e78_15) (gf_Model_byDepth S0_e78_15).toNatClampNeg y_17)) fun S_19 => lt_ ((gf_Model_byDepth S_19) - (1 : Int32)) fun y_20 => fl_X9_guesses_103 (fun (S0_e164_32 : tt_Model) => gd_ (ix_ (0 : Int32) 7) (some ((gf_Model_mixed S0_e164_32) (0 : Int32).toNatClampNeg, S0_e164_32))) fu_ S_19 y_20))) fu_ S0 (0 : Int32) (0 : Int32)
def fn_X9_comes_116 (k2 : tt_Model → Int32 → Int32 → Option tt_Model) (S0 : tt_Model) (x1 : Int32) (x2 : Int32) (t1 : Int32) (t2 : Int32) : Option tt_Model :=
  gd_ (ix_ t1 127) (lt_ (sf_Model_weights S0 (upd (gf_Model_weights S0) t1.toNatClampNeg t2)) fun S_19 => lt_ (x2 + (1 : Int32)) fun y_20 => k2 S_19 x1 y_20)
def fl_X9_comes_2 (k123 : tt_Model → Int32 → Option tt_Model) : Nat → tt_Model → Int32 → Int32 → Option tt_Model
  | 0, _, _, _ => none
  | n + 1, S0, x1, x2 =>
  if (gf_Model_byDepth S0) ≤ x2 then k123 S0 x1 else gd_ (ix_ x2 7) (gd_ (ix_ ((gf_Model_way S0) x2.toNatClampNeg) 127) (lt_ (((gf_Model_weights S0) ((gf_Model_way S0) x2.toNatClampNeg).toNatClampNeg).toInt64) fun y_4 => gd_ (ix_ x2 7) (bd_ (fn_X9_odds ((gf_Model_own S0) x2.toNatClampNeg) x1) fun r_6 => lt_ (r_6.toInt64) fun y_8 => gd_ (ix_ (x2 + (1 : Int32)) 7) (bd_ (fn_X9_odds ((gf_Model_mixed S0) (x2 + (1 : Int32)).toNatClampNeg) x1) fun r_10 => lt_ (r_10.toInt64) fun y_12 => gd_ (¬ (y_4 * y_8) + (((65536 : Int64) - y_4) * y_12) = 0) (lt_ (((65536 : Int64) * (y_4 * y_8)) / ((y_4 * y_8) + (((65536 : Int64) - y_4) * y_12))) fun y_14 => gd_ (ix_ x2 7) (if (64 : Int64) ≤ y_14 then if y_14 ≤ (65472 : Int64) then fn_X9_comes_116 (fl_X9_comes_2 k123 n) S0 x1 x2 ((gf_Model_way S0) x2.toNatClampNeg) y_14.toInt32 else fn_X9_comes_116 (fl_X9_comes_2 k123 n) S0 x1 x2 ((gf_Model_way S0) x2.toNatClampNeg) (65472 : Int32) else fn_X9_comes_116 (fl_X9_comes_2 k123 n) S0 x1 x2 ((gf_Model_way S0) x2.toNatClampNeg) (64 : Int32)))))))
def fn_X9_comes_226 (k125 : tt_Model → Int32 → Int32 → Option tt_Model) (S0 : tt_Model) (x1 : Int32) (x2 : Int32) : Option tt_Model :=
  lt_ (x2 + (1 : Int32)) fun y_52 => k125 S0 x1 y_52
def fn_X9_comes_206 (k125 : tt_Model → Int32 → Int32 → Option tt_Model) (S0 : tt_Model) (x1 : Int32) (x2 : Int32) (x3 : Int32) : Option tt_Model :=
  gd_ (ix_ x3 127) (lt_ (((gf_Model_noughts S0) x3.toNatClampNeg) / (2 : Int32)) fun y_45 => gd_ (ix_ x3 127) (lt_ (sf_Model_noughts S0 (upd (gf_Model_noughts S0) x3.toNatClampNeg y_45)) fun S_47 => gd_ (ix_ x3 127) (lt_ (((gf_Model_ones S_47) x3.toNatClampNeg) / (2 : Int32)) fun y_49 => gd_ (ix_ x3 127) (lt_ (sf_Model_ones S_47 (upd (gf_Model_ones S_47) x3.toNatClampNeg y_49)) fun S_51 => fn_X9_comes_226 k125 S_51 x1 x2))))
def fl_X9_comes_125 (k232 : tt_Model → Int32 → Option tt_Model) : Nat → tt_Model → Int32 → Int32 → Option tt_Model
  | 0, _, _, _ => none
  | n + 1, S0, x1, x2 =>
  if (gf_Model_byDepth S0) < x2 then k232 S0 x1 else gd_ (ix_ x2 7) (lt_ ((gf_Model_way S0) x2.toNatClampNeg) fun y_24 => gd_ (ix_ y_24 127) (gd_ (ix_ x2 7) (bd_ (fn_X9_odds ((gf_Model_own S0) x2.toNatClampNeg) x1) fun r_27 => bd_ (fn_X9_bitsOf r_27) fun r_29 => lt_ (((gf_Model_ownCost S0) y_24.toNatClampNeg) + r_29) fun y_31 => gd_ (ix_ y_24 127) (lt_ (sf_Model_ownCost S0 (upd (gf_Model_ownCost S0) y_24.toNatClampNeg y_31)) fun S_33 => gd_ (ix_ y_24 127) (lt_ (((gf_Model_noughts S_33) y_24.toNatClampNeg) + ((1 : Int32) - x1)) fun y_35 => gd_ (ix_ y_24 127) (lt_ (sf_Model_noughts S_33 (upd (gf_Model_noughts S_33) y_24.toNatClampNeg y_35)) fun S_37 => gd_ (ix_ y_24 127) (lt_ (((gf_Model_ones S_37) y_24.toNatClampNeg) + x1) fun y_39 => gd_ (ix_ y_24 127) (lt_ (sf_Model_ones S_37 (upd (gf_Model_ones S_37) y_24.toNatClampNeg y_39)) fun S_41 => gd_ (ix_ y_24 127) (if (60 : Int32) < ((gf_Model_noughts S_41) y_24.toNatClampNeg) then fn_X9_comes_206 (fl_X9_comes_125 k232 n) S_41 x1 x2 y_24 else gd_ (ix_ y_24 127) (if ((gf_Model_ones S_41) y_24.toNatClampNeg) ≤ (60 : Int32) then fn_X9_comes_226 (fl_X9_comes_125 k232 n) S_41 x1 x2 else fn_X9_comes_206 (fl_X9_comes_125 k232 n) S_41 x1 x2 y_24))))))))))
def fn_X9_comes (S0 : tt_Model) (x1 : Int32) : Option tt_Model :=
  fl_X9_comes_2 (fun (S0_e123_21 : tt_Model) (x1_e123_21 : Int32) => fl_X9_comes_125 (fun (S0_e232_55 : tt_Model) (x1_e232_55 : Int32) => gd_ (ix_ (0 : Int32) 7) (lt_ ((gf_Model_mixed S0_e232_55) (0 : Int32).toNatClampNeg) fun y_57 => gd_ (ix_ (gf_Model_came S0_e232_55) 128) (lt_ (sf_Model_guessAt S0_e232_55 (upd (gf_Model_guessAt S0_e232_55) (gf_Model_came S0_e232_55).toNatClampNeg y_57)) fun S_59 => gd_ (ix_ (gf_Model_came S_59) 128) (lt_ (sf_Model_line S_59 (upd (gf_Model_line S_59) (gf_Model_came S_59).toNatClampNeg x1_e232_55)) fun S_61 => lt_ ((gf_Model_came S_61) + (1 : Int32)) fun y_62 => lt_ (sf_Model_came S_61 y_62) fun S_63 => some S_63)))) fu_ S0_e123_21 x1_e123_21 (0 : Int32)) fu_ S0 x1 (0 : Int32)
def fl_X9_goes_11 (k57 : tt_Model → Int32 → Option (Int32 × tt_Model)) : Nat → tt_Model → Int32 → Int32 → Option (Int32 × tt_Model)
  | 0, _, _, _ => none
  | n + 1, S0, x3, x4 =>
  bd_ (fn_X9_many S0) fun r_3 => if r_3 ≤ x4 then k57 S0 x3 else b2_ (fn_X9_guesses S0) fun r_6 P_7 => gd_ (ix_ x4 103) (bd_ (fn_X9_odds r_6 ((gf_Model_now P_7) x4.toNatClampNeg)) fun r_10 => bd_ (fn_X9_bitsOf r_10) fun r_12 => lt_ (x3 + r_12) fun y_14 => gd_ (ix_ x4 103) (bd_ (fn_X9_comes P_7 ((gf_Model_now P_7) x4.toNatClampNeg)) fun P_16 => lt_ (x4 + (1 : Int32)) fun y_18 => fl_X9_goes_11 k57 n P_16 y_14 y_18))
def fn_X9_goes (S0 : tt_Model) (x1 : Int32) (x2 : Int32) : Option (Int32 × tt_Model) :=
  bd_ (fn_X9_begins S0 x1 x2) fun P_1 => fl_X9_goes_11 (fun (S0_e57_19 : tt_Model) (x3_e57_19 : Int32) => some (x3_e57_19, S0_e57_19)) fu_ P_1 (0 : Int32) (0 : Int32)
def fn_X9_goesNow (S0 : tt_Model) : Option (Int32 × tt_Model) :=
  bd_ (fn_X9_depth S0) fun r_1 => bd_ (fn_X9_guesser S0) fun r_3 => b2_ (fn_X9_goes S0 r_1 r_3) fun r_5 P_6 => some (r_5, P_6)
def fn_X9_costAt (S0 : tt_Model) (x1 : Int32) : Option Int32 :=
  gd_ (ix_ x1 128) (gd_ (ix_ x1 103) (bd_ (fn_X9_odds ((gf_Model_guessAt S0) x1.toNatClampNeg) ((gf_Model_now S0) x1.toNatClampNeg)) fun r_3 => bd_ (fn_X9_bitsOf r_3) fun r_5 => some r_5))
def fn_X9_adds (S0 : tt_Model) (x1 : Int32) : Option tt_Model :=
  bd_ (fn_X9_many S0) fun r_1 => gd_ (ix_ r_1 103) (lt_ (sf_Model_now S0 (upd (gf_Model_now S0) r_1.toNatClampNeg x1)) fun S_4 => gd_ (ix_ (100 : Int32) 103) (lt_ (((gf_Model_now S_4) (100 : Int32).toNatClampNeg) + (1 : Int32)) fun y_6 => gd_ (ix_ (100 : Int32) 103) (lt_ (sf_Model_now S_4 (upd (gf_Model_now S_4) (100 : Int32).toNatClampNeg y_6)) fun S_8 => some S_8)))
def fl_X9_costFrom_10 (k34 : tt_Model → Int32 → Option (Int32 × tt_Model)) : Nat → tt_Model → Int32 → Int32 → Option (Int32 × tt_Model)
  | 0, _, _, _ => none
  | n + 1, S0, x2, x4 =>
  bd_ (fn_X9_many S0) fun r_4 => if r_4 ≤ x4 then k34 S0 x2 else bd_ (fn_X9_costAt S0 x4) fun r_7 => lt_ (x2 + r_7) fun y_9 => lt_ (x4 + (1 : Int32)) fun y_10 => fl_X9_costFrom_10 k34 n S0 y_9 y_10
def fn_X9_costFrom (S0 : tt_Model) (x1 : Int32) : Option (Int32 × tt_Model) :=
  b2_ (fn_X9_goesNow S0) fun r_1 P_2 => fl_X9_costFrom_10 (fun (S0_e34_11 : tt_Model) (x2_e34_11 : Int32) => some (x2_e34_11, S0_e34_11)) fu_ P_2 (0 : Int32) x1
theorem cu_C49 {G : xG} {a : Nat → Nat} {S0 : tt_Model} : [0, 1, 2, 3, 4, 5, 6, 7, 8, 9, 10, 11, 12, 13, 14, 15, 16, 17, 18].map (fun i => (wd_Model G a S0)[i]?) = (wd_Model G a S0 : va_W).map some := rfl
theorem cu_R49 {G : xG} {a : Nat → Nat} {S0 : tt_Model} : ([] : List Nat).map (fun i => (wd_Model G a S0)[i]?) = ([] : va_W).map some := rfl
theorem cu_J49 {G : xG} {a : Nat → Nat} {S0 : tt_Model}  : [0, 1, 2, 3, 4, 5, 6, 7, 8, 9, 10, 11, 12, 13, 14, 15, 16, 17, 18].map (fun i => (([] : va_W) ++ (wd_Model G a S0))[i]?) = (wd_Model G a S0 : va_W).map some := rfl
theorem cu_C50 {G : xG} {a : Nat → Nat} {S0 : tt_Model} : [0, 1, 2, 3, 4, 5, 6, 7, 8, 9, 10, 11, 12, 13, 14, 15, 16, 17, 18].map (fun i => (wd_Model G a S0)[i]?) = (wd_Model G a S0 : va_W).map some := rfl
theorem cu_R50 {G : xG} {a : Nat → Nat} {S0 : tt_Model} : ([] : List Nat).map (fun i => (wd_Model G a S0)[i]?) = ([] : va_W).map some := rfl
theorem cu_J50 {G : xG} {a : Nat → Nat} {S0 : tt_Model} {P0 : tt_Model} : [0, 1, 2, 3, 4, 5, 6, 7, 8, 9, 10, 11, 12, 13, 14, 15, 16, 17, 18].map (fun i => (([] : va_W) ++ (wd_Model G a P0))[i]?) = (wd_Model G a P0 : va_W).map some := rfl
set_option maxHeartbeats 4000000 in
set_option maxRecDepth 100000 in
theorem lb_X9_ownOf_134 {l : Launch} {p : Program} {e : Env} {s : State} {m : MethodId} {args : Array Value} {below : List Frame} {meth : Method} {c : Code} {G : xG} {A : Nat → Prop} {a : Nat → Nat} (C0 : xC p s m meth c cX9_ownOf 6 (some .int) RX9 args) (KN : xKN G s) (hA : ∀ q, s.heap.size ≤ q → A q) (S0 : tt_Model) (ro : Int32) : ∀ (x4 : Int32) (t0 : Int32), fn_X9_ownOf_134 S0 x4 t0 = some ro → ∀ (H : Heap) (locs : List Loc) (ls : Array Slot), xS G A s.heap (wd_Model G a S0) H locs → lv_has ls 6 [(0, .ref (a 0)), (4, .int x4)] → W p l e ({ frames := 1, cells := 0, slots := 0, locals := 21 }) s m args below meth c H locs 0 0 (MQ below (xQo G (some (.int ro)) A (wd_Model G a S0)) args s 0 0 A) (F0 m 134 ls [.int t0]) := by
  have hx := C0.1
  have hb := C0.2.1
  intro x4 t0 hf H locs ls X hl
  unfold fn_X9_ownOf_134 at hf
  refine lv_istore (pc := 134) (lv' := [(5, .int t0), (0, .ref (a 0)), (4, .int x4)]) hx hb dX9_ownOf_134 hl (by decide) rfl (fun ls hl => ?_)
  refine x_ldc2 (pc := 136) C0 kw_13_3 dX9_ownOf_136 ?_
  refine lv_iload (pc := 139) hx hb dX9_ownOf_139 (lv_at hl 2 rfl) ?_
  refine lv_i2l (pc := 141) (v := x4.toInt64) hx hb dX9_ownOf_141 rfl ?_
  refine lv_lmul (pc := 142) hx hb dX9_ownOf_142 ?_
  refine lv_iload (pc := 143) hx hb dX9_ownOf_143 (lv_at hl 0 rfl) ?_
  refine lv_i2l (pc := 145) (v := t0.toInt64) hx hb dX9_ownOf_145 rfl ?_
  obtain ⟨g_9, hf⟩ := gd_e hf
  refine lv_ldiv (pc := 146) hx hb dX9_ownOf_146 g_9 ?_
  obtain ⟨r_10, h_11, hf⟩ := bd_e hf
  refine x_cs (pc := 147) (As := [.long (((65536 : Int64) * x4.toInt64) / t0.toInt64)]) (rest := []) C0 (ct_X9_held l (((65536 : Int64) * x4.toInt64) / t0.toInt64) r_10 h_11) kw_13_13 kw_13_11 kw_13_12 kw_1_5 hd_X9_held ⟨by decide, by decide⟩ hl.1 rfl (Nat.le_of_ble_eq_true rfl) ⟨Nat.zero_le _, Nat.zero_le _⟩ dX9_ownOf_147 ?_
  refine W.eq (g2 := F0 m 150 ls [.int r_10]) rfl ?_
  obtain rfl := so_1 hf
  exact x_iret (pc := 150) C0 X dX9_ownOf_150
set_option maxHeartbeats 4000000 in
set_option maxRecDepth 100000 in
theorem lb_X9_ownOf_87 {l : Launch} {p : Program} {e : Env} {s : State} {m : MethodId} {args : Array Value} {below : List Frame} {meth : Method} {c : Code} {G : xG} {A : Nat → Prop} {a : Nat → Nat} (C0 : xC p s m meth c cX9_ownOf 6 (some .int) RX9 args) (KN : xKN G s) (hA : ∀ q, s.heap.size ≤ q → A q) (S0 : tt_Model) (ro : Int32) : ∀ (x2 : Int32) (x3 : Int32) (t0 : Int32), fn_X9_ownOf_87 S0 x2 x3 t0 = some ro → ∀ (H : Heap) (locs : List Loc) (ls : Array Slot), xS G A s.heap (wd_Model G a S0) H locs → lv_has ls 6 [(0, .ref (a 0)), (2, .int x2), (3, .int x3)] → W p l e ({ frames := 1, cells := 0, slots := 0, locals := 21 }) s m args below meth c H locs 0 0 (MQ below (xQo G (some (.int ro)) A (wd_Model G a S0)) args s 0 0 A) (F0 m 87 ls [.int t0]) := by
  have hx := C0.1
  have hb := C0.2.1
  intro x2 x3 t0 hf H locs ls X hl
  unfold fn_X9_ownOf_87 at hf
  refine lv_istore (pc := 87) (lv' := [(4, .int t0), (0, .ref (a 0)), (2, .int x2), (3, .int x3)]) hx hb dX9_ownOf_87 hl (by decide) rfl (fun ls hl => ?_)
  refine lv_aload_n (pc := 89) hx hb dX9_ownOf_89 rfl (lv_at hl 1 rfl) ?_
  refine x_get (pc := 90) (ci := 9) C0 KN X 0 rfl rfl inlX9 7 (by decide) kw_12_21 rfl dX9_ownOf_90 ?_
  refine W.eq (g2 := F0 m 93 ls [.int (gf_Model_byGuesser S0)]) rfl ?_
  refine lv_iconst (pc := 93) (v := 1) hx hb dX9_ownOf_93 (by decide) ?_
  refine lv_icmp_ne (pc := 94) (tgt := 105) hx hb dX9_ownOf_94 (by decide) (fun c_7 => ?_) (fun c_7 => ?_)
  · have hf := it_n hf c_7
    refine lv_aload_n (pc := 105) hx hb dX9_ownOf_105 rfl (lv_at hl 1 rfl) ?_
    refine x_get (pc := 106) (ci := 9) C0 KN X 0 rfl rfl inlX9 7 (by decide) kw_12_21 rfl dX9_ownOf_106 ?_
    refine W.eq (g2 := F0 m 109 ls [.int (gf_Model_byGuesser S0)]) rfl ?_
    refine lv_iconst (pc := 109) (v := 2) hx hb dX9_ownOf_109 (by decide) ?_
    refine lv_icmp_ne (pc := 110) (tgt := 125) hx hb dX9_ownOf_110 (by decide) (fun c_8 => ?_) (fun c_8 => ?_)
    · have hf := it_n hf c_8
      refine lv_iconst (pc := 125) (v := 2) hx hb dX9_ownOf_125 (by decide) ?_
      refine lv_iload_n (pc := 126) hx hb dX9_ownOf_126 rfl (lv_at hl 2 rfl) ?_
      refine lv_imul (pc := 127) hx hb dX9_ownOf_127 ?_
      refine lv_iconst (pc := 128) (v := 2) hx hb dX9_ownOf_128 (by decide) ?_
      refine lv_iload_n (pc := 129) hx hb dX9_ownOf_129 rfl (lv_at hl 3 rfl) ?_
      refine lv_imul (pc := 130) hx hb dX9_ownOf_130 ?_
      refine lv_iadd (pc := 131) hx hb dX9_ownOf_131 ?_
      refine lv_iconst (pc := 132) (v := 2) hx hb dX9_ownOf_132 (by decide) ?_
      refine lv_iadd (pc := 133) hx hb dX9_ownOf_133 ?_
      exact lb_X9_ownOf_134 C0 KN hA S0 _  _ _ hf _ _ _ X (lv_sub hl [1, 0] rfl)
    · have hf := it_p hf c_8
      refine lv_iconst (pc := 113) (v := 4) hx hb dX9_ownOf_113 (by decide) ?_
      refine lv_iload_n (pc := 114) hx hb dX9_ownOf_114 rfl (lv_at hl 2 rfl) ?_
      refine lv_imul (pc := 115) hx hb dX9_ownOf_115 ?_
      refine lv_iconst (pc := 116) (v := 4) hx hb dX9_ownOf_116 (by decide) ?_
      refine lv_iload_n (pc := 117) hx hb dX9_ownOf_117 rfl (lv_at hl 3 rfl) ?_
      refine lv_imul (pc := 118) hx hb dX9_ownOf_118 ?_
      refine lv_iadd (pc := 119) hx hb dX9_ownOf_119 ?_
      refine lv_iconst (pc := 120) (v := 2) hx hb dX9_ownOf_120 (by decide) ?_
      refine lv_iadd (pc := 121) hx hb dX9_ownOf_121 ?_
      refine lv_goto (pc := 122) (tgt := 134) hx hb dX9_ownOf_122 (by decide) ?_
      exact lb_X9_ownOf_134 C0 KN hA S0 _  _ _ hf _ _ _ X (lv_sub hl [1, 0] rfl)
  · have hf := it_p hf c_7
    refine lv_iload_n (pc := 97) hx hb dX9_ownOf_97 rfl (lv_at hl 2 rfl) ?_
    refine lv_iload_n (pc := 98) hx hb dX9_ownOf_98 rfl (lv_at hl 3 rfl) ?_
    refine lv_iadd (pc := 99) hx hb dX9_ownOf_99 ?_
    refine lv_iconst (pc := 100) (v := 2) hx hb dX9_ownOf_100 (by decide) ?_
    refine lv_iadd (pc := 101) hx hb dX9_ownOf_101 ?_
    refine lv_goto (pc := 102) (tgt := 134) hx hb dX9_ownOf_102 (by decide) ?_
    exact lb_X9_ownOf_134 C0 KN hA S0 _  _ _ hf _ _ _ X (lv_sub hl [1, 0] rfl)
set_option maxHeartbeats 4000000 in
set_option maxRecDepth 100000 in
theorem lb_X9_ownOf_51 {l : Launch} {p : Program} {e : Env} {s : State} {m : MethodId} {args : Array Value} {below : List Frame} {meth : Method} {c : Code} {G : xG} {A : Nat → Prop} {a : Nat → Nat} (C0 : xC p s m meth c cX9_ownOf 6 (some .int) RX9 args) (KN : xKN G s) (hA : ∀ q, s.heap.size ≤ q → A q) (S0 : tt_Model) (ro : Int32) : ∀ (x2 : Int32) (t0 : Int32), fn_X9_ownOf_51 S0 x2 t0 = some ro → ∀ (H : Heap) (locs : List Loc) (ls : Array Slot), xS G A s.heap (wd_Model G a S0) H locs → lv_has ls 6 [(0, .ref (a 0)), (2, .int x2)] → W p l e ({ frames := 1, cells := 0, slots := 0, locals := 21 }) s m args below meth c H locs 0 0 (MQ below (xQo G (some (.int ro)) A (wd_Model G a S0)) args s 0 0 A) (F0 m 51 ls [.int t0]) := by
  have hx := C0.1
  have hb := C0.2.1
  intro x2 t0 hf H locs ls X hl
  unfold fn_X9_ownOf_51 at hf
  refine lv_istore_n (pc := 51) (lv' := [(3, .int t0), (0, .ref (a 0)), (2, .int x2)]) hx hb dX9_ownOf_51 rfl hl (by decide) rfl (fun ls hl => ?_)
  refine lv_aload_n (pc := 52) hx hb dX9_ownOf_52 rfl (lv_at hl 1 rfl) ?_
  refine x_get (pc := 53) (ci := 9) C0 KN X 0 rfl rfl inlX9 7 (by decide) kw_12_21 rfl dX9_ownOf_53 ?_
  refine W.eq (g2 := F0 m 56 ls [.int (gf_Model_byGuesser S0)]) rfl ?_
  refine lv_iconst (pc := 56) (v := 1) hx hb dX9_ownOf_56 (by decide) ?_
  refine lv_icmp_ne (pc := 57) (tgt := 66) hx hb dX9_ownOf_57 (by decide) (fun c_5 => ?_) (fun c_5 => ?_)
  · have hf := it_n hf c_5
    refine lv_aload_n (pc := 66) hx hb dX9_ownOf_66 rfl (lv_at hl 1 rfl) ?_
    refine x_get (pc := 67) (ci := 9) C0 KN X 0 rfl rfl inlX9 7 (by decide) kw_12_21 rfl dX9_ownOf_67 ?_
    refine W.eq (g2 := F0 m 70 ls [.int (gf_Model_byGuesser S0)]) rfl ?_
    refine lv_iconst (pc := 70) (v := 2) hx hb dX9_ownOf_70 (by decide) ?_
    refine lv_icmp_ne (pc := 71) (tgt := 82) hx hb dX9_ownOf_71 (by decide) (fun c_6 => ?_) (fun c_6 => ?_)
    · have hf := it_n hf c_6
      refine lv_iconst (pc := 82) (v := 2) hx hb dX9_ownOf_82 (by decide) ?_
      refine lv_iload_n (pc := 83) hx hb dX9_ownOf_83 rfl (lv_at hl 0 rfl) ?_
      refine lv_imul (pc := 84) hx hb dX9_ownOf_84 ?_
      refine lv_iconst (pc := 85) (v := 1) hx hb dX9_ownOf_85 (by decide) ?_
      refine lv_iadd (pc := 86) hx hb dX9_ownOf_86 ?_
      exact lb_X9_ownOf_87 C0 KN hA S0 _  _ _ _ hf _ _ _ X (lv_sub hl [1, 2, 0] rfl)
    · have hf := it_p hf c_6
      refine lv_iconst (pc := 74) (v := 4) hx hb dX9_ownOf_74 (by decide) ?_
      refine lv_iload_n (pc := 75) hx hb dX9_ownOf_75 rfl (lv_at hl 0 rfl) ?_
      refine lv_imul (pc := 76) hx hb dX9_ownOf_76 ?_
      refine lv_iconst (pc := 77) (v := 1) hx hb dX9_ownOf_77 (by decide) ?_
      refine lv_iadd (pc := 78) hx hb dX9_ownOf_78 ?_
      refine lv_goto (pc := 79) (tgt := 87) hx hb dX9_ownOf_79 (by decide) ?_
      exact lb_X9_ownOf_87 C0 KN hA S0 _  _ _ _ hf _ _ _ X (lv_sub hl [1, 2, 0] rfl)
  · have hf := it_p hf c_5
    refine lv_iload_n (pc := 60) hx hb dX9_ownOf_60 rfl (lv_at hl 0 rfl) ?_
    refine lv_iconst (pc := 61) (v := 1) hx hb dX9_ownOf_61 (by decide) ?_
    refine lv_iadd (pc := 62) hx hb dX9_ownOf_62 ?_
    refine lv_goto (pc := 63) (tgt := 87) hx hb dX9_ownOf_63 (by decide) ?_
    exact lb_X9_ownOf_87 C0 KN hA S0 _  _ _ _ hf _ _ _ X (lv_sub hl [1, 2, 0] rfl)
set_option maxHeartbeats 4000000 in
set_option maxRecDepth 100000 in
theorem lb_X9_ownOf_25 {l : Launch} {p : Program} {e : Env} {s : State} {m : MethodId} {args : Array Value} {below : List Frame} {meth : Method} {c : Code} {G : xG} {A : Nat → Prop} {a : Nat → Nat} (C0 : xC p s m meth c cX9_ownOf 6 (some .int) RX9 args) (KN : xKN G s) (hA : ∀ q, s.heap.size ≤ q → A q) (S0 : tt_Model) (ro : Int32) : ∀ (x1 : Int32) (t0 : Int32), fn_X9_ownOf_25 S0 x1 t0 = some ro → ∀ (H : Heap) (locs : List Loc) (ls : Array Slot), xS G A s.heap (wd_Model G a S0) H locs → lv_has ls 6 [(0, .ref (a 0)), (1, .int x1)] → W p l e ({ frames := 1, cells := 0, slots := 0, locals := 21 }) s m args below meth c H locs 0 0 (MQ below (xQo G (some (.int ro)) A (wd_Model G a S0)) args s 0 0 A) (F0 m 25 ls [.int t0]) := by
  have hx := C0.1
  have hb := C0.2.1
  intro x1 t0 hf H locs ls X hl
  unfold fn_X9_ownOf_25 at hf
  refine lv_istore_n (pc := 25) (lv' := [(2, .int t0), (0, .ref (a 0)), (1, .int x1)]) hx hb dX9_ownOf_25 rfl hl (by decide) rfl (fun ls hl => ?_)
  refine lv_aload_n (pc := 26) hx hb dX9_ownOf_26 rfl (lv_at hl 1 rfl) ?_
  refine x_get (pc := 27) (ci := 9) C0 KN X 0 rfl rfl inlX9 7 (by decide) kw_12_21 rfl dX9_ownOf_27 ?_
  refine W.eq (g2 := F0 m 30 ls [.int (gf_Model_byGuesser S0)]) rfl ?_
  refine lv_iconst (pc := 30) (v := 3) hx hb dX9_ownOf_30 (by decide) ?_
  refine lv_icmp_ne (pc := 31) (tgt := 45) hx hb dX9_ownOf_31 (by decide) (fun c_3 => ?_) (fun c_3 => ?_)
  · have hf := it_n hf c_3
    refine lv_aload_n (pc := 45) hx hb dX9_ownOf_45 rfl (lv_at hl 1 rfl) ?_
    refine x_get (pc := 46) (ci := 9) C0 KN X 0 rfl rfl inlX9 9 (by decide) kw_7_14 rfl dX9_ownOf_46 ?_
    refine lv_iload_n (pc := 49) hx hb dX9_ownOf_49 rfl (lv_at hl 2 rfl) ?_
    obtain ⟨g_4, hf⟩ := gd_e hf
    refine x_ald (pc := 50) C0 KN X 6 rfl g_4 dX9_ownOf_50 ?_
    refine W.eq (g2 := F0 m 51 ls [.int ((gf_Model_ones S0) x1.toNatClampNeg)]) rfl ?_
    exact lb_X9_ownOf_51 C0 KN hA S0 _  _ _ hf _ _ _ X (lv_sub hl [1, 0] rfl)
  · have hf := it_p hf c_3
    refine lv_aload_n (pc := 34) hx hb dX9_ownOf_34 rfl (lv_at hl 1 rfl) ?_
    refine x_get (pc := 35) (ci := 9) C0 KN X 0 rfl rfl inlX9 9 (by decide) kw_7_14 rfl dX9_ownOf_35 ?_
    refine lv_iload_n (pc := 38) hx hb dX9_ownOf_38 rfl (lv_at hl 2 rfl) ?_
    obtain ⟨g_12, hf⟩ := gd_e hf
    refine x_ald (pc := 39) C0 KN X 6 rfl g_12 dX9_ownOf_39 ?_
    refine W.eq (g2 := F0 m 40 ls [.int ((gf_Model_ones S0) x1.toNatClampNeg)]) rfl ?_
    refine lv_iconst (pc := 40) (v := 2) hx hb dX9_ownOf_40 (by decide) ?_
    refine lv_idiv (pc := 41) hx hb dX9_ownOf_41 (by decide) ?_
    refine lv_goto (pc := 42) (tgt := 51) hx hb dX9_ownOf_42 (by decide) ?_
    exact lb_X9_ownOf_51 C0 KN hA S0 _  _ _ hf _ _ _ X (lv_sub hl [1, 0] rfl)
theorem hd_X9_ownOf : yX9_ownOf.cls ≠ "java/lang/invoke/MethodHandle" ∧ yX9_ownOf.cls ≠ "java/lang/invoke/VarHandle" ∧ (parseMethodDescriptor yX9_ownOf.desc).map (fun d => d.parameters.length) = some 1 := by decide +kernel
set_option maxHeartbeats 4000000 in
set_option maxRecDepth 100000 in
theorem ct_X9_ownOf (l : Launch) (G : xG) (a : Nat → Nat) (S0 : tt_Model) (x1 : Int32) (ro : Int32) (hf : fn_X9_ownOf S0 x1 = some ro) : xM l yX9_ownOf cX9_ownOf 6 (some .int) 1 21 G [.ref (a 0), .int x1] (wd_Model G a S0) (wd_Model G a S0) (some (.int ro)) := by
  refine xMi (by decide) (Nat.le_of_ble_eq_true rfl) ?_
  intro p e s m below meth c A C0 KN hA X ls hl
  have hx := C0.1
  have hb := C0.2.1
  have C0 : xC p s m meth c cX9_ownOf 6 (some .int) RX9 _ := C0
  have hl : lv_has ls 6 [(0, .ref (a 0)), (1, .int x1)] := hl
  unfold fn_X9_ownOf at hf
  refine lv_aload_n (pc := 0) hx hb dX9_ownOf_0 rfl (lv_at hl 0 rfl) ?_
  refine x_get (pc := 1) (ci := 9) C0 KN X 0 rfl rfl inlX9 7 (by decide) kw_12_21 rfl dX9_ownOf_1 ?_
  refine W.eq (g2 := F0 m 4 ls [.int (gf_Model_byGuesser S0)]) rfl ?_
  refine lv_iconst (pc := 4) (v := 3) hx hb dX9_ownOf_4 (by decide) ?_
  refine lv_icmp_ne (pc := 5) (tgt := 19) hx hb dX9_ownOf_5 (by decide) (fun c_1 => ?_) (fun c_1 => ?_)
  · have hf := it_n hf c_1
    refine lv_aload_n (pc := 19) hx hb dX9_ownOf_19 rfl (lv_at hl 0 rfl) ?_
    refine x_get (pc := 20) (ci := 9) C0 KN X 0 rfl rfl inlX9 8 (by decide) kw_7_13 rfl dX9_ownOf_20 ?_
    refine lv_iload_n (pc := 23) hx hb dX9_ownOf_23 rfl (lv_at hl 1 rfl) ?_
    obtain ⟨g_2, hf⟩ := gd_e hf
    refine x_ald (pc := 24) C0 KN X 5 rfl g_2 dX9_ownOf_24 ?_
    refine W.eq (g2 := F0 m 25 ls [.int ((gf_Model_noughts S0) x1.toNatClampNeg)]) rfl ?_
    exact lb_X9_ownOf_25 C0 KN hA S0 _  _ _ hf _ _ _ X (lv_sub hl [0, 1] rfl)
  · have hf := it_p hf c_1
    refine lv_aload_n (pc := 8) hx hb dX9_ownOf_8 rfl (lv_at hl 0 rfl) ?_
    refine x_get (pc := 9) (ci := 9) C0 KN X 0 rfl rfl inlX9 8 (by decide) kw_7_13 rfl dX9_ownOf_9 ?_
    refine lv_iload_n (pc := 12) hx hb dX9_ownOf_12 rfl (lv_at hl 1 rfl) ?_
    obtain ⟨g_13, hf⟩ := gd_e hf
    refine x_ald (pc := 13) C0 KN X 5 rfl g_13 dX9_ownOf_13 ?_
    refine W.eq (g2 := F0 m 14 ls [.int ((gf_Model_noughts S0) x1.toNatClampNeg)]) rfl ?_
    refine lv_iconst (pc := 14) (v := 2) hx hb dX9_ownOf_14 (by decide) ?_
    refine lv_idiv (pc := 15) hx hb dX9_ownOf_15 (by decide) ?_
    refine lv_goto (pc := 16) (tgt := 25) hx hb dX9_ownOf_16 (by decide) ?_
    exact lb_X9_ownOf_25 C0 KN hA S0 _  _ _ hf _ _ _ X (lv_sub hl [0, 1] rfl)
set_option maxHeartbeats 4000000 in
set_option maxRecDepth 100000 in
theorem lb_X9_guesses_70 {l : Launch} {p : Program} {e : Env} {s : State} {m : MethodId} {args : Array Value} {below : List Frame} {meth : Method} {c : Code} {G : xG} {A : Nat → Prop} {a : Nat → Nat} (C0 : xC p s m meth c cX9_guesses 5 (some .int) RX9 args) (KN : xKN G s) (hA : ∀ q, s.heap.size ≤ q → A q) (ro : Int32) (So0 : tt_Model) (k4 : tt_Model → Int32 → Int32 → Option (Int32 × tt_Model)) (hk4 : ∀ (S0 : tt_Model) (x1 : Int32) (x2 : Int32), k4 S0 x1 x2 = some (ro, So0) → ∀ (H : Heap) (locs : List Loc) (ls : Array Slot), xS G A s.heap (wd_Model G a S0) H locs → lv_has ls 5 [(0, .ref (a 0)), (1, .int x1), (2, .int x2)] → W p l e ({ frames := 2, cells := 0, slots := 0, locals := 46 }) s m args below meth c H locs 0 0 (MQ below (xQo G (some (.int ro)) A (wd_Model G a So0)) args s 0 0 A) (F0 m 4 ls [])) : ∀ (S0 : tt_Model) (x2 : Int32) (t0 : Int32) (t1 : Int32), fn_X9_guesses_70 k4 S0 x2 t0 t1 = some (ro, So0) → ∀ (H : Heap) (locs : List Loc) (ls : Array Slot), xS G A s.heap (wd_Model G a S0) H locs → lv_has ls 5 [(0, .ref (a 0)), (2, .int x2)] → W p l e ({ frames := 2, cells := 0, slots := 0, locals := 46 }) s m args below meth c H locs 0 0 (MQ below (xQo G (some (.int ro)) A (wd_Model G a So0)) args s 0 0 A) (F0 m 70 ls [.int t1, .int t0]) := by
  have hx := C0.1
  have hb := C0.2.1
  intro S0 x2 t0 t1 hf H locs ls X hl
  unfold fn_X9_guesses_70 at hf
  refine lv_ior (pc := 70) hx hb dX9_guesses_70 ?_
  refine lv_topi (fun y_12 ey_12 => ?_)
  have hf := lt_sb hf ey_12
  refine lv_istore_n (pc := 71) (lv' := [(1, .int y_12), (0, .ref (a 0)), (2, .int x2)]) hx hb dX9_guesses_71 rfl hl (by decide) rfl (fun ls hl => ?_)
  obtain ⟨y_13, ey_13⟩ : ∃ y : Int32, y = x2 + (1 : Int32) := ⟨_, rfl⟩
  have hf := lt_sb hf ey_13
  refine lv_iinc (pc := 72) (v := y_13) (lv' := [(2, .int y_13), (1, .int y_12), (0, .ref (a 0))]) hx hb dX9_guesses_72 hl (k := 2) rfl (by rw [ey_13]; rfl) (by decide) rfl (fun ls hl => ?_)
  refine lv_goto (pc := 75) (tgt := 4) hx hb dX9_guesses_75 (by decide) ?_
  exact hk4 _ _ _ hf _ _ _ X (lv_sub hl [2, 1, 0] rfl)
set_option maxHeartbeats 4000000 in
set_option maxRecDepth 100000 in
theorem lb_X9_guesses_4 {l : Launch} {p : Program} {e : Env} {s : State} {m : MethodId} {args : Array Value} {below : List Frame} {meth : Method} {c : Code} {G : xG} {A : Nat → Prop} {a : Nat → Nat} (C0 : xC p s m meth c cX9_guesses 5 (some .int) RX9 args) (KN : xKN G s) (hA : ∀ q, s.heap.size ≤ q → A q) (ro : Int32) (So0 : tt_Model) (k78 : tt_Model → Option (Int32 × tt_Model)) (hk78 : ∀ (S0 : tt_Model), k78 S0 = some (ro, So0) → ∀ (H : Heap) (locs : List Loc) (ls : Array Slot), xS G A s.heap (wd_Model G a S0) H locs → lv_has ls 5 [(0, .ref (a 0))] → W p l e ({ frames := 2, cells := 0, slots := 0, locals := 46 }) s m args below meth c H locs 0 0 (MQ below (xQo G (some (.int ro)) A (wd_Model G a So0)) args s 0 0 A) (F0 m 78 ls [])) : ∀ (n : Nat) (S0 : tt_Model) (x1 : Int32) (x2 : Int32), fl_X9_guesses_4 k78 n S0 x1 x2 = some (ro, So0) → ∀ (H : Heap) (locs : List Loc) (ls : Array Slot), xS G A s.heap (wd_Model G a S0) H locs → lv_has ls 5 [(0, .ref (a 0)), (1, .int x1), (2, .int x2)] → W p l e ({ frames := 2, cells := 0, slots := 0, locals := 46 }) s m args below meth c H locs 0 0 (MQ below (xQo G (some (.int ro)) A (wd_Model G a So0)) args s 0 0 A) (F0 m 4 ls []) := by
  have hx := C0.1
  have hb := C0.2.1
  intro n
  induction n with
  | zero =>
    intro S0 x1 x2 hf
    have hf : none = some (ro, So0) := hf
    cases hf
  | succ n ih =>
    intro S0 x1 x2 hf H locs ls X hl
    rw [fl_X9_guesses_4] at hf
    refine lv_iload_n (pc := 4) hx hb dX9_guesses_4 rfl (lv_at hl 2 rfl) ?_
    refine lv_aload_n (pc := 5) hx hb dX9_guesses_5 rfl (lv_at hl 0 rfl) ?_
    refine x_get (pc := 6) (ci := 9) C0 KN X 0 rfl rfl inlX9 6 (by decide) kw_12_20 rfl dX9_guesses_6 ?_
    refine W.eq (g2 := F0 m 9 ls [.int (gf_Model_byDepth S0), .int x2]) rfl ?_
    refine lv_icmp_gt (pc := 9) (tgt := 78) hx hb dX9_guesses_9 (by decide) (fun c_1 => ?_) (fun c_1 => ?_)
    · have hf := it_p hf c_1
      exact hk78 _ hf _ _ _ X (lv_sub hl [0] rfl)
    · have hf := it_n hf c_1
      refine lv_aload_n (pc := 12) hx hb dX9_guesses_12 rfl (lv_at hl 0 rfl) ?_
      refine x_get (pc := 13) (ci := 9) C0 KN X 0 rfl rfl inlX9 12 (by decide) kw_7_17 rfl dX9_guesses_13 ?_
      refine lv_iload_n (pc := 16) hx hb dX9_guesses_16 rfl (lv_at hl 2 rfl) ?_
      refine lv_iload_n (pc := 17) hx hb dX9_guesses_17 rfl (lv_at hl 2 rfl) ?_
      refine lv_iload_n (pc := 18) hx hb dX9_guesses_18 rfl (lv_at hl 1 rfl) ?_
      obtain ⟨r_2, h_3, hf⟩ := bd_e hf
      refine x_cs (pc := 19) (As := [.int x2, .int x1]) (rest := [.int x2, .ref (a 9)]) C0 (ct_X9_nodeOf l x2 x1 r_2 h_3) kw_13_6 kw_13_4 kw_13_5 kw_1_5 hd_X9_nodeOf ⟨by decide, by decide⟩ hl.1 rfl (Nat.le_of_ble_eq_true rfl) ⟨Nat.zero_le _, Nat.zero_le _⟩ dX9_guesses_19 ?_
      refine W.eq (g2 := F0 m 22 ls [.int r_2, .int x2, .ref (a 9)]) rfl ?_
      obtain ⟨g_4, hf⟩ := gd_e hf
      obtain ⟨S_5, eS_5, hf⟩ := lt_e hf
      refine x_ast (pc := 22) (ws' := wd_Model G a S_5) C0 KN X 9 rfl g_4 (by subst eS_5; rfl) dX9_guesses_22 (fun H locs X => ?_)
      refine lv_aload_n (pc := 23) hx hb dX9_guesses_23 rfl (lv_at hl 0 rfl) ?_
      refine x_get (pc := 24) (ci := 9) C0 KN X 0 rfl rfl inlX9 13 (by decide) kw_7_18 rfl dX9_guesses_24 ?_
      refine lv_iload_n (pc := 27) hx hb dX9_guesses_27 rfl (lv_at hl 2 rfl) ?_
      refine lv_aload_n (pc := 28) hx hb dX9_guesses_28 rfl (lv_at hl 0 rfl) ?_
      refine lv_aload_n (pc := 29) hx hb dX9_guesses_29 rfl (lv_at hl 0 rfl) ?_
      refine x_get (pc := 30) (ci := 9) C0 KN X 0 rfl rfl inlX9 12 (by decide) kw_7_17 rfl dX9_guesses_30 ?_
      refine lv_iload_n (pc := 33) hx hb dX9_guesses_33 rfl (lv_at hl 2 rfl) ?_
      obtain ⟨g_6, hf⟩ := gd_e hf
      refine x_ald (pc := 34) C0 KN X 9 rfl g_6 dX9_guesses_34 ?_
      refine W.eq (g2 := F0 m 35 ls [.int ((gf_Model_way S_5) x2.toNatClampNeg), .ref (a 0), .int x2, .ref (a 10)]) rfl ?_
      obtain ⟨r_7, h_8, hf⟩ := bd_e hf
      refine x_cv (pc := 35) (ws' := wd_Model G a S_5) (As := [.int ((gf_Model_way S_5) x2.toNatClampNeg)]) (rest := [.int x2, .ref (a 10)]) (ci := 9) (qr := 0) C0 KN X hA [0, 1, 2, 3, 4, 5, 6, 7, 8, 9, 10, 11, 12, 13, 14, 15, 16, 17, 18] [] [0, 1, 2, 3, 4, 5, 6, 7, 8, 9, 10, 11, 12, 13, 14, 15, 16, 17, 18] cu_C49 rfl cu_R49 rfl (by decide) (cu_J49 (S0 := S_5)) rfl (ct_X9_ownOf l G a S_5 ((gf_Model_way S_5) x2.toNatClampNeg) r_7 h_8) rfl rfl rfl kw_13_10 kw_13_7 kw_13_8 kw_13_9 kw_1_5 hd_X9_ownOf ⟨by decide, by decide⟩ hl.1 rfl (Nat.le_of_ble_eq_true rfl) ⟨Nat.zero_le _, Nat.zero_le _⟩ dX9_guesses_35 (fun H locs X => ?_)
      refine W.eq (g2 := F0 m 38 ls [.int r_7, .int x2, .ref (a 10)]) rfl ?_
      obtain ⟨g_9, hf⟩ := gd_e hf
      obtain ⟨S_10, eS_10, hf⟩ := lt_e hf
      refine x_ast (pc := 38) (ws' := wd_Model G a S_10) C0 KN X 10 rfl g_9 (by subst eS_10; rfl) dX9_guesses_38 (fun H locs X => ?_)
      refine lv_iload_n (pc := 39) hx hb dX9_guesses_39 rfl (lv_at hl 1 rfl) ?_
      refine lv_aload_n (pc := 40) hx hb dX9_guesses_40 rfl (lv_at hl 0 rfl) ?_
      refine x_get (pc := 41) (ci := 9) C0 KN X 0 rfl rfl inlX9 5 (by decide) kw_12_19 rfl dX9_guesses_41 ?_
      refine W.eq (g2 := F0 m 44 ls [.int (gf_Model_came S_10), .int x1]) rfl ?_
      refine lv_iconst (pc := 44) (v := 1) hx hb dX9_guesses_44 (by decide) ?_
      refine lv_isub (pc := 45) hx hb dX9_guesses_45 ?_
      refine lv_iload_n (pc := 46) hx hb dX9_guesses_46 rfl (lv_at hl 2 rfl) ?_
      refine lv_isub (pc := 47) hx hb dX9_guesses_47 ?_
      refine lv_if_lt (pc := 48) (tgt := 69) hx hb dX9_guesses_48 (by decide) (fun c_11 => ?_) (fun c_11 => ?_)
      · have hf := it_p hf c_11
        refine lv_iconst (pc := 69) (v := 0) hx hb dX9_guesses_69 (by decide) ?_
        exact lb_X9_guesses_70 C0 KN hA _ _ (fl_X9_guesses_4 k78 n) ih _ _ _ _ hf _ _ _ X (lv_sub hl [0, 2] rfl)
      · have hf := it_n hf c_11
        refine lv_aload_n (pc := 51) hx hb dX9_guesses_51 rfl (lv_at hl 0 rfl) ?_
        refine x_get (pc := 52) (ci := 9) C0 KN X 0 rfl rfl inlX9 4 (by decide) kw_7_12 rfl dX9_guesses_52 ?_
        refine lv_aload_n (pc := 55) hx hb dX9_guesses_55 rfl (lv_at hl 0 rfl) ?_
        refine x_get (pc := 56) (ci := 9) C0 KN X 0 rfl rfl inlX9 5 (by decide) kw_12_19 rfl dX9_guesses_56 ?_
        refine W.eq (g2 := F0 m 59 ls [.int (gf_Model_came S_10), .ref (a 4), .int x1]) rfl ?_
        refine lv_iconst (pc := 59) (v := 1) hx hb dX9_guesses_59 (by decide) ?_
        refine lv_isub (pc := 60) hx hb dX9_guesses_60 ?_
        refine lv_iload_n (pc := 61) hx hb dX9_guesses_61 rfl (lv_at hl 2 rfl) ?_
        refine lv_isub (pc := 62) hx hb dX9_guesses_62 ?_
        obtain ⟨g_14, hf⟩ := gd_e hf
        refine x_ald (pc := 63) C0 KN X 4 rfl g_14 dX9_guesses_63 ?_
        refine W.eq (g2 := F0 m 64 ls [.int ((gf_Model_line S_10) (((gf_Model_came S_10) - (1 : Int32)) - x2).toNatClampNeg), .int x1]) rfl ?_
        refine lv_iload_n (pc := 64) hx hb dX9_guesses_64 rfl (lv_at hl 2 rfl) ?_
        refine lv_ishl (pc := 65) hx hb dX9_guesses_65 ?_
        refine lv_goto (pc := 66) (tgt := 70) hx hb dX9_guesses_66 (by decide) ?_
        exact lb_X9_guesses_70 C0 KN hA _ _ (fl_X9_guesses_4 k78 n) ih _ _ _ _ hf _ _ _ X (lv_sub hl [0, 2] rfl)
set_option maxHeartbeats 4000000 in
set_option maxRecDepth 100000 in
theorem lb_X9_guesses_103 {l : Launch} {p : Program} {e : Env} {s : State} {m : MethodId} {args : Array Value} {below : List Frame} {meth : Method} {c : Code} {G : xG} {A : Nat → Prop} {a : Nat → Nat} (C0 : xC p s m meth c cX9_guesses 5 (some .int) RX9 args) (KN : xKN G s) (hA : ∀ q, s.heap.size ≤ q → A q) (ro : Int32) (So0 : tt_Model) (k164 : tt_Model → Option (Int32 × tt_Model)) (hk164 : ∀ (S0 : tt_Model), k164 S0 = some (ro, So0) → ∀ (H : Heap) (locs : List Loc) (ls : Array Slot), xS G A s.heap (wd_Model G a S0) H locs → lv_has ls 5 [(0, .ref (a 0))] → W p l e ({ frames := 2, cells := 0, slots := 0, locals := 46 }) s m args below meth c H locs 0 0 (MQ below (xQo G (some (.int ro)) A (wd_Model G a So0)) args s 0 0 A) (F0 m 164 ls [])) : ∀ (n : Nat) (S0 : tt_Model) (x2 : Int32), fl_X9_guesses_103 k164 n S0 x2 = some (ro, So0) → ∀ (H : Heap) (locs : List Loc) (ls : Array Slot), xS G A s.heap (wd_Model G a S0) H locs → lv_has ls 5 [(0, .ref (a 0)), (2, .int x2)] → W p l e ({ frames := 2, cells := 0, slots := 0, locals := 46 }) s m args below meth c H locs 0 0 (MQ below (xQo G (some (.int ro)) A (wd_Model G a So0)) args s 0 0 A) (F0 m 103 ls []) := by
  have hx := C0.1
  have hb := C0.2.1
  intro n
  induction n with
  | zero =>
    intro S0 x2 hf
    have hf : none = some (ro, So0) := hf
    cases hf
  | succ n ih =>
    intro S0 x2 hf H locs ls X hl
    rw [fl_X9_guesses_103] at hf
    refine lv_iload_n (pc := 103) hx hb dX9_guesses_103 rfl (lv_at hl 1 rfl) ?_
    refine lv_if_lt (pc := 104) (tgt := 164) hx hb dX9_guesses_104 (by decide) (fun c_21 => ?_) (fun c_21 => ?_)
    · have hf := it_p hf c_21
      exact hk164 _ hf _ _ _ X (lv_sub hl [0] rfl)
    · have hf := it_n hf c_21
      refine lv_aload_n (pc := 107) hx hb dX9_guesses_107 rfl (lv_at hl 0 rfl) ?_
      refine x_get (pc := 108) (ci := 9) C0 KN X 0 rfl rfl inlX9 10 (by decide) kw_7_15 rfl dX9_guesses_108 ?_
      refine lv_aload_n (pc := 111) hx hb dX9_guesses_111 rfl (lv_at hl 0 rfl) ?_
      refine x_get (pc := 112) (ci := 9) C0 KN X 0 rfl rfl inlX9 12 (by decide) kw_7_17 rfl dX9_guesses_112 ?_
      refine lv_iload_n (pc := 115) hx hb dX9_guesses_115 rfl (lv_at hl 1 rfl) ?_
      obtain ⟨g_22, hf⟩ := gd_e hf
      refine x_ald (pc := 116) C0 KN X 9 rfl g_22 dX9_guesses_116 ?_
      refine W.eq (g2 := F0 m 117 ls [.int ((gf_Model_way S0) x2.toNatClampNeg), .ref (a 7)]) rfl ?_
      obtain ⟨g_23, hf⟩ := gd_e hf
      refine x_ald (pc := 117) C0 KN X 7 rfl g_23 dX9_guesses_117 ?_
      refine W.eq (g2 := F0 m 118 ls [.int ((gf_Model_weights S0) ((gf_Model_way S0) x2.toNatClampNeg).toNatClampNeg)]) rfl ?_
      refine lv_i2l (pc := 118) (v := ((gf_Model_weights S0) ((gf_Model_way S0) x2.toNatClampNeg).toNatClampNeg).toInt64) hx hb dX9_guesses_118 rfl ?_
      refine lv_topl (fun y_24 ey_24 => ?_)
      have hf := lt_sb hf ey_24
      refine lv_lstore_n (pc := 119) (lv' := [(3, .long y_24), (0, .ref (a 0)), (2, .int x2)]) hx hb dX9_guesses_119 rfl hl (by decide) rfl (fun ls hl => ?_)
      refine lv_aload_n (pc := 120) hx hb dX9_guesses_120 rfl (lv_at hl 1 rfl) ?_
      refine x_get (pc := 121) (ci := 9) C0 KN X 0 rfl rfl inlX9 14 (by decide) kw_7_19 rfl dX9_guesses_121 ?_
      refine lv_iload_n (pc := 124) hx hb dX9_guesses_124 rfl (lv_at hl 2 rfl) ?_
      refine lv_lload_n (pc := 125) hx hb dX9_guesses_125 rfl (lv_at hl 0 rfl) ?_
      refine lv_aload_n (pc := 126) hx hb dX9_guesses_126 rfl (lv_at hl 1 rfl) ?_
      refine x_get (pc := 127) (ci := 9) C0 KN X 0 rfl rfl inlX9 13 (by decide) kw_7_18 rfl dX9_guesses_127 ?_
      refine lv_iload_n (pc := 130) hx hb dX9_guesses_130 rfl (lv_at hl 2 rfl) ?_
      obtain ⟨g_25, hf⟩ := gd_e hf
      refine x_ald (pc := 131) C0 KN X 10 rfl g_25 dX9_guesses_131 ?_
      refine W.eq (g2 := F0 m 132 ls [.int ((gf_Model_own S0) x2.toNatClampNeg), .long y_24, .int x2, .ref (a 11)]) rfl ?_
      refine lv_i2l (pc := 132) (v := ((gf_Model_own S0) x2.toNatClampNeg).toInt64) hx hb dX9_guesses_132 rfl ?_
      refine lv_lmul (pc := 133) hx hb dX9_guesses_133 ?_
      refine x_ldc2 (pc := 134) C0 kw_13_3 dX9_guesses_134 ?_
      refine lv_lload_n (pc := 137) hx hb dX9_guesses_137 rfl (lv_at hl 0 rfl) ?_
      refine lv_lsub (pc := 138) hx hb dX9_guesses_138 ?_
      refine lv_aload_n (pc := 139) hx hb dX9_guesses_139 rfl (lv_at hl 1 rfl) ?_
      refine x_get (pc := 140) (ci := 9) C0 KN X 0 rfl rfl inlX9 14 (by decide) kw_7_19 rfl dX9_guesses_140 ?_
      refine lv_iload_n (pc := 143) hx hb dX9_guesses_143 rfl (lv_at hl 2 rfl) ?_
      refine lv_iconst (pc := 144) (v := 1) hx hb dX9_guesses_144 (by decide) ?_
      refine lv_iadd (pc := 145) hx hb dX9_guesses_145 ?_
      obtain ⟨g_26, hf⟩ := gd_e hf
      refine x_ald (pc := 146) C0 KN X 11 rfl g_26 dX9_guesses_146 ?_
      refine W.eq (g2 := F0 m 147 ls [.int ((gf_Model_mixed S0) (x2 + (1 : Int32)).toNatClampNeg), .long ((65536 : Int64) - y_24), .long (y_24 * (((gf_Model_own S0) x2.toNatClampNeg).toInt64)), .int x2, .ref (a 11)]) rfl ?_
      refine lv_i2l (pc := 147) (v := ((gf_Model_mixed S0) (x2 + (1 : Int32)).toNatClampNeg).toInt64) hx hb dX9_guesses_147 rfl ?_
      refine lv_lmul (pc := 148) hx hb dX9_guesses_148 ?_
      refine lv_ladd (pc := 149) hx hb dX9_guesses_149 ?_
      refine x_ldc2 (pc := 150) C0 kw_13_3 dX9_guesses_150 ?_
      refine lv_ldiv (pc := 153) hx hb dX9_guesses_153 (by decide) ?_
      obtain ⟨r_27, h_28, hf⟩ := bd_e hf
      refine x_cs (pc := 154) (As := [.long (((y_24 * (((gf_Model_own S0) x2.toNatClampNeg).toInt64)) + (((65536 : Int64) - y_24) * (((gf_Model_mixed S0) (x2 + (1 : Int32)).toNatClampNeg).toInt64))) / (65536 : Int64))]) (rest := [.int x2, .ref (a 11)]) C0 (ct_X9_held l (((y_24 * (((gf_Model_own S0) x2.toNatClampNeg).toInt64)) + (((65536 : Int64) - y_24) * (((gf_Model_mixed S0) (x2 + (1 : Int32)).toNatClampNeg).toInt64))) / (65536 : Int64)) r_27 h_28) kw_13_13 kw_13_11 kw_13_12 kw_1_5 hd_X9_held ⟨by decide, by decide⟩ hl.1 rfl (Nat.le_of_ble_eq_true rfl) ⟨Nat.zero_le _, Nat.zero_le _⟩ dX9_guesses_154 ?_
      refine W.eq (g2 := F0 m 157 ls [.int r_27, .int x2, .ref (a 11)]) rfl ?_
      obtain ⟨g_29, hf⟩ := gd_e hf
      obtain ⟨S_30, eS_30, hf⟩ := lt_e hf
      refine x_ast (pc := 157) (ws' := wd_Model G a S_30) C0 KN X 11 rfl g_29 (by subst eS_30; rfl) dX9_guesses_157 (fun H locs X => ?_)
      obtain ⟨y_31, ey_31⟩ : ∃ y : Int32, y = x2 + (-1 : Int32) := ⟨_, rfl⟩
      have hf := lt_sb hf ey_31
      refine lv_iinc (pc := 158) (v := y_31) (lv' := [(2, .int y_31), (3, .long y_24), (0, .ref (a 0))]) hx hb dX9_guesses_158 hl (k := 2) rfl (by rw [ey_31]; rfl) (by decide) rfl (fun ls hl => ?_)
      refine lv_goto (pc := 161) (tgt := 103) hx hb dX9_guesses_161 (by decide) ?_
      exact ih _ _ hf _ _ _ X (lv_sub hl [2, 0] rfl)
theorem hd_X9_guesses : yX9_guesses.cls ≠ "java/lang/invoke/MethodHandle" ∧ yX9_guesses.cls ≠ "java/lang/invoke/VarHandle" ∧ (parseMethodDescriptor yX9_guesses.desc).map (fun d => d.parameters.length) = some 0 := by decide +kernel
set_option maxHeartbeats 4000000 in
set_option maxRecDepth 100000 in
theorem ct_X9_guesses (l : Launch) (G : xG) (a : Nat → Nat) (S0 : tt_Model) (ro : Int32) (So0 : tt_Model) (hf : fn_X9_guesses S0 = some (ro, So0)) : xM l yX9_guesses cX9_guesses 5 (some .int) 2 46 G [.ref (a 0)] (wd_Model G a S0) (wd_Model G a So0) (some (.int ro)) := by
  refine xMi (by decide) (Nat.le_of_ble_eq_true rfl) ?_
  intro p e s m below meth c A C0 KN hA X ls hl
  have hx := C0.1
  have hb := C0.2.1
  have C0 : xC p s m meth c cX9_guesses 5 (some .int) RX9 _ := C0
  have hl : lv_has ls 5 [(0, .ref (a 0))] := hl
  unfold fn_X9_guesses at hf
  refine lv_iconst (pc := 0) (v := 0) hx hb dX9_guesses_0 (by decide) ?_
  refine lv_istore_n (pc := 1) (lv' := [(1, .int (0 : Int32)), (0, .ref (a 0))]) hx hb dX9_guesses_1 rfl hl (by decide) rfl (fun ls hl => ?_)
  refine lv_iconst (pc := 2) (v := 0) hx hb dX9_guesses_2 (by decide) ?_
  refine lv_istore_n (pc := 3) (lv' := [(2, .int (0 : Int32)), (1, .int (0 : Int32)), (0, .ref (a 0))]) hx hb dX9_guesses_3 rfl hl (by decide) rfl (fun ls hl => ?_)
  refine lb_X9_guesses_4 C0 KN hA _ _ _ ?_ _ _ _ _ hf _ _ _ X (lv_sub hl [2, 1, 0] rfl)
  · intro S0_e78_15 hf H locs ls X hl
    refine lv_aload_n (pc := 78) hx hb dX9_guesses_78 rfl (lv_at hl 0 rfl) ?_
    refine x_get (pc := 79) (ci := 9) C0 KN X 0 rfl rfl inlX9 14 (by decide) kw_7_19 rfl dX9_guesses_79 ?_
    refine lv_aload_n (pc := 82) hx hb dX9_guesses_82 rfl (lv_at hl 0 rfl) ?_
    refine x_get (pc := 83) (ci := 9) C0 KN X 0 rfl rfl inlX9 6 (by decide) kw_12_20 rfl dX9_guesses_83 ?_
    refine W.eq (g2 := F0 m 86 ls [.int (gf_Model_byDepth S0_e78_15), .ref (a 11)]) rfl ?_
    refine lv_aload_n (pc := 86) hx hb dX9_guesses_86 rfl (lv_at hl 0 rfl) ?_
    refine x_get (pc := 87) (ci := 9) C0 KN X 0 rfl rfl inlX9 13 (by decide) kw_7_18 rfl dX9_guesses_87 ?_
    refine lv_aload_n (pc := 90) hx hb dX9_guesses_90 rfl (lv_at hl 0 rfl) ?_
    refine x_get (pc := 91) (ci := 9) C0 KN X 0 rfl rfl inlX9 6 (by decide) kw_12_20 rfl dX9_guesses_91 ?_
    refine W.eq (g2 := F0 m 94 ls [.int (gf_Model_byDepth S0_e78_15), .ref (a 10), .int (gf_Model_byDepth S0_e78_15), .ref (a 11)]) rfl ?_
    obtain ⟨g_16, hf⟩ := gd_e hf
    refine x_ald (pc := 94) C0 KN X 10 rfl g_16 dX9_guesses_94 ?_
    refine W.eq (g2 := F0 m 95 ls [.int ((gf_Model_own S0_e78_15) (gf_Model_byDepth S0_e78_15).toNatClampNeg), .int (gf_Model_byDepth S0_e78_15), .ref (a 11)]) rfl ?_
    refine lv_topi (fun y_17 ey_17 => ?_)
    have hf := lt_sb hf ey_17
    obtain ⟨g_18, hf⟩ := gd_e hf
    obtain ⟨S_19, eS_19, hf⟩ := lt_e hf
    refine x_ast (pc := 95) (ws' := wd_Model G a S_19) C0 KN X 11 rfl g_18 (by subst eS_19; rfl) dX9_guesses_95 (fun H locs X => ?_)
    refine lv_aload_n (pc := 96) hx hb dX9_guesses_96 rfl (lv_at hl 0 rfl) ?_
    refine x_get (pc := 97) (ci := 9) C0 KN X 0 rfl rfl inlX9 6 (by decide) kw_12_20 rfl dX9_guesses_97 ?_
    refine W.eq (g2 := F0 m 100 ls [.int (gf_Model_byDepth S_19)]) rfl ?_
    refine lv_iconst (pc := 100) (v := 1) hx hb dX9_guesses_100 (by decide) ?_
    refine lv_isub (pc := 101) hx hb dX9_guesses_101 ?_
    refine lv_topi (fun y_20 ey_20 => ?_)
    have hf := lt_sb hf ey_20
    refine lv_istore_n (pc := 102) (lv' := [(2, .int y_20), (0, .ref (a 0))]) hx hb dX9_guesses_102 rfl hl (by decide) rfl (fun ls hl => ?_)
    refine lb_X9_guesses_103 C0 KN hA _ _ _ ?_ _ _ _ hf _ _ _ X (lv_sub hl [1, 0] rfl)
    · intro S0_e164_32 hf H locs ls X hl
      refine lv_aload_n (pc := 164) hx hb dX9_guesses_164 rfl (lv_at hl 0 rfl) ?_
      refine x_get (pc := 165) (ci := 9) C0 KN X 0 rfl rfl inlX9 14 (by decide) kw_7_19 rfl dX9_guesses_165 ?_
      refine lv_iconst (pc := 168) (v := 0) hx hb dX9_guesses_168 (by decide) ?_
      obtain ⟨g_33, hf⟩ := gd_e hf
      refine x_ald (pc := 169) C0 KN X 11 rfl g_33 dX9_guesses_169 ?_
      refine W.eq (g2 := F0 m 170 ls [.int ((gf_Model_mixed S0_e164_32) (0 : Int32).toNatClampNeg)]) rfl ?_
      obtain ⟨rfl, rfl⟩ := so_2 hf
      exact x_iret (pc := 170) C0 X dX9_guesses_170
set_option maxHeartbeats 4000000 in
set_option maxRecDepth 100000 in
theorem lb_X9_comes_116 {l : Launch} {p : Program} {e : Env} {s : State} {m : MethodId} {args : Array Value} {below : List Frame} {meth : Method} {c : Code} {G : xG} {A : Nat → Prop} {a : Nat → Nat} (C0 : xC p s m meth c cX9_comes 11 (none) RX9 args) (KN : xKN G s) (hA : ∀ q, s.heap.size ≤ q → A q) (So0 : tt_Model) (k2 : tt_Model → Int32 → Int32 → Option tt_Model) (hk2 : ∀ (S0 : tt_Model) (x1 : Int32) (x2 : Int32), k2 S0 x1 x2 = some So0 → ∀ (H : Heap) (locs : List Loc) (ls : Array Slot), xS G A s.heap (wd_Model G a S0) H locs → lv_has ls 11 [(0, .ref (a 0)), (1, .int x1), (2, .int x2)] → W p l e ({ frames := 1, cells := 0, slots := 0, locals := 23 }) s m args below meth c H locs 0 0 (MQ below (xQo G none A (wd_Model G a So0)) args s 0 0 A) (F0 m 2 ls [])) : ∀ (S0 : tt_Model) (x1 : Int32) (x2 : Int32) (t1 : Int32) (t2 : Int32), fn_X9_comes_116 k2 S0 x1 x2 t1 t2 = some So0 → ∀ (H : Heap) (locs : List Loc) (ls : Array Slot), xS G A s.heap (wd_Model G a S0) H locs → lv_has ls 11 [(0, .ref (a 0)), (1, .int x1), (2, .int x2)] → W p l e ({ frames := 1, cells := 0, slots := 0, locals := 23 }) s m args below meth c H locs 0 0 (MQ below (xQo G none A (wd_Model G a So0)) args s 0 0 A) (F0 m 116 ls [.int t2, .int t1, .ref (a 7)]) := by
  have hx := C0.1
  have hb := C0.2.1
  intro S0 x1 x2 t1 t2 hf H locs ls X hl
  unfold fn_X9_comes_116 at hf
  obtain ⟨g_18, hf⟩ := gd_e hf
  obtain ⟨S_19, eS_19, hf⟩ := lt_e hf
  refine x_ast (pc := 116) (ws' := wd_Model G a S_19) C0 KN X 7 rfl g_18 (by subst eS_19; rfl) dX9_comes_116 (fun H locs X => ?_)
  obtain ⟨y_20, ey_20⟩ : ∃ y : Int32, y = x2 + (1 : Int32) := ⟨_, rfl⟩
  have hf := lt_sb hf ey_20
  refine lv_iinc (pc := 117) (v := y_20) (lv' := [(2, .int y_20), (0, .ref (a 0)), (1, .int x1)]) hx hb dX9_comes_117 hl (k := 2) rfl (by rw [ey_20]; rfl) (by decide) rfl (fun ls hl => ?_)
  refine lv_goto (pc := 120) (tgt := 2) hx hb dX9_comes_120 (by decide) ?_
  exact hk2 _ _ _ hf _ _ _ X (lv_sub hl [1, 2, 0] rfl)
set_option maxHeartbeats 4000000 in
set_option maxRecDepth 100000 in
theorem lb_X9_comes_2 {l : Launch} {p : Program} {e : Env} {s : State} {m : MethodId} {args : Array Value} {below : List Frame} {meth : Method} {c : Code} {G : xG} {A : Nat → Prop} {a : Nat → Nat} (C0 : xC p s m meth c cX9_comes 11 (none) RX9 args) (KN : xKN G s) (hA : ∀ q, s.heap.size ≤ q → A q) (So0 : tt_Model) (k123 : tt_Model → Int32 → Option tt_Model) (hk123 : ∀ (S0 : tt_Model) (x1 : Int32), k123 S0 x1 = some So0 → ∀ (H : Heap) (locs : List Loc) (ls : Array Slot), xS G A s.heap (wd_Model G a S0) H locs → lv_has ls 11 [(0, .ref (a 0)), (1, .int x1)] → W p l e ({ frames := 1, cells := 0, slots := 0, locals := 23 }) s m args below meth c H locs 0 0 (MQ below (xQo G none A (wd_Model G a So0)) args s 0 0 A) (F0 m 123 ls [])) : ∀ (n : Nat) (S0 : tt_Model) (x1 : Int32) (x2 : Int32), fl_X9_comes_2 k123 n S0 x1 x2 = some So0 → ∀ (H : Heap) (locs : List Loc) (ls : Array Slot), xS G A s.heap (wd_Model G a S0) H locs → lv_has ls 11 [(0, .ref (a 0)), (1, .int x1), (2, .int x2)] → W p l e ({ frames := 1, cells := 0, slots := 0, locals := 23 }) s m args below meth c H locs 0 0 (MQ below (xQo G none A (wd_Model G a So0)) args s 0 0 A) (F0 m 2 ls []) := by
  have hx := C0.1
  have hb := C0.2.1
  intro n
  induction n with
  | zero =>
    intro S0 x1 x2 hf
    have hf : none = some So0 := hf
    cases hf
  | succ n ih =>
    intro S0 x1 x2 hf H locs ls X hl
    rw [fl_X9_comes_2] at hf
    refine lv_iload_n (pc := 2) hx hb dX9_comes_2 rfl (lv_at hl 2 rfl) ?_
    refine lv_aload_n (pc := 3) hx hb dX9_comes_3 rfl (lv_at hl 0 rfl) ?_
    refine x_get (pc := 4) (ci := 9) C0 KN X 0 rfl rfl inlX9 6 (by decide) kw_12_20 rfl dX9_comes_4 ?_
    refine W.eq (g2 := F0 m 7 ls [.int (gf_Model_byDepth S0), .int x2]) rfl ?_
    refine lv_icmp_ge (pc := 7) (tgt := 123) hx hb dX9_comes_7 (by decide) (fun c_1 => ?_) (fun c_1 => ?_)
    · have hf := it_p hf c_1
      exact hk123 _ _ hf _ _ _ X (lv_sub hl [0, 1] rfl)
    · have hf := it_n hf c_1
      refine lv_aload_n (pc := 10) hx hb dX9_comes_10 rfl (lv_at hl 0 rfl) ?_
      refine x_get (pc := 11) (ci := 9) C0 KN X 0 rfl rfl inlX9 10 (by decide) kw_7_15 rfl dX9_comes_11 ?_
      refine lv_aload_n (pc := 14) hx hb dX9_comes_14 rfl (lv_at hl 0 rfl) ?_
      refine x_get (pc := 15) (ci := 9) C0 KN X 0 rfl rfl inlX9 12 (by decide) kw_7_17 rfl dX9_comes_15 ?_
      refine lv_iload_n (pc := 18) hx hb dX9_comes_18 rfl (lv_at hl 2 rfl) ?_
      obtain ⟨g_2, hf⟩ := gd_e hf
      refine x_ald (pc := 19) C0 KN X 9 rfl g_2 dX9_comes_19 ?_
      refine W.eq (g2 := F0 m 20 ls [.int ((gf_Model_way S0) x2.toNatClampNeg), .ref (a 7)]) rfl ?_
      obtain ⟨g_3, hf⟩ := gd_e hf
      refine x_ald (pc := 20) C0 KN X 7 rfl g_3 dX9_comes_20 ?_
      refine W.eq (g2 := F0 m 21 ls [.int ((gf_Model_weights S0) ((gf_Model_way S0) x2.toNatClampNeg).toNatClampNeg)]) rfl ?_
      refine lv_i2l (pc := 21) (v := ((gf_Model_weights S0) ((gf_Model_way S0) x2.toNatClampNeg).toNatClampNeg).toInt64) hx hb dX9_comes_21 rfl ?_
      refine lv_topl (fun y_4 ey_4 => ?_)
      have hf := lt_sb hf ey_4
      refine lv_lstore_n (pc := 22) (lv' := [(3, .long y_4), (0, .ref (a 0)), (1, .int x1), (2, .int x2)]) hx hb dX9_comes_22 rfl hl (by decide) rfl (fun ls hl => ?_)
      refine lv_aload_n (pc := 23) hx hb dX9_comes_23 rfl (lv_at hl 1 rfl) ?_
      refine x_get (pc := 24) (ci := 9) C0 KN X 0 rfl rfl inlX9 13 (by decide) kw_7_18 rfl dX9_comes_24 ?_
      refine lv_iload_n (pc := 27) hx hb dX9_comes_27 rfl (lv_at hl 3 rfl) ?_
      obtain ⟨g_5, hf⟩ := gd_e hf
      refine x_ald (pc := 28) C0 KN X 10 rfl g_5 dX9_comes_28 ?_
      refine W.eq (g2 := F0 m 29 ls [.int ((gf_Model_own S0) x2.toNatClampNeg)]) rfl ?_
      refine lv_iload_n (pc := 29) hx hb dX9_comes_29 rfl (lv_at hl 2 rfl) ?_
      obtain ⟨r_6, h_7, hf⟩ := bd_e hf
      refine x_cs (pc := 30) (As := [.int ((gf_Model_own S0) x2.toNatClampNeg), .int x1]) (rest := []) C0 (ct_X9_odds l ((gf_Model_own S0) x2.toNatClampNeg) x1 r_6 h_7) kw_13_18 kw_13_16 kw_13_17 kw_1_5 hd_X9_odds ⟨by decide, by decide⟩ hl.1 rfl (Nat.le_of_ble_eq_true rfl) ⟨Nat.zero_le _, Nat.zero_le _⟩ dX9_comes_30 ?_
      refine W.eq (g2 := F0 m 33 ls [.int r_6]) rfl ?_
      refine lv_i2l (pc := 33) (v := r_6.toInt64) hx hb dX9_comes_33 rfl ?_
      refine lv_topl (fun y_8 ey_8 => ?_)
      have hf := lt_sb hf ey_8
      refine lv_lstore (pc := 34) (lv' := [(5, .long y_8), (3, .long y_4), (0, .ref (a 0)), (1, .int x1), (2, .int x2)]) hx hb dX9_comes_34 hl (by decide) rfl (fun ls hl => ?_)
      refine lv_aload_n (pc := 36) hx hb dX9_comes_36 rfl (lv_at hl 2 rfl) ?_
      refine x_get (pc := 37) (ci := 9) C0 KN X 0 rfl rfl inlX9 14 (by decide) kw_7_19 rfl dX9_comes_37 ?_
      refine lv_iload_n (pc := 40) hx hb dX9_comes_40 rfl (lv_at hl 4 rfl) ?_
      refine lv_iconst (pc := 41) (v := 1) hx hb dX9_comes_41 (by decide) ?_
      refine lv_iadd (pc := 42) hx hb dX9_comes_42 ?_
      obtain ⟨g_9, hf⟩ := gd_e hf
      refine x_ald (pc := 43) C0 KN X 11 rfl g_9 dX9_comes_43 ?_
      refine W.eq (g2 := F0 m 44 ls [.int ((gf_Model_mixed S0) (x2 + (1 : Int32)).toNatClampNeg)]) rfl ?_
      refine lv_iload_n (pc := 44) hx hb dX9_comes_44 rfl (lv_at hl 3 rfl) ?_
      obtain ⟨r_10, h_11, hf⟩ := bd_e hf
      refine x_cs (pc := 45) (As := [.int ((gf_Model_mixed S0) (x2 + (1 : Int32)).toNatClampNeg), .int x1]) (rest := []) C0 (ct_X9_odds l ((gf_Model_mixed S0) (x2 + (1 : Int32)).toNatClampNeg) x1 r_10 h_11) kw_13_18 kw_13_16 kw_13_17 kw_1_5 hd_X9_odds ⟨by decide, by decide⟩ hl.1 rfl (Nat.le_of_ble_eq_true rfl) ⟨Nat.zero_le _, Nat.zero_le _⟩ dX9_comes_45 ?_
      refine W.eq (g2 := F0 m 48 ls [.int r_10]) rfl ?_
      refine lv_i2l (pc := 48) (v := r_10.toInt64) hx hb dX9_comes_48 rfl ?_
      refine lv_topl (fun y_12 ey_12 => ?_)
      have hf := lt_sb hf ey_12
      refine lv_lstore (pc := 49) (lv' := [(7, .long y_12), (5, .long y_8), (3, .long y_4), (0, .ref (a 0)), (1, .int x1), (2, .int x2)]) hx hb dX9_comes_49 hl (by decide) rfl (fun ls hl => ?_)
      refine x_ldc2 (pc := 51) C0 kw_13_3 dX9_comes_51 ?_
      refine lv_lload_n (pc := 54) hx hb dX9_comes_54 rfl (lv_at hl 2 rfl) ?_
      refine lv_lload (pc := 55) hx hb dX9_comes_55 (lv_at hl 1 rfl) ?_
      refine lv_lmul (pc := 57) hx hb dX9_comes_57 ?_
      refine lv_lmul (pc := 58) hx hb dX9_comes_58 ?_
      refine lv_lload_n (pc := 59) hx hb dX9_comes_59 rfl (lv_at hl 2 rfl) ?_
      refine lv_lload (pc := 60) hx hb dX9_comes_60 (lv_at hl 1 rfl) ?_
      refine lv_lmul (pc := 62) hx hb dX9_comes_62 ?_
      refine x_ldc2 (pc := 63) C0 kw_13_3 dX9_comes_63 ?_
      refine lv_lload_n (pc := 66) hx hb dX9_comes_66 rfl (lv_at hl 2 rfl) ?_
      refine lv_lsub (pc := 67) hx hb dX9_comes_67 ?_
      refine lv_lload (pc := 68) hx hb dX9_comes_68 (lv_at hl 0 rfl) ?_
      refine lv_lmul (pc := 70) hx hb dX9_comes_70 ?_
      refine lv_ladd (pc := 71) hx hb dX9_comes_71 ?_
      obtain ⟨g_13, hf⟩ := gd_e hf
      refine lv_ldiv (pc := 72) hx hb dX9_comes_72 g_13 ?_
      refine lv_topl (fun y_14 ey_14 => ?_)
      have hf := lt_sb hf ey_14
      refine lv_lstore (pc := 73) (lv' := [(9, .long y_14), (7, .long y_12), (5, .long y_8), (3, .long y_4), (0, .ref (a 0)), (1, .int x1), (2, .int x2)]) hx hb dX9_comes_73 hl (by decide) rfl (fun ls hl => ?_)
      refine lv_aload_n (pc := 75) hx hb dX9_comes_75 rfl (lv_at hl 4 rfl) ?_
      refine x_get (pc := 76) (ci := 9) C0 KN X 0 rfl rfl inlX9 10 (by decide) kw_7_15 rfl dX9_comes_76 ?_
      refine lv_aload_n (pc := 79) hx hb dX9_comes_79 rfl (lv_at hl 4 rfl) ?_
      refine x_get (pc := 80) (ci := 9) C0 KN X 0 rfl rfl inlX9 12 (by decide) kw_7_17 rfl dX9_comes_80 ?_
      refine lv_iload_n (pc := 83) hx hb dX9_comes_83 rfl (lv_at hl 6 rfl) ?_
      obtain ⟨g_15, hf⟩ := gd_e hf
      refine x_ald (pc := 84) C0 KN X 9 rfl g_15 dX9_comes_84 ?_
      refine W.eq (g2 := F0 m 85 ls [.int ((gf_Model_way S0) x2.toNatClampNeg), .ref (a 7)]) rfl ?_
      refine lv_lload (pc := 85) hx hb dX9_comes_85 (lv_at hl 0 rfl) ?_
      refine x_ldc2 (pc := 87) C0 kw_14_3 dX9_comes_87 ?_
      refine W.lcmp (pc := 90) hx hb dX9_comes_90 ?_
      refine lv_if_ge (pc := 91) (tgt := 99) hx hb dX9_comes_91 (by decide) (fun c_16 => ?_) (fun c_16 => ?_)
      · have hf := it_p hf ((lg_cmp_ge y_14 (64 : Int64)).mp c_16)
        refine lv_lload (pc := 99) hx hb dX9_comes_99 (lv_at hl 0 rfl) ?_
        refine x_ldc2 (pc := 101) C0 kw_14_4 dX9_comes_101 ?_
        refine W.lcmp (pc := 104) hx hb dX9_comes_104 ?_
        refine lv_if_le (pc := 105) (tgt := 113) hx hb dX9_comes_105 (by decide) (fun c_17 => ?_) (fun c_17 => ?_)
        · have hf := it_p hf ((lg_cmp_le y_14 (65472 : Int64)).mp c_17)
          refine lv_lload (pc := 113) hx hb dX9_comes_113 (lv_at hl 0 rfl) ?_
          refine lv_l2i (pc := 115) (v := y_14.toInt32) hx hb dX9_comes_115 rfl ?_
          exact lb_X9_comes_116 C0 KN hA _ (fl_X9_comes_2 k123 n) ih _ _ _ _ _ hf _ _ _ X (lv_sub hl [4, 5, 6] rfl)
        · have hf := it_n hf (fun z => c_17 ((lg_cmp_le y_14 (65472 : Int64)).mpr z))
          refine x_ldc (pc := 108) C0 kw_14_5 dX9_comes_108 ?_
          refine lv_goto (pc := 110) (tgt := 116) hx hb dX9_comes_110 (by decide) ?_
          exact lb_X9_comes_116 C0 KN hA _ (fl_X9_comes_2 k123 n) ih _ _ _ _ _ hf _ _ _ X (lv_sub hl [4, 5, 6] rfl)
      · have hf := it_n hf (fun z => c_16 ((lg_cmp_ge y_14 (64 : Int64)).mpr z))
        refine lv_bipush (pc := 94) (v := 64) hx hb dX9_comes_94 (by decide) ?_
        refine lv_goto (pc := 96) (tgt := 116) hx hb dX9_comes_96 (by decide) ?_
        exact lb_X9_comes_116 C0 KN hA _ (fl_X9_comes_2 k123 n) ih _ _ _ _ _ hf _ _ _ X (lv_sub hl [4, 5, 6] rfl)
set_option maxHeartbeats 4000000 in
set_option maxRecDepth 100000 in
theorem lb_X9_comes_226 {l : Launch} {p : Program} {e : Env} {s : State} {m : MethodId} {args : Array Value} {below : List Frame} {meth : Method} {c : Code} {G : xG} {A : Nat → Prop} {a : Nat → Nat} (C0 : xC p s m meth c cX9_comes 11 (none) RX9 args) (KN : xKN G s) (hA : ∀ q, s.heap.size ≤ q → A q) (So0 : tt_Model) (k125 : tt_Model → Int32 → Int32 → Option tt_Model) (hk125 : ∀ (S0 : tt_Model) (x1 : Int32) (x2 : Int32), k125 S0 x1 x2 = some So0 → ∀ (H : Heap) (locs : List Loc) (ls : Array Slot), xS G A s.heap (wd_Model G a S0) H locs → lv_has ls 11 [(0, .ref (a 0)), (1, .int x1), (2, .int x2)] → W p l e ({ frames := 1, cells := 0, slots := 0, locals := 23 }) s m args below meth c H locs 0 0 (MQ below (xQo G none A (wd_Model G a So0)) args s 0 0 A) (F0 m 125 ls [])) : ∀ (S0 : tt_Model) (x1 : Int32) (x2 : Int32), fn_X9_comes_226 k125 S0 x1 x2 = some So0 → ∀ (H : Heap) (locs : List Loc) (ls : Array Slot), xS G A s.heap (wd_Model G a S0) H locs → lv_has ls 11 [(0, .ref (a 0)), (1, .int x1), (2, .int x2)] → W p l e ({ frames := 1, cells := 0, slots := 0, locals := 23 }) s m args below meth c H locs 0 0 (MQ below (xQo G none A (wd_Model G a So0)) args s 0 0 A) (F0 m 226 ls []) := by
  have hx := C0.1
  have hb := C0.2.1
  intro S0 x1 x2 hf H locs ls X hl
  unfold fn_X9_comes_226 at hf
  obtain ⟨y_52, ey_52⟩ : ∃ y : Int32, y = x2 + (1 : Int32) := ⟨_, rfl⟩
  have hf := lt_sb hf ey_52
  refine lv_iinc (pc := 226) (v := y_52) (lv' := [(2, .int y_52), (0, .ref (a 0)), (1, .int x1)]) hx hb dX9_comes_226 hl (k := 2) rfl (by rw [ey_52]; rfl) (by decide) rfl (fun ls hl => ?_)
  refine lv_goto (pc := 229) (tgt := 125) hx hb dX9_comes_229 (by decide) ?_
  exact hk125 _ _ _ hf _ _ _ X (lv_sub hl [1, 2, 0] rfl)
set_option maxHeartbeats 4000000 in
set_option maxRecDepth 100000 in
theorem lb_X9_comes_206 {l : Launch} {p : Program} {e : Env} {s : State} {m : MethodId} {args : Array Value} {below : List Frame} {meth : Method} {c : Code} {G : xG} {A : Nat → Prop} {a : Nat → Nat} (C0 : xC p s m meth c cX9_comes 11 (none) RX9 args) (KN : xKN G s) (hA : ∀ q, s.heap.size ≤ q → A q) (So0 : tt_Model) (k125 : tt_Model → Int32 → Int32 → Option tt_Model) (hk125 : ∀ (S0 : tt_Model) (x1 : Int32) (x2 : Int32), k125 S0 x1 x2 = some So0 → ∀ (H : Heap) (locs : List Loc) (ls : Array Slot), xS G A s.heap (wd_Model G a S0) H locs → lv_has ls 11 [(0, .ref (a 0)), (1, .int x1), (2, .int x2)] → W p l e ({ frames := 1, cells := 0, slots := 0, locals := 23 }) s m args below meth c H locs 0 0 (MQ below (xQo G none A (wd_Model G a So0)) args s 0 0 A) (F0 m 125 ls [])) : ∀ (S0 : tt_Model) (x1 : Int32) (x2 : Int32) (x3 : Int32), fn_X9_comes_206 k125 S0 x1 x2 x3 = some So0 → ∀ (H : Heap) (locs : List Loc) (ls : Array Slot), xS G A s.heap (wd_Model G a S0) H locs → lv_has ls 11 [(0, .ref (a 0)), (1, .int x1), (2, .int x2), (3, .int x3)] → W p l e ({ frames := 1, cells := 0, slots := 0, locals := 23 }) s m args below meth c H locs 0 0 (MQ below (xQo G none A (wd_Model G a So0)) args s 0 0 A) (F0 m 206 ls []) := by
  have hx := C0.1
  have hb := C0.2.1
  intro S0 x1 x2 x3 hf H locs ls X hl
  unfold fn_X9_comes_206 at hf
  refine lv_aload_n (pc := 206) hx hb dX9_comes_206 rfl (lv_at hl 0 rfl) ?_
  refine x_get (pc := 207) (ci := 9) C0 KN X 0 rfl rfl inlX9 8 (by decide) kw_7_13 rfl dX9_comes_207 ?_
  refine lv_iload_n (pc := 210) hx hb dX9_comes_210 rfl (lv_at hl 3 rfl) ?_
  refine lv_dup2_11 (pc := 211) hx hb dX9_comes_211 rfl rfl ?_
  obtain ⟨g_44, hf⟩ := gd_e hf
  refine x_ald (pc := 212) C0 KN X 5 rfl g_44 dX9_comes_212 ?_
  refine W.eq (g2 := F0 m 213 ls [.int ((gf_Model_noughts S0) x3.toNatClampNeg), .int x3, .ref (a 5)]) rfl ?_
  refine lv_iconst (pc := 213) (v := 2) hx hb dX9_comes_213 (by decide) ?_
  refine lv_idiv (pc := 214) hx hb dX9_comes_214 (by decide) ?_
  refine lv_topi (fun y_45 ey_45 => ?_)
  have hf := lt_sb hf ey_45
  obtain ⟨g_46, hf⟩ := gd_e hf
  obtain ⟨S_47, eS_47, hf⟩ := lt_e hf
  refine x_ast (pc := 215) (ws' := wd_Model G a S_47) C0 KN X 5 rfl g_46 (by subst eS_47; rfl) dX9_comes_215 (fun H locs X => ?_)
  refine lv_aload_n (pc := 216) hx hb dX9_comes_216 rfl (lv_at hl 0 rfl) ?_
  refine x_get (pc := 217) (ci := 9) C0 KN X 0 rfl rfl inlX9 9 (by decide) kw_7_14 rfl dX9_comes_217 ?_
  refine lv_iload_n (pc := 220) hx hb dX9_comes_220 rfl (lv_at hl 3 rfl) ?_
  refine lv_dup2_11 (pc := 221) hx hb dX9_comes_221 rfl rfl ?_
  obtain ⟨g_48, hf⟩ := gd_e hf
  refine x_ald (pc := 222) C0 KN X 6 rfl g_48 dX9_comes_222 ?_
  refine W.eq (g2 := F0 m 223 ls [.int ((gf_Model_ones S_47) x3.toNatClampNeg), .int x3, .ref (a 6)]) rfl ?_
  refine lv_iconst (pc := 223) (v := 2) hx hb dX9_comes_223 (by decide) ?_
  refine lv_idiv (pc := 224) hx hb dX9_comes_224 (by decide) ?_
  refine lv_topi (fun y_49 ey_49 => ?_)
  have hf := lt_sb hf ey_49
  obtain ⟨g_50, hf⟩ := gd_e hf
  obtain ⟨S_51, eS_51, hf⟩ := lt_e hf
  refine x_ast (pc := 225) (ws' := wd_Model G a S_51) C0 KN X 6 rfl g_50 (by subst eS_51; rfl) dX9_comes_225 (fun H locs X => ?_)
  exact lb_X9_comes_226 C0 KN hA _ k125 hk125 _ _ _ hf _ _ _ X (lv_sub hl [0, 1, 2] rfl)
set_option maxHeartbeats 4000000 in
set_option maxRecDepth 100000 in
theorem lb_X9_comes_125 {l : Launch} {p : Program} {e : Env} {s : State} {m : MethodId} {args : Array Value} {below : List Frame} {meth : Method} {c : Code} {G : xG} {A : Nat → Prop} {a : Nat → Nat} (C0 : xC p s m meth c cX9_comes 11 (none) RX9 args) (KN : xKN G s) (hA : ∀ q, s.heap.size ≤ q → A q) (So0 : tt_Model) (k232 : tt_Model → Int32 → Option tt_Model) (hk232 : ∀ (S0 : tt_Model) (x1 : Int32), k232 S0 x1 = some So0 → ∀ (H : Heap) (locs : List Loc) (ls : Array Slot), xS G A s.heap (wd_Model G a S0) H locs → lv_has ls 11 [(0, .ref (a 0)), (1, .int x1)] → W p l e ({ frames := 1, cells := 0, slots := 0, locals := 23 }) s m args below meth c H locs 0 0 (MQ below (xQo G none A (wd_Model G a So0)) args s 0 0 A) (F0 m 232 ls [])) : ∀ (n : Nat) (S0 : tt_Model) (x1 : Int32) (x2 : Int32), fl_X9_comes_125 k232 n S0 x1 x2 = some So0 → ∀ (H : Heap) (locs : List Loc) (ls : Array Slot), xS G A s.heap (wd_Model G a S0) H locs → lv_has ls 11 [(0, .ref (a 0)), (1, .int x1), (2, .int x2)] → W p l e ({ frames := 1, cells := 0, slots := 0, locals := 23 }) s m args below meth c H locs 0 0 (MQ below (xQo G none A (wd_Model G a So0)) args s 0 0 A) (F0 m 125 ls []) := by
  have hx := C0.1
  have hb := C0.2.1
  intro n
  induction n with
  | zero =>
    intro S0 x1 x2 hf
    have hf : none = some So0 := hf
    cases hf
  | succ n ih =>
    intro S0 x1 x2 hf H locs ls X hl
    rw [fl_X9_comes_125] at hf
    refine lv_iload_n (pc := 125) hx hb dX9_comes_125 rfl (lv_at hl 2 rfl) ?_
    refine lv_aload_n (pc := 126) hx hb dX9_comes_126 rfl (lv_at hl 0 rfl) ?_
    refine x_get (pc := 127) (ci := 9) C0 KN X 0 rfl rfl inlX9 6 (by decide) kw_12_20 rfl dX9_comes_127 ?_
    refine W.eq (g2 := F0 m 130 ls [.int (gf_Model_byDepth S0), .int x2]) rfl ?_
    refine lv_icmp_gt (pc := 130) (tgt := 232) hx hb dX9_comes_130 (by decide) (fun c_22 => ?_) (fun c_22 => ?_)
    · have hf := it_p hf c_22
      exact hk232 _ _ hf _ _ _ X (lv_sub hl [0, 1] rfl)
    · have hf := it_n hf c_22
      refine lv_aload_n (pc := 133) hx hb dX9_comes_133 rfl (lv_at hl 0 rfl) ?_
      refine x_get (pc := 134) (ci := 9) C0 KN X 0 rfl rfl inlX9 12 (by decide) kw_7_17 rfl dX9_comes_134 ?_
      refine lv_iload_n (pc := 137) hx hb dX9_comes_137 rfl (lv_at hl 2 rfl) ?_
      obtain ⟨g_23, hf⟩ := gd_e hf
      refine x_ald (pc := 138) C0 KN X 9 rfl g_23 dX9_comes_138 ?_
      refine W.eq (g2 := F0 m 139 ls [.int ((gf_Model_way S0) x2.toNatClampNeg)]) rfl ?_
      refine lv_topi (fun y_24 ey_24 => ?_)
      have hf := lt_sb hf ey_24
      refine lv_istore_n (pc := 139) (lv' := [(3, .int y_24), (0, .ref (a 0)), (1, .int x1), (2, .int x2)]) hx hb dX9_comes_139 rfl hl (by decide) rfl (fun ls hl => ?_)
      refine lv_aload_n (pc := 140) hx hb dX9_comes_140 rfl (lv_at hl 1 rfl) ?_
      refine x_get (pc := 141) (ci := 9) C0 KN X 0 rfl rfl inlX9 11 (by decide) kw_7_16 rfl dX9_comes_141 ?_
      refine lv_iload_n (pc := 144) hx hb dX9_comes_144 rfl (lv_at hl 0 rfl) ?_
      refine lv_dup2_11 (pc := 145) hx hb dX9_comes_145 rfl rfl ?_
      obtain ⟨g_25, hf⟩ := gd_e hf
      refine x_ald (pc := 146) C0 KN X 8 rfl g_25 dX9_comes_146 ?_
      refine W.eq (g2 := F0 m 147 ls [.int ((gf_Model_ownCost S0) y_24.toNatClampNeg), .int y_24, .ref (a 8)]) rfl ?_
      refine lv_aload_n (pc := 147) hx hb dX9_comes_147 rfl (lv_at hl 1 rfl) ?_
      refine x_get (pc := 148) (ci := 9) C0 KN X 0 rfl rfl inlX9 13 (by decide) kw_7_18 rfl dX9_comes_148 ?_
      refine lv_iload_n (pc := 151) hx hb dX9_comes_151 rfl (lv_at hl 3 rfl) ?_
      obtain ⟨g_26, hf⟩ := gd_e hf
      refine x_ald (pc := 152) C0 KN X 10 rfl g_26 dX9_comes_152 ?_
      refine W.eq (g2 := F0 m 153 ls [.int ((gf_Model_own S0) x2.toNatClampNeg), .int ((gf_Model_ownCost S0) y_24.toNatClampNeg), .int y_24, .ref (a 8)]) rfl ?_
      refine lv_iload_n (pc := 153) hx hb dX9_comes_153 rfl (lv_at hl 2 rfl) ?_
      obtain ⟨r_27, h_28, hf⟩ := bd_e hf
      refine x_cs (pc := 154) (As := [.int ((gf_Model_own S0) x2.toNatClampNeg), .int x1]) (rest := [.int ((gf_Model_ownCost S0) y_24.toNatClampNeg), .int y_24, .ref (a 8)]) C0 (ct_X9_odds l ((gf_Model_own S0) x2.toNatClampNeg) x1 r_27 h_28) kw_13_18 kw_13_16 kw_13_17 kw_1_5 hd_X9_odds ⟨by decide, by decide⟩ hl.1 rfl (Nat.le_of_ble_eq_true rfl) ⟨Nat.zero_le _, Nat.zero_le _⟩ dX9_comes_154 ?_
      refine W.eq (g2 := F0 m 157 ls [.int r_27, .int ((gf_Model_ownCost S0) y_24.toNatClampNeg), .int y_24, .ref (a 8)]) rfl ?_
      obtain ⟨r_29, h_30, hf⟩ := bd_e hf
      refine x_cs (pc := 157) (As := [.int r_27]) (rest := [.int ((gf_Model_ownCost S0) y_24.toNatClampNeg), .int y_24, .ref (a 8)]) C0 (ct_X9_bitsOf l r_27 r_29 h_30) kw_13_22 kw_13_20 kw_13_21 kw_1_5 hd_X9_bitsOf ⟨by decide, by decide⟩ hl.1 rfl (Nat.le_of_ble_eq_true rfl) ⟨Nat.zero_le _, Nat.zero_le _⟩ dX9_comes_157 ?_
      refine W.eq (g2 := F0 m 160 ls [.int r_29, .int ((gf_Model_ownCost S0) y_24.toNatClampNeg), .int y_24, .ref (a 8)]) rfl ?_
      refine lv_iadd (pc := 160) hx hb dX9_comes_160 ?_
      refine lv_topi (fun y_31 ey_31 => ?_)
      have hf := lt_sb hf ey_31
      obtain ⟨g_32, hf⟩ := gd_e hf
      obtain ⟨S_33, eS_33, hf⟩ := lt_e hf
      refine x_ast (pc := 161) (ws' := wd_Model G a S_33) C0 KN X 8 rfl g_32 (by subst eS_33; rfl) dX9_comes_161 (fun H locs X => ?_)
      refine lv_aload_n (pc := 162) hx hb dX9_comes_162 rfl (lv_at hl 1 rfl) ?_
      refine x_get (pc := 163) (ci := 9) C0 KN X 0 rfl rfl inlX9 8 (by decide) kw_7_13 rfl dX9_comes_163 ?_
      refine lv_iload_n (pc := 166) hx hb dX9_comes_166 rfl (lv_at hl 0 rfl) ?_
      refine lv_dup2_11 (pc := 167) hx hb dX9_comes_167 rfl rfl ?_
      obtain ⟨g_34, hf⟩ := gd_e hf
      refine x_ald (pc := 168) C0 KN X 5 rfl g_34 dX9_comes_168 ?_
      refine W.eq (g2 := F0 m 169 ls [.int ((gf_Model_noughts S_33) y_24.toNatClampNeg), .int y_24, .ref (a 5)]) rfl ?_
      refine lv_iconst (pc := 169) (v := 1) hx hb dX9_comes_169 (by decide) ?_
      refine lv_iload_n (pc := 170) hx hb dX9_comes_170 rfl (lv_at hl 2 rfl) ?_
      refine lv_isub (pc := 171) hx hb dX9_comes_171 ?_
      refine lv_iadd (pc := 172) hx hb dX9_comes_172 ?_
      refine lv_topi (fun y_35 ey_35 => ?_)
      have hf := lt_sb hf ey_35
      obtain ⟨g_36, hf⟩ := gd_e hf
      obtain ⟨S_37, eS_37, hf⟩ := lt_e hf
      refine x_ast (pc := 173) (ws' := wd_Model G a S_37) C0 KN X 5 rfl g_36 (by subst eS_37; rfl) dX9_comes_173 (fun H locs X => ?_)
      refine lv_aload_n (pc := 174) hx hb dX9_comes_174 rfl (lv_at hl 1 rfl) ?_
      refine x_get (pc := 175) (ci := 9) C0 KN X 0 rfl rfl inlX9 9 (by decide) kw_7_14 rfl dX9_comes_175 ?_
      refine lv_iload_n (pc := 178) hx hb dX9_comes_178 rfl (lv_at hl 0 rfl) ?_
      refine lv_dup2_11 (pc := 179) hx hb dX9_comes_179 rfl rfl ?_
      obtain ⟨g_38, hf⟩ := gd_e hf
      refine x_ald (pc := 180) C0 KN X 6 rfl g_38 dX9_comes_180 ?_
      refine W.eq (g2 := F0 m 181 ls [.int ((gf_Model_ones S_37) y_24.toNatClampNeg), .int y_24, .ref (a 6)]) rfl ?_
      refine lv_iload_n (pc := 181) hx hb dX9_comes_181 rfl (lv_at hl 2 rfl) ?_
      refine lv_iadd (pc := 182) hx hb dX9_comes_182 ?_
      refine lv_topi (fun y_39 ey_39 => ?_)
      have hf := lt_sb hf ey_39
      obtain ⟨g_40, hf⟩ := gd_e hf
      obtain ⟨S_41, eS_41, hf⟩ := lt_e hf
      refine x_ast (pc := 183) (ws' := wd_Model G a S_41) C0 KN X 6 rfl g_40 (by subst eS_41; rfl) dX9_comes_183 (fun H locs X => ?_)
      refine lv_aload_n (pc := 184) hx hb dX9_comes_184 rfl (lv_at hl 1 rfl) ?_
      refine x_get (pc := 185) (ci := 9) C0 KN X 0 rfl rfl inlX9 8 (by decide) kw_7_13 rfl dX9_comes_185 ?_
      refine lv_iload_n (pc := 188) hx hb dX9_comes_188 rfl (lv_at hl 0 rfl) ?_
      obtain ⟨g_42, hf⟩ := gd_e hf
      refine x_ald (pc := 189) C0 KN X 5 rfl g_42 dX9_comes_189 ?_
      refine W.eq (g2 := F0 m 190 ls [.int ((gf_Model_noughts S_41) y_24.toNatClampNeg)]) rfl ?_
      refine lv_bipush (pc := 190) (v := 60) hx hb dX9_comes_190 (by decide) ?_
      refine lv_icmp_gt (pc := 192) (tgt := 206) hx hb dX9_comes_192 (by decide) (fun c_43 => ?_) (fun c_43 => ?_)
      · have hf := it_p hf c_43
        exact lb_X9_comes_206 C0 KN hA _ (fl_X9_comes_125 k232 n) ih _ _ _ _ hf _ _ _ X (lv_sub hl [1, 2, 3, 0] rfl)
      · have hf := it_n hf c_43
        refine lv_aload_n (pc := 195) hx hb dX9_comes_195 rfl (lv_at hl 1 rfl) ?_
        refine x_get (pc := 196) (ci := 9) C0 KN X 0 rfl rfl inlX9 9 (by decide) kw_7_14 rfl dX9_comes_196 ?_
        refine lv_iload_n (pc := 199) hx hb dX9_comes_199 rfl (lv_at hl 0 rfl) ?_
        obtain ⟨g_53, hf⟩ := gd_e hf
        refine x_ald (pc := 200) C0 KN X 6 rfl g_53 dX9_comes_200 ?_
        refine W.eq (g2 := F0 m 201 ls [.int ((gf_Model_ones S_41) y_24.toNatClampNeg)]) rfl ?_
        refine lv_bipush (pc := 201) (v := 60) hx hb dX9_comes_201 (by decide) ?_
        refine lv_icmp_le (pc := 203) (tgt := 226) hx hb dX9_comes_203 (by decide) (fun c_54 => ?_) (fun c_54 => ?_)
        · have hf := it_p hf c_54
          exact lb_X9_comes_226 C0 KN hA _ (fl_X9_comes_125 k232 n) ih _ _ _ hf _ _ _ X (lv_sub hl [1, 2, 3] rfl)
        · have hf := it_n hf c_54
          exact lb_X9_comes_206 C0 KN hA _ (fl_X9_comes_125 k232 n) ih _ _ _ _ hf _ _ _ X (lv_sub hl [1, 2, 3, 0] rfl)
theorem hd_X9_comes : yX9_comes.cls ≠ "java/lang/invoke/MethodHandle" ∧ yX9_comes.cls ≠ "java/lang/invoke/VarHandle" ∧ (parseMethodDescriptor yX9_comes.desc).map (fun d => d.parameters.length) = some 1 := by decide +kernel
set_option maxHeartbeats 4000000 in
set_option maxRecDepth 100000 in
theorem ct_X9_comes (l : Launch) (G : xG) (a : Nat → Nat) (S0 : tt_Model) (x1 : Int32) (So0 : tt_Model) (hf : fn_X9_comes S0 x1 = some So0) : xM l yX9_comes cX9_comes 11 (none) 1 23 G [.ref (a 0), .int x1] (wd_Model G a S0) (wd_Model G a So0) none := by
  refine xMi (by decide) (Nat.le_of_ble_eq_true rfl) ?_
  intro p e s m below meth c A C0 KN hA X ls hl
  have hx := C0.1
  have hb := C0.2.1
  have C0 : xC p s m meth c cX9_comes 11 (none) RX9 _ := C0
  have hl : lv_has ls 11 [(0, .ref (a 0)), (1, .int x1)] := hl
  unfold fn_X9_comes at hf
  refine lv_iconst (pc := 0) (v := 0) hx hb dX9_comes_0 (by decide) ?_
  refine lv_istore_n (pc := 1) (lv' := [(2, .int (0 : Int32)), (0, .ref (a 0)), (1, .int x1)]) hx hb dX9_comes_1 rfl hl (by decide) rfl (fun ls hl => ?_)
  refine lb_X9_comes_2 C0 KN hA _ _ ?_ _ _ _ _ hf _ _ _ X (lv_sub hl [1, 2, 0] rfl)
  · intro S0_e123_21 x1_e123_21 hf H locs ls X hl
    refine lv_iconst (pc := 123) (v := 0) hx hb dX9_comes_123 (by decide) ?_
    refine lv_istore_n (pc := 124) (lv' := [(2, .int (0 : Int32)), (0, .ref (a 0)), (1, .int x1_e123_21)]) hx hb dX9_comes_124 rfl hl (by decide) rfl (fun ls hl => ?_)
    refine lb_X9_comes_125 C0 KN hA _ _ ?_ _ _ _ _ hf _ _ _ X (lv_sub hl [1, 2, 0] rfl)
    · intro S0_e232_55 x1_e232_55 hf H locs ls X hl
      refine lv_aload_n (pc := 232) hx hb dX9_comes_232 rfl (lv_at hl 0 rfl) ?_
      refine x_get (pc := 233) (ci := 9) C0 KN X 0 rfl rfl inlX9 15 (by decide) kw_7_20 rfl dX9_comes_233 ?_
      refine lv_aload_n (pc := 236) hx hb dX9_comes_236 rfl (lv_at hl 0 rfl) ?_
      refine x_get (pc := 237) (ci := 9) C0 KN X 0 rfl rfl inlX9 5 (by decide) kw_12_19 rfl dX9_comes_237 ?_
      refine W.eq (g2 := F0 m 240 ls [.int (gf_Model_came S0_e232_55), .ref (a 12)]) rfl ?_
      refine lv_aload_n (pc := 240) hx hb dX9_comes_240 rfl (lv_at hl 0 rfl) ?_
      refine x_get (pc := 241) (ci := 9) C0 KN X 0 rfl rfl inlX9 14 (by decide) kw_7_19 rfl dX9_comes_241 ?_
      refine lv_iconst (pc := 244) (v := 0) hx hb dX9_comes_244 (by decide) ?_
      obtain ⟨g_56, hf⟩ := gd_e hf
      refine x_ald (pc := 245) C0 KN X 11 rfl g_56 dX9_comes_245 ?_
      refine W.eq (g2 := F0 m 246 ls [.int ((gf_Model_mixed S0_e232_55) (0 : Int32).toNatClampNeg), .int (gf_Model_came S0_e232_55), .ref (a 12)]) rfl ?_
      refine lv_topi (fun y_57 ey_57 => ?_)
      have hf := lt_sb hf ey_57
      obtain ⟨g_58, hf⟩ := gd_e hf
      obtain ⟨S_59, eS_59, hf⟩ := lt_e hf
      refine x_ast (pc := 246) (ws' := wd_Model G a S_59) C0 KN X 12 rfl g_58 (by subst eS_59; rfl) dX9_comes_246 (fun H locs X => ?_)
      refine lv_aload_n (pc := 247) hx hb dX9_comes_247 rfl (lv_at hl 0 rfl) ?_
      refine x_get (pc := 248) (ci := 9) C0 KN X 0 rfl rfl inlX9 4 (by decide) kw_7_12 rfl dX9_comes_248 ?_
      refine lv_aload_n (pc := 251) hx hb dX9_comes_251 rfl (lv_at hl 0 rfl) ?_
      refine x_get (pc := 252) (ci := 9) C0 KN X 0 rfl rfl inlX9 5 (by decide) kw_12_19 rfl dX9_comes_252 ?_
      refine W.eq (g2 := F0 m 255 ls [.int (gf_Model_came S_59), .ref (a 4)]) rfl ?_
      refine lv_iload_n (pc := 255) hx hb dX9_comes_255 rfl (lv_at hl 1 rfl) ?_
      obtain ⟨g_60, hf⟩ := gd_e hf
      obtain ⟨S_61, eS_61, hf⟩ := lt_e hf
      refine x_ast (pc := 256) (ws' := wd_Model G a S_61) C0 KN X 4 rfl g_60 (by subst eS_61; rfl) dX9_comes_256 (fun H locs X => ?_)
      refine lv_aload_n (pc := 257) hx hb dX9_comes_257 rfl (lv_at hl 0 rfl) ?_
      refine lv_dup (pc := 258) hx hb dX9_comes_258 rfl ?_
      refine x_get (pc := 259) (ci := 9) C0 KN X 0 rfl rfl inlX9 5 (by decide) kw_12_19 rfl dX9_comes_259 ?_
      refine W.eq (g2 := F0 m 262 ls [.int (gf_Model_came S_61), .ref (a 0)]) rfl ?_
      refine lv_iconst (pc := 262) (v := 1) hx hb dX9_comes_262 (by decide) ?_
      refine lv_iadd (pc := 263) hx hb dX9_comes_263 ?_
      refine lv_topi (fun y_62 ey_62 => ?_)
      have hf := lt_sb hf ey_62
      obtain ⟨S_63, eS_63, hf⟩ := lt_e hf
      refine x_put (pc := 264) (ci := 9) (ws' := wd_Model G a S_63) C0 KN X 0 rfl rfl inlX9 tyX9_ok nmX9 5 (by decide) kw_12_19 rfl rfl rfl (Nat.le_of_ble_eq_true rfl) (by subst eS_63; rfl) dX9_comes_264 (fun H locs X => ?_)
      obtain rfl := so_1 hf
      exact x_vret (pc := 267) C0 X dX9_comes_267
set_option maxHeartbeats 4000000 in
set_option maxRecDepth 100000 in
theorem lb_X9_goes_11 {l : Launch} {p : Program} {e : Env} {s : State} {m : MethodId} {args : Array Value} {below : List Frame} {meth : Method} {c : Code} {G : xG} {A : Nat → Prop} {a : Nat → Nat} (C0 : xC p s m meth c cX9_goes 5 (some .int) RX9 args) (KN : xKN G s) (hA : ∀ q, s.heap.size ≤ q → A q) (ro : Int32) (So0 : tt_Model) (k57 : tt_Model → Int32 → Option (Int32 × tt_Model)) (hk57 : ∀ (S0 : tt_Model) (x3 : Int32), k57 S0 x3 = some (ro, So0) → ∀ (H : Heap) (locs : List Loc) (ls : Array Slot), xS G A s.heap (wd_Model G a S0) H locs → lv_has ls 5 [(0, .ref (a 0)), (3, .int x3)] → W p l e ({ frames := 3, cells := 0, slots := 0, locals := 70 }) s m args below meth c H locs 0 0 (MQ below (xQo G (some (.int ro)) A (wd_Model G a So0)) args s 0 0 A) (F0 m 57 ls [])) : ∀ (n : Nat) (S0 : tt_Model) (x3 : Int32) (x4 : Int32), fl_X9_goes_11 k57 n S0 x3 x4 = some (ro, So0) → ∀ (H : Heap) (locs : List Loc) (ls : Array Slot), xS G A s.heap (wd_Model G a S0) H locs → lv_has ls 5 [(0, .ref (a 0)), (3, .int x3), (4, .int x4)] → W p l e ({ frames := 3, cells := 0, slots := 0, locals := 70 }) s m args below meth c H locs 0 0 (MQ below (xQo G (some (.int ro)) A (wd_Model G a So0)) args s 0 0 A) (F0 m 11 ls []) := by
  have hx := C0.1
  have hb := C0.2.1
  intro n
  induction n with
  | zero =>
    intro S0 x3 x4 hf
    have hf : none = some (ro, So0) := hf
    cases hf
  | succ n ih =>
    intro S0 x3 x4 hf H locs ls X hl
    rw [fl_X9_goes_11] at hf
    refine lv_iload (pc := 11) hx hb dX9_goes_11 (lv_at hl 2 rfl) ?_
    refine lv_aload_n (pc := 13) hx hb dX9_goes_13 rfl (lv_at hl 0 rfl) ?_
    obtain ⟨r_3, h_4, hf⟩ := bd_e hf
    refine x_cv (pc := 14) (ws' := wd_Model G a S0) (As := []) (rest := [.int x4]) (ci := 9) (qr := 0) C0 KN X hA [0, 1, 2, 3, 4, 5, 6, 7, 8, 9, 10, 11, 12, 13, 14, 15, 16, 17, 18] [] [0, 1, 2, 3, 4, 5, 6, 7, 8, 9, 10, 11, 12, 13, 14, 15, 16, 17, 18] cu_C49 rfl cu_R49 rfl (by decide) (cu_J49 (S0 := S0)) rfl (ct_X9_many l G a S0 r_3 h_4) rfl rfl rfl kw_11_5 kw_11_2 kw_11_3 kw_11_4 kw_1_5 hd_X9_many ⟨by decide, by decide⟩ hl.1 rfl (Nat.le_of_ble_eq_true rfl) ⟨Nat.zero_le _, Nat.zero_le _⟩ dX9_goes_14 (fun H locs X => ?_)
    refine W.eq (g2 := F0 m 17 ls [.int r_3, .int x4]) rfl ?_
    refine lv_icmp_ge (pc := 17) (tgt := 57) hx hb dX9_goes_17 (by decide) (fun c_5 => ?_) (fun c_5 => ?_)
    · have hf := it_p hf c_5
      exact hk57 _ _ hf _ _ _ X (lv_sub hl [0, 1] rfl)
    · have hf := it_n hf c_5
      refine lv_iload_n (pc := 20) hx hb dX9_goes_20 rfl (lv_at hl 1 rfl) ?_
      refine lv_aload_n (pc := 21) hx hb dX9_goes_21 rfl (lv_at hl 0 rfl) ?_
      obtain ⟨r_6, P_7, h_8, hf⟩ := b2_e hf
      refine x_cv (pc := 22) (ws' := wd_Model G a P_7) (As := []) (rest := [.int x3]) (ci := 9) (qr := 0) C0 KN X hA [0, 1, 2, 3, 4, 5, 6, 7, 8, 9, 10, 11, 12, 13, 14, 15, 16, 17, 18] [] [0, 1, 2, 3, 4, 5, 6, 7, 8, 9, 10, 11, 12, 13, 14, 15, 16, 17, 18] cu_C50 rfl cu_R50 rfl (by decide) (cu_J50 (S0 := S0)) rfl (ct_X9_guesses l G a S0 r_6 P_7 h_8) rfl rfl rfl kw_13_2 kw_12_23 kw_13_0 kw_13_1 kw_1_5 hd_X9_guesses ⟨by decide, by decide⟩ hl.1 rfl (Nat.le_of_ble_eq_true rfl) ⟨Nat.zero_le _, Nat.zero_le _⟩ dX9_goes_22 (fun H locs X => ?_)
      refine W.eq (g2 := F0 m 25 ls [.int r_6, .int x3]) rfl ?_
      refine lv_aload_n (pc := 25) hx hb dX9_goes_25 rfl (lv_at hl 0 rfl) ?_
      refine x_get (pc := 26) (ci := 9) C0 KN X 0 rfl rfl inlX9 0 (by decide) kw_7_9 rfl dX9_goes_26 ?_
      refine lv_iload (pc := 29) hx hb dX9_goes_29 (lv_at hl 2 rfl) ?_
      obtain ⟨g_9, hf⟩ := gd_e hf
      refine x_ald (pc := 31) C0 KN X 1 rfl g_9 dX9_goes_31 ?_
      refine W.eq (g2 := F0 m 32 ls [.int ((gf_Model_now P_7) x4.toNatClampNeg), .int r_6, .int x3]) rfl ?_
      obtain ⟨r_10, h_11, hf⟩ := bd_e hf
      refine x_cs (pc := 32) (As := [.int r_6, .int ((gf_Model_now P_7) x4.toNatClampNeg)]) (rest := [.int x3]) C0 (ct_X9_odds l r_6 ((gf_Model_now P_7) x4.toNatClampNeg) r_10 h_11) kw_13_18 kw_13_16 kw_13_17 kw_1_5 hd_X9_odds ⟨by decide, by decide⟩ hl.1 rfl (Nat.le_of_ble_eq_true rfl) ⟨Nat.zero_le _, Nat.zero_le _⟩ dX9_goes_32 ?_
      refine W.eq (g2 := F0 m 35 ls [.int r_10, .int x3]) rfl ?_
      obtain ⟨r_12, h_13, hf⟩ := bd_e hf
      refine x_cs (pc := 35) (As := [.int r_10]) (rest := [.int x3]) C0 (ct_X9_bitsOf l r_10 r_12 h_13) kw_13_22 kw_13_20 kw_13_21 kw_1_5 hd_X9_bitsOf ⟨by decide, by decide⟩ hl.1 rfl (Nat.le_of_ble_eq_true rfl) ⟨Nat.zero_le _, Nat.zero_le _⟩ dX9_goes_35 ?_
      refine W.eq (g2 := F0 m 38 ls [.int r_12, .int x3]) rfl ?_
      refine lv_iadd (pc := 38) hx hb dX9_goes_38 ?_
      refine lv_topi (fun y_14 ey_14 => ?_)
      have hf := lt_sb hf ey_14
      refine lv_istore_n (pc := 39) (lv' := [(3, .int y_14), (0, .ref (a 0)), (4, .int x4)]) hx hb dX9_goes_39 rfl hl (by decide) rfl (fun ls hl => ?_)
      refine lv_aload_n (pc := 40) hx hb dX9_goes_40 rfl (lv_at hl 1 rfl) ?_
      refine lv_aload_n (pc := 41) hx hb dX9_goes_41 rfl (lv_at hl 1 rfl) ?_
      refine x_get (pc := 42) (ci := 9) C0 KN X 0 rfl rfl inlX9 0 (by decide) kw_7_9 rfl dX9_goes_42 ?_
      refine lv_iload (pc := 45) hx hb dX9_goes_45 (lv_at hl 2 rfl) ?_
      obtain ⟨g_15, hf⟩ := gd_e hf
      refine x_ald (pc := 47) C0 KN X 1 rfl g_15 dX9_goes_47 ?_
      refine W.eq (g2 := F0 m 48 ls [.int ((gf_Model_now P_7) x4.toNatClampNeg), .ref (a 0)]) rfl ?_
      obtain ⟨P_16, h_17, hf⟩ := bd_e hf
      refine x_cv (pc := 48) (ws' := wd_Model G a P_16) (As := [.int ((gf_Model_now P_7) x4.toNatClampNeg)]) (rest := []) (ci := 9) (qr := 0) C0 KN X hA [0, 1, 2, 3, 4, 5, 6, 7, 8, 9, 10, 11, 12, 13, 14, 15, 16, 17, 18] [] [0, 1, 2, 3, 4, 5, 6, 7, 8, 9, 10, 11, 12, 13, 14, 15, 16, 17, 18] cu_C50 rfl cu_R50 rfl (by decide) (cu_J50 (S0 := P_7)) rfl (ct_X9_comes l G a P_7 ((gf_Model_now P_7) x4.toNatClampNeg) P_16 h_17) rfl rfl rfl kw_14_2 kw_13_23 kw_14_0 kw_14_1 kw_1_5 hd_X9_comes ⟨by decide, by decide⟩ hl.1 rfl (Nat.le_of_ble_eq_true rfl) ⟨Nat.zero_le _, Nat.zero_le _⟩ dX9_goes_48 (fun H locs X => ?_)
      refine W.eq (g2 := F0 m 51 ls []) rfl ?_
      obtain ⟨y_18, ey_18⟩ : ∃ y : Int32, y = x4 + (1 : Int32) := ⟨_, rfl⟩
      have hf := lt_sb hf ey_18
      refine lv_iinc (pc := 51) (v := y_18) (lv' := [(4, .int y_18), (3, .int y_14), (0, .ref (a 0))]) hx hb dX9_goes_51 hl (k := 2) rfl (by rw [ey_18]; rfl) (by decide) rfl (fun ls hl => ?_)
      refine lv_goto (pc := 54) (tgt := 11) hx hb dX9_goes_54 (by decide) ?_
      exact ih _ _ _ hf _ _ _ X (lv_sub hl [2, 1, 0] rfl)
theorem hd_X9_goes : yX9_goes.cls ≠ "java/lang/invoke/MethodHandle" ∧ yX9_goes.cls ≠ "java/lang/invoke/VarHandle" ∧ (parseMethodDescriptor yX9_goes.desc).map (fun d => d.parameters.length) = some 2 := by decide +kernel
set_option maxHeartbeats 4000000 in
set_option maxRecDepth 100000 in
theorem ct_X9_goes (l : Launch) (G : xG) (a : Nat → Nat) (S0 : tt_Model) (x1 : Int32) (x2 : Int32) (ro : Int32) (So0 : tt_Model) (hf : fn_X9_goes S0 x1 x2 = some (ro, So0)) : xM l yX9_goes cX9_goes 5 (some .int) 3 70 G [.ref (a 0), .int x1, .int x2] (wd_Model G a S0) (wd_Model G a So0) (some (.int ro)) := by
  refine xMi (by decide) (Nat.le_of_ble_eq_true rfl) ?_
  intro p e s m below meth c A C0 KN hA X ls hl
  have hx := C0.1
  have hb := C0.2.1
  have C0 : xC p s m meth c cX9_goes 5 (some .int) RX9 _ := C0
  have hl : lv_has ls 5 [(0, .ref (a 0)), (1, .int x1), (2, .int x2)] := hl
  unfold fn_X9_goes at hf
  refine lv_iconst (pc := 0) (v := 0) hx hb dX9_goes_0 (by decide) ?_
  refine lv_istore_n (pc := 1) (lv' := [(3, .int (0 : Int32)), (0, .ref (a 0)), (1, .int x1), (2, .int x2)]) hx hb dX9_goes_1 rfl hl (by decide) rfl (fun ls hl => ?_)
  refine lv_aload_n (pc := 2) hx hb dX9_goes_2 rfl (lv_at hl 1 rfl) ?_
  refine lv_iload_n (pc := 3) hx hb dX9_goes_3 rfl (lv_at hl 2 rfl) ?_
  refine lv_iload_n (pc := 4) hx hb dX9_goes_4 rfl (lv_at hl 3 rfl) ?_
  obtain ⟨P_1, h_2, hf⟩ := bd_e hf
  refine x_cv (pc := 5) (ws' := wd_Model G a P_1) (As := [.int x1, .int x2]) (rest := []) (ci := 9) (qr := 0) C0 KN X hA [0, 1, 2, 3, 4, 5, 6, 7, 8, 9, 10, 11, 12, 13, 14, 15, 16, 17, 18] [] [0, 1, 2, 3, 4, 5, 6, 7, 8, 9, 10, 11, 12, 13, 14, 15, 16, 17, 18] cu_C50 rfl cu_R50 rfl (by decide) (cu_J50 (S0 := S0)) rfl (ct_X9_begins l G a S0 x1 x2 P_1 h_2) rfl rfl rfl kw_12_18 kw_12_15 kw_12_16 kw_12_17 kw_1_5 hd_X9_begins ⟨by decide, by decide⟩ hl.1 rfl (Nat.le_of_ble_eq_true rfl) ⟨Nat.zero_le _, Nat.zero_le _⟩ dX9_goes_5 (fun H locs X => ?_)
  refine W.eq (g2 := F0 m 8 ls []) rfl ?_
  refine lv_iconst (pc := 8) (v := 0) hx hb dX9_goes_8 (by decide) ?_
  refine lv_istore (pc := 9) (lv' := [(4, .int (0 : Int32)), (3, .int (0 : Int32)), (0, .ref (a 0)), (1, .int x1), (2, .int x2)]) hx hb dX9_goes_9 hl (by decide) rfl (fun ls hl => ?_)
  refine lb_X9_goes_11 C0 KN hA _ _ _ ?_ _ _ _ _ hf _ _ _ X (lv_sub hl [2, 1, 0] rfl)
  · intro S0_e57_19 x3_e57_19 hf H locs ls X hl
    refine lv_iload_n (pc := 57) hx hb dX9_goes_57 rfl (lv_at hl 1 rfl) ?_
    obtain ⟨rfl, rfl⟩ := so_2 hf
    exact x_iret (pc := 58) C0 X dX9_goes_58
theorem hd_X9_goesNow : yX9_goesNow.cls ≠ "java/lang/invoke/MethodHandle" ∧ yX9_goesNow.cls ≠ "java/lang/invoke/VarHandle" ∧ (parseMethodDescriptor yX9_goesNow.desc).map (fun d => d.parameters.length) = some 0 := by decide +kernel
set_option maxHeartbeats 4000000 in
set_option maxRecDepth 100000 in
theorem ct_X9_goesNow (l : Launch) (G : xG) (a : Nat → Nat) (S0 : tt_Model) (ro : Int32) (So0 : tt_Model) (hf : fn_X9_goesNow S0 = some (ro, So0)) : xM l yX9_goesNow cX9_goesNow 1 (some .int) 4 94 G [.ref (a 0)] (wd_Model G a S0) (wd_Model G a So0) (some (.int ro)) := by
  refine xMi (by decide) (Nat.le_of_ble_eq_true rfl) ?_
  intro p e s m below meth c A C0 KN hA X ls hl
  have hx := C0.1
  have hb := C0.2.1
  have C0 : xC p s m meth c cX9_goesNow 1 (some .int) RX9 _ := C0
  have hl : lv_has ls 1 [(0, .ref (a 0))] := hl
  unfold fn_X9_goesNow at hf
  refine lv_aload_n (pc := 0) hx hb dX9_goesNow_0 rfl (lv_at hl 0 rfl) ?_
  refine lv_aload_n (pc := 1) hx hb dX9_goesNow_1 rfl (lv_at hl 0 rfl) ?_
  obtain ⟨r_1, h_2, hf⟩ := bd_e hf
  refine x_cv (pc := 2) (ws' := wd_Model G a S0) (As := []) (rest := [.ref (a 0)]) (ci := 9) (qr := 0) C0 KN X hA [0, 1, 2, 3, 4, 5, 6, 7, 8, 9, 10, 11, 12, 13, 14, 15, 16, 17, 18] [] [0, 1, 2, 3, 4, 5, 6, 7, 8, 9, 10, 11, 12, 13, 14, 15, 16, 17, 18] cu_C49 rfl cu_R49 rfl (by decide) (cu_J49 (S0 := S0)) rfl (ct_X9_depth l G a S0 r_1 h_2) rfl rfl rfl kw_12_6 kw_12_3 kw_12_4 kw_12_5 kw_1_5 hd_X9_depth ⟨by decide, by decide⟩ hl.1 rfl (Nat.le_of_ble_eq_true rfl) ⟨Nat.zero_le _, Nat.zero_le _⟩ dX9_goesNow_2 (fun H locs X => ?_)
  refine W.eq (g2 := F0 m 5 ls [.int r_1, .ref (a 0)]) rfl ?_
  refine lv_aload_n (pc := 5) hx hb dX9_goesNow_5 rfl (lv_at hl 0 rfl) ?_
  obtain ⟨r_3, h_4, hf⟩ := bd_e hf
  refine x_cv (pc := 6) (ws' := wd_Model G a S0) (As := []) (rest := [.int r_1, .ref (a 0)]) (ci := 9) (qr := 0) C0 KN X hA [0, 1, 2, 3, 4, 5, 6, 7, 8, 9, 10, 11, 12, 13, 14, 15, 16, 17, 18] [] [0, 1, 2, 3, 4, 5, 6, 7, 8, 9, 10, 11, 12, 13, 14, 15, 16, 17, 18] cu_C49 rfl cu_R49 rfl (by decide) (cu_J49 (S0 := S0)) rfl (ct_X9_guesser l G a S0 r_3 h_4) rfl rfl rfl kw_12_10 kw_12_7 kw_12_8 kw_12_9 kw_1_5 hd_X9_guesser ⟨by decide, by decide⟩ hl.1 rfl (Nat.le_of_ble_eq_true rfl) ⟨Nat.zero_le _, Nat.zero_le _⟩ dX9_goesNow_6 (fun H locs X => ?_)
  refine W.eq (g2 := F0 m 9 ls [.int r_3, .int r_1, .ref (a 0)]) rfl ?_
  obtain ⟨r_5, P_6, h_7, hf⟩ := b2_e hf
  refine x_cv (pc := 9) (ws' := wd_Model G a P_6) (As := [.int r_1, .int r_3]) (rest := []) (ci := 9) (qr := 0) C0 KN X hA [0, 1, 2, 3, 4, 5, 6, 7, 8, 9, 10, 11, 12, 13, 14, 15, 16, 17, 18] [] [0, 1, 2, 3, 4, 5, 6, 7, 8, 9, 10, 11, 12, 13, 14, 15, 16, 17, 18] cu_C50 rfl cu_R50 rfl (by decide) (cu_J50 (S0 := S0)) rfl (ct_X9_goes l G a S0 r_1 r_3 r_5 P_6 h_7) rfl rfl rfl kw_12_14 kw_12_11 kw_12_12 kw_12_13 kw_1_5 hd_X9_goes ⟨by decide, by decide⟩ hl.1 rfl (Nat.le_of_ble_eq_true rfl) ⟨Nat.zero_le _, Nat.zero_le _⟩ dX9_goesNow_9 (fun H locs X => ?_)
  refine W.eq (g2 := F0 m 12 ls [.int r_5]) rfl ?_
  obtain ⟨rfl, rfl⟩ := so_2 hf
  exact x_iret (pc := 12) C0 X dX9_goesNow_12
theorem hd_X9_costAt : yX9_costAt.cls ≠ "java/lang/invoke/MethodHandle" ∧ yX9_costAt.cls ≠ "java/lang/invoke/VarHandle" ∧ (parseMethodDescriptor yX9_costAt.desc).map (fun d => d.parameters.length) = some 1 := by decide +kernel
set_option maxHeartbeats 4000000 in
set_option maxRecDepth 100000 in
theorem ct_X9_costAt (l : Launch) (G : xG) (a : Nat → Nat) (S0 : tt_Model) (x1 : Int32) (ro : Int32) (hf : fn_X9_costAt S0 x1 = some ro) : xM l yX9_costAt cX9_costAt 2 (some .int) 1 23 G [.ref (a 0), .int x1] (wd_Model G a S0) (wd_Model G a S0) (some (.int ro)) := by
  refine xMi (by decide) (Nat.le_of_ble_eq_true rfl) ?_
  intro p e s m below meth c A C0 KN hA X ls hl
  have hx := C0.1
  have hb := C0.2.1
  have C0 : xC p s m meth c cX9_costAt 2 (some .int) RX9 _ := C0
  have hl : lv_has ls 2 [(0, .ref (a 0)), (1, .int x1)] := hl
  unfold fn_X9_costAt at hf
  refine lv_aload_n (pc := 0) hx hb dX9_costAt_0 rfl (lv_at hl 0 rfl) ?_
  refine x_get (pc := 1) (ci := 9) C0 KN X 0 rfl rfl inlX9 15 (by decide) kw_7_20 rfl dX9_costAt_1 ?_
  refine lv_iload_n (pc := 4) hx hb dX9_costAt_4 rfl (lv_at hl 1 rfl) ?_
  obtain ⟨g_1, hf⟩ := gd_e hf
  refine x_ald (pc := 5) C0 KN X 12 rfl g_1 dX9_costAt_5 ?_
  refine W.eq (g2 := F0 m 6 ls [.int ((gf_Model_guessAt S0) x1.toNatClampNeg)]) rfl ?_
  refine lv_aload_n (pc := 6) hx hb dX9_costAt_6 rfl (lv_at hl 0 rfl) ?_
  refine x_get (pc := 7) (ci := 9) C0 KN X 0 rfl rfl inlX9 0 (by decide) kw_7_9 rfl dX9_costAt_7 ?_
  refine lv_iload_n (pc := 10) hx hb dX9_costAt_10 rfl (lv_at hl 1 rfl) ?_
  obtain ⟨g_2, hf⟩ := gd_e hf
  refine x_ald (pc := 11) C0 KN X 1 rfl g_2 dX9_costAt_11 ?_
  refine W.eq (g2 := F0 m 12 ls [.int ((gf_Model_now S0) x1.toNatClampNeg), .int ((gf_Model_guessAt S0) x1.toNatClampNeg)]) rfl ?_
  obtain ⟨r_3, h_4, hf⟩ := bd_e hf
  refine x_cs (pc := 12) (As := [.int ((gf_Model_guessAt S0) x1.toNatClampNeg), .int ((gf_Model_now S0) x1.toNatClampNeg)]) (rest := []) C0 (ct_X9_odds l ((gf_Model_guessAt S0) x1.toNatClampNeg) ((gf_Model_now S0) x1.toNatClampNeg) r_3 h_4) kw_13_18 kw_13_16 kw_13_17 kw_1_5 hd_X9_odds ⟨by decide, by decide⟩ hl.1 rfl (Nat.le_of_ble_eq_true rfl) ⟨Nat.zero_le _, Nat.zero_le _⟩ dX9_costAt_12 ?_
  refine W.eq (g2 := F0 m 15 ls [.int r_3]) rfl ?_
  obtain ⟨r_5, h_6, hf⟩ := bd_e hf
  refine x_cs (pc := 15) (As := [.int r_3]) (rest := []) C0 (ct_X9_bitsOf l r_3 r_5 h_6) kw_13_22 kw_13_20 kw_13_21 kw_1_5 hd_X9_bitsOf ⟨by decide, by decide⟩ hl.1 rfl (Nat.le_of_ble_eq_true rfl) ⟨Nat.zero_le _, Nat.zero_le _⟩ dX9_costAt_15 ?_
  refine W.eq (g2 := F0 m 18 ls [.int r_5]) rfl ?_
  obtain rfl := so_1 hf
  exact x_iret (pc := 18) C0 X dX9_costAt_18
theorem hd_X9_adds : yX9_adds.cls ≠ "java/lang/invoke/MethodHandle" ∧ yX9_adds.cls ≠ "java/lang/invoke/VarHandle" ∧ (parseMethodDescriptor yX9_adds.desc).map (fun d => d.parameters.length) = some 1 := by decide +kernel
set_option maxHeartbeats 4000000 in
set_option maxRecDepth 100000 in
theorem ct_X9_adds (l : Launch) (G : xG) (a : Nat → Nat) (S0 : tt_Model) (x1 : Int32) (So0 : tt_Model) (hf : fn_X9_adds S0 x1 = some So0) : xM l yX9_adds cX9_adds 2 (none) 1 20 G [.ref (a 0), .int x1] (wd_Model G a S0) (wd_Model G a So0) none := by
  refine xMi (by decide) (Nat.le_of_ble_eq_true rfl) ?_
  intro p e s m below meth c A C0 KN hA X ls hl
  have hx := C0.1
  have hb := C0.2.1
  have C0 : xC p s m meth c cX9_adds 2 (none) RX9 _ := C0
  have hl : lv_has ls 2 [(0, .ref (a 0)), (1, .int x1)] := hl
  unfold fn_X9_adds at hf
  refine lv_aload_n (pc := 0) hx hb dX9_adds_0 rfl (lv_at hl 0 rfl) ?_
  refine x_get (pc := 1) (ci := 9) C0 KN X 0 rfl rfl inlX9 0 (by decide) kw_7_9 rfl dX9_adds_1 ?_
  refine lv_aload_n (pc := 4) hx hb dX9_adds_4 rfl (lv_at hl 0 rfl) ?_
  obtain ⟨r_1, h_2, hf⟩ := bd_e hf
  refine x_cv (pc := 5) (ws' := wd_Model G a S0) (As := []) (rest := [.ref (a 1)]) (ci := 9) (qr := 0) C0 KN X hA [0, 1, 2, 3, 4, 5, 6, 7, 8, 9, 10, 11, 12, 13, 14, 15, 16, 17, 18] [] [0, 1, 2, 3, 4, 5, 6, 7, 8, 9, 10, 11, 12, 13, 14, 15, 16, 17, 18] cu_C49 rfl cu_R49 rfl (by decide) (cu_J49 (S0 := S0)) rfl (ct_X9_many l G a S0 r_1 h_2) rfl rfl rfl kw_11_5 kw_11_2 kw_11_3 kw_11_4 kw_1_5 hd_X9_many ⟨by decide, by decide⟩ hl.1 rfl (Nat.le_of_ble_eq_true rfl) ⟨Nat.zero_le _, Nat.zero_le _⟩ dX9_adds_5 (fun H locs X => ?_)
  refine W.eq (g2 := F0 m 8 ls [.int r_1, .ref (a 1)]) rfl ?_
  refine lv_iload_n (pc := 8) hx hb dX9_adds_8 rfl (lv_at hl 1 rfl) ?_
  obtain ⟨g_3, hf⟩ := gd_e hf
  obtain ⟨S_4, eS_4, hf⟩ := lt_e hf
  refine x_ast (pc := 9) (ws' := wd_Model G a S_4) C0 KN X 1 rfl g_3 (by subst eS_4; rfl) dX9_adds_9 (fun H locs X => ?_)
  refine lv_aload_n (pc := 10) hx hb dX9_adds_10 rfl (lv_at hl 0 rfl) ?_
  refine x_get (pc := 11) (ci := 9) C0 KN X 0 rfl rfl inlX9 0 (by decide) kw_7_9 rfl dX9_adds_11 ?_
  refine lv_bipush (pc := 14) (v := 100) hx hb dX9_adds_14 (by decide) ?_
  refine lv_dup2_11 (pc := 16) hx hb dX9_adds_16 rfl rfl ?_
  obtain ⟨g_5, hf⟩ := gd_e hf
  refine x_ald (pc := 17) C0 KN X 1 rfl g_5 dX9_adds_17 ?_
  refine W.eq (g2 := F0 m 18 ls [.int ((gf_Model_now S_4) (100 : Int32).toNatClampNeg), .int (100 : Int32), .ref (a 1)]) rfl ?_
  refine lv_iconst (pc := 18) (v := 1) hx hb dX9_adds_18 (by decide) ?_
  refine lv_iadd (pc := 19) hx hb dX9_adds_19 ?_
  refine lv_topi (fun y_6 ey_6 => ?_)
  have hf := lt_sb hf ey_6
  obtain ⟨g_7, hf⟩ := gd_e hf
  obtain ⟨S_8, eS_8, hf⟩ := lt_e hf
  refine x_ast (pc := 20) (ws' := wd_Model G a S_8) C0 KN X 1 rfl g_7 (by subst eS_8; rfl) dX9_adds_20 (fun H locs X => ?_)
  obtain rfl := so_1 hf
  exact x_vret (pc := 21) C0 X dX9_adds_21
set_option maxHeartbeats 4000000 in
set_option maxRecDepth 100000 in
theorem lb_X9_costFrom_10 {l : Launch} {p : Program} {e : Env} {s : State} {m : MethodId} {args : Array Value} {below : List Frame} {meth : Method} {c : Code} {G : xG} {A : Nat → Prop} {a : Nat → Nat} (C0 : xC p s m meth c cX9_costFrom 5 (some .int) RX9 args) (KN : xKN G s) (hA : ∀ q, s.heap.size ≤ q → A q) (ro : Int32) (So0 : tt_Model) (k34 : tt_Model → Int32 → Option (Int32 × tt_Model)) (hk34 : ∀ (S0 : tt_Model) (x2 : Int32), k34 S0 x2 = some (ro, So0) → ∀ (H : Heap) (locs : List Loc) (ls : Array Slot), xS G A s.heap (wd_Model G a S0) H locs → lv_has ls 5 [(0, .ref (a 0)), (2, .int x2)] → W p l e ({ frames := 5, cells := 0, slots := 0, locals := 114 }) s m args below meth c H locs 0 0 (MQ below (xQo G (some (.int ro)) A (wd_Model G a So0)) args s 0 0 A) (F0 m 34 ls [])) : ∀ (n : Nat) (S0 : tt_Model) (x2 : Int32) (x4 : Int32), fl_X9_costFrom_10 k34 n S0 x2 x4 = some (ro, So0) → ∀ (H : Heap) (locs : List Loc) (ls : Array Slot), xS G A s.heap (wd_Model G a S0) H locs → lv_has ls 5 [(0, .ref (a 0)), (2, .int x2), (4, .int x4)] → W p l e ({ frames := 5, cells := 0, slots := 0, locals := 114 }) s m args below meth c H locs 0 0 (MQ below (xQo G (some (.int ro)) A (wd_Model G a So0)) args s 0 0 A) (F0 m 10 ls []) := by
  have hx := C0.1
  have hb := C0.2.1
  intro n
  induction n with
  | zero =>
    intro S0 x2 x4 hf
    have hf : none = some (ro, So0) := hf
    cases hf
  | succ n ih =>
    intro S0 x2 x4 hf H locs ls X hl
    rw [fl_X9_costFrom_10] at hf
    refine lv_iload (pc := 10) hx hb dX9_costFrom_10 (lv_at hl 2 rfl) ?_
    refine lv_aload_n (pc := 12) hx hb dX9_costFrom_12 rfl (lv_at hl 0 rfl) ?_
    obtain ⟨r_4, h_5, hf⟩ := bd_e hf
    refine x_cv (pc := 13) (ws' := wd_Model G a S0) (As := []) (rest := [.int x4]) (ci := 9) (qr := 0) C0 KN X hA [0, 1, 2, 3, 4, 5, 6, 7, 8, 9, 10, 11, 12, 13, 14, 15, 16, 17, 18] [] [0, 1, 2, 3, 4, 5, 6, 7, 8, 9, 10, 11, 12, 13, 14, 15, 16, 17, 18] cu_C49 rfl cu_R49 rfl (by decide) (cu_J49 (S0 := S0)) rfl (ct_X9_many l G a S0 r_4 h_5) rfl rfl rfl kw_11_5 kw_11_2 kw_11_3 kw_11_4 kw_1_5 hd_X9_many ⟨by decide, by decide⟩ hl.1 rfl (Nat.le_of_ble_eq_true rfl) ⟨Nat.zero_le _, Nat.zero_le _⟩ dX9_costFrom_13 (fun H locs X => ?_)
    refine W.eq (g2 := F0 m 16 ls [.int r_4, .int x4]) rfl ?_
    refine lv_icmp_ge (pc := 16) (tgt := 34) hx hb dX9_costFrom_16 (by decide) (fun c_6 => ?_) (fun c_6 => ?_)
    · have hf := it_p hf c_6
      exact hk34 _ _ hf _ _ _ X (lv_sub hl [0, 1] rfl)
    · have hf := it_n hf c_6
      refine lv_iload_n (pc := 19) hx hb dX9_costFrom_19 rfl (lv_at hl 1 rfl) ?_
      refine lv_aload_n (pc := 20) hx hb dX9_costFrom_20 rfl (lv_at hl 0 rfl) ?_
      refine lv_iload (pc := 21) hx hb dX9_costFrom_21 (lv_at hl 2 rfl) ?_
      obtain ⟨r_7, h_8, hf⟩ := bd_e hf
      refine x_cv (pc := 23) (ws' := wd_Model G a S0) (As := [.int x4]) (rest := [.int x2]) (ci := 9) (qr := 0) C0 KN X hA [0, 1, 2, 3, 4, 5, 6, 7, 8, 9, 10, 11, 12, 13, 14, 15, 16, 17, 18] [] [0, 1, 2, 3, 4, 5, 6, 7, 8, 9, 10, 11, 12, 13, 14, 15, 16, 17, 18] cu_C49 rfl cu_R49 rfl (by decide) (cu_J49 (S0 := S0)) rfl (ct_X9_costAt l G a S0 x4 r_7 h_8) rfl rfl rfl kw_14_9 kw_14_6 kw_14_7 kw_14_8 kw_1_5 hd_X9_costAt ⟨by decide, by decide⟩ hl.1 rfl (Nat.le_of_ble_eq_true rfl) ⟨Nat.zero_le _, Nat.zero_le _⟩ dX9_costFrom_23 (fun H locs X => ?_)
      refine W.eq (g2 := F0 m 26 ls [.int r_7, .int x2]) rfl ?_
      refine lv_iadd (pc := 26) hx hb dX9_costFrom_26 ?_
      refine lv_topi (fun y_9 ey_9 => ?_)
      have hf := lt_sb hf ey_9
      refine lv_istore_n (pc := 27) (lv' := [(2, .int y_9), (0, .ref (a 0)), (4, .int x4)]) hx hb dX9_costFrom_27 rfl hl (by decide) rfl (fun ls hl => ?_)
      obtain ⟨y_10, ey_10⟩ : ∃ y : Int32, y = x4 + (1 : Int32) := ⟨_, rfl⟩
      have hf := lt_sb hf ey_10
      refine lv_iinc (pc := 28) (v := y_10) (lv' := [(4, .int y_10), (2, .int y_9), (0, .ref (a 0))]) hx hb dX9_costFrom_28 hl (k := 2) rfl (by rw [ey_10]; rfl) (by decide) rfl (fun ls hl => ?_)
      refine lv_goto (pc := 31) (tgt := 10) hx hb dX9_costFrom_31 (by decide) ?_
      exact ih _ _ _ hf _ _ _ X (lv_sub hl [2, 1, 0] rfl)
theorem hd_X9_costFrom : yX9_costFrom.cls ≠ "java/lang/invoke/MethodHandle" ∧ yX9_costFrom.cls ≠ "java/lang/invoke/VarHandle" ∧ (parseMethodDescriptor yX9_costFrom.desc).map (fun d => d.parameters.length) = some 1 := by decide +kernel
set_option maxHeartbeats 4000000 in
set_option maxRecDepth 100000 in
theorem ct_X9_costFrom (l : Launch) (G : xG) (a : Nat → Nat) (S0 : tt_Model) (x1 : Int32) (ro : Int32) (So0 : tt_Model) (hf : fn_X9_costFrom S0 x1 = some (ro, So0)) : xM l yX9_costFrom cX9_costFrom 5 (some .int) 5 114 G [.ref (a 0), .int x1] (wd_Model G a S0) (wd_Model G a So0) (some (.int ro)) := by
  refine xMi (by decide) (Nat.le_of_ble_eq_true rfl) ?_
  intro p e s m below meth c A C0 KN hA X ls hl
  have hx := C0.1
  have hb := C0.2.1
  have C0 : xC p s m meth c cX9_costFrom 5 (some .int) RX9 _ := C0
  have hl : lv_has ls 5 [(0, .ref (a 0)), (1, .int x1)] := hl
  unfold fn_X9_costFrom at hf
  refine lv_iconst (pc := 0) (v := 0) hx hb dX9_costFrom_0 (by decide) ?_
  refine lv_istore_n (pc := 1) (lv' := [(2, .int (0 : Int32)), (0, .ref (a 0)), (1, .int x1)]) hx hb dX9_costFrom_1 rfl hl (by decide) rfl (fun ls hl => ?_)
  refine lv_aload_n (pc := 2) hx hb dX9_costFrom_2 rfl (lv_at hl 1 rfl) ?_
  obtain ⟨r_1, P_2, h_3, hf⟩ := b2_e hf
  refine x_cv (pc := 3) (ws' := wd_Model G a P_2) (As := []) (rest := []) (ci := 9) (qr := 0) C0 KN X hA [0, 1, 2, 3, 4, 5, 6, 7, 8, 9, 10, 11, 12, 13, 14, 15, 16, 17, 18] [] [0, 1, 2, 3, 4, 5, 6, 7, 8, 9, 10, 11, 12, 13, 14, 15, 16, 17, 18] cu_C50 rfl cu_R50 rfl (by decide) (cu_J50 (S0 := S0)) rfl (ct_X9_goesNow l G a S0 r_1 P_2 h_3) rfl rfl rfl kw_12_2 kw_11_23 kw_12_0 kw_12_1 kw_1_5 hd_X9_goesNow ⟨by decide, by decide⟩ hl.1 rfl (Nat.le_of_ble_eq_true rfl) ⟨Nat.zero_le _, Nat.zero_le _⟩ dX9_costFrom_3 (fun H locs X => ?_)
  refine W.eq (g2 := F0 m 6 ls [.int r_1]) rfl ?_
  refine lv_istore_n (pc := 6) (lv' := [(3, .int r_1), (2, .int (0 : Int32)), (0, .ref (a 0)), (1, .int x1)]) hx hb dX9_costFrom_6 rfl hl (by decide) rfl (fun ls hl => ?_)
  refine lv_iload_n (pc := 7) hx hb dX9_costFrom_7 rfl (lv_at hl 3 rfl) ?_
  refine lv_istore (pc := 8) (lv' := [(4, .int x1), (3, .int r_1), (2, .int (0 : Int32)), (0, .ref (a 0)), (1, .int x1)]) hx hb dX9_costFrom_8 hl (by decide) rfl (fun ls hl => ?_)
  refine lb_X9_costFrom_10 C0 KN hA _ _ _ ?_ _ _ _ _ hf _ _ _ X (lv_sub hl [3, 2, 0] rfl)
  · intro S0_e34_11 x2_e34_11 hf H locs ls X hl
    refine lv_iload_n (pc := 34) hx hb dX9_costFrom_34 rfl (lv_at hl 1 rfl) ?_
    obtain ⟨rfl, rfl⟩ := so_2 hf
    exact x_iret (pc := 35) C0 X dX9_costFrom_35
