def fn_X9_type (S0 : tt_Model) (x1 : Int32) : Option (Int32 × tt_Model) :=
  bd_ (fn_X9_in x1.toInt64 (0 : Int64) (127 : Int64)) fun r_1 => if r_1 = 0 then b2_ (fn_X9_bad S0 (-2 : Int32)) fun r_12 P_13 => some (r_12, P_13) else if (gf_Model_textLong S0) = (120 : Int32) then b2_ (fn_X9_full S0) fun r_9 P_10 => some (r_9, P_10) else gd_ (ix_ (gf_Model_textLong S0) 120) (lt_ (sf_Model_text S0 (upd (gf_Model_text S0) (gf_Model_textLong S0).toNatClampNeg x1)) fun S_6 => lt_ ((gf_Model_textLong S_6) + (1 : Int32)) fun y_7 => lt_ (sf_Model_textLong S_6 y_7) fun S_8 => some (gf_Model_textLong S_8, S_8))
def fn_X9_clear (S0 : tt_Model) : Option (Int32 × tt_Model) :=
  lt_ (gf_Model_textLong S0) fun y_1 => lt_ (sf_Model_textLong S0 (0 : Int32)) fun S_2 => some (y_1, S_2)
def fl_X9_here_0 (k38 : tt_Model → Option (Int32 × tt_Model)) : Nat → tt_Model → Option (Int32 × tt_Model)
  | 0, _ => none
  | n + 1, S0 =>
  if (gf_Model_textLong S0) ≤ (gf_Model_place S0) then k38 S0 else gd_ (ix_ (gf_Model_place S0) 120) (if ((gf_Model_text S0) (gf_Model_place S0).toNatClampNeg) = (32 : Int32) then lt_ ((gf_Model_place S0) + (1 : Int32)) fun y_4 => lt_ (sf_Model_place S0 y_4) fun S_5 => fl_X9_here_0 k38 n S_5 else k38 S0)
def fn_X9_here_38 (S0 : tt_Model) : Option (Int32 × tt_Model) :=
  if (gf_Model_textLong S0) ≤ (gf_Model_place S0) then some ((-1 : Int32), S0) else gd_ (ix_ (gf_Model_place S0) 120) (some ((gf_Model_text S0) (gf_Model_place S0).toNatClampNeg, S0))
def fn_X9_here (S0 : tt_Model) : Option (Int32 × tt_Model) :=
  fl_X9_here_0 (fun (S0_e38_6 : tt_Model) => fn_X9_here_38 S0_e38_6) fu_ S0
def fn_X9_isFigure (S0 : tt_Model) (x1 : Int32) : Option Int32 :=
  if (gf_Model_textLong S0) ≤ x1 then some (0 : Int32) else gd_ (ix_ x1 120) (bd_ (fn_X9_in (((gf_Model_text S0) x1.toNatClampNeg).toInt64) (48 : Int64) (57 : Int64)) fun r_3 => if r_3 = 0 then some (0 : Int32) else some (1 : Int32))
def fl_X9_times_12 (k51 : tt_Model → Int32 → Int32 → Option (Int32 × tt_Model)) : Nat → tt_Model → Int32 → Int32 → Option (Int32 × tt_Model)
  | 0, _, _, _ => none
  | n + 1, S0, x2, x3 =>
  bd_ (fn_X9_isFigure S0 x2) fun r_5 => if r_5 = 0 then k51 S0 x2 x3 else if (3 : Int32) ≤ (x2 - (gf_Model_place S0)) then k51 S0 x2 x3 else gd_ (ix_ x2 120) (lt_ ((((10 : Int32) * x3) + ((gf_Model_text S0) x2.toNatClampNeg)) - (48 : Int32)) fun y_10 => lt_ (x2 + (1 : Int32)) fun y_11 => fl_X9_times_12 k51 n S0 y_11 y_10)
def fn_X9_times_93 (S0 : tt_Model) (x3 : Int32) (x4 : Int32) (t1 : Int32) : Option (Int32 × tt_Model) :=
  lt_ (sf_Model_place S0 t1) fun S_17 => if x4 = 0 then some ((0 : Int32), S_17) else some (x3, S_17)
def fn_X9_times_77 (S0 : tt_Model) (x2 : Int32) (x3 : Int32) (t0 : Int32) : Option (Int32 × tt_Model) :=
  if t0 = 0 then fn_X9_times_93 S0 x3 t0 (gf_Model_place S0) else fn_X9_times_93 S0 x3 t0 x2
def fn_X9_times_76 (S0 : tt_Model) (x2 : Int32) (x3 : Int32) : Option (Int32 × tt_Model) :=
  fn_X9_times_77 S0 x2 x3 (0 : Int32)
def fn_X9_times_51 (S0 : tt_Model) (x2 : Int32) (x3 : Int32) : Option (Int32 × tt_Model) :=
  bd_ (fn_X9_in ((x2 - (gf_Model_place S0)).toInt64) (1 : Int64) (2 : Int64)) fun r_13 => if r_13 = 0 then fn_X9_times_76 S0 x2 x3 else if x3 ≤ 0 then fn_X9_times_76 S0 x2 x3 else fn_X9_times_77 S0 x2 x3 (1 : Int32)
def fn_X9_times (S0 : tt_Model) : Option (Int32 × tt_Model) :=
  b2_ (fn_X9_here S0) fun r_1 P_2 => lt_ (gf_Model_place P_2) fun y_4 => fl_X9_times_12 (fun (S0_e51_12 : tt_Model) (x2_e51_12 : Int32) (x3_e51_12 : Int32) => fn_X9_times_51 S0_e51_12 x2_e51_12 x3_e51_12) fu_ P_2 y_4 (0 : Int32)
def fl_X9_readsSign_102 (k134 : tt_Model → Option (Int32 × tt_Model)) : Nat → tt_Model → Int32 → Int32 → Int32 → Option (Int32 × tt_Model)
  | 0, _, _, _, _ => none
  | n + 1, S0, x2, x3, x4 =>
  if x3 ≤ x4 then k134 S0 else gd_ (ix_ (gf_Model_readLong S0) 128) (lt_ (sf_Model_read S0 (upd (gf_Model_read S0) (gf_Model_readLong S0).toNatClampNeg x2)) fun S_18 => lt_ ((gf_Model_readLong S_18) + (1 : Int32)) fun y_19 => lt_ (sf_Model_readLong S_18 y_19) fun S_20 => lt_ (x4 + (1 : Int32)) fun y_21 => fl_X9_readsSign_102 k134 n S_20 x2 x3 y_21)
def fn_X9_readsSign_76 (S0 : tt_Model) (x1 : Int32) (x2 : Int32) (x3 : Int32) : Option (Int32 × tt_Model) :=
  bd_ (fn_X9_many S0) fun r_13 => if ((r_13 + (gf_Model_readLong S0)) + x3) ≤ (100 : Int32) then fl_X9_readsSign_102 (fun (S0_e134_22 : tt_Model) => some ((1 : Int32), S0_e134_22)) fu_ S0 x2 x3 (0 : Int32) else lt_ (sf_Model_place S0 x1) fun S_23 => some ((0 : Int32), S_23)
def fn_X9_readsSign (S0 : tt_Model) : Option (Int32 × tt_Model) :=
  lt_ (gf_Model_place S0) fun y_1 => gd_ (ix_ (gf_Model_place S0) 120) (lt_ (((gf_Model_text S0) (gf_Model_place S0).toNatClampNeg) - (48 : Int32)) fun y_3 => bd_ (fn_X9_many S0) fun r_4 => if (r_4 + (gf_Model_readLong S0)) = (100 : Int32) then some ((0 : Int32), S0) else lt_ ((gf_Model_place S0) + (1 : Int32)) fun y_7 => lt_ (sf_Model_place S0 y_7) fun S_8 => b2_ (fn_X9_here S_8) fun r_9 P_10 => if r_9 = (120 : Int32) then lt_ ((gf_Model_place P_10) + (1 : Int32)) fun y_24 => lt_ (sf_Model_place P_10 y_24) fun S_25 => b2_ (fn_X9_times S_25) fun r_26 P_27 => if r_26 = 0 then some ((0 : Int32), P_27) else fn_X9_readsSign_76 P_27 y_1 y_3 r_26 else fn_X9_readsSign_76 P_10 y_1 y_3 (1 : Int32))
def fn_X9_readsMany_47 (k15 : tt_Model → Int32 → Option (Int32 × tt_Model)) (k59 : tt_Model → Option (Int32 × tt_Model)) (S0 : tt_Model) (x1 : Int32) (t0 : Int32) : Option (Int32 × tt_Model) :=
  if t0 = 0 then k59 S0 else b2_ (fn_X9_readsSign S0) fun r_13 P_14 => if r_13 = 0 then k59 P_14 else k15 P_14 x1
def fn_X9_readsMany_42 (k15 : tt_Model → Int32 → Option (Int32 × tt_Model)) (k59 : tt_Model → Option (Int32 × tt_Model)) (S0 : tt_Model) (x1 : Int32) : Option (Int32 × tt_Model) :=
  fn_X9_readsMany_47 k15 k59 S0 x1 (1 : Int32)
def fl_X9_readsMany_15 (k59 : tt_Model → Option (Int32 × tt_Model)) (k64 : tt_Model → Int32 → Option (Int32 × tt_Model)) : Nat → tt_Model → Int32 → Option (Int32 × tt_Model)
  | 0, _, _ => none
  | n + 1, S0, x1 =>
  b2_ (fn_X9_here S0) fun r_4 P_5 => if r_4 = (41 : Int32) then k64 P_5 x1 else b2_ (fn_X9_here P_5) fun r_8 P_9 => if r_8 = (48 : Int32) then fn_X9_readsMany_42 (fl_X9_readsMany_15 k59 k64 n) k59 P_9 x1 else b2_ (fn_X9_here P_9) fun r_17 P_18 => if r_17 = (49 : Int32) then fn_X9_readsMany_42 (fl_X9_readsMany_15 k59 k64 n) k59 P_18 x1 else fn_X9_readsMany_47 (fl_X9_readsMany_15 k59 k64 n) k59 P_18 x1 (0 : Int32)
def fl_X9_readsMany_152 (k197 : tt_Model → Option (Int32 × tt_Model)) : Nat → tt_Model → Int32 → Int32 → Int32 → Option (Int32 × tt_Model)
  | 0, _, _, _, _ => none
  | n + 1, S0, x3, x4, x5 =>
  if (x4 * x3) ≤ x5 then k197 S0 else gd_ (ix_ ((gf_Model_readLong S0) - x3) 128) (lt_ ((gf_Model_read S0) ((gf_Model_readLong S0) - x3).toNatClampNeg) fun y_43 => gd_ (ix_ (gf_Model_readLong S0) 128) (lt_ (sf_Model_read S0 (upd (gf_Model_read S0) (gf_Model_readLong S0).toNatClampNeg y_43)) fun S_45 => lt_ ((gf_Model_readLong S_45) + (1 : Int32)) fun y_46 => lt_ (sf_Model_readLong S_45 y_46) fun S_47 => lt_ (x5 + (1 : Int32)) fun y_48 => fl_X9_readsMany_152 k197 n S_47 x3 x4 y_48))
def fn_X9_readsMany (S0 : tt_Model) : Option (Int32 × tt_Model) :=
  lt_ (gf_Model_readLong S0) fun y_1 => lt_ ((gf_Model_place S0) + (1 : Int32)) fun y_2 => lt_ (sf_Model_place S0 y_2) fun S_3 => fl_X9_readsMany_15 (fun (S0_e59_21 : tt_Model) => some ((0 : Int32), S0_e59_21)) (fun (S0_e64_22 : tt_Model) (x1_e64_22 : Int32) => lt_ (gf_Model_place S0_e64_22) fun y_23 => lt_ ((gf_Model_readLong S0_e64_22) - x1_e64_22) fun y_24 => if y_24 = 0 then some ((0 : Int32), S0_e64_22) else lt_ ((gf_Model_place S0_e64_22) + (1 : Int32)) fun y_26 => lt_ (sf_Model_place S0_e64_22 y_26) fun S_27 => b2_ (fn_X9_here S_27) fun r_28 P_29 => if r_28 = (120 : Int32) then lt_ ((gf_Model_place P_29) + (1 : Int32)) fun y_32 => lt_ (sf_Model_place P_29 y_32) fun S_33 => b2_ (fn_X9_times S_33) fun r_34 P_35 => if r_34 = 0 then some ((0 : Int32), P_35) else bd_ (fn_X9_many P_35) fun r_38 => if ((r_38 + x1_e64_22) + (r_34 * y_24)) ≤ (100 : Int32) then fl_X9_readsMany_152 (fun (S0_e197_49 : tt_Model) => some ((1 : Int32), S0_e197_49)) fu_ P_35 y_24 r_34 y_24 else lt_ (sf_Model_place P_35 y_23) fun S_50 => some ((0 : Int32), S_50) else some ((0 : Int32), P_29)) fu_ S_3 y_1
def fn_X9_told_60 (k10 : tt_Model → Option (Int32 × tt_Model)) (k65 : tt_Model → Option (Int32 × tt_Model)) (S0 : tt_Model) (t0 : Int32) : Option (Int32 × tt_Model) :=
  if t0 = 0 then k65 S0 else k10 S0
def fn_X9_told_59 (k10 : tt_Model → Option (Int32 × tt_Model)) (k65 : tt_Model → Option (Int32 × tt_Model)) (S0 : tt_Model) : Option (Int32 × tt_Model) :=
  fn_X9_told_60 k10 k65 S0 (0 : Int32)
def fn_X9_told_48 (k10 : tt_Model → Option (Int32 × tt_Model)) (k65 : tt_Model → Option (Int32 × tt_Model)) (S0 : tt_Model) : Option (Int32 × tt_Model) :=
  b2_ (fn_X9_readsSign S0) fun r_12 P_13 => if r_12 = 0 then fn_X9_told_59 k10 k65 P_13 else fn_X9_told_60 k10 k65 P_13 (1 : Int32)
def fl_X9_told_10 (k65 : tt_Model → Option (Int32 × tt_Model)) (k76 : tt_Model → Option (Int32 × tt_Model)) : Nat → tt_Model → Option (Int32 × tt_Model)
  | 0, _ => none
  | n + 1, S0 =>
  b2_ (fn_X9_here S0) fun r_3 P_4 => if r_3 = (-1 : Int32) then k76 P_4 else b2_ (fn_X9_here P_4) fun r_7 P_8 => if r_7 = (40 : Int32) then b2_ (fn_X9_readsMany P_8) fun r_18 P_19 => fn_X9_told_60 (fl_X9_told_10 k65 k76 n) k65 P_19 r_18 else if r_7 = (48 : Int32) then fn_X9_told_48 (fl_X9_told_10 k65 k76 n) k65 P_8 else if r_7 = (49 : Int32) then fn_X9_told_48 (fl_X9_told_10 k65 k76 n) k65 P_8 else fn_X9_told_59 (fl_X9_told_10 k65 k76 n) k65 P_8
def fl_X9_told_82 (k106 : tt_Model → Option (Int32 × tt_Model)) : Nat → tt_Model → Int32 → Option (Int32 × tt_Model)
  | 0, _, _ => none
  | n + 1, S0, x1 =>
  if (gf_Model_readLong S0) ≤ x1 then k106 S0 else gd_ (ix_ x1 128) (bd_ (fn_X9_adds S0 ((gf_Model_read S0) x1.toNatClampNeg)) fun P_27 => lt_ (x1 + (1 : Int32)) fun y_29 => fl_X9_told_82 k106 n P_27 y_29)
def fn_X9_told (S0 : tt_Model) : Option (Int32 × tt_Model) :=
  lt_ (sf_Model_place S0 (0 : Int32)) fun S_1 => lt_ (sf_Model_readLong S_1 (0 : Int32)) fun S_2 => fl_X9_told_10 (fun (S0_e65_21 : tt_Model) => some ((-10 : Int32) - (gf_Model_place S0_e65_21), S0_e65_21)) (fun (S0_e76_22 : tt_Model) => bd_ (fn_X9_keep S0_e76_22) fun P_23 => fl_X9_told_82 (fun (S0_e106_30 : tt_Model) => some (gf_Model_readLong S0_e106_30, S0_e106_30)) fu_ P_23 (0 : Int32)) fu_ S_2
def fl_X9_back_24 (k56 : tt_Model → Option (Int32 × tt_Model)) : Nat → tt_Model → Int32 → Option (Int32 × tt_Model)
  | 0, _, _ => none
  | n + 1, S0, x1 =>
  if (103 : Int32) ≤ x1 then k56 S0 else gd_ (ix_ (((103 : Int32) * (gf_Model_states S0)) + x1) 618) (lt_ ((gf_Model_past S0) (((103 : Int32) * (gf_Model_states S0)) + x1).toNatClampNeg) fun y_6 => gd_ (ix_ x1 103) (lt_ (sf_Model_now S0 (upd (gf_Model_now S0) x1.toNatClampNeg y_6)) fun S_8 => lt_ (x1 + (1 : Int32)) fun y_9 => fl_X9_back_24 k56 n S_8 y_9))
def fn_X9_back (S0 : tt_Model) : Option (Int32 × tt_Model) :=
  if (gf_Model_states S0) = 0 then b2_ (fn_X9_no S0) fun r_11 P_12 => some (r_11, P_12) else lt_ ((gf_Model_states S0) - (1 : Int32)) fun y_2 => lt_ (sf_Model_states S0 y_2) fun S_3 => fl_X9_back_24 (fun (S0_e56_10 : tt_Model) => some (gf_Model_states S0_e56_10, S0_e56_10)) fu_ S_3 (0 : Int32)
def fn_X9_counted (S0 : tt_Model) (x1 : Int32) : Option Int32 :=
  if x1 = 3 then some (gf_Model_textLong S0) else if x1 = 4 then bd_ (fn_X9_many S0) fun r_3 => some r_3 else if x1 = 5 then bd_ (fn_X9_depth S0) fun r_6 => some r_6 else if x1 = 6 then bd_ (fn_X9_guesser S0) fun r_9 => some r_9 else if x1 = 7 then some (gf_Model_states S0) else gd_ (ix_ x1 3) (some ((gf_Model_refused S0) x1.toNatClampNeg))
def fn_X9_count (S0 : tt_Model) (x1 : Int32) : Option (Int32 × tt_Model) :=
  bd_ (fn_X9_in x1.toInt64 (0 : Int64) (7 : Int64)) fun r_1 => if r_1 = 0 then b2_ (fn_X9_bad S0 (-2 : Int32)) fun r_4 P_5 => some (r_4, P_5) else bd_ (fn_X9_counted S0 x1) fun r_7 => some (r_7, S0)
def fl_X9_digest_6 (k31 : tt_Model → Int64 → Option (Int64 × tt_Model)) : Nat → tt_Model → Int64 → Int32 → Option (Int64 × tt_Model)
  | 0, _, _, _ => none
  | n + 1, S0, x1, x3 =>
  if (8 : Int32) ≤ x3 then k31 S0 x1 else bd_ (fn_X9_counted S0 x3) fun r_2 => lt_ (((31 : Int64) * x1) + r_2.toInt64) fun y_4 => lt_ (x3 + (1 : Int32)) fun y_5 => fl_X9_digest_6 k31 n S0 y_4 y_5
def fl_X9_digest_33 (k61 : tt_Model → Int64 → Option (Int64 × tt_Model)) : Nat → tt_Model → Int64 → Int32 → Option (Int64 × tt_Model)
  | 0, _, _, _ => none
  | n + 1, S0, x1, x3 =>
  bd_ (fn_X9_many S0) fun r_7 => if r_7 ≤ x3 then k61 S0 x1 else gd_ (ix_ x3 103) (lt_ (((31 : Int64) * x1) + (((gf_Model_now S0) x3.toNatClampNeg).toInt64)) fun y_11 => lt_ (x3 + (1 : Int32)) fun y_12 => fl_X9_digest_33 k61 n S0 y_11 y_12)
def fl_X9_digest_104 (k132 : tt_Model → Int64 → Option (Int64 × tt_Model)) : Nat → tt_Model → Int64 → Int32 → Option (Int64 × tt_Model)
  | 0, _, _, _ => none
  | n + 1, S0, x1, x3 =>
  if (gf_Model_outLong S0) ≤ x3 then k132 S0 x1 else gd_ (ix_ x3 256) (lt_ (((31 : Int64) * x1) + (((gf_Model_out S0) x3.toNatClampNeg).toInt64)) fun y_30 => lt_ (x3 + (1 : Int32)) fun y_31 => fl_X9_digest_104 k132 n S0 y_30 y_31)
def fn_X9_digest (S0 : tt_Model) : Option (Int64 × tt_Model) :=
  fl_X9_digest_6 (fun (S0_e31_6 : tt_Model) (x1_e31_6 : Int64) => fl_X9_digest_33 (fun (S0_e61_13 : tt_Model) (x1_e61_13 : Int64) => b2_ (fn_X9_guessNow S0_e61_13) fun r_14 P_15 => lt_ (((31 : Int64) * x1_e61_13) + r_14.toInt64) fun y_17 => b2_ (fn_X9_goesNow P_15) fun r_18 P_19 => lt_ (((31 : Int64) * y_17) + r_18.toInt64) fun y_21 => b2_ (fn_X9_treeOf P_19 (0 : Int32)) fun r_22 P_23 => lt_ (((31 : Int64) * y_21) + r_22.toInt64) fun y_25 => bd_ (fn_X9_writes P_23) fun P_26 => fl_X9_digest_104 (fun (S0_e132_32 : tt_Model) (x1_e132_32 : Int64) => some (x1_e132_32, S0_e132_32)) fu_ P_26 y_25 (0 : Int32)) fu_ S0_e31_6 x1_e31_6 (0 : Int32)) fu_ S0 (2113 : Int64) (0 : Int32)

theorem hd_X9_type : yX9_type.cls ≠ "java/lang/invoke/MethodHandle" ∧ yX9_type.cls ≠ "java/lang/invoke/VarHandle" ∧ (parseMethodDescriptor yX9_type.desc).map (fun d => d.parameters.length) = some 1 := by decide +kernel
set_option maxHeartbeats 4000000 in
set_option maxRecDepth 100000 in
theorem ct_X9_type (l : Launch) (G : xG) (a : Nat → Nat) (S0 : tt_Model) (x1 : Int32) (ro : Int32) (So0 : tt_Model) (hf : fn_X9_type S0 x1 = some (ro, So0)) : xM l yX9_type cX9_type 2 (some .int) 1 25 G [.ref (a 0), .int x1] (wd_Model G a S0) (wd_Model G a So0) (some (.int ro)) := by
  refine xMi (by decide) (Nat.le_of_ble_eq_true rfl) ?_
  intro p e s m below meth c A C0 KN hA X ls hl
  have hx := C0.1
  have hb := C0.2.1
  have C0 : xC p s m meth c cX9_type 2 (some .int) RX9 _ := C0
  have hl : lv_has ls 2 [(0, .ref (a 0)), (1, .int x1)] := hl
  unfold fn_X9_type at hf
  refine lv_iload_n (pc := 0) hx hb dX9_type_0 rfl (lv_at hl 1 rfl) ?_
  refine lv_i2l (pc := 1) (v := x1.toInt64) hx hb dX9_type_1 rfl ?_
  refine lv_lconst (pc := 2) (v := 0) hx hb dX9_type_2 (by decide) ?_
  refine x_ldc2 (pc := 3) C0 kw_28_3 dX9_type_3 ?_
  obtain ⟨r_1, h_2, hf⟩ := bd_e hf
  refine x_cs (pc := 6) (As := [.long x1.toInt64, .long (0 : Int64), .long (127 : Int64)]) (rest := []) C0 (ct_X9_in l x1.toInt64 (0 : Int64) (127 : Int64) r_1 h_2) kw_10_21 kw_10_19 kw_10_20 kw_1_5 hd_X9_in ⟨by decide, by decide⟩ hl.1 rfl (Nat.le_of_ble_eq_true rfl) ⟨Nat.zero_le _, Nat.zero_le _⟩ dX9_type_6 ?_
  refine W.eq (g2 := F0 m 9 ls [.int r_1]) rfl ?_
  refine lv_if_ne (pc := 9) (tgt := 19) hx hb dX9_type_9 (by decide) (fun c_3 => ?_) (fun c_3 => ?_)
  · have hf := it_n hf c_3
    refine lv_aload_n (pc := 19) hx hb dX9_type_19 rfl (lv_at hl 0 rfl) ?_
    refine x_get (pc := 20) (ci := 9) C0 KN X 0 rfl rfl inlX9 23 (by decide) kw_28_4 rfl dX9_type_20 ?_
    refine W.eq (g2 := F0 m 23 ls [.int (gf_Model_textLong S0)]) rfl ?_
    refine lv_bipush (pc := 23) (v := 120) hx hb dX9_type_23 (by decide) ?_
    refine lv_icmp_ne (pc := 25) (tgt := 33) hx hb dX9_type_25 (by decide) (fun c_4 => ?_) (fun c_4 => ?_)
    · have hf := it_n hf c_4
      refine lv_aload_n (pc := 33) hx hb dX9_type_33 rfl (lv_at hl 0 rfl) ?_
      refine x_get (pc := 34) (ci := 9) C0 KN X 0 rfl rfl inlX9 22 (by decide) kw_8_2 rfl dX9_type_34 ?_
      refine lv_aload_n (pc := 37) hx hb dX9_type_37 rfl (lv_at hl 0 rfl) ?_
      refine x_get (pc := 38) (ci := 9) C0 KN X 0 rfl rfl inlX9 23 (by decide) kw_28_4 rfl dX9_type_38 ?_
      refine W.eq (g2 := F0 m 41 ls [.int (gf_Model_textLong S0), .ref (a 17)]) rfl ?_
      refine lv_iload_n (pc := 41) hx hb dX9_type_41 rfl (lv_at hl 1 rfl) ?_
      obtain ⟨g_5, hf⟩ := gd_e hf
      obtain ⟨S_6, eS_6, hf⟩ := lt_e hf
      refine x_ast (pc := 42) (ws' := wd_Model G a S_6) C0 KN X 17 rfl g_5 (by subst eS_6; rfl) dX9_type_42 (fun H locs X => ?_)
      refine lv_aload_n (pc := 43) hx hb dX9_type_43 rfl (lv_at hl 0 rfl) ?_
      refine lv_dup (pc := 44) hx hb dX9_type_44 rfl ?_
      refine x_get (pc := 45) (ci := 9) C0 KN X 0 rfl rfl inlX9 23 (by decide) kw_28_4 rfl dX9_type_45 ?_
      refine W.eq (g2 := F0 m 48 ls [.int (gf_Model_textLong S_6), .ref (a 0)]) rfl ?_
      refine lv_iconst (pc := 48) (v := 1) hx hb dX9_type_48 (by decide) ?_
      refine lv_iadd (pc := 49) hx hb dX9_type_49 ?_
      refine lv_topi (fun y_7 ey_7 => ?_)
      have hf := lt_sb hf ey_7
      obtain ⟨S_8, eS_8, hf⟩ := lt_e hf
      refine x_put (pc := 50) (ci := 9) (ws' := wd_Model G a S_8) C0 KN X 0 rfl rfl inlX9 tyX9_ok nmX9 23 (by decide) kw_28_4 rfl rfl rfl (Nat.le_of_ble_eq_true rfl) (by subst eS_8; rfl) dX9_type_50 (fun H locs X => ?_)
      refine lv_aload_n (pc := 53) hx hb dX9_type_53 rfl (lv_at hl 0 rfl) ?_
      refine x_get (pc := 54) (ci := 9) C0 KN X 0 rfl rfl inlX9 23 (by decide) kw_28_4 rfl dX9_type_54 ?_
      refine W.eq (g2 := F0 m 57 ls [.int (gf_Model_textLong S_8)]) rfl ?_
      obtain ⟨rfl, rfl⟩ := so_2 hf
      exact x_iret (pc := 57) C0 X dX9_type_57
    · have hf := it_p hf c_4
      refine lv_aload_n (pc := 28) hx hb dX9_type_28 rfl (lv_at hl 0 rfl) ?_
      obtain ⟨r_9, P_10, h_11, hf⟩ := b2_e hf
      refine x_cv (pc := 29) (ws' := wd_Model G a P_10) (As := []) (rest := []) (ci := 9) (qr := 0) C0 KN X hA [0, 1, 2, 3, 4, 5, 6, 7, 8, 9, 10, 11, 12, 13, 14, 15, 16, 17, 18] [] [0, 1, 2, 3, 4, 5, 6, 7, 8, 9, 10, 11, 12, 13, 14, 15, 16, 17, 18] cu_C50 rfl cu_R50 rfl (by decide) (cu_J50 (S0 := S0)) rfl (ct_X9_full l G a S0 r_9 P_10 h_11) rfl rfl rfl kw_11_9 kw_11_6 kw_11_7 kw_11_8 kw_1_5 hd_X9_full ⟨by decide, by decide⟩ hl.1 rfl (Nat.le_of_ble_eq_true rfl) ⟨Nat.zero_le _, Nat.zero_le _⟩ dX9_type_29 (fun H locs X => ?_)
      refine W.eq (g2 := F0 m 32 ls [.int r_9]) rfl ?_
      obtain ⟨rfl, rfl⟩ := so_2 hf
      exact x_iret (pc := 32) C0 X dX9_type_32
  · have hf := it_p hf c_3
    refine lv_aload_n (pc := 12) hx hb dX9_type_12 rfl (lv_at hl 0 rfl) ?_
    refine lv_bipush (pc := 13) (v := (-2)) hx hb dX9_type_13 (by decide) ?_
    obtain ⟨r_12, P_13, h_14, hf⟩ := b2_e hf
    refine x_cv (pc := 15) (ws' := wd_Model G a P_13) (As := [.int (-2 : Int32)]) (rest := []) (ci := 9) (qr := 0) C0 KN X hA [0, 1, 2, 3, 4, 5, 6, 7, 8, 9, 10, 11, 12, 13, 14, 15, 16, 17, 18] [] [0, 1, 2, 3, 4, 5, 6, 7, 8, 9, 10, 11, 12, 13, 14, 15, 16, 17, 18] cu_C50 rfl cu_R50 rfl (by decide) (cu_J50 (S0 := S0)) rfl (ct_X9_bad l G a S0 (-2 : Int32) r_12 P_13 h_14) rfl rfl rfl kw_11_1 kw_10_22 kw_10_23 kw_11_0 kw_1_5 hd_X9_bad ⟨by decide, by decide⟩ hl.1 rfl (Nat.le_of_ble_eq_true rfl) ⟨Nat.zero_le _, Nat.zero_le _⟩ dX9_type_15 (fun H locs X => ?_)
    refine W.eq (g2 := F0 m 18 ls [.int r_12]) rfl ?_
    obtain ⟨rfl, rfl⟩ := so_2 hf
    exact x_iret (pc := 18) C0 X dX9_type_18
theorem hd_X9_clear : yX9_clear.cls ≠ "java/lang/invoke/MethodHandle" ∧ yX9_clear.cls ≠ "java/lang/invoke/VarHandle" ∧ (parseMethodDescriptor yX9_clear.desc).map (fun d => d.parameters.length) = some 0 := by decide +kernel
set_option maxHeartbeats 4000000 in
set_option maxRecDepth 100000 in
theorem ct_X9_clear (l : Launch) (G : xG) (a : Nat → Nat) (S0 : tt_Model) (ro : Int32) (So0 : tt_Model) (hf : fn_X9_clear S0 = some (ro, So0)) : xM l yX9_clear cX9_clear 2 (some .int) 0 0 G [.ref (a 0)] (wd_Model G a S0) (wd_Model G a So0) (some (.int ro)) := by
  refine xMi (by decide) (Nat.le_of_ble_eq_true rfl) ?_
  intro p e s m below meth c A C0 KN hA X ls hl
  have hx := C0.1
  have hb := C0.2.1
  have C0 : xC p s m meth c cX9_clear 2 (some .int) RX9 _ := C0
  have hl : lv_has ls 2 [(0, .ref (a 0))] := hl
  unfold fn_X9_clear at hf
  refine lv_aload_n (pc := 0) hx hb dX9_clear_0 rfl (lv_at hl 0 rfl) ?_
  refine x_get (pc := 1) (ci := 9) C0 KN X 0 rfl rfl inlX9 23 (by decide) kw_28_4 rfl dX9_clear_1 ?_
  refine W.eq (g2 := F0 m 4 ls [.int (gf_Model_textLong S0)]) rfl ?_
  refine lv_topi (fun y_1 ey_1 => ?_)
  have hf := lt_sb hf ey_1
  refine lv_istore_n (pc := 4) (lv' := [(1, .int y_1), (0, .ref (a 0))]) hx hb dX9_clear_4 rfl hl (by decide) rfl (fun ls hl => ?_)
  refine lv_aload_n (pc := 5) hx hb dX9_clear_5 rfl (lv_at hl 1 rfl) ?_
  refine lv_iconst (pc := 6) (v := 0) hx hb dX9_clear_6 (by decide) ?_
  obtain ⟨S_2, eS_2, hf⟩ := lt_e hf
  refine x_put (pc := 7) (ci := 9) (ws' := wd_Model G a S_2) C0 KN X 0 rfl rfl inlX9 tyX9_ok nmX9 23 (by decide) kw_28_4 rfl rfl rfl (Nat.le_of_ble_eq_true rfl) (by subst eS_2; rfl) dX9_clear_7 (fun H locs X => ?_)
  refine lv_iload_n (pc := 10) hx hb dX9_clear_10 rfl (lv_at hl 0 rfl) ?_
  obtain ⟨rfl, rfl⟩ := so_2 hf
  exact x_iret (pc := 11) C0 X dX9_clear_11
set_option maxHeartbeats 4000000 in
set_option maxRecDepth 100000 in
theorem lb_X9_here_0 {l : Launch} {p : Program} {e : Env} {s : State} {m : MethodId} {args : Array Value} {below : List Frame} {meth : Method} {c : Code} {G : xG} {A : Nat → Prop} {a : Nat → Nat} (C0 : xC p s m meth c cX9_here 1 (some .int) RX9 args) (KN : xKN G s) (hA : ∀ q, s.heap.size ≤ q → A q) (ro : Int32) (So0 : tt_Model) (k38 : tt_Model → Option (Int32 × tt_Model)) (hk38 : ∀ (S0 : tt_Model), k38 S0 = some (ro, So0) → ∀ (H : Heap) (locs : List Loc) (ls : Array Slot), xS G A s.heap (wd_Model G a S0) H locs → lv_has ls 1 [(0, .ref (a 0))] → W p l e ({ frames := 0, cells := 0, slots := 0, locals := 0 }) s m args below meth c H locs 0 0 (MQ below (xQo G (some (.int ro)) A (wd_Model G a So0)) args s 0 0 A) (F0 m 38 ls [])) : ∀ (n : Nat) (S0 : tt_Model), fl_X9_here_0 k38 n S0 = some (ro, So0) → ∀ (H : Heap) (locs : List Loc) (ls : Array Slot), xS G A s.heap (wd_Model G a S0) H locs → lv_has ls 1 [(0, .ref (a 0))] → W p l e ({ frames := 0, cells := 0, slots := 0, locals := 0 }) s m args below meth c H locs 0 0 (MQ below (xQo G (some (.int ro)) A (wd_Model G a So0)) args s 0 0 A) (F0 m 0 ls []) := by
  have hx := C0.1
  have hb := C0.2.1
  intro n
  induction n with
  | zero =>
    intro S0 hf
    have hf : none = some (ro, So0) := hf
    cases hf
  | succ n ih =>
    intro S0 hf H locs ls X hl
    rw [fl_X9_here_0] at hf
    refine lv_aload_n (pc := 0) hx hb dX9_here_0 rfl (lv_at hl 0 rfl) ?_
    refine x_get (pc := 1) (ci := 9) C0 KN X 0 rfl rfl inlX9 24 (by decide) kw_30_16 rfl dX9_here_1 ?_
    refine W.eq (g2 := F0 m 4 ls [.int (gf_Model_place S0)]) rfl ?_
    refine lv_aload_n (pc := 4) hx hb dX9_here_4 rfl (lv_at hl 0 rfl) ?_
    refine x_get (pc := 5) (ci := 9) C0 KN X 0 rfl rfl inlX9 23 (by decide) kw_28_4 rfl dX9_here_5 ?_
    refine W.eq (g2 := F0 m 8 ls [.int (gf_Model_textLong S0), .int (gf_Model_place S0)]) rfl ?_
    refine lv_icmp_ge (pc := 8) (tgt := 38) hx hb dX9_here_8 (by decide) (fun c_1 => ?_) (fun c_1 => ?_)
    · have hf := it_p hf c_1
      exact hk38 _ hf _ _ _ X (lv_sub hl [0] rfl)
    · have hf := it_n hf c_1
      refine lv_aload_n (pc := 11) hx hb dX9_here_11 rfl (lv_at hl 0 rfl) ?_
      refine x_get (pc := 12) (ci := 9) C0 KN X 0 rfl rfl inlX9 22 (by decide) kw_8_2 rfl dX9_here_12 ?_
      refine lv_aload_n (pc := 15) hx hb dX9_here_15 rfl (lv_at hl 0 rfl) ?_
      refine x_get (pc := 16) (ci := 9) C0 KN X 0 rfl rfl inlX9 24 (by decide) kw_30_16 rfl dX9_here_16 ?_
      refine W.eq (g2 := F0 m 19 ls [.int (gf_Model_place S0), .ref (a 17)]) rfl ?_
      obtain ⟨g_2, hf⟩ := gd_e hf
      refine x_ald (pc := 19) C0 KN X 17 rfl g_2 dX9_here_19 ?_
      refine W.eq (g2 := F0 m 20 ls [.int ((gf_Model_text S0) (gf_Model_place S0).toNatClampNeg)]) rfl ?_
      refine lv_bipush (pc := 20) (v := 32) hx hb dX9_here_20 (by decide) ?_
      refine lv_icmp_ne (pc := 22) (tgt := 38) hx hb dX9_here_22 (by decide) (fun c_3 => ?_) (fun c_3 => ?_)
      · have hf := it_n hf c_3
        exact hk38 _ hf _ _ _ X (lv_sub hl [0] rfl)
      · have hf := it_p hf c_3
        refine lv_aload_n (pc := 25) hx hb dX9_here_25 rfl (lv_at hl 0 rfl) ?_
        refine lv_dup (pc := 26) hx hb dX9_here_26 rfl ?_
        refine x_get (pc := 27) (ci := 9) C0 KN X 0 rfl rfl inlX9 24 (by decide) kw_30_16 rfl dX9_here_27 ?_
        refine W.eq (g2 := F0 m 30 ls [.int (gf_Model_place S0), .ref (a 0)]) rfl ?_
        refine lv_iconst (pc := 30) (v := 1) hx hb dX9_here_30 (by decide) ?_
        refine lv_iadd (pc := 31) hx hb dX9_here_31 ?_
        refine lv_topi (fun y_4 ey_4 => ?_)
        have hf := lt_sb hf ey_4
        obtain ⟨S_5, eS_5, hf⟩ := lt_e hf
        refine x_put (pc := 32) (ci := 9) (ws' := wd_Model G a S_5) C0 KN X 0 rfl rfl inlX9 tyX9_ok nmX9 24 (by decide) kw_30_16 rfl rfl rfl (Nat.le_of_ble_eq_true rfl) (by subst eS_5; rfl) dX9_here_32 (fun H locs X => ?_)
        refine lv_goto (pc := 35) (tgt := 0) hx hb dX9_here_35 (by decide) ?_
        exact ih _ hf _ _ _ X (lv_sub hl [0] rfl)
set_option maxHeartbeats 4000000 in
set_option maxRecDepth 100000 in
theorem lb_X9_here_38 {l : Launch} {p : Program} {e : Env} {s : State} {m : MethodId} {args : Array Value} {below : List Frame} {meth : Method} {c : Code} {G : xG} {A : Nat → Prop} {a : Nat → Nat} (C0 : xC p s m meth c cX9_here 1 (some .int) RX9 args) (KN : xKN G s) (hA : ∀ q, s.heap.size ≤ q → A q) (ro : Int32) (So0 : tt_Model) : ∀ (S0 : tt_Model), fn_X9_here_38 S0 = some (ro, So0) → ∀ (H : Heap) (locs : List Loc) (ls : Array Slot), xS G A s.heap (wd_Model G a S0) H locs → lv_has ls 1 [(0, .ref (a 0))] → W p l e ({ frames := 0, cells := 0, slots := 0, locals := 0 }) s m args below meth c H locs 0 0 (MQ below (xQo G (some (.int ro)) A (wd_Model G a So0)) args s 0 0 A) (F0 m 38 ls []) := by
  have hx := C0.1
  have hb := C0.2.1
  intro S0 hf H locs ls X hl
  unfold fn_X9_here_38 at hf
  refine lv_aload_n (pc := 38) hx hb dX9_here_38 rfl (lv_at hl 0 rfl) ?_
  refine x_get (pc := 39) (ci := 9) C0 KN X 0 rfl rfl inlX9 24 (by decide) kw_30_16 rfl dX9_here_39 ?_
  refine W.eq (g2 := F0 m 42 ls [.int (gf_Model_place S0)]) rfl ?_
  refine lv_aload_n (pc := 42) hx hb dX9_here_42 rfl (lv_at hl 0 rfl) ?_
  refine x_get (pc := 43) (ci := 9) C0 KN X 0 rfl rfl inlX9 23 (by decide) kw_28_4 rfl dX9_here_43 ?_
  refine W.eq (g2 := F0 m 46 ls [.int (gf_Model_textLong S0), .int (gf_Model_place S0)]) rfl ?_
  refine lv_icmp_ge (pc := 46) (tgt := 61) hx hb dX9_here_46 (by decide) (fun c_7 => ?_) (fun c_7 => ?_)
  · have hf := it_p hf c_7
    refine lv_iconst (pc := 61) (v := (-1)) hx hb dX9_here_61 (by decide) ?_
    obtain ⟨rfl, rfl⟩ := so_2 hf
    exact x_iret (pc := 62) C0 X dX9_here_62
  · have hf := it_n hf c_7
    refine lv_aload_n (pc := 49) hx hb dX9_here_49 rfl (lv_at hl 0 rfl) ?_
    refine x_get (pc := 50) (ci := 9) C0 KN X 0 rfl rfl inlX9 22 (by decide) kw_8_2 rfl dX9_here_50 ?_
    refine lv_aload_n (pc := 53) hx hb dX9_here_53 rfl (lv_at hl 0 rfl) ?_
    refine x_get (pc := 54) (ci := 9) C0 KN X 0 rfl rfl inlX9 24 (by decide) kw_30_16 rfl dX9_here_54 ?_
    refine W.eq (g2 := F0 m 57 ls [.int (gf_Model_place S0), .ref (a 17)]) rfl ?_
    obtain ⟨g_8, hf⟩ := gd_e hf
    refine x_ald (pc := 57) C0 KN X 17 rfl g_8 dX9_here_57 ?_
    refine W.eq (g2 := F0 m 58 ls [.int ((gf_Model_text S0) (gf_Model_place S0).toNatClampNeg)]) rfl ?_
    refine lv_goto (pc := 58) (tgt := 62) hx hb dX9_here_58 (by decide) ?_
    obtain ⟨rfl, rfl⟩ := so_2 hf
    exact x_iret (pc := 62) C0 X dX9_here_62
theorem hd_X9_here : yX9_here.cls ≠ "java/lang/invoke/MethodHandle" ∧ yX9_here.cls ≠ "java/lang/invoke/VarHandle" ∧ (parseMethodDescriptor yX9_here.desc).map (fun d => d.parameters.length) = some 0 := by decide +kernel
set_option maxHeartbeats 4000000 in
set_option maxRecDepth 100000 in
theorem ct_X9_here (l : Launch) (G : xG) (a : Nat → Nat) (S0 : tt_Model) (ro : Int32) (So0 : tt_Model) (hf : fn_X9_here S0 = some (ro, So0)) : xM l yX9_here cX9_here 1 (some .int) 0 0 G [.ref (a 0)] (wd_Model G a S0) (wd_Model G a So0) (some (.int ro)) := by
  refine xMi (by decide) (Nat.le_of_ble_eq_true rfl) ?_
  intro p e s m below meth c A C0 KN hA X ls hl
  have hx := C0.1
  have hb := C0.2.1
  have C0 : xC p s m meth c cX9_here 1 (some .int) RX9 _ := C0
  have hl : lv_has ls 1 [(0, .ref (a 0))] := hl
  unfold fn_X9_here at hf
  refine lb_X9_here_0 C0 KN hA _ _ _ ?_ _ _ hf _ _ _ X (lv_sub hl [0] rfl)
  · intro S0_e38_6 hf H locs ls X hl
    exact lb_X9_here_38 C0 KN hA _ _  _ hf _ _ _ X (lv_sub hl [0] rfl)
theorem hd_X9_isFigure : yX9_isFigure.cls ≠ "java/lang/invoke/MethodHandle" ∧ yX9_isFigure.cls ≠ "java/lang/invoke/VarHandle" ∧ (parseMethodDescriptor yX9_isFigure.desc).map (fun d => d.parameters.length) = some 1 := by decide +kernel
set_option maxHeartbeats 4000000 in
set_option maxRecDepth 100000 in
theorem ct_X9_isFigure (l : Launch) (G : xG) (a : Nat → Nat) (S0 : tt_Model) (x1 : Int32) (ro : Int32) (hf : fn_X9_isFigure S0 x1 = some ro) : xM l yX9_isFigure cX9_isFigure 2 (some .boolean) 1 25 G [.ref (a 0), .int x1] (wd_Model G a S0) (wd_Model G a S0) (some (.int ro)) := by
  refine xMi (by decide) (Nat.le_of_ble_eq_true rfl) ?_
  intro p e s m below meth c A C0 KN hA X ls hl
  have hx := C0.1
  have hb := C0.2.1
  have C0 : xC p s m meth c cX9_isFigure 2 (some .boolean) RX9 _ := C0
  have hl : lv_has ls 2 [(0, .ref (a 0)), (1, .int x1)] := hl
  unfold fn_X9_isFigure at hf
  refine lv_iload_n (pc := 0) hx hb dX9_isFigure_0 rfl (lv_at hl 1 rfl) ?_
  refine lv_aload_n (pc := 1) hx hb dX9_isFigure_1 rfl (lv_at hl 0 rfl) ?_
  refine x_get (pc := 2) (ci := 9) C0 KN X 0 rfl rfl inlX9 23 (by decide) kw_28_4 rfl dX9_isFigure_2 ?_
  refine W.eq (g2 := F0 m 5 ls [.int (gf_Model_textLong S0), .int x1]) rfl ?_
  refine lv_icmp_ge (pc := 5) (tgt := 31) hx hb dX9_isFigure_5 (by decide) (fun c_1 => ?_) (fun c_1 => ?_)
  · have hf := it_p hf c_1
    refine lv_iconst (pc := 31) (v := 0) hx hb dX9_isFigure_31 (by decide) ?_
    obtain rfl := so_1 hf
    exact x_zret (pc := 32) C0 X (by decide) dX9_isFigure_32
  · have hf := it_n hf c_1
    refine lv_aload_n (pc := 8) hx hb dX9_isFigure_8 rfl (lv_at hl 0 rfl) ?_
    refine x_get (pc := 9) (ci := 9) C0 KN X 0 rfl rfl inlX9 22 (by decide) kw_8_2 rfl dX9_isFigure_9 ?_
    refine lv_iload_n (pc := 12) hx hb dX9_isFigure_12 rfl (lv_at hl 1 rfl) ?_
    obtain ⟨g_2, hf⟩ := gd_e hf
    refine x_ald (pc := 13) C0 KN X 17 rfl g_2 dX9_isFigure_13 ?_
    refine W.eq (g2 := F0 m 14 ls [.int ((gf_Model_text S0) x1.toNatClampNeg)]) rfl ?_
    refine lv_i2l (pc := 14) (v := ((gf_Model_text S0) x1.toNatClampNeg).toInt64) hx hb dX9_isFigure_14 rfl ?_
    refine x_ldc2 (pc := 15) C0 kw_31_14 dX9_isFigure_15 ?_
    refine x_ldc2 (pc := 18) C0 kw_31_15 dX9_isFigure_18 ?_
    obtain ⟨r_3, h_4, hf⟩ := bd_e hf
    refine x_cs (pc := 21) (As := [.long (((gf_Model_text S0) x1.toNatClampNeg).toInt64), .long (48 : Int64), .long (57 : Int64)]) (rest := []) C0 (ct_X9_in l (((gf_Model_text S0) x1.toNatClampNeg).toInt64) (48 : Int64) (57 : Int64) r_3 h_4) kw_10_21 kw_10_19 kw_10_20 kw_1_5 hd_X9_in ⟨by decide, by decide⟩ hl.1 rfl (Nat.le_of_ble_eq_true rfl) ⟨Nat.zero_le _, Nat.zero_le _⟩ dX9_isFigure_21 ?_
    refine W.eq (g2 := F0 m 24 ls [.int r_3]) rfl ?_
    refine lv_if_eq (pc := 24) (tgt := 31) hx hb dX9_isFigure_24 (by decide) (fun c_5 => ?_) (fun c_5 => ?_)
    · have hf := it_p hf c_5
      refine lv_iconst (pc := 31) (v := 0) hx hb dX9_isFigure_31 (by decide) ?_
      obtain rfl := so_1 hf
      exact x_zret (pc := 32) C0 X (by decide) dX9_isFigure_32
    · have hf := it_n hf c_5
      refine lv_iconst (pc := 27) (v := 1) hx hb dX9_isFigure_27 (by decide) ?_
      refine lv_goto (pc := 28) (tgt := 32) hx hb dX9_isFigure_28 (by decide) ?_
      obtain rfl := so_1 hf
      exact x_zret (pc := 32) C0 X (by decide) dX9_isFigure_32
set_option maxHeartbeats 4000000 in
set_option maxRecDepth 100000 in
theorem lb_X9_times_12 {l : Launch} {p : Program} {e : Env} {s : State} {m : MethodId} {args : Array Value} {below : List Frame} {meth : Method} {c : Code} {G : xG} {A : Nat → Prop} {a : Nat → Nat} (C0 : xC p s m meth c cX9_times 5 (some .int) RX9 args) (KN : xKN G s) (hA : ∀ q, s.heap.size ≤ q → A q) (ro : Int32) (So0 : tt_Model) (k51 : tt_Model → Int32 → Int32 → Option (Int32 × tt_Model)) (hk51 : ∀ (S0 : tt_Model) (x2 : Int32) (x3 : Int32), k51 S0 x2 x3 = some (ro, So0) → ∀ (H : Heap) (locs : List Loc) (ls : Array Slot), xS G A s.heap (wd_Model G a S0) H locs → lv_has ls 5 [(0, .ref (a 0)), (2, .int x2), (3, .int x3)] → W p l e ({ frames := 2, cells := 0, slots := 0, locals := 46 }) s m args below meth c H locs 0 0 (MQ below (xQo G (some (.int ro)) A (wd_Model G a So0)) args s 0 0 A) (F0 m 51 ls [])) : ∀ (n : Nat) (S0 : tt_Model) (x2 : Int32) (x3 : Int32), fl_X9_times_12 k51 n S0 x2 x3 = some (ro, So0) → ∀ (H : Heap) (locs : List Loc) (ls : Array Slot), xS G A s.heap (wd_Model G a S0) H locs → lv_has ls 5 [(0, .ref (a 0)), (2, .int x2), (3, .int x3)] → W p l e ({ frames := 2, cells := 0, slots := 0, locals := 46 }) s m args below meth c H locs 0 0 (MQ below (xQo G (some (.int ro)) A (wd_Model G a So0)) args s 0 0 A) (F0 m 12 ls []) := by
  have hx := C0.1
  have hb := C0.2.1
  intro n
  induction n with
  | zero =>
    intro S0 x2 x3 hf
    have hf : none = some (ro, So0) := hf
    cases hf
  | succ n ih =>
    intro S0 x2 x3 hf H locs ls X hl
    rw [fl_X9_times_12] at hf
    refine lv_aload_n (pc := 12) hx hb dX9_times_12 rfl (lv_at hl 0 rfl) ?_
    refine lv_iload_n (pc := 13) hx hb dX9_times_13 rfl (lv_at hl 1 rfl) ?_
    obtain ⟨r_5, h_6, hf⟩ := bd_e hf
    refine x_cv (pc := 14) (ws' := wd_Model G a S0) (As := [.int x2]) (rest := []) (ci := 9) (qr := 0) C0 KN X hA [0, 1, 2, 3, 4, 5, 6, 7, 8, 9, 10, 11, 12, 13, 14, 15, 16, 17, 18] [] [0, 1, 2, 3, 4, 5, 6, 7, 8, 9, 10, 11, 12, 13, 14, 15, 16, 17, 18] cu_C49 rfl cu_R49 rfl (by decide) (cu_J49 (S0 := S0)) rfl (ct_X9_isFigure l G a S0 x2 r_5 h_6) rfl rfl rfl kw_31_13 kw_31_10 kw_31_11 kw_31_12 kw_1_5 hd_X9_isFigure ⟨by decide, by decide⟩ hl.1 rfl (Nat.le_of_ble_eq_true rfl) ⟨Nat.zero_le _, Nat.zero_le _⟩ dX9_times_14 (fun H locs X => ?_)
    refine W.eq (g2 := F0 m 17 ls [.int r_5]) rfl ?_
    refine lv_if_eq (pc := 17) (tgt := 51) hx hb dX9_times_17 (by decide) (fun c_7 => ?_) (fun c_7 => ?_)
    · have hf := it_p hf c_7
      exact hk51 _ _ _ hf _ _ _ X (lv_sub hl [0, 1, 2] rfl)
    · have hf := it_n hf c_7
      refine lv_iload_n (pc := 20) hx hb dX9_times_20 rfl (lv_at hl 1 rfl) ?_
      refine lv_aload_n (pc := 21) hx hb dX9_times_21 rfl (lv_at hl 0 rfl) ?_
      refine x_get (pc := 22) (ci := 9) C0 KN X 0 rfl rfl inlX9 24 (by decide) kw_30_16 rfl dX9_times_22 ?_
      refine W.eq (g2 := F0 m 25 ls [.int (gf_Model_place S0), .int x2]) rfl ?_
      refine lv_isub (pc := 25) hx hb dX9_times_25 ?_
      refine lv_iconst (pc := 26) (v := 3) hx hb dX9_times_26 (by decide) ?_
      refine lv_icmp_ge (pc := 27) (tgt := 51) hx hb dX9_times_27 (by decide) (fun c_8 => ?_) (fun c_8 => ?_)
      · have hf := it_p hf c_8
        exact hk51 _ _ _ hf _ _ _ X (lv_sub hl [0, 1, 2] rfl)
      · have hf := it_n hf c_8
        refine lv_bipush (pc := 30) (v := 10) hx hb dX9_times_30 (by decide) ?_
        refine lv_iload_n (pc := 32) hx hb dX9_times_32 rfl (lv_at hl 2 rfl) ?_
        refine lv_imul (pc := 33) hx hb dX9_times_33 ?_
        refine lv_aload_n (pc := 34) hx hb dX9_times_34 rfl (lv_at hl 0 rfl) ?_
        refine x_get (pc := 35) (ci := 9) C0 KN X 0 rfl rfl inlX9 22 (by decide) kw_8_2 rfl dX9_times_35 ?_
        refine lv_iload_n (pc := 38) hx hb dX9_times_38 rfl (lv_at hl 1 rfl) ?_
        obtain ⟨g_9, hf⟩ := gd_e hf
        refine x_ald (pc := 39) C0 KN X 17 rfl g_9 dX9_times_39 ?_
        refine W.eq (g2 := F0 m 40 ls [.int ((gf_Model_text S0) x2.toNatClampNeg), .int ((10 : Int32) * x3)]) rfl ?_
        refine lv_iadd (pc := 40) hx hb dX9_times_40 ?_
        refine lv_bipush (pc := 41) (v := 48) hx hb dX9_times_41 (by decide) ?_
        refine lv_isub (pc := 43) hx hb dX9_times_43 ?_
        refine lv_topi (fun y_10 ey_10 => ?_)
        have hf := lt_sb hf ey_10
        refine lv_istore_n (pc := 44) (lv' := [(3, .int y_10), (0, .ref (a 0)), (2, .int x2)]) hx hb dX9_times_44 rfl hl (by decide) rfl (fun ls hl => ?_)
        obtain ⟨y_11, ey_11⟩ : ∃ y : Int32, y = x2 + (1 : Int32) := ⟨_, rfl⟩
        have hf := lt_sb hf ey_11
        refine lv_iinc (pc := 45) (v := y_11) (lv' := [(2, .int y_11), (3, .int y_10), (0, .ref (a 0))]) hx hb dX9_times_45 hl (k := 2) rfl (by rw [ey_11]; rfl) (by decide) rfl (fun ls hl => ?_)
        refine lv_goto (pc := 48) (tgt := 12) hx hb dX9_times_48 (by decide) ?_
        exact ih _ _ _ hf _ _ _ X (lv_sub hl [2, 0, 1] rfl)
set_option maxHeartbeats 4000000 in
set_option maxRecDepth 100000 in
theorem lb_X9_times_93 {l : Launch} {p : Program} {e : Env} {s : State} {m : MethodId} {args : Array Value} {below : List Frame} {meth : Method} {c : Code} {G : xG} {A : Nat → Prop} {a : Nat → Nat} (C0 : xC p s m meth c cX9_times 5 (some .int) RX9 args) (KN : xKN G s) (hA : ∀ q, s.heap.size ≤ q → A q) (ro : Int32) (So0 : tt_Model) : ∀ (S0 : tt_Model) (x3 : Int32) (x4 : Int32) (t1 : Int32), fn_X9_times_93 S0 x3 x4 t1 = some (ro, So0) → ∀ (H : Heap) (locs : List Loc) (ls : Array Slot), xS G A s.heap (wd_Model G a S0) H locs → lv_has ls 5 [(0, .ref (a 0)), (3, .int x3), (4, .int x4)] → W p l e ({ frames := 2, cells := 0, slots := 0, locals := 46 }) s m args below meth c H locs 0 0 (MQ below (xQo G (some (.int ro)) A (wd_Model G a So0)) args s 0 0 A) (F0 m 93 ls [.int t1, .ref (a 0)]) := by
  have hx := C0.1
  have hb := C0.2.1
  intro S0 x3 x4 t1 hf H locs ls X hl
  unfold fn_X9_times_93 at hf
  obtain ⟨S_17, eS_17, hf⟩ := lt_e hf
  refine x_put (pc := 93) (ci := 9) (ws' := wd_Model G a S_17) C0 KN X 0 rfl rfl inlX9 tyX9_ok nmX9 24 (by decide) kw_30_16 rfl rfl rfl (Nat.le_of_ble_eq_true rfl) (by subst eS_17; rfl) dX9_times_93 (fun H locs X => ?_)
  refine lv_iload (pc := 96) hx hb dX9_times_96 (lv_at hl 2 rfl) ?_
  refine lv_if_eq (pc := 98) (tgt := 105) hx hb dX9_times_98 (by decide) (fun c_18 => ?_) (fun c_18 => ?_)
  · have hf := it_p hf c_18
    refine lv_iconst (pc := 105) (v := 0) hx hb dX9_times_105 (by decide) ?_
    obtain ⟨rfl, rfl⟩ := so_2 hf
    exact x_iret (pc := 106) C0 X dX9_times_106
  · have hf := it_n hf c_18
    refine lv_iload_n (pc := 101) hx hb dX9_times_101 rfl (lv_at hl 1 rfl) ?_
    refine lv_goto (pc := 102) (tgt := 106) hx hb dX9_times_102 (by decide) ?_
    obtain ⟨rfl, rfl⟩ := so_2 hf
    exact x_iret (pc := 106) C0 X dX9_times_106
set_option maxHeartbeats 4000000 in
set_option maxRecDepth 100000 in
theorem lb_X9_times_77 {l : Launch} {p : Program} {e : Env} {s : State} {m : MethodId} {args : Array Value} {below : List Frame} {meth : Method} {c : Code} {G : xG} {A : Nat → Prop} {a : Nat → Nat} (C0 : xC p s m meth c cX9_times 5 (some .int) RX9 args) (KN : xKN G s) (hA : ∀ q, s.heap.size ≤ q → A q) (ro : Int32) (So0 : tt_Model) : ∀ (S0 : tt_Model) (x2 : Int32) (x3 : Int32) (t0 : Int32), fn_X9_times_77 S0 x2 x3 t0 = some (ro, So0) → ∀ (H : Heap) (locs : List Loc) (ls : Array Slot), xS G A s.heap (wd_Model G a S0) H locs → lv_has ls 5 [(0, .ref (a 0)), (2, .int x2), (3, .int x3)] → W p l e ({ frames := 2, cells := 0, slots := 0, locals := 46 }) s m args below meth c H locs 0 0 (MQ below (xQo G (some (.int ro)) A (wd_Model G a So0)) args s 0 0 A) (F0 m 77 ls [.int t0]) := by
  have hx := C0.1
  have hb := C0.2.1
  intro S0 x2 x3 t0 hf H locs ls X hl
  unfold fn_X9_times_77 at hf
  refine lv_istore (pc := 77) (lv' := [(4, .int t0), (0, .ref (a 0)), (2, .int x2), (3, .int x3)]) hx hb dX9_times_77 hl (by decide) rfl (fun ls hl => ?_)
  refine lv_aload_n (pc := 79) hx hb dX9_times_79 rfl (lv_at hl 1 rfl) ?_
  refine lv_iload (pc := 80) hx hb dX9_times_80 (lv_at hl 0 rfl) ?_
  refine lv_if_eq (pc := 82) (tgt := 89) hx hb dX9_times_82 (by decide) (fun c_16 => ?_) (fun c_16 => ?_)
  · have hf := it_p hf c_16
    refine lv_aload_n (pc := 89) hx hb dX9_times_89 rfl (lv_at hl 1 rfl) ?_
    refine x_get (pc := 90) (ci := 9) C0 KN X 0 rfl rfl inlX9 24 (by decide) kw_30_16 rfl dX9_times_90 ?_
    refine W.eq (g2 := F0 m 93 ls [.int (gf_Model_place S0), .ref (a 0)]) rfl ?_
    exact lb_X9_times_93 C0 KN hA _ _  _ _ _ _ hf _ _ _ X (lv_sub hl [1, 3, 0] rfl)
  · have hf := it_n hf c_16
    refine lv_iload_n (pc := 85) hx hb dX9_times_85 rfl (lv_at hl 2 rfl) ?_
    refine lv_goto (pc := 86) (tgt := 93) hx hb dX9_times_86 (by decide) ?_
    exact lb_X9_times_93 C0 KN hA _ _  _ _ _ _ hf _ _ _ X (lv_sub hl [1, 3, 0] rfl)
set_option maxHeartbeats 4000000 in
set_option maxRecDepth 100000 in
theorem lb_X9_times_76 {l : Launch} {p : Program} {e : Env} {s : State} {m : MethodId} {args : Array Value} {below : List Frame} {meth : Method} {c : Code} {G : xG} {A : Nat → Prop} {a : Nat → Nat} (C0 : xC p s m meth c cX9_times 5 (some .int) RX9 args) (KN : xKN G s) (hA : ∀ q, s.heap.size ≤ q → A q) (ro : Int32) (So0 : tt_Model) : ∀ (S0 : tt_Model) (x2 : Int32) (x3 : Int32), fn_X9_times_76 S0 x2 x3 = some (ro, So0) → ∀ (H : Heap) (locs : List Loc) (ls : Array Slot), xS G A s.heap (wd_Model G a S0) H locs → lv_has ls 5 [(0, .ref (a 0)), (2, .int x2), (3, .int x3)] → W p l e ({ frames := 2, cells := 0, slots := 0, locals := 46 }) s m args below meth c H locs 0 0 (MQ below (xQo G (some (.int ro)) A (wd_Model G a So0)) args s 0 0 A) (F0 m 76 ls []) := by
  have hx := C0.1
  have hb := C0.2.1
  intro S0 x2 x3 hf H locs ls X hl
  unfold fn_X9_times_76 at hf
  refine lv_iconst (pc := 76) (v := 0) hx hb dX9_times_76 (by decide) ?_
  exact lb_X9_times_77 C0 KN hA _ _  _ _ _ _ hf _ _ _ X (lv_sub hl [0, 1, 2] rfl)
set_option maxHeartbeats 4000000 in
set_option maxRecDepth 100000 in
theorem lb_X9_times_51 {l : Launch} {p : Program} {e : Env} {s : State} {m : MethodId} {args : Array Value} {below : List Frame} {meth : Method} {c : Code} {G : xG} {A : Nat → Prop} {a : Nat → Nat} (C0 : xC p s m meth c cX9_times 5 (some .int) RX9 args) (KN : xKN G s) (hA : ∀ q, s.heap.size ≤ q → A q) (ro : Int32) (So0 : tt_Model) : ∀ (S0 : tt_Model) (x2 : Int32) (x3 : Int32), fn_X9_times_51 S0 x2 x3 = some (ro, So0) → ∀ (H : Heap) (locs : List Loc) (ls : Array Slot), xS G A s.heap (wd_Model G a S0) H locs → lv_has ls 5 [(0, .ref (a 0)), (2, .int x2), (3, .int x3)] → W p l e ({ frames := 2, cells := 0, slots := 0, locals := 46 }) s m args below meth c H locs 0 0 (MQ below (xQo G (some (.int ro)) A (wd_Model G a So0)) args s 0 0 A) (F0 m 51 ls []) := by
  have hx := C0.1
  have hb := C0.2.1
  intro S0 x2 x3 hf H locs ls X hl
  unfold fn_X9_times_51 at hf
  refine lv_iload_n (pc := 51) hx hb dX9_times_51 rfl (lv_at hl 1 rfl) ?_
  refine lv_aload_n (pc := 52) hx hb dX9_times_52 rfl (lv_at hl 0 rfl) ?_
  refine x_get (pc := 53) (ci := 9) C0 KN X 0 rfl rfl inlX9 24 (by decide) kw_30_16 rfl dX9_times_53 ?_
  refine W.eq (g2 := F0 m 56 ls [.int (gf_Model_place S0), .int x2]) rfl ?_
  refine lv_isub (pc := 56) hx hb dX9_times_56 ?_
  refine lv_i2l (pc := 57) (v := (x2 - (gf_Model_place S0)).toInt64) hx hb dX9_times_57 rfl ?_
  refine lv_lconst (pc := 58) (v := 1) hx hb dX9_times_58 (by decide) ?_
  refine x_ldc2 (pc := 59) C0 kw_21_7 dX9_times_59 ?_
  obtain ⟨r_13, h_14, hf⟩ := bd_e hf
  refine x_cs (pc := 62) (As := [.long ((x2 - (gf_Model_place S0)).toInt64), .long (1 : Int64), .long (2 : Int64)]) (rest := []) C0 (ct_X9_in l ((x2 - (gf_Model_place S0)).toInt64) (1 : Int64) (2 : Int64) r_13 h_14) kw_10_21 kw_10_19 kw_10_20 kw_1_5 hd_X9_in ⟨by decide, by decide⟩ hl.1 rfl (Nat.le_of_ble_eq_true rfl) ⟨Nat.zero_le _, Nat.zero_le _⟩ dX9_times_62 ?_
  refine W.eq (g2 := F0 m 65 ls [.int r_13]) rfl ?_
  refine lv_if_eq (pc := 65) (tgt := 76) hx hb dX9_times_65 (by decide) (fun c_15 => ?_) (fun c_15 => ?_)
  · have hf := it_p hf c_15
    exact lb_X9_times_76 C0 KN hA _ _  _ _ _ hf _ _ _ X (lv_sub hl [0, 1, 2] rfl)
  · have hf := it_n hf c_15
    refine lv_iload_n (pc := 68) hx hb dX9_times_68 rfl (lv_at hl 2 rfl) ?_
    refine lv_if_le (pc := 69) (tgt := 76) hx hb dX9_times_69 (by decide) (fun c_19 => ?_) (fun c_19 => ?_)
    · have hf := it_p hf c_19
      exact lb_X9_times_76 C0 KN hA _ _  _ _ _ hf _ _ _ X (lv_sub hl [0, 1, 2] rfl)
    · have hf := it_n hf c_19
      refine lv_iconst (pc := 72) (v := 1) hx hb dX9_times_72 (by decide) ?_
      refine lv_goto (pc := 73) (tgt := 77) hx hb dX9_times_73 (by decide) ?_
      exact lb_X9_times_77 C0 KN hA _ _  _ _ _ _ hf _ _ _ X (lv_sub hl [0, 1, 2] rfl)
theorem hd_X9_times : yX9_times.cls ≠ "java/lang/invoke/MethodHandle" ∧ yX9_times.cls ≠ "java/lang/invoke/VarHandle" ∧ (parseMethodDescriptor yX9_times.desc).map (fun d => d.parameters.length) = some 0 := by decide +kernel
set_option maxHeartbeats 4000000 in
set_option maxRecDepth 100000 in
theorem ct_X9_times (l : Launch) (G : xG) (a : Nat → Nat) (S0 : tt_Model) (ro : Int32) (So0 : tt_Model) (hf : fn_X9_times S0 = some (ro, So0)) : xM l yX9_times cX9_times 5 (some .int) 2 46 G [.ref (a 0)] (wd_Model G a S0) (wd_Model G a So0) (some (.int ro)) := by
  refine xMi (by decide) (Nat.le_of_ble_eq_true rfl) ?_
  intro p e s m below meth c A C0 KN hA X ls hl
  have hx := C0.1
  have hb := C0.2.1
  have C0 : xC p s m meth c cX9_times 5 (some .int) RX9 _ := C0
  have hl : lv_has ls 5 [(0, .ref (a 0))] := hl
  unfold fn_X9_times at hf
  refine lv_aload_n (pc := 0) hx hb dX9_times_0 rfl (lv_at hl 0 rfl) ?_
  obtain ⟨r_1, P_2, h_3, hf⟩ := b2_e hf
  refine x_cv (pc := 1) (ws' := wd_Model G a P_2) (As := []) (rest := []) (ci := 9) (qr := 0) C0 KN X hA [0, 1, 2, 3, 4, 5, 6, 7, 8, 9, 10, 11, 12, 13, 14, 15, 16, 17, 18] [] [0, 1, 2, 3, 4, 5, 6, 7, 8, 9, 10, 11, 12, 13, 14, 15, 16, 17, 18] cu_C50 rfl cu_R50 rfl (by decide) (cu_J50 (S0 := S0)) rfl (ct_X9_here l G a S0 r_1 P_2 h_3) rfl rfl rfl kw_30_21 kw_30_18 kw_30_19 kw_30_20 kw_1_5 hd_X9_here ⟨by decide, by decide⟩ hl.1 rfl (Nat.le_of_ble_eq_true rfl) ⟨Nat.zero_le _, Nat.zero_le _⟩ dX9_times_1 (fun H locs X => ?_)
  refine W.eq (g2 := F0 m 4 ls [.int r_1]) rfl ?_
  refine lv_istore_n (pc := 4) (lv' := [(1, .int r_1), (0, .ref (a 0))]) hx hb dX9_times_4 rfl hl (by decide) rfl (fun ls hl => ?_)
  refine lv_aload_n (pc := 5) hx hb dX9_times_5 rfl (lv_at hl 1 rfl) ?_
  refine x_get (pc := 6) (ci := 9) C0 KN X 0 rfl rfl inlX9 24 (by decide) kw_30_16 rfl dX9_times_6 ?_
  refine W.eq (g2 := F0 m 9 ls [.int (gf_Model_place P_2)]) rfl ?_
  refine lv_topi (fun y_4 ey_4 => ?_)
  have hf := lt_sb hf ey_4
  refine lv_istore_n (pc := 9) (lv' := [(2, .int y_4), (1, .int r_1), (0, .ref (a 0))]) hx hb dX9_times_9 rfl hl (by decide) rfl (fun ls hl => ?_)
  refine lv_iconst (pc := 10) (v := 0) hx hb dX9_times_10 (by decide) ?_
  refine lv_istore_n (pc := 11) (lv' := [(3, .int (0 : Int32)), (2, .int y_4), (1, .int r_1), (0, .ref (a 0))]) hx hb dX9_times_11 rfl hl (by decide) rfl (fun ls hl => ?_)
  refine lb_X9_times_12 C0 KN hA _ _ _ ?_ _ _ _ _ hf _ _ _ X (lv_sub hl [3, 1, 0] rfl)
  · intro S0_e51_12 x2_e51_12 x3_e51_12 hf H locs ls X hl
    exact lb_X9_times_51 C0 KN hA _ _  _ _ _ hf _ _ _ X (lv_sub hl [0, 1, 2] rfl)
set_option maxHeartbeats 4000000 in
set_option maxRecDepth 100000 in
theorem lb_X9_readsSign_102 {l : Launch} {p : Program} {e : Env} {s : State} {m : MethodId} {args : Array Value} {below : List Frame} {meth : Method} {c : Code} {G : xG} {A : Nat → Prop} {a : Nat → Nat} (C0 : xC p s m meth c cX9_readsSign 5 (some .boolean) RX9 args) (KN : xKN G s) (hA : ∀ q, s.heap.size ≤ q → A q) (ro : Int32) (So0 : tt_Model) (k134 : tt_Model → Option (Int32 × tt_Model)) (hk134 : ∀ (S0 : tt_Model), k134 S0 = some (ro, So0) → ∀ (H : Heap) (locs : List Loc) (ls : Array Slot), xS G A s.heap (wd_Model G a S0) H locs → lv_has ls 5 [(0, .ref (a 0))] → W p l e ({ frames := 3, cells := 0, slots := 0, locals := 70 }) s m args below meth c H locs 0 0 (MQ below (xQo G (some (.int ro)) A (wd_Model G a So0)) args s 0 0 A) (F0 m 134 ls [])) : ∀ (n : Nat) (S0 : tt_Model) (x2 : Int32) (x3 : Int32) (x4 : Int32), fl_X9_readsSign_102 k134 n S0 x2 x3 x4 = some (ro, So0) → ∀ (H : Heap) (locs : List Loc) (ls : Array Slot), xS G A s.heap (wd_Model G a S0) H locs → lv_has ls 5 [(0, .ref (a 0)), (2, .int x2), (3, .int x3), (4, .int x4)] → W p l e ({ frames := 3, cells := 0, slots := 0, locals := 70 }) s m args below meth c H locs 0 0 (MQ below (xQo G (some (.int ro)) A (wd_Model G a So0)) args s 0 0 A) (F0 m 102 ls []) := by
  have hx := C0.1
  have hb := C0.2.1
  intro n
  induction n with
  | zero =>
    intro S0 x2 x3 x4 hf
    have hf : none = some (ro, So0) := hf
    cases hf
  | succ n ih =>
    intro S0 x2 x3 x4 hf H locs ls X hl
    rw [fl_X9_readsSign_102] at hf
    refine lv_iload (pc := 102) hx hb dX9_readsSign_102 (lv_at hl 3 rfl) ?_
    refine lv_iload_n (pc := 104) hx hb dX9_readsSign_104 rfl (lv_at hl 2 rfl) ?_
    refine lv_icmp_ge (pc := 105) (tgt := 134) hx hb dX9_readsSign_105 (by decide) (fun c_16 => ?_) (fun c_16 => ?_)
    · have hf := it_p hf c_16
      exact hk134 _ hf _ _ _ X (lv_sub hl [0] rfl)
    · have hf := it_n hf c_16
      refine lv_aload_n (pc := 108) hx hb dX9_readsSign_108 rfl (lv_at hl 0 rfl) ?_
      refine x_get (pc := 109) (ci := 9) C0 KN X 0 rfl rfl inlX9 25 (by decide) kw_8_3 rfl dX9_readsSign_109 ?_
      refine lv_aload_n (pc := 112) hx hb dX9_readsSign_112 rfl (lv_at hl 0 rfl) ?_
      refine x_get (pc := 113) (ci := 9) C0 KN X 0 rfl rfl inlX9 26 (by decide) kw_30_17 rfl dX9_readsSign_113 ?_
      refine W.eq (g2 := F0 m 116 ls [.int (gf_Model_readLong S0), .ref (a 18)]) rfl ?_
      refine lv_iload_n (pc := 116) hx hb dX9_readsSign_116 rfl (lv_at hl 1 rfl) ?_
      obtain ⟨g_17, hf⟩ := gd_e hf
      obtain ⟨S_18, eS_18, hf⟩ := lt_e hf
      refine x_ast (pc := 117) (ws' := wd_Model G a S_18) C0 KN X 18 rfl g_17 (by subst eS_18; rfl) dX9_readsSign_117 (fun H locs X => ?_)
      refine lv_aload_n (pc := 118) hx hb dX9_readsSign_118 rfl (lv_at hl 0 rfl) ?_
      refine lv_dup (pc := 119) hx hb dX9_readsSign_119 rfl ?_
      refine x_get (pc := 120) (ci := 9) C0 KN X 0 rfl rfl inlX9 26 (by decide) kw_30_17 rfl dX9_readsSign_120 ?_
      refine W.eq (g2 := F0 m 123 ls [.int (gf_Model_readLong S_18), .ref (a 0)]) rfl ?_
      refine lv_iconst (pc := 123) (v := 1) hx hb dX9_readsSign_123 (by decide) ?_
      refine lv_iadd (pc := 124) hx hb dX9_readsSign_124 ?_
      refine lv_topi (fun y_19 ey_19 => ?_)
      have hf := lt_sb hf ey_19
      obtain ⟨S_20, eS_20, hf⟩ := lt_e hf
      refine x_put (pc := 125) (ci := 9) (ws' := wd_Model G a S_20) C0 KN X 0 rfl rfl inlX9 tyX9_ok nmX9 26 (by decide) kw_30_17 rfl rfl rfl (Nat.le_of_ble_eq_true rfl) (by subst eS_20; rfl) dX9_readsSign_125 (fun H locs X => ?_)
      obtain ⟨y_21, ey_21⟩ : ∃ y : Int32, y = x4 + (1 : Int32) := ⟨_, rfl⟩
      have hf := lt_sb hf ey_21
      refine lv_iinc (pc := 128) (v := y_21) (lv' := [(4, .int y_21), (0, .ref (a 0)), (2, .int x2), (3, .int x3)]) hx hb dX9_readsSign_128 hl (k := 3) rfl (by rw [ey_21]; rfl) (by decide) rfl (fun ls hl => ?_)
      refine lv_goto (pc := 131) (tgt := 102) hx hb dX9_readsSign_131 (by decide) ?_
      exact ih _ _ _ _ hf _ _ _ X (lv_sub hl [1, 2, 3, 0] rfl)
set_option maxHeartbeats 4000000 in
set_option maxRecDepth 100000 in
theorem lb_X9_readsSign_76 {l : Launch} {p : Program} {e : Env} {s : State} {m : MethodId} {args : Array Value} {below : List Frame} {meth : Method} {c : Code} {G : xG} {A : Nat → Prop} {a : Nat → Nat} (C0 : xC p s m meth c cX9_readsSign 5 (some .boolean) RX9 args) (KN : xKN G s) (hA : ∀ q, s.heap.size ≤ q → A q) (ro : Int32) (So0 : tt_Model) : ∀ (S0 : tt_Model) (x1 : Int32) (x2 : Int32) (x3 : Int32), fn_X9_readsSign_76 S0 x1 x2 x3 = some (ro, So0) → ∀ (H : Heap) (locs : List Loc) (ls : Array Slot), xS G A s.heap (wd_Model G a S0) H locs → lv_has ls 5 [(0, .ref (a 0)), (1, .int x1), (2, .int x2), (3, .int x3)] → W p l e ({ frames := 3, cells := 0, slots := 0, locals := 70 }) s m args below meth c H locs 0 0 (MQ below (xQo G (some (.int ro)) A (wd_Model G a So0)) args s 0 0 A) (F0 m 76 ls []) := by
  have hx := C0.1
  have hb := C0.2.1
  intro S0 x1 x2 x3 hf H locs ls X hl
  unfold fn_X9_readsSign_76 at hf
  refine lv_aload_n (pc := 76) hx hb dX9_readsSign_76 rfl (lv_at hl 0 rfl) ?_
  obtain ⟨r_13, h_14, hf⟩ := bd_e hf
  refine x_cv (pc := 77) (ws' := wd_Model G a S0) (As := []) (rest := []) (ci := 9) (qr := 0) C0 KN X hA [0, 1, 2, 3, 4, 5, 6, 7, 8, 9, 10, 11, 12, 13, 14, 15, 16, 17, 18] [] [0, 1, 2, 3, 4, 5, 6, 7, 8, 9, 10, 11, 12, 13, 14, 15, 16, 17, 18] cu_C49 rfl cu_R49 rfl (by decide) (cu_J49 (S0 := S0)) rfl (ct_X9_many l G a S0 r_13 h_14) rfl rfl rfl kw_11_5 kw_11_2 kw_11_3 kw_11_4 kw_1_5 hd_X9_many ⟨by decide, by decide⟩ hl.1 rfl (Nat.le_of_ble_eq_true rfl) ⟨Nat.zero_le _, Nat.zero_le _⟩ dX9_readsSign_77 (fun H locs X => ?_)
  refine W.eq (g2 := F0 m 80 ls [.int r_13]) rfl ?_
  refine lv_aload_n (pc := 80) hx hb dX9_readsSign_80 rfl (lv_at hl 0 rfl) ?_
  refine x_get (pc := 81) (ci := 9) C0 KN X 0 rfl rfl inlX9 26 (by decide) kw_30_17 rfl dX9_readsSign_81 ?_
  refine W.eq (g2 := F0 m 84 ls [.int (gf_Model_readLong S0), .int r_13]) rfl ?_
  refine lv_iadd (pc := 84) hx hb dX9_readsSign_84 ?_
  refine lv_iload_n (pc := 85) hx hb dX9_readsSign_85 rfl (lv_at hl 3 rfl) ?_
  refine lv_iadd (pc := 86) hx hb dX9_readsSign_86 ?_
  refine lv_bipush (pc := 87) (v := 100) hx hb dX9_readsSign_87 (by decide) ?_
  refine lv_icmp_le (pc := 89) (tgt := 99) hx hb dX9_readsSign_89 (by decide) (fun c_15 => ?_) (fun c_15 => ?_)
  · have hf := it_p hf c_15
    refine lv_iconst (pc := 99) (v := 0) hx hb dX9_readsSign_99 (by decide) ?_
    refine lv_istore (pc := 100) (lv' := [(4, .int (0 : Int32)), (0, .ref (a 0)), (1, .int x1), (2, .int x2), (3, .int x3)]) hx hb dX9_readsSign_100 hl (by decide) rfl (fun ls hl => ?_)
    refine lb_X9_readsSign_102 C0 KN hA _ _ _ ?_ _ _ _ _ _ hf _ _ _ X (lv_sub hl [1, 3, 4, 0] rfl)
    · intro S0_e134_22 hf H locs ls X hl
      refine lv_iconst (pc := 134) (v := 1) hx hb dX9_readsSign_134 (by decide) ?_
      obtain ⟨rfl, rfl⟩ := so_2 hf
      exact x_zret (pc := 135) C0 X (by decide) dX9_readsSign_135
  · have hf := it_n hf c_15
    refine lv_aload_n (pc := 92) hx hb dX9_readsSign_92 rfl (lv_at hl 0 rfl) ?_
    refine lv_iload_n (pc := 93) hx hb dX9_readsSign_93 rfl (lv_at hl 1 rfl) ?_
    obtain ⟨S_23, eS_23, hf⟩ := lt_e hf
    refine x_put (pc := 94) (ci := 9) (ws' := wd_Model G a S_23) C0 KN X 0 rfl rfl inlX9 tyX9_ok nmX9 24 (by decide) kw_30_16 rfl rfl rfl (Nat.le_of_ble_eq_true rfl) (by subst eS_23; rfl) dX9_readsSign_94 (fun H locs X => ?_)
    refine lv_iconst (pc := 97) (v := 0) hx hb dX9_readsSign_97 (by decide) ?_
    obtain ⟨rfl, rfl⟩ := so_2 hf
    exact x_zret (pc := 98) C0 X (by decide) dX9_readsSign_98
theorem hd_X9_readsSign : yX9_readsSign.cls ≠ "java/lang/invoke/MethodHandle" ∧ yX9_readsSign.cls ≠ "java/lang/invoke/VarHandle" ∧ (parseMethodDescriptor yX9_readsSign.desc).map (fun d => d.parameters.length) = some 0 := by decide +kernel
set_option maxHeartbeats 4000000 in
set_option maxRecDepth 100000 in
theorem ct_X9_readsSign (l : Launch) (G : xG) (a : Nat → Nat) (S0 : tt_Model) (ro : Int32) (So0 : tt_Model) (hf : fn_X9_readsSign S0 = some (ro, So0)) : xM l yX9_readsSign cX9_readsSign 5 (some .boolean) 3 70 G [.ref (a 0)] (wd_Model G a S0) (wd_Model G a So0) (some (.int ro)) := by
  refine xMi (by decide) (Nat.le_of_ble_eq_true rfl) ?_
  intro p e s m below meth c A C0 KN hA X ls hl
  have hx := C0.1
  have hb := C0.2.1
  have C0 : xC p s m meth c cX9_readsSign 5 (some .boolean) RX9 _ := C0
  have hl : lv_has ls 5 [(0, .ref (a 0))] := hl
  unfold fn_X9_readsSign at hf
  refine lv_aload_n (pc := 0) hx hb dX9_readsSign_0 rfl (lv_at hl 0 rfl) ?_
  refine x_get (pc := 1) (ci := 9) C0 KN X 0 rfl rfl inlX9 24 (by decide) kw_30_16 rfl dX9_readsSign_1 ?_
  refine W.eq (g2 := F0 m 4 ls [.int (gf_Model_place S0)]) rfl ?_
  refine lv_topi (fun y_1 ey_1 => ?_)
  have hf := lt_sb hf ey_1
  refine lv_istore_n (pc := 4) (lv' := [(1, .int y_1), (0, .ref (a 0))]) hx hb dX9_readsSign_4 rfl hl (by decide) rfl (fun ls hl => ?_)
  refine lv_aload_n (pc := 5) hx hb dX9_readsSign_5 rfl (lv_at hl 1 rfl) ?_
  refine x_get (pc := 6) (ci := 9) C0 KN X 0 rfl rfl inlX9 22 (by decide) kw_8_2 rfl dX9_readsSign_6 ?_
  refine lv_aload_n (pc := 9) hx hb dX9_readsSign_9 rfl (lv_at hl 1 rfl) ?_
  refine x_get (pc := 10) (ci := 9) C0 KN X 0 rfl rfl inlX9 24 (by decide) kw_30_16 rfl dX9_readsSign_10 ?_
  refine W.eq (g2 := F0 m 13 ls [.int (gf_Model_place S0), .ref (a 17)]) rfl ?_
  obtain ⟨g_2, hf⟩ := gd_e hf
  refine x_ald (pc := 13) C0 KN X 17 rfl g_2 dX9_readsSign_13 ?_
  refine W.eq (g2 := F0 m 14 ls [.int ((gf_Model_text S0) (gf_Model_place S0).toNatClampNeg)]) rfl ?_
  refine lv_bipush (pc := 14) (v := 48) hx hb dX9_readsSign_14 (by decide) ?_
  refine lv_isub (pc := 16) hx hb dX9_readsSign_16 ?_
  refine lv_topi (fun y_3 ey_3 => ?_)
  have hf := lt_sb hf ey_3
  refine lv_istore_n (pc := 17) (lv' := [(2, .int y_3), (1, .int y_1), (0, .ref (a 0))]) hx hb dX9_readsSign_17 rfl hl (by decide) rfl (fun ls hl => ?_)
  refine lv_iconst (pc := 18) (v := 1) hx hb dX9_readsSign_18 (by decide) ?_
  refine lv_istore_n (pc := 19) (lv' := [(3, .int (1 : Int32)), (2, .int y_3), (1, .int y_1), (0, .ref (a 0))]) hx hb dX9_readsSign_19 rfl hl (by decide) rfl (fun ls hl => ?_)
  refine lv_aload_n (pc := 20) hx hb dX9_readsSign_20 rfl (lv_at hl 3 rfl) ?_
  obtain ⟨r_4, h_5, hf⟩ := bd_e hf
  refine x_cv (pc := 21) (ws' := wd_Model G a S0) (As := []) (rest := []) (ci := 9) (qr := 0) C0 KN X hA [0, 1, 2, 3, 4, 5, 6, 7, 8, 9, 10, 11, 12, 13, 14, 15, 16, 17, 18] [] [0, 1, 2, 3, 4, 5, 6, 7, 8, 9, 10, 11, 12, 13, 14, 15, 16, 17, 18] cu_C49 rfl cu_R49 rfl (by decide) (cu_J49 (S0 := S0)) rfl (ct_X9_many l G a S0 r_4 h_5) rfl rfl rfl kw_11_5 kw_11_2 kw_11_3 kw_11_4 kw_1_5 hd_X9_many ⟨by decide, by decide⟩ hl.1 rfl (Nat.le_of_ble_eq_true rfl) ⟨Nat.zero_le _, Nat.zero_le _⟩ dX9_readsSign_21 (fun H locs X => ?_)
  refine W.eq (g2 := F0 m 24 ls [.int r_4]) rfl ?_
  refine lv_aload_n (pc := 24) hx hb dX9_readsSign_24 rfl (lv_at hl 3 rfl) ?_
  refine x_get (pc := 25) (ci := 9) C0 KN X 0 rfl rfl inlX9 26 (by decide) kw_30_17 rfl dX9_readsSign_25 ?_
  refine W.eq (g2 := F0 m 28 ls [.int (gf_Model_readLong S0), .int r_4]) rfl ?_
  refine lv_iadd (pc := 28) hx hb dX9_readsSign_28 ?_
  refine lv_bipush (pc := 29) (v := 100) hx hb dX9_readsSign_29 (by decide) ?_
  refine lv_icmp_ne (pc := 31) (tgt := 36) hx hb dX9_readsSign_31 (by decide) (fun c_6 => ?_) (fun c_6 => ?_)
  · have hf := it_n hf c_6
    refine lv_aload_n (pc := 36) hx hb dX9_readsSign_36 rfl (lv_at hl 3 rfl) ?_
    refine lv_dup (pc := 37) hx hb dX9_readsSign_37 rfl ?_
    refine x_get (pc := 38) (ci := 9) C0 KN X 0 rfl rfl inlX9 24 (by decide) kw_30_16 rfl dX9_readsSign_38 ?_
    refine W.eq (g2 := F0 m 41 ls [.int (gf_Model_place S0), .ref (a 0)]) rfl ?_
    refine lv_iconst (pc := 41) (v := 1) hx hb dX9_readsSign_41 (by decide) ?_
    refine lv_iadd (pc := 42) hx hb dX9_readsSign_42 ?_
    refine lv_topi (fun y_7 ey_7 => ?_)
    have hf := lt_sb hf ey_7
    obtain ⟨S_8, eS_8, hf⟩ := lt_e hf
    refine x_put (pc := 43) (ci := 9) (ws' := wd_Model G a S_8) C0 KN X 0 rfl rfl inlX9 tyX9_ok nmX9 24 (by decide) kw_30_16 rfl rfl rfl (Nat.le_of_ble_eq_true rfl) (by subst eS_8; rfl) dX9_readsSign_43 (fun H locs X => ?_)
    refine lv_aload_n (pc := 46) hx hb dX9_readsSign_46 rfl (lv_at hl 3 rfl) ?_
    obtain ⟨r_9, P_10, h_11, hf⟩ := b2_e hf
    refine x_cv (pc := 47) (ws' := wd_Model G a P_10) (As := []) (rest := []) (ci := 9) (qr := 0) C0 KN X hA [0, 1, 2, 3, 4, 5, 6, 7, 8, 9, 10, 11, 12, 13, 14, 15, 16, 17, 18] [] [0, 1, 2, 3, 4, 5, 6, 7, 8, 9, 10, 11, 12, 13, 14, 15, 16, 17, 18] cu_C50 rfl cu_R50 rfl (by decide) (cu_J50 (S0 := S_8)) rfl (ct_X9_here l G a S_8 r_9 P_10 h_11) rfl rfl rfl kw_30_21 kw_30_18 kw_30_19 kw_30_20 kw_1_5 hd_X9_here ⟨by decide, by decide⟩ hl.1 rfl (Nat.le_of_ble_eq_true rfl) ⟨Nat.zero_le _, Nat.zero_le _⟩ dX9_readsSign_47 (fun H locs X => ?_)
    refine W.eq (g2 := F0 m 50 ls [.int r_9]) rfl ?_
    refine lv_bipush (pc := 50) (v := 120) hx hb dX9_readsSign_50 (by decide) ?_
    refine lv_icmp_ne (pc := 52) (tgt := 76) hx hb dX9_readsSign_52 (by decide) (fun c_12 => ?_) (fun c_12 => ?_)
    · have hf := it_n hf c_12
      exact lb_X9_readsSign_76 C0 KN hA _ _  _ _ _ _ hf _ _ _ X (lv_sub hl [3, 2, 1, 0] rfl)
    · have hf := it_p hf c_12
      refine lv_aload_n (pc := 55) hx hb dX9_readsSign_55 rfl (lv_at hl 3 rfl) ?_
      refine lv_dup (pc := 56) hx hb dX9_readsSign_56 rfl ?_
      refine x_get (pc := 57) (ci := 9) C0 KN X 0 rfl rfl inlX9 24 (by decide) kw_30_16 rfl dX9_readsSign_57 ?_
      refine W.eq (g2 := F0 m 60 ls [.int (gf_Model_place P_10), .ref (a 0)]) rfl ?_
      refine lv_iconst (pc := 60) (v := 1) hx hb dX9_readsSign_60 (by decide) ?_
      refine lv_iadd (pc := 61) hx hb dX9_readsSign_61 ?_
      refine lv_topi (fun y_24 ey_24 => ?_)
      have hf := lt_sb hf ey_24
      obtain ⟨S_25, eS_25, hf⟩ := lt_e hf
      refine x_put (pc := 62) (ci := 9) (ws' := wd_Model G a S_25) C0 KN X 0 rfl rfl inlX9 tyX9_ok nmX9 24 (by decide) kw_30_16 rfl rfl rfl (Nat.le_of_ble_eq_true rfl) (by subst eS_25; rfl) dX9_readsSign_62 (fun H locs X => ?_)
      refine lv_aload_n (pc := 65) hx hb dX9_readsSign_65 rfl (lv_at hl 3 rfl) ?_
      obtain ⟨r_26, P_27, h_28, hf⟩ := b2_e hf
      refine x_cv (pc := 66) (ws' := wd_Model G a P_27) (As := []) (rest := []) (ci := 9) (qr := 0) C0 KN X hA [0, 1, 2, 3, 4, 5, 6, 7, 8, 9, 10, 11, 12, 13, 14, 15, 16, 17, 18] [] [0, 1, 2, 3, 4, 5, 6, 7, 8, 9, 10, 11, 12, 13, 14, 15, 16, 17, 18] cu_C50 rfl cu_R50 rfl (by decide) (cu_J50 (S0 := S_25)) rfl (ct_X9_times l G a S_25 r_26 P_27 h_28) rfl rfl rfl kw_31_9 kw_31_6 kw_31_7 kw_31_8 kw_1_5 hd_X9_times ⟨by decide, by decide⟩ hl.1 rfl (Nat.le_of_ble_eq_true rfl) ⟨Nat.zero_le _, Nat.zero_le _⟩ dX9_readsSign_66 (fun H locs X => ?_)
      refine W.eq (g2 := F0 m 69 ls [.int r_26]) rfl ?_
      refine lv_istore_n (pc := 69) (lv' := [(3, .int r_26), (2, .int y_3), (1, .int y_1), (0, .ref (a 0))]) hx hb dX9_readsSign_69 rfl hl (by decide) rfl (fun ls hl => ?_)
      refine lv_iload_n (pc := 70) hx hb dX9_readsSign_70 rfl (lv_at hl 0 rfl) ?_
      refine lv_if_ne (pc := 71) (tgt := 76) hx hb dX9_readsSign_71 (by decide) (fun c_29 => ?_) (fun c_29 => ?_)
      · have hf := it_n hf c_29
        exact lb_X9_readsSign_76 C0 KN hA _ _  _ _ _ _ hf _ _ _ X (lv_sub hl [3, 2, 1, 0] rfl)
      · have hf := it_p hf c_29
        refine lv_iconst (pc := 74) (v := 0) hx hb dX9_readsSign_74 (by decide) ?_
        obtain ⟨rfl, rfl⟩ := so_2 hf
        exact x_zret (pc := 75) C0 X (by decide) dX9_readsSign_75
  · have hf := it_p hf c_6
    refine lv_iconst (pc := 34) (v := 0) hx hb dX9_readsSign_34 (by decide) ?_
    obtain ⟨rfl, rfl⟩ := so_2 hf
    exact x_zret (pc := 35) C0 X (by decide) dX9_readsSign_35
set_option maxHeartbeats 4000000 in
set_option maxRecDepth 100000 in
theorem lb_X9_readsMany_47 {l : Launch} {p : Program} {e : Env} {s : State} {m : MethodId} {args : Array Value} {below : List Frame} {meth : Method} {c : Code} {G : xG} {A : Nat → Prop} {a : Nat → Nat} (C0 : xC p s m meth c cX9_readsMany 6 (some .boolean) RX9 args) (KN : xKN G s) (hA : ∀ q, s.heap.size ≤ q → A q) (ro : Int32) (So0 : tt_Model) (k15 : tt_Model → Int32 → Option (Int32 × tt_Model)) (hk15 : ∀ (S0 : tt_Model) (x1 : Int32), k15 S0 x1 = some (ro, So0) → ∀ (H : Heap) (locs : List Loc) (ls : Array Slot), xS G A s.heap (wd_Model G a S0) H locs → lv_has ls 6 [(0, .ref (a 0)), (1, .int x1)] → W p l e ({ frames := 4, cells := 0, slots := 0, locals := 94 }) s m args below meth c H locs 0 0 (MQ below (xQo G (some (.int ro)) A (wd_Model G a So0)) args s 0 0 A) (F0 m 15 ls [])) (k59 : tt_Model → Option (Int32 × tt_Model)) (hk59 : ∀ (S0 : tt_Model), k59 S0 = some (ro, So0) → ∀ (H : Heap) (locs : List Loc) (ls : Array Slot), xS G A s.heap (wd_Model G a S0) H locs → lv_has ls 6 [(0, .ref (a 0))] → W p l e ({ frames := 4, cells := 0, slots := 0, locals := 94 }) s m args below meth c H locs 0 0 (MQ below (xQo G (some (.int ro)) A (wd_Model G a So0)) args s 0 0 A) (F0 m 59 ls [])) : ∀ (S0 : tt_Model) (x1 : Int32) (t0 : Int32), fn_X9_readsMany_47 k15 k59 S0 x1 t0 = some (ro, So0) → ∀ (H : Heap) (locs : List Loc) (ls : Array Slot), xS G A s.heap (wd_Model G a S0) H locs → lv_has ls 6 [(0, .ref (a 0)), (1, .int x1)] → W p l e ({ frames := 4, cells := 0, slots := 0, locals := 94 }) s m args below meth c H locs 0 0 (MQ below (xQo G (some (.int ro)) A (wd_Model G a So0)) args s 0 0 A) (F0 m 47 ls [.int t0]) := by
  have hx := C0.1
  have hb := C0.2.1
  intro S0 x1 t0 hf H locs ls X hl
  unfold fn_X9_readsMany_47 at hf
  refine lv_istore_n (pc := 47) (lv' := [(2, .int t0), (0, .ref (a 0)), (1, .int x1)]) hx hb dX9_readsMany_47 rfl hl (by decide) rfl (fun ls hl => ?_)
  refine lv_iload_n (pc := 48) hx hb dX9_readsMany_48 rfl (lv_at hl 0 rfl) ?_
  refine lv_if_eq (pc := 49) (tgt := 59) hx hb dX9_readsMany_49 (by decide) (fun c_12 => ?_) (fun c_12 => ?_)
  · have hf := it_p hf c_12
    exact hk59 _ hf _ _ _ X (lv_sub hl [1] rfl)
  · have hf := it_n hf c_12
    refine lv_aload_n (pc := 52) hx hb dX9_readsMany_52 rfl (lv_at hl 1 rfl) ?_
    obtain ⟨r_13, P_14, h_15, hf⟩ := b2_e hf
    refine x_cv (pc := 53) (ws' := wd_Model G a P_14) (As := []) (rest := []) (ci := 9) (qr := 0) C0 KN X hA [0, 1, 2, 3, 4, 5, 6, 7, 8, 9, 10, 11, 12, 13, 14, 15, 16, 17, 18] [] [0, 1, 2, 3, 4, 5, 6, 7, 8, 9, 10, 11, 12, 13, 14, 15, 16, 17, 18] cu_C50 rfl cu_R50 rfl (by decide) (cu_J50 (S0 := S0)) rfl (ct_X9_readsSign l G a S0 r_13 P_14 h_15) rfl rfl rfl kw_31_5 kw_31_2 kw_31_3 kw_31_4 kw_1_5 hd_X9_readsSign ⟨by decide, by decide⟩ hl.1 rfl (Nat.le_of_ble_eq_true rfl) ⟨Nat.zero_le _, Nat.zero_le _⟩ dX9_readsMany_53 (fun H locs X => ?_)
    refine W.eq (g2 := F0 m 56 ls [.int r_13]) rfl ?_
    refine lv_if_ne (pc := 56) (tgt := 61) hx hb dX9_readsMany_56 (by decide) (fun c_16 => ?_) (fun c_16 => ?_)
    · have hf := it_n hf c_16
      refine lv_goto (pc := 61) (tgt := 15) hx hb dX9_readsMany_61 (by decide) ?_
      exact hk15 _ _ hf _ _ _ X (lv_sub hl [1, 2] rfl)
    · have hf := it_p hf c_16
      exact hk59 _ hf _ _ _ X (lv_sub hl [1] rfl)
set_option maxHeartbeats 4000000 in
set_option maxRecDepth 100000 in
theorem lb_X9_readsMany_42 {l : Launch} {p : Program} {e : Env} {s : State} {m : MethodId} {args : Array Value} {below : List Frame} {meth : Method} {c : Code} {G : xG} {A : Nat → Prop} {a : Nat → Nat} (C0 : xC p s m meth c cX9_readsMany 6 (some .boolean) RX9 args) (KN : xKN G s) (hA : ∀ q, s.heap.size ≤ q → A q) (ro : Int32) (So0 : tt_Model) (k15 : tt_Model → Int32 → Option (Int32 × tt_Model)) (hk15 : ∀ (S0 : tt_Model) (x1 : Int32), k15 S0 x1 = some (ro, So0) → ∀ (H : Heap) (locs : List Loc) (ls : Array Slot), xS G A s.heap (wd_Model G a S0) H locs → lv_has ls 6 [(0, .ref (a 0)), (1, .int x1)] → W p l e ({ frames := 4, cells := 0, slots := 0, locals := 94 }) s m args below meth c H locs 0 0 (MQ below (xQo G (some (.int ro)) A (wd_Model G a So0)) args s 0 0 A) (F0 m 15 ls [])) (k59 : tt_Model → Option (Int32 × tt_Model)) (hk59 : ∀ (S0 : tt_Model), k59 S0 = some (ro, So0) → ∀ (H : Heap) (locs : List Loc) (ls : Array Slot), xS G A s.heap (wd_Model G a S0) H locs → lv_has ls 6 [(0, .ref (a 0))] → W p l e ({ frames := 4, cells := 0, slots := 0, locals := 94 }) s m args below meth c H locs 0 0 (MQ below (xQo G (some (.int ro)) A (wd_Model G a So0)) args s 0 0 A) (F0 m 59 ls [])) : ∀ (S0 : tt_Model) (x1 : Int32), fn_X9_readsMany_42 k15 k59 S0 x1 = some (ro, So0) → ∀ (H : Heap) (locs : List Loc) (ls : Array Slot), xS G A s.heap (wd_Model G a S0) H locs → lv_has ls 6 [(0, .ref (a 0)), (1, .int x1)] → W p l e ({ frames := 4, cells := 0, slots := 0, locals := 94 }) s m args below meth c H locs 0 0 (MQ below (xQo G (some (.int ro)) A (wd_Model G a So0)) args s 0 0 A) (F0 m 42 ls []) := by
  have hx := C0.1
  have hb := C0.2.1
  intro S0 x1 hf H locs ls X hl
  unfold fn_X9_readsMany_42 at hf
  refine lv_iconst (pc := 42) (v := 1) hx hb dX9_readsMany_42 (by decide) ?_
  refine lv_goto (pc := 43) (tgt := 47) hx hb dX9_readsMany_43 (by decide) ?_
  exact lb_X9_readsMany_47 C0 KN hA _ _ k15 hk15 k59 hk59 _ _ _ hf _ _ _ X (lv_sub hl [0, 1] rfl)
set_option maxHeartbeats 4000000 in
set_option maxRecDepth 100000 in
theorem lb_X9_readsMany_15 {l : Launch} {p : Program} {e : Env} {s : State} {m : MethodId} {args : Array Value} {below : List Frame} {meth : Method} {c : Code} {G : xG} {A : Nat → Prop} {a : Nat → Nat} (C0 : xC p s m meth c cX9_readsMany 6 (some .boolean) RX9 args) (KN : xKN G s) (hA : ∀ q, s.heap.size ≤ q → A q) (ro : Int32) (So0 : tt_Model) (k59 : tt_Model → Option (Int32 × tt_Model)) (hk59 : ∀ (S0 : tt_Model), k59 S0 = some (ro, So0) → ∀ (H : Heap) (locs : List Loc) (ls : Array Slot), xS G A s.heap (wd_Model G a S0) H locs → lv_has ls 6 [(0, .ref (a 0))] → W p l e ({ frames := 4, cells := 0, slots := 0, locals := 94 }) s m args below meth c H locs 0 0 (MQ below (xQo G (some (.int ro)) A (wd_Model G a So0)) args s 0 0 A) (F0 m 59 ls [])) (k64 : tt_Model → Int32 → Option (Int32 × tt_Model)) (hk64 : ∀ (S0 : tt_Model) (x1 : Int32), k64 S0 x1 = some (ro, So0) → ∀ (H : Heap) (locs : List Loc) (ls : Array Slot), xS G A s.heap (wd_Model G a S0) H locs → lv_has ls 6 [(0, .ref (a 0)), (1, .int x1)] → W p l e ({ frames := 4, cells := 0, slots := 0, locals := 94 }) s m args below meth c H locs 0 0 (MQ below (xQo G (some (.int ro)) A (wd_Model G a So0)) args s 0 0 A) (F0 m 64 ls [])) : ∀ (n : Nat) (S0 : tt_Model) (x1 : Int32), fl_X9_readsMany_15 k59 k64 n S0 x1 = some (ro, So0) → ∀ (H : Heap) (locs : List Loc) (ls : Array Slot), xS G A s.heap (wd_Model G a S0) H locs → lv_has ls 6 [(0, .ref (a 0)), (1, .int x1)] → W p l e ({ frames := 4, cells := 0, slots := 0, locals := 94 }) s m args below meth c H locs 0 0 (MQ below (xQo G (some (.int ro)) A (wd_Model G a So0)) args s 0 0 A) (F0 m 15 ls []) := by
  have hx := C0.1
  have hb := C0.2.1
  intro n
  induction n with
  | zero =>
    intro S0 x1 hf
    have hf : none = some (ro, So0) := hf
    cases hf
  | succ n ih =>
    intro S0 x1 hf H locs ls X hl
    rw [fl_X9_readsMany_15] at hf
    refine lv_aload_n (pc := 15) hx hb dX9_readsMany_15 rfl (lv_at hl 0 rfl) ?_
    obtain ⟨r_4, P_5, h_6, hf⟩ := b2_e hf
    refine x_cv (pc := 16) (ws' := wd_Model G a P_5) (As := []) (rest := []) (ci := 9) (qr := 0) C0 KN X hA [0, 1, 2, 3, 4, 5, 6, 7, 8, 9, 10, 11, 12, 13, 14, 15, 16, 17, 18] [] [0, 1, 2, 3, 4, 5, 6, 7, 8, 9, 10, 11, 12, 13, 14, 15, 16, 17, 18] cu_C50 rfl cu_R50 rfl (by decide) (cu_J50 (S0 := S0)) rfl (ct_X9_here l G a S0 r_4 P_5 h_6) rfl rfl rfl kw_30_21 kw_30_18 kw_30_19 kw_30_20 kw_1_5 hd_X9_here ⟨by decide, by decide⟩ hl.1 rfl (Nat.le_of_ble_eq_true rfl) ⟨Nat.zero_le _, Nat.zero_le _⟩ dX9_readsMany_16 (fun H locs X => ?_)
    refine W.eq (g2 := F0 m 19 ls [.int r_4]) rfl ?_
    refine lv_bipush (pc := 19) (v := 41) hx hb dX9_readsMany_19 (by decide) ?_
    refine lv_icmp_eq (pc := 21) (tgt := 64) hx hb dX9_readsMany_21 (by decide) (fun c_7 => ?_) (fun c_7 => ?_)
    · have hf := it_p hf c_7
      exact hk64 _ _ hf _ _ _ X (lv_sub hl [0, 1] rfl)
    · have hf := it_n hf c_7
      refine lv_aload_n (pc := 24) hx hb dX9_readsMany_24 rfl (lv_at hl 0 rfl) ?_
      obtain ⟨r_8, P_9, h_10, hf⟩ := b2_e hf
      refine x_cv (pc := 25) (ws' := wd_Model G a P_9) (As := []) (rest := []) (ci := 9) (qr := 0) C0 KN X hA [0, 1, 2, 3, 4, 5, 6, 7, 8, 9, 10, 11, 12, 13, 14, 15, 16, 17, 18] [] [0, 1, 2, 3, 4, 5, 6, 7, 8, 9, 10, 11, 12, 13, 14, 15, 16, 17, 18] cu_C50 rfl cu_R50 rfl (by decide) (cu_J50 (S0 := P_5)) rfl (ct_X9_here l G a P_5 r_8 P_9 h_10) rfl rfl rfl kw_30_21 kw_30_18 kw_30_19 kw_30_20 kw_1_5 hd_X9_here ⟨by decide, by decide⟩ hl.1 rfl (Nat.le_of_ble_eq_true rfl) ⟨Nat.zero_le _, Nat.zero_le _⟩ dX9_readsMany_25 (fun H locs X => ?_)
      refine W.eq (g2 := F0 m 28 ls [.int r_8]) rfl ?_
      refine lv_bipush (pc := 28) (v := 48) hx hb dX9_readsMany_28 (by decide) ?_
      refine lv_icmp_eq (pc := 30) (tgt := 42) hx hb dX9_readsMany_30 (by decide) (fun c_11 => ?_) (fun c_11 => ?_)
      · have hf := it_p hf c_11
        exact lb_X9_readsMany_42 C0 KN hA _ _ (fl_X9_readsMany_15 k59 k64 n) ih k59 hk59 _ _ hf _ _ _ X (lv_sub hl [0, 1] rfl)
      · have hf := it_n hf c_11
        refine lv_aload_n (pc := 33) hx hb dX9_readsMany_33 rfl (lv_at hl 0 rfl) ?_
        obtain ⟨r_17, P_18, h_19, hf⟩ := b2_e hf
        refine x_cv (pc := 34) (ws' := wd_Model G a P_18) (As := []) (rest := []) (ci := 9) (qr := 0) C0 KN X hA [0, 1, 2, 3, 4, 5, 6, 7, 8, 9, 10, 11, 12, 13, 14, 15, 16, 17, 18] [] [0, 1, 2, 3, 4, 5, 6, 7, 8, 9, 10, 11, 12, 13, 14, 15, 16, 17, 18] cu_C50 rfl cu_R50 rfl (by decide) (cu_J50 (S0 := P_9)) rfl (ct_X9_here l G a P_9 r_17 P_18 h_19) rfl rfl rfl kw_30_21 kw_30_18 kw_30_19 kw_30_20 kw_1_5 hd_X9_here ⟨by decide, by decide⟩ hl.1 rfl (Nat.le_of_ble_eq_true rfl) ⟨Nat.zero_le _, Nat.zero_le _⟩ dX9_readsMany_34 (fun H locs X => ?_)
        refine W.eq (g2 := F0 m 37 ls [.int r_17]) rfl ?_
        refine lv_bipush (pc := 37) (v := 49) hx hb dX9_readsMany_37 (by decide) ?_
        refine lv_icmp_ne (pc := 39) (tgt := 46) hx hb dX9_readsMany_39 (by decide) (fun c_20 => ?_) (fun c_20 => ?_)
        · have hf := it_n hf c_20
          refine lv_iconst (pc := 46) (v := 0) hx hb dX9_readsMany_46 (by decide) ?_
          exact lb_X9_readsMany_47 C0 KN hA _ _ (fl_X9_readsMany_15 k59 k64 n) ih k59 hk59 _ _ _ hf _ _ _ X (lv_sub hl [0, 1] rfl)
        · have hf := it_p hf c_20
          exact lb_X9_readsMany_42 C0 KN hA _ _ (fl_X9_readsMany_15 k59 k64 n) ih k59 hk59 _ _ hf _ _ _ X (lv_sub hl [0, 1] rfl)
set_option maxHeartbeats 4000000 in
set_option maxRecDepth 100000 in
theorem lb_X9_readsMany_152 {l : Launch} {p : Program} {e : Env} {s : State} {m : MethodId} {args : Array Value} {below : List Frame} {meth : Method} {c : Code} {G : xG} {A : Nat → Prop} {a : Nat → Nat} (C0 : xC p s m meth c cX9_readsMany 6 (some .boolean) RX9 args) (KN : xKN G s) (hA : ∀ q, s.heap.size ≤ q → A q) (ro : Int32) (So0 : tt_Model) (k197 : tt_Model → Option (Int32 × tt_Model)) (hk197 : ∀ (S0 : tt_Model), k197 S0 = some (ro, So0) → ∀ (H : Heap) (locs : List Loc) (ls : Array Slot), xS G A s.heap (wd_Model G a S0) H locs → lv_has ls 6 [(0, .ref (a 0))] → W p l e ({ frames := 4, cells := 0, slots := 0, locals := 94 }) s m args below meth c H locs 0 0 (MQ below (xQo G (some (.int ro)) A (wd_Model G a So0)) args s 0 0 A) (F0 m 197 ls [])) : ∀ (n : Nat) (S0 : tt_Model) (x3 : Int32) (x4 : Int32) (x5 : Int32), fl_X9_readsMany_152 k197 n S0 x3 x4 x5 = some (ro, So0) → ∀ (H : Heap) (locs : List Loc) (ls : Array Slot), xS G A s.heap (wd_Model G a S0) H locs → lv_has ls 6 [(0, .ref (a 0)), (3, .int x3), (4, .int x4), (5, .int x5)] → W p l e ({ frames := 4, cells := 0, slots := 0, locals := 94 }) s m args below meth c H locs 0 0 (MQ below (xQo G (some (.int ro)) A (wd_Model G a So0)) args s 0 0 A) (F0 m 152 ls []) := by
  have hx := C0.1
  have hb := C0.2.1
  intro n
  induction n with
  | zero =>
    intro S0 x3 x4 x5 hf
    have hf : none = some (ro, So0) := hf
    cases hf
  | succ n ih =>
    intro S0 x3 x4 x5 hf H locs ls X hl
    rw [fl_X9_readsMany_152] at hf
    refine lv_iload (pc := 152) hx hb dX9_readsMany_152 (lv_at hl 3 rfl) ?_
    refine lv_iload (pc := 154) hx hb dX9_readsMany_154 (lv_at hl 2 rfl) ?_
    refine lv_iload_n (pc := 156) hx hb dX9_readsMany_156 rfl (lv_at hl 1 rfl) ?_
    refine lv_imul (pc := 157) hx hb dX9_readsMany_157 ?_
    refine lv_icmp_ge (pc := 158) (tgt := 197) hx hb dX9_readsMany_158 (by decide) (fun c_41 => ?_) (fun c_41 => ?_)
    · have hf := it_p hf c_41
      exact hk197 _ hf _ _ _ X (lv_sub hl [0] rfl)
    · have hf := it_n hf c_41
      refine lv_aload_n (pc := 161) hx hb dX9_readsMany_161 rfl (lv_at hl 0 rfl) ?_
      refine x_get (pc := 162) (ci := 9) C0 KN X 0 rfl rfl inlX9 25 (by decide) kw_8_3 rfl dX9_readsMany_162 ?_
      refine lv_aload_n (pc := 165) hx hb dX9_readsMany_165 rfl (lv_at hl 0 rfl) ?_
      refine x_get (pc := 166) (ci := 9) C0 KN X 0 rfl rfl inlX9 26 (by decide) kw_30_17 rfl dX9_readsMany_166 ?_
      refine W.eq (g2 := F0 m 169 ls [.int (gf_Model_readLong S0), .ref (a 18)]) rfl ?_
      refine lv_aload_n (pc := 169) hx hb dX9_readsMany_169 rfl (lv_at hl 0 rfl) ?_
      refine x_get (pc := 170) (ci := 9) C0 KN X 0 rfl rfl inlX9 25 (by decide) kw_8_3 rfl dX9_readsMany_170 ?_
      refine lv_aload_n (pc := 173) hx hb dX9_readsMany_173 rfl (lv_at hl 0 rfl) ?_
      refine x_get (pc := 174) (ci := 9) C0 KN X 0 rfl rfl inlX9 26 (by decide) kw_30_17 rfl dX9_readsMany_174 ?_
      refine W.eq (g2 := F0 m 177 ls [.int (gf_Model_readLong S0), .ref (a 18), .int (gf_Model_readLong S0), .ref (a 18)]) rfl ?_
      refine lv_iload_n (pc := 177) hx hb dX9_readsMany_177 rfl (lv_at hl 1 rfl) ?_
      refine lv_isub (pc := 178) hx hb dX9_readsMany_178 ?_
      obtain ⟨g_42, hf⟩ := gd_e hf
      refine x_ald (pc := 179) C0 KN X 18 rfl g_42 dX9_readsMany_179 ?_
      refine W.eq (g2 := F0 m 180 ls [.int ((gf_Model_read S0) ((gf_Model_readLong S0) - x3).toNatClampNeg), .int (gf_Model_readLong S0), .ref (a 18)]) rfl ?_
      refine lv_topi (fun y_43 ey_43 => ?_)
      have hf := lt_sb hf ey_43
      obtain ⟨g_44, hf⟩ := gd_e hf
      obtain ⟨S_45, eS_45, hf⟩ := lt_e hf
      refine x_ast (pc := 180) (ws' := wd_Model G a S_45) C0 KN X 18 rfl g_44 (by subst eS_45; rfl) dX9_readsMany_180 (fun H locs X => ?_)
      refine lv_aload_n (pc := 181) hx hb dX9_readsMany_181 rfl (lv_at hl 0 rfl) ?_
      refine lv_dup (pc := 182) hx hb dX9_readsMany_182 rfl ?_
      refine x_get (pc := 183) (ci := 9) C0 KN X 0 rfl rfl inlX9 26 (by decide) kw_30_17 rfl dX9_readsMany_183 ?_
      refine W.eq (g2 := F0 m 186 ls [.int (gf_Model_readLong S_45), .ref (a 0)]) rfl ?_
      refine lv_iconst (pc := 186) (v := 1) hx hb dX9_readsMany_186 (by decide) ?_
      refine lv_iadd (pc := 187) hx hb dX9_readsMany_187 ?_
      refine lv_topi (fun y_46 ey_46 => ?_)
      have hf := lt_sb hf ey_46
      obtain ⟨S_47, eS_47, hf⟩ := lt_e hf
      refine x_put (pc := 188) (ci := 9) (ws' := wd_Model G a S_47) C0 KN X 0 rfl rfl inlX9 tyX9_ok nmX9 26 (by decide) kw_30_17 rfl rfl rfl (Nat.le_of_ble_eq_true rfl) (by subst eS_47; rfl) dX9_readsMany_188 (fun H locs X => ?_)
      obtain ⟨y_48, ey_48⟩ : ∃ y : Int32, y = x5 + (1 : Int32) := ⟨_, rfl⟩
      have hf := lt_sb hf ey_48
      refine lv_iinc (pc := 191) (v := y_48) (lv' := [(5, .int y_48), (0, .ref (a 0)), (3, .int x3), (4, .int x4)]) hx hb dX9_readsMany_191 hl (k := 3) rfl (by rw [ey_48]; rfl) (by decide) rfl (fun ls hl => ?_)
      refine lv_goto (pc := 194) (tgt := 152) hx hb dX9_readsMany_194 (by decide) ?_
      exact ih _ _ _ _ hf _ _ _ X (lv_sub hl [1, 2, 3, 0] rfl)
theorem hd_X9_readsMany : yX9_readsMany.cls ≠ "java/lang/invoke/MethodHandle" ∧ yX9_readsMany.cls ≠ "java/lang/invoke/VarHandle" ∧ (parseMethodDescriptor yX9_readsMany.desc).map (fun d => d.parameters.length) = some 0 := by decide +kernel
set_option maxHeartbeats 4000000 in
set_option maxRecDepth 100000 in
theorem ct_X9_readsMany (l : Launch) (G : xG) (a : Nat → Nat) (S0 : tt_Model) (ro : Int32) (So0 : tt_Model) (hf : fn_X9_readsMany S0 = some (ro, So0)) : xM l yX9_readsMany cX9_readsMany 6 (some .boolean) 4 94 G [.ref (a 0)] (wd_Model G a S0) (wd_Model G a So0) (some (.int ro)) := by
  refine xMi (by decide) (Nat.le_of_ble_eq_true rfl) ?_
  intro p e s m below meth c A C0 KN hA X ls hl
  have hx := C0.1
  have hb := C0.2.1
  have C0 : xC p s m meth c cX9_readsMany 6 (some .boolean) RX9 _ := C0
  have hl : lv_has ls 6 [(0, .ref (a 0))] := hl
  unfold fn_X9_readsMany at hf
  refine lv_aload_n (pc := 0) hx hb dX9_readsMany_0 rfl (lv_at hl 0 rfl) ?_
  refine x_get (pc := 1) (ci := 9) C0 KN X 0 rfl rfl inlX9 26 (by decide) kw_30_17 rfl dX9_readsMany_1 ?_
  refine W.eq (g2 := F0 m 4 ls [.int (gf_Model_readLong S0)]) rfl ?_
  refine lv_topi (fun y_1 ey_1 => ?_)
  have hf := lt_sb hf ey_1
  refine lv_istore_n (pc := 4) (lv' := [(1, .int y_1), (0, .ref (a 0))]) hx hb dX9_readsMany_4 rfl hl (by decide) rfl (fun ls hl => ?_)
  refine lv_aload_n (pc := 5) hx hb dX9_readsMany_5 rfl (lv_at hl 1 rfl) ?_
  refine lv_dup (pc := 6) hx hb dX9_readsMany_6 rfl ?_
  refine x_get (pc := 7) (ci := 9) C0 KN X 0 rfl rfl inlX9 24 (by decide) kw_30_16 rfl dX9_readsMany_7 ?_
  refine W.eq (g2 := F0 m 10 ls [.int (gf_Model_place S0), .ref (a 0)]) rfl ?_
  refine lv_iconst (pc := 10) (v := 1) hx hb dX9_readsMany_10 (by decide) ?_
  refine lv_iadd (pc := 11) hx hb dX9_readsMany_11 ?_
  refine lv_topi (fun y_2 ey_2 => ?_)
  have hf := lt_sb hf ey_2
  obtain ⟨S_3, eS_3, hf⟩ := lt_e hf
  refine x_put (pc := 12) (ci := 9) (ws' := wd_Model G a S_3) C0 KN X 0 rfl rfl inlX9 tyX9_ok nmX9 24 (by decide) kw_30_16 rfl rfl rfl (Nat.le_of_ble_eq_true rfl) (by subst eS_3; rfl) dX9_readsMany_12 (fun H locs X => ?_)
  refine lb_X9_readsMany_15 C0 KN hA _ _ _ ?_ _ ?_ _ _ _ hf _ _ _ X (lv_sub hl [1, 0] rfl)
  · intro S0_e59_21 hf H locs ls X hl
    refine lv_iconst (pc := 59) (v := 0) hx hb dX9_readsMany_59 (by decide) ?_
    obtain ⟨rfl, rfl⟩ := so_2 hf
    exact x_zret (pc := 60) C0 X (by decide) dX9_readsMany_60
  · intro S0_e64_22 x1_e64_22 hf H locs ls X hl
    refine lv_aload_n (pc := 64) hx hb dX9_readsMany_64 rfl (lv_at hl 0 rfl) ?_
    refine x_get (pc := 65) (ci := 9) C0 KN X 0 rfl rfl inlX9 24 (by decide) kw_30_16 rfl dX9_readsMany_65 ?_
    refine W.eq (g2 := F0 m 68 ls [.int (gf_Model_place S0_e64_22)]) rfl ?_
    refine lv_topi (fun y_23 ey_23 => ?_)
    have hf := lt_sb hf ey_23
    refine lv_istore_n (pc := 68) (lv' := [(2, .int y_23), (0, .ref (a 0)), (1, .int x1_e64_22)]) hx hb dX9_readsMany_68 rfl hl (by decide) rfl (fun ls hl => ?_)
    refine lv_aload_n (pc := 69) hx hb dX9_readsMany_69 rfl (lv_at hl 1 rfl) ?_
    refine x_get (pc := 70) (ci := 9) C0 KN X 0 rfl rfl inlX9 26 (by decide) kw_30_17 rfl dX9_readsMany_70 ?_
    refine W.eq (g2 := F0 m 73 ls [.int (gf_Model_readLong S0_e64_22)]) rfl ?_
    refine lv_iload_n (pc := 73) hx hb dX9_readsMany_73 rfl (lv_at hl 2 rfl) ?_
    refine lv_isub (pc := 74) hx hb dX9_readsMany_74 ?_
    refine lv_topi (fun y_24 ey_24 => ?_)
    have hf := lt_sb hf ey_24
    refine lv_istore_n (pc := 75) (lv' := [(3, .int y_24), (2, .int y_23), (0, .ref (a 0)), (1, .int x1_e64_22)]) hx hb dX9_readsMany_75 rfl hl (by decide) rfl (fun ls hl => ?_)
    refine lv_iload_n (pc := 76) hx hb dX9_readsMany_76 rfl (lv_at hl 0 rfl) ?_
    refine lv_if_ne (pc := 77) (tgt := 82) hx hb dX9_readsMany_77 (by decide) (fun c_25 => ?_) (fun c_25 => ?_)
    · have hf := it_n hf c_25
      refine lv_aload_n (pc := 82) hx hb dX9_readsMany_82 rfl (lv_at hl 2 rfl) ?_
      refine lv_dup (pc := 83) hx hb dX9_readsMany_83 rfl ?_
      refine x_get (pc := 84) (ci := 9) C0 KN X 0 rfl rfl inlX9 24 (by decide) kw_30_16 rfl dX9_readsMany_84 ?_
      refine W.eq (g2 := F0 m 87 ls [.int (gf_Model_place S0_e64_22), .ref (a 0)]) rfl ?_
      refine lv_iconst (pc := 87) (v := 1) hx hb dX9_readsMany_87 (by decide) ?_
      refine lv_iadd (pc := 88) hx hb dX9_readsMany_88 ?_
      refine lv_topi (fun y_26 ey_26 => ?_)
      have hf := lt_sb hf ey_26
      obtain ⟨S_27, eS_27, hf⟩ := lt_e hf
      refine x_put (pc := 89) (ci := 9) (ws' := wd_Model G a S_27) C0 KN X 0 rfl rfl inlX9 tyX9_ok nmX9 24 (by decide) kw_30_16 rfl rfl rfl (Nat.le_of_ble_eq_true rfl) (by subst eS_27; rfl) dX9_readsMany_89 (fun H locs X => ?_)
      refine lv_aload_n (pc := 92) hx hb dX9_readsMany_92 rfl (lv_at hl 2 rfl) ?_
      obtain ⟨r_28, P_29, h_30, hf⟩ := b2_e hf
      refine x_cv (pc := 93) (ws' := wd_Model G a P_29) (As := []) (rest := []) (ci := 9) (qr := 0) C0 KN X hA [0, 1, 2, 3, 4, 5, 6, 7, 8, 9, 10, 11, 12, 13, 14, 15, 16, 17, 18] [] [0, 1, 2, 3, 4, 5, 6, 7, 8, 9, 10, 11, 12, 13, 14, 15, 16, 17, 18] cu_C50 rfl cu_R50 rfl (by decide) (cu_J50 (S0 := S_27)) rfl (ct_X9_here l G a S_27 r_28 P_29 h_30) rfl rfl rfl kw_30_21 kw_30_18 kw_30_19 kw_30_20 kw_1_5 hd_X9_here ⟨by decide, by decide⟩ hl.1 rfl (Nat.le_of_ble_eq_true rfl) ⟨Nat.zero_le _, Nat.zero_le _⟩ dX9_readsMany_93 (fun H locs X => ?_)
      refine W.eq (g2 := F0 m 96 ls [.int r_28]) rfl ?_
      refine lv_bipush (pc := 96) (v := 120) hx hb dX9_readsMany_96 (by decide) ?_
      refine lv_icmp_eq (pc := 98) (tgt := 103) hx hb dX9_readsMany_98 (by decide) (fun c_31 => ?_) (fun c_31 => ?_)
      · have hf := it_p hf c_31
        refine lv_aload_n (pc := 103) hx hb dX9_readsMany_103 rfl (lv_at hl 2 rfl) ?_
        refine lv_dup (pc := 104) hx hb dX9_readsMany_104 rfl ?_
        refine x_get (pc := 105) (ci := 9) C0 KN X 0 rfl rfl inlX9 24 (by decide) kw_30_16 rfl dX9_readsMany_105 ?_
        refine W.eq (g2 := F0 m 108 ls [.int (gf_Model_place P_29), .ref (a 0)]) rfl ?_
        refine lv_iconst (pc := 108) (v := 1) hx hb dX9_readsMany_108 (by decide) ?_
        refine lv_iadd (pc := 109) hx hb dX9_readsMany_109 ?_
        refine lv_topi (fun y_32 ey_32 => ?_)
        have hf := lt_sb hf ey_32
        obtain ⟨S_33, eS_33, hf⟩ := lt_e hf
        refine x_put (pc := 110) (ci := 9) (ws' := wd_Model G a S_33) C0 KN X 0 rfl rfl inlX9 tyX9_ok nmX9 24 (by decide) kw_30_16 rfl rfl rfl (Nat.le_of_ble_eq_true rfl) (by subst eS_33; rfl) dX9_readsMany_110 (fun H locs X => ?_)
        refine lv_aload_n (pc := 113) hx hb dX9_readsMany_113 rfl (lv_at hl 2 rfl) ?_
        obtain ⟨r_34, P_35, h_36, hf⟩ := b2_e hf
        refine x_cv (pc := 114) (ws' := wd_Model G a P_35) (As := []) (rest := []) (ci := 9) (qr := 0) C0 KN X hA [0, 1, 2, 3, 4, 5, 6, 7, 8, 9, 10, 11, 12, 13, 14, 15, 16, 17, 18] [] [0, 1, 2, 3, 4, 5, 6, 7, 8, 9, 10, 11, 12, 13, 14, 15, 16, 17, 18] cu_C50 rfl cu_R50 rfl (by decide) (cu_J50 (S0 := S_33)) rfl (ct_X9_times l G a S_33 r_34 P_35 h_36) rfl rfl rfl kw_31_9 kw_31_6 kw_31_7 kw_31_8 kw_1_5 hd_X9_times ⟨by decide, by decide⟩ hl.1 rfl (Nat.le_of_ble_eq_true rfl) ⟨Nat.zero_le _, Nat.zero_le _⟩ dX9_readsMany_114 (fun H locs X => ?_)
        refine W.eq (g2 := F0 m 117 ls [.int r_34]) rfl ?_
        refine lv_istore (pc := 117) (lv' := [(4, .int r_34), (3, .int y_24), (2, .int y_23), (0, .ref (a 0)), (1, .int x1_e64_22)]) hx hb dX9_readsMany_117 hl (by decide) rfl (fun ls hl => ?_)
        refine lv_iload (pc := 119) hx hb dX9_readsMany_119 (lv_at hl 0 rfl) ?_
        refine lv_if_ne (pc := 121) (tgt := 126) hx hb dX9_readsMany_121 (by decide) (fun c_37 => ?_) (fun c_37 => ?_)
        · have hf := it_n hf c_37
          refine lv_aload_n (pc := 126) hx hb dX9_readsMany_126 rfl (lv_at hl 3 rfl) ?_
          obtain ⟨r_38, h_39, hf⟩ := bd_e hf
          refine x_cv (pc := 127) (ws' := wd_Model G a P_35) (As := []) (rest := []) (ci := 9) (qr := 0) C0 KN X hA [0, 1, 2, 3, 4, 5, 6, 7, 8, 9, 10, 11, 12, 13, 14, 15, 16, 17, 18] [] [0, 1, 2, 3, 4, 5, 6, 7, 8, 9, 10, 11, 12, 13, 14, 15, 16, 17, 18] cu_C49 rfl cu_R49 rfl (by decide) (cu_J49 (S0 := P_35)) rfl (ct_X9_many l G a P_35 r_38 h_39) rfl rfl rfl kw_11_5 kw_11_2 kw_11_3 kw_11_4 kw_1_5 hd_X9_many ⟨by decide, by decide⟩ hl.1 rfl (Nat.le_of_ble_eq_true rfl) ⟨Nat.zero_le _, Nat.zero_le _⟩ dX9_readsMany_127 (fun H locs X => ?_)
          refine W.eq (g2 := F0 m 130 ls [.int r_38]) rfl ?_
          refine lv_iload_n (pc := 130) hx hb dX9_readsMany_130 rfl (lv_at hl 4 rfl) ?_
          refine lv_iadd (pc := 131) hx hb dX9_readsMany_131 ?_
          refine lv_iload (pc := 132) hx hb dX9_readsMany_132 (lv_at hl 0 rfl) ?_
          refine lv_iload_n (pc := 134) hx hb dX9_readsMany_134 rfl (lv_at hl 1 rfl) ?_
          refine lv_imul (pc := 135) hx hb dX9_readsMany_135 ?_
          refine lv_iadd (pc := 136) hx hb dX9_readsMany_136 ?_
          refine lv_bipush (pc := 137) (v := 100) hx hb dX9_readsMany_137 (by decide) ?_
          refine lv_icmp_le (pc := 139) (tgt := 149) hx hb dX9_readsMany_139 (by decide) (fun c_40 => ?_) (fun c_40 => ?_)
          · have hf := it_p hf c_40
            refine lv_iload_n (pc := 149) hx hb dX9_readsMany_149 rfl (lv_at hl 1 rfl) ?_
            refine lv_istore (pc := 150) (lv' := [(5, .int y_24), (4, .int r_34), (3, .int y_24), (2, .int y_23), (0, .ref (a 0)), (1, .int x1_e64_22)]) hx hb dX9_readsMany_150 hl (by decide) rfl (fun ls hl => ?_)
            refine lb_X9_readsMany_152 C0 KN hA _ _ _ ?_ _ _ _ _ _ hf _ _ _ X (lv_sub hl [4, 2, 1, 0] rfl)
            · intro S0_e197_49 hf H locs ls X hl
              refine lv_iconst (pc := 197) (v := 1) hx hb dX9_readsMany_197 (by decide) ?_
              obtain ⟨rfl, rfl⟩ := so_2 hf
              exact x_zret (pc := 198) C0 X (by decide) dX9_readsMany_198
          · have hf := it_n hf c_40
            refine lv_aload_n (pc := 142) hx hb dX9_readsMany_142 rfl (lv_at hl 3 rfl) ?_
            refine lv_iload_n (pc := 143) hx hb dX9_readsMany_143 rfl (lv_at hl 2 rfl) ?_
            obtain ⟨S_50, eS_50, hf⟩ := lt_e hf
            refine x_put (pc := 144) (ci := 9) (ws' := wd_Model G a S_50) C0 KN X 0 rfl rfl inlX9 tyX9_ok nmX9 24 (by decide) kw_30_16 rfl rfl rfl (Nat.le_of_ble_eq_true rfl) (by subst eS_50; rfl) dX9_readsMany_144 (fun H locs X => ?_)
            refine lv_iconst (pc := 147) (v := 0) hx hb dX9_readsMany_147 (by decide) ?_
            obtain ⟨rfl, rfl⟩ := so_2 hf
            exact x_zret (pc := 148) C0 X (by decide) dX9_readsMany_148
        · have hf := it_p hf c_37
          refine lv_iconst (pc := 124) (v := 0) hx hb dX9_readsMany_124 (by decide) ?_
          obtain ⟨rfl, rfl⟩ := so_2 hf
          exact x_zret (pc := 125) C0 X (by decide) dX9_readsMany_125
      · have hf := it_n hf c_31
        refine lv_iconst (pc := 101) (v := 0) hx hb dX9_readsMany_101 (by decide) ?_
        obtain ⟨rfl, rfl⟩ := so_2 hf
        exact x_zret (pc := 102) C0 X (by decide) dX9_readsMany_102
    · have hf := it_p hf c_25
      refine lv_iconst (pc := 80) (v := 0) hx hb dX9_readsMany_80 (by decide) ?_
      obtain ⟨rfl, rfl⟩ := so_2 hf
      exact x_zret (pc := 81) C0 X (by decide) dX9_readsMany_81
set_option maxHeartbeats 4000000 in
set_option maxRecDepth 100000 in
theorem lb_X9_told_60 {l : Launch} {p : Program} {e : Env} {s : State} {m : MethodId} {args : Array Value} {below : List Frame} {meth : Method} {c : Code} {G : xG} {A : Nat → Prop} {a : Nat → Nat} (C0 : xC p s m meth c cX9_told 3 (some .int) RX9 args) (KN : xKN G s) (hA : ∀ q, s.heap.size ≤ q → A q) (ro : Int32) (So0 : tt_Model) (k10 : tt_Model → Option (Int32 × tt_Model)) (hk10 : ∀ (S0 : tt_Model), k10 S0 = some (ro, So0) → ∀ (H : Heap) (locs : List Loc) (ls : Array Slot), xS G A s.heap (wd_Model G a S0) H locs → lv_has ls 3 [(0, .ref (a 0))] → W p l e ({ frames := 5, cells := 0, slots := 0, locals := 119 }) s m args below meth c H locs 0 0 (MQ below (xQo G (some (.int ro)) A (wd_Model G a So0)) args s 0 0 A) (F0 m 10 ls [])) (k65 : tt_Model → Option (Int32 × tt_Model)) (hk65 : ∀ (S0 : tt_Model), k65 S0 = some (ro, So0) → ∀ (H : Heap) (locs : List Loc) (ls : Array Slot), xS G A s.heap (wd_Model G a S0) H locs → lv_has ls 3 [(0, .ref (a 0))] → W p l e ({ frames := 5, cells := 0, slots := 0, locals := 119 }) s m args below meth c H locs 0 0 (MQ below (xQo G (some (.int ro)) A (wd_Model G a So0)) args s 0 0 A) (F0 m 65 ls [])) : ∀ (S0 : tt_Model) (t0 : Int32), fn_X9_told_60 k10 k65 S0 t0 = some (ro, So0) → ∀ (H : Heap) (locs : List Loc) (ls : Array Slot), xS G A s.heap (wd_Model G a S0) H locs → lv_has ls 3 [(0, .ref (a 0))] → W p l e ({ frames := 5, cells := 0, slots := 0, locals := 119 }) s m args below meth c H locs 0 0 (MQ below (xQo G (some (.int ro)) A (wd_Model G a So0)) args s 0 0 A) (F0 m 60 ls [.int t0]) := by
  have hx := C0.1
  have hb := C0.2.1
  intro S0 t0 hf H locs ls X hl
  unfold fn_X9_told_60 at hf
  refine lv_istore_n (pc := 60) (lv' := [(2, .int t0), (0, .ref (a 0))]) hx hb dX9_told_60 rfl hl (by decide) rfl (fun ls hl => ?_)
  refine lv_iload_n (pc := 61) hx hb dX9_told_61 rfl (lv_at hl 0 rfl) ?_
  refine lv_if_ne (pc := 62) (tgt := 73) hx hb dX9_told_62 (by decide) (fun c_16 => ?_) (fun c_16 => ?_)
  · have hf := it_n hf c_16
    refine lv_goto (pc := 73) (tgt := 10) hx hb dX9_told_73 (by decide) ?_
    exact hk10 _ hf _ _ _ X (lv_sub hl [1] rfl)
  · have hf := it_p hf c_16
    exact hk65 _ hf _ _ _ X (lv_sub hl [1] rfl)
set_option maxHeartbeats 4000000 in
set_option maxRecDepth 100000 in
theorem lb_X9_told_59 {l : Launch} {p : Program} {e : Env} {s : State} {m : MethodId} {args : Array Value} {below : List Frame} {meth : Method} {c : Code} {G : xG} {A : Nat → Prop} {a : Nat → Nat} (C0 : xC p s m meth c cX9_told 3 (some .int) RX9 args) (KN : xKN G s) (hA : ∀ q, s.heap.size ≤ q → A q) (ro : Int32) (So0 : tt_Model) (k10 : tt_Model → Option (Int32 × tt_Model)) (hk10 : ∀ (S0 : tt_Model), k10 S0 = some (ro, So0) → ∀ (H : Heap) (locs : List Loc) (ls : Array Slot), xS G A s.heap (wd_Model G a S0) H locs → lv_has ls 3 [(0, .ref (a 0))] → W p l e ({ frames := 5, cells := 0, slots := 0, locals := 119 }) s m args below meth c H locs 0 0 (MQ below (xQo G (some (.int ro)) A (wd_Model G a So0)) args s 0 0 A) (F0 m 10 ls [])) (k65 : tt_Model → Option (Int32 × tt_Model)) (hk65 : ∀ (S0 : tt_Model), k65 S0 = some (ro, So0) → ∀ (H : Heap) (locs : List Loc) (ls : Array Slot), xS G A s.heap (wd_Model G a S0) H locs → lv_has ls 3 [(0, .ref (a 0))] → W p l e ({ frames := 5, cells := 0, slots := 0, locals := 119 }) s m args below meth c H locs 0 0 (MQ below (xQo G (some (.int ro)) A (wd_Model G a So0)) args s 0 0 A) (F0 m 65 ls [])) : ∀ (S0 : tt_Model), fn_X9_told_59 k10 k65 S0 = some (ro, So0) → ∀ (H : Heap) (locs : List Loc) (ls : Array Slot), xS G A s.heap (wd_Model G a S0) H locs → lv_has ls 3 [(0, .ref (a 0))] → W p l e ({ frames := 5, cells := 0, slots := 0, locals := 119 }) s m args below meth c H locs 0 0 (MQ below (xQo G (some (.int ro)) A (wd_Model G a So0)) args s 0 0 A) (F0 m 59 ls []) := by
  have hx := C0.1
  have hb := C0.2.1
  intro S0 hf H locs ls X hl
  unfold fn_X9_told_59 at hf
  refine lv_iconst (pc := 59) (v := 0) hx hb dX9_told_59 (by decide) ?_
  exact lb_X9_told_60 C0 KN hA _ _ k10 hk10 k65 hk65 _ _ hf _ _ _ X (lv_sub hl [0] rfl)
set_option maxHeartbeats 4000000 in
set_option maxRecDepth 100000 in
theorem lb_X9_told_48 {l : Launch} {p : Program} {e : Env} {s : State} {m : MethodId} {args : Array Value} {below : List Frame} {meth : Method} {c : Code} {G : xG} {A : Nat → Prop} {a : Nat → Nat} (C0 : xC p s m meth c cX9_told 3 (some .int) RX9 args) (KN : xKN G s) (hA : ∀ q, s.heap.size ≤ q → A q) (ro : Int32) (So0 : tt_Model) (k10 : tt_Model → Option (Int32 × tt_Model)) (hk10 : ∀ (S0 : tt_Model), k10 S0 = some (ro, So0) → ∀ (H : Heap) (locs : List Loc) (ls : Array Slot), xS G A s.heap (wd_Model G a S0) H locs → lv_has ls 3 [(0, .ref (a 0))] → W p l e ({ frames := 5, cells := 0, slots := 0, locals := 119 }) s m args below meth c H locs 0 0 (MQ below (xQo G (some (.int ro)) A (wd_Model G a So0)) args s 0 0 A) (F0 m 10 ls [])) (k65 : tt_Model → Option (Int32 × tt_Model)) (hk65 : ∀ (S0 : tt_Model), k65 S0 = some (ro, So0) → ∀ (H : Heap) (locs : List Loc) (ls : Array Slot), xS G A s.heap (wd_Model G a S0) H locs → lv_has ls 3 [(0, .ref (a 0))] → W p l e ({ frames := 5, cells := 0, slots := 0, locals := 119 }) s m args below meth c H locs 0 0 (MQ below (xQo G (some (.int ro)) A (wd_Model G a So0)) args s 0 0 A) (F0 m 65 ls [])) : ∀ (S0 : tt_Model), fn_X9_told_48 k10 k65 S0 = some (ro, So0) → ∀ (H : Heap) (locs : List Loc) (ls : Array Slot), xS G A s.heap (wd_Model G a S0) H locs → lv_has ls 3 [(0, .ref (a 0))] → W p l e ({ frames := 5, cells := 0, slots := 0, locals := 119 }) s m args below meth c H locs 0 0 (MQ below (xQo G (some (.int ro)) A (wd_Model G a So0)) args s 0 0 A) (F0 m 48 ls []) := by
  have hx := C0.1
  have hb := C0.2.1
  intro S0 hf H locs ls X hl
  unfold fn_X9_told_48 at hf
  refine lv_aload_n (pc := 48) hx hb dX9_told_48 rfl (lv_at hl 0 rfl) ?_
  obtain ⟨r_12, P_13, h_14, hf⟩ := b2_e hf
  refine x_cv (pc := 49) (ws' := wd_Model G a P_13) (As := []) (rest := []) (ci := 9) (qr := 0) C0 KN X hA [0, 1, 2, 3, 4, 5, 6, 7, 8, 9, 10, 11, 12, 13, 14, 15, 16, 17, 18] [] [0, 1, 2, 3, 4, 5, 6, 7, 8, 9, 10, 11, 12, 13, 14, 15, 16, 17, 18] cu_C50 rfl cu_R50 rfl (by decide) (cu_J50 (S0 := S0)) rfl (ct_X9_readsSign l G a S0 r_12 P_13 h_14) rfl rfl rfl kw_31_5 kw_31_2 kw_31_3 kw_31_4 kw_1_5 hd_X9_readsSign ⟨by decide, by decide⟩ hl.1 rfl (Nat.le_of_ble_eq_true rfl) ⟨Nat.zero_le _, Nat.zero_le _⟩ dX9_told_49 (fun H locs X => ?_)
  refine W.eq (g2 := F0 m 52 ls [.int r_12]) rfl ?_
  refine lv_if_eq (pc := 52) (tgt := 59) hx hb dX9_told_52 (by decide) (fun c_15 => ?_) (fun c_15 => ?_)
  · have hf := it_p hf c_15
    exact lb_X9_told_59 C0 KN hA _ _ k10 hk10 k65 hk65 _ hf _ _ _ X (lv_sub hl [0] rfl)
  · have hf := it_n hf c_15
    refine lv_iconst (pc := 55) (v := 1) hx hb dX9_told_55 (by decide) ?_
    refine lv_goto (pc := 56) (tgt := 60) hx hb dX9_told_56 (by decide) ?_
    exact lb_X9_told_60 C0 KN hA _ _ k10 hk10 k65 hk65 _ _ hf _ _ _ X (lv_sub hl [0] rfl)
set_option maxHeartbeats 4000000 in
set_option maxRecDepth 100000 in
theorem lb_X9_told_10 {l : Launch} {p : Program} {e : Env} {s : State} {m : MethodId} {args : Array Value} {below : List Frame} {meth : Method} {c : Code} {G : xG} {A : Nat → Prop} {a : Nat → Nat} (C0 : xC p s m meth c cX9_told 3 (some .int) RX9 args) (KN : xKN G s) (hA : ∀ q, s.heap.size ≤ q → A q) (ro : Int32) (So0 : tt_Model) (k65 : tt_Model → Option (Int32 × tt_Model)) (hk65 : ∀ (S0 : tt_Model), k65 S0 = some (ro, So0) → ∀ (H : Heap) (locs : List Loc) (ls : Array Slot), xS G A s.heap (wd_Model G a S0) H locs → lv_has ls 3 [(0, .ref (a 0))] → W p l e ({ frames := 5, cells := 0, slots := 0, locals := 119 }) s m args below meth c H locs 0 0 (MQ below (xQo G (some (.int ro)) A (wd_Model G a So0)) args s 0 0 A) (F0 m 65 ls [])) (k76 : tt_Model → Option (Int32 × tt_Model)) (hk76 : ∀ (S0 : tt_Model), k76 S0 = some (ro, So0) → ∀ (H : Heap) (locs : List Loc) (ls : Array Slot), xS G A s.heap (wd_Model G a S0) H locs → lv_has ls 3 [(0, .ref (a 0))] → W p l e ({ frames := 5, cells := 0, slots := 0, locals := 119 }) s m args below meth c H locs 0 0 (MQ below (xQo G (some (.int ro)) A (wd_Model G a So0)) args s 0 0 A) (F0 m 76 ls [])) : ∀ (n : Nat) (S0 : tt_Model), fl_X9_told_10 k65 k76 n S0 = some (ro, So0) → ∀ (H : Heap) (locs : List Loc) (ls : Array Slot), xS G A s.heap (wd_Model G a S0) H locs → lv_has ls 3 [(0, .ref (a 0))] → W p l e ({ frames := 5, cells := 0, slots := 0, locals := 119 }) s m args below meth c H locs 0 0 (MQ below (xQo G (some (.int ro)) A (wd_Model G a So0)) args s 0 0 A) (F0 m 10 ls []) := by
  have hx := C0.1
  have hb := C0.2.1
  intro n
  induction n with
  | zero =>
    intro S0 hf
    have hf : none = some (ro, So0) := hf
    cases hf
  | succ n ih =>
    intro S0 hf H locs ls X hl
    rw [fl_X9_told_10] at hf
    refine lv_aload_n (pc := 10) hx hb dX9_told_10 rfl (lv_at hl 0 rfl) ?_
    obtain ⟨r_3, P_4, h_5, hf⟩ := b2_e hf
    refine x_cv (pc := 11) (ws' := wd_Model G a P_4) (As := []) (rest := []) (ci := 9) (qr := 0) C0 KN X hA [0, 1, 2, 3, 4, 5, 6, 7, 8, 9, 10, 11, 12, 13, 14, 15, 16, 17, 18] [] [0, 1, 2, 3, 4, 5, 6, 7, 8, 9, 10, 11, 12, 13, 14, 15, 16, 17, 18] cu_C50 rfl cu_R50 rfl (by decide) (cu_J50 (S0 := S0)) rfl (ct_X9_here l G a S0 r_3 P_4 h_5) rfl rfl rfl kw_30_21 kw_30_18 kw_30_19 kw_30_20 kw_1_5 hd_X9_here ⟨by decide, by decide⟩ hl.1 rfl (Nat.le_of_ble_eq_true rfl) ⟨Nat.zero_le _, Nat.zero_le _⟩ dX9_told_11 (fun H locs X => ?_)
    refine W.eq (g2 := F0 m 14 ls [.int r_3]) rfl ?_
    refine lv_iconst (pc := 14) (v := (-1)) hx hb dX9_told_14 (by decide) ?_
    refine lv_icmp_eq (pc := 15) (tgt := 76) hx hb dX9_told_15 (by decide) (fun c_6 => ?_) (fun c_6 => ?_)
    · have hf := it_p hf c_6
      exact hk76 _ hf _ _ _ X (lv_sub hl [0] rfl)
    · have hf := it_n hf c_6
      refine lv_aload_n (pc := 18) hx hb dX9_told_18 rfl (lv_at hl 0 rfl) ?_
      obtain ⟨r_7, P_8, h_9, hf⟩ := b2_e hf
      refine x_cv (pc := 19) (ws' := wd_Model G a P_8) (As := []) (rest := []) (ci := 9) (qr := 0) C0 KN X hA [0, 1, 2, 3, 4, 5, 6, 7, 8, 9, 10, 11, 12, 13, 14, 15, 16, 17, 18] [] [0, 1, 2, 3, 4, 5, 6, 7, 8, 9, 10, 11, 12, 13, 14, 15, 16, 17, 18] cu_C50 rfl cu_R50 rfl (by decide) (cu_J50 (S0 := P_4)) rfl (ct_X9_here l G a P_4 r_7 P_8 h_9) rfl rfl rfl kw_30_21 kw_30_18 kw_30_19 kw_30_20 kw_1_5 hd_X9_here ⟨by decide, by decide⟩ hl.1 rfl (Nat.le_of_ble_eq_true rfl) ⟨Nat.zero_le _, Nat.zero_le _⟩ dX9_told_19 (fun H locs X => ?_)
      refine W.eq (g2 := F0 m 22 ls [.int r_7]) rfl ?_
      refine lv_istore_n (pc := 22) (lv' := [(1, .int r_7), (0, .ref (a 0))]) hx hb dX9_told_22 rfl hl (by decide) rfl (fun ls hl => ?_)
      refine lv_iload_n (pc := 23) hx hb dX9_told_23 rfl (lv_at hl 0 rfl) ?_
      refine lv_bipush (pc := 24) (v := 40) hx hb dX9_told_24 (by decide) ?_
      refine lv_icmp_ne (pc := 26) (tgt := 36) hx hb dX9_told_26 (by decide) (fun c_10 => ?_) (fun c_10 => ?_)
      · have hf := it_n hf c_10
        refine lv_iload_n (pc := 36) hx hb dX9_told_36 rfl (lv_at hl 0 rfl) ?_
        refine lv_bipush (pc := 37) (v := 48) hx hb dX9_told_37 (by decide) ?_
        refine lv_icmp_eq (pc := 39) (tgt := 48) hx hb dX9_told_39 (by decide) (fun c_11 => ?_) (fun c_11 => ?_)
        · have hf := it_p hf c_11
          exact lb_X9_told_48 C0 KN hA _ _ (fl_X9_told_10 k65 k76 n) ih k65 hk65 _ hf _ _ _ X (lv_sub hl [1] rfl)
        · have hf := it_n hf c_11
          refine lv_iload_n (pc := 42) hx hb dX9_told_42 rfl (lv_at hl 0 rfl) ?_
          refine lv_bipush (pc := 43) (v := 49) hx hb dX9_told_43 (by decide) ?_
          refine lv_icmp_ne (pc := 45) (tgt := 59) hx hb dX9_told_45 (by decide) (fun c_17 => ?_) (fun c_17 => ?_)
          · have hf := it_n hf c_17
            exact lb_X9_told_59 C0 KN hA _ _ (fl_X9_told_10 k65 k76 n) ih k65 hk65 _ hf _ _ _ X (lv_sub hl [1] rfl)
          · have hf := it_p hf c_17
            exact lb_X9_told_48 C0 KN hA _ _ (fl_X9_told_10 k65 k76 n) ih k65 hk65 _ hf _ _ _ X (lv_sub hl [1] rfl)
      · have hf := it_p hf c_10
        refine lv_aload_n (pc := 29) hx hb dX9_told_29 rfl (lv_at hl 1 rfl) ?_
        obtain ⟨r_18, P_19, h_20, hf⟩ := b2_e hf
        refine x_cv (pc := 30) (ws' := wd_Model G a P_19) (As := []) (rest := []) (ci := 9) (qr := 0) C0 KN X hA [0, 1, 2, 3, 4, 5, 6, 7, 8, 9, 10, 11, 12, 13, 14, 15, 16, 17, 18] [] [0, 1, 2, 3, 4, 5, 6, 7, 8, 9, 10, 11, 12, 13, 14, 15, 16, 17, 18] cu_C50 rfl cu_R50 rfl (by decide) (cu_J50 (S0 := P_8)) rfl (ct_X9_readsMany l G a P_8 r_18 P_19 h_20) rfl rfl rfl kw_31_1 kw_30_22 kw_30_23 kw_31_0 kw_1_5 hd_X9_readsMany ⟨by decide, by decide⟩ hl.1 rfl (Nat.le_of_ble_eq_true rfl) ⟨Nat.zero_le _, Nat.zero_le _⟩ dX9_told_30 (fun H locs X => ?_)
        refine W.eq (g2 := F0 m 33 ls [.int r_18]) rfl ?_
        refine lv_goto (pc := 33) (tgt := 60) hx hb dX9_told_33 (by decide) ?_
        exact lb_X9_told_60 C0 KN hA _ _ (fl_X9_told_10 k65 k76 n) ih k65 hk65 _ _ hf _ _ _ X (lv_sub hl [1] rfl)
set_option maxHeartbeats 4000000 in
set_option maxRecDepth 100000 in
theorem lb_X9_told_82 {l : Launch} {p : Program} {e : Env} {s : State} {m : MethodId} {args : Array Value} {below : List Frame} {meth : Method} {c : Code} {G : xG} {A : Nat → Prop} {a : Nat → Nat} (C0 : xC p s m meth c cX9_told 3 (some .int) RX9 args) (KN : xKN G s) (hA : ∀ q, s.heap.size ≤ q → A q) (ro : Int32) (So0 : tt_Model) (k106 : tt_Model → Option (Int32 × tt_Model)) (hk106 : ∀ (S0 : tt_Model), k106 S0 = some (ro, So0) → ∀ (H : Heap) (locs : List Loc) (ls : Array Slot), xS G A s.heap (wd_Model G a S0) H locs → lv_has ls 3 [(0, .ref (a 0))] → W p l e ({ frames := 5, cells := 0, slots := 0, locals := 119 }) s m args below meth c H locs 0 0 (MQ below (xQo G (some (.int ro)) A (wd_Model G a So0)) args s 0 0 A) (F0 m 106 ls [])) : ∀ (n : Nat) (S0 : tt_Model) (x1 : Int32), fl_X9_told_82 k106 n S0 x1 = some (ro, So0) → ∀ (H : Heap) (locs : List Loc) (ls : Array Slot), xS G A s.heap (wd_Model G a S0) H locs → lv_has ls 3 [(0, .ref (a 0)), (1, .int x1)] → W p l e ({ frames := 5, cells := 0, slots := 0, locals := 119 }) s m args below meth c H locs 0 0 (MQ below (xQo G (some (.int ro)) A (wd_Model G a So0)) args s 0 0 A) (F0 m 82 ls []) := by
  have hx := C0.1
  have hb := C0.2.1
  intro n
  induction n with
  | zero =>
    intro S0 x1 hf
    have hf : none = some (ro, So0) := hf
    cases hf
  | succ n ih =>
    intro S0 x1 hf H locs ls X hl
    rw [fl_X9_told_82] at hf
    refine lv_iload_n (pc := 82) hx hb dX9_told_82 rfl (lv_at hl 1 rfl) ?_
    refine lv_aload_n (pc := 83) hx hb dX9_told_83 rfl (lv_at hl 0 rfl) ?_
    refine x_get (pc := 84) (ci := 9) C0 KN X 0 rfl rfl inlX9 26 (by decide) kw_30_17 rfl dX9_told_84 ?_
    refine W.eq (g2 := F0 m 87 ls [.int (gf_Model_readLong S0), .int x1]) rfl ?_
    refine lv_icmp_ge (pc := 87) (tgt := 106) hx hb dX9_told_87 (by decide) (fun c_25 => ?_) (fun c_25 => ?_)
    · have hf := it_p hf c_25
      exact hk106 _ hf _ _ _ X (lv_sub hl [0] rfl)
    · have hf := it_n hf c_25
      refine lv_aload_n (pc := 90) hx hb dX9_told_90 rfl (lv_at hl 0 rfl) ?_
      refine lv_aload_n (pc := 91) hx hb dX9_told_91 rfl (lv_at hl 0 rfl) ?_
      refine x_get (pc := 92) (ci := 9) C0 KN X 0 rfl rfl inlX9 25 (by decide) kw_8_3 rfl dX9_told_92 ?_
      refine lv_iload_n (pc := 95) hx hb dX9_told_95 rfl (lv_at hl 1 rfl) ?_
      obtain ⟨g_26, hf⟩ := gd_e hf
      refine x_ald (pc := 96) C0 KN X 18 rfl g_26 dX9_told_96 ?_
      refine W.eq (g2 := F0 m 97 ls [.int ((gf_Model_read S0) x1.toNatClampNeg), .ref (a 0)]) rfl ?_
      obtain ⟨P_27, h_28, hf⟩ := bd_e hf
      refine x_cv (pc := 97) (ws' := wd_Model G a P_27) (As := [.int ((gf_Model_read S0) x1.toNatClampNeg)]) (rest := []) (ci := 9) (qr := 0) C0 KN X hA [0, 1, 2, 3, 4, 5, 6, 7, 8, 9, 10, 11, 12, 13, 14, 15, 16, 17, 18] [] [0, 1, 2, 3, 4, 5, 6, 7, 8, 9, 10, 11, 12, 13, 14, 15, 16, 17, 18] cu_C50 rfl cu_R50 rfl (by decide) (cu_J50 (S0 := S0)) rfl (ct_X9_adds l G a S0 ((gf_Model_read S0) x1.toNatClampNeg) P_27 h_28) rfl rfl rfl kw_11_18 kw_11_15 kw_11_16 kw_11_17 kw_1_5 hd_X9_adds ⟨by decide, by decide⟩ hl.1 rfl (Nat.le_of_ble_eq_true rfl) ⟨Nat.zero_le _, Nat.zero_le _⟩ dX9_told_97 (fun H locs X => ?_)
      refine W.eq (g2 := F0 m 100 ls []) rfl ?_
      obtain ⟨y_29, ey_29⟩ : ∃ y : Int32, y = x1 + (1 : Int32) := ⟨_, rfl⟩
      have hf := lt_sb hf ey_29
      refine lv_iinc (pc := 100) (v := y_29) (lv' := [(1, .int y_29), (0, .ref (a 0))]) hx hb dX9_told_100 hl (k := 1) rfl (by rw [ey_29]; rfl) (by decide) rfl (fun ls hl => ?_)
      refine lv_goto (pc := 103) (tgt := 82) hx hb dX9_told_103 (by decide) ?_
      exact ih _ _ hf _ _ _ X (lv_sub hl [1, 0] rfl)
theorem hd_X9_told : yX9_told.cls ≠ "java/lang/invoke/MethodHandle" ∧ yX9_told.cls ≠ "java/lang/invoke/VarHandle" ∧ (parseMethodDescriptor yX9_told.desc).map (fun d => d.parameters.length) = some 0 := by decide +kernel
set_option maxHeartbeats 4000000 in
set_option maxRecDepth 100000 in
theorem ct_X9_told (l : Launch) (G : xG) (a : Nat → Nat) (S0 : tt_Model) (ro : Int32) (So0 : tt_Model) (hf : fn_X9_told S0 = some (ro, So0)) : xM l yX9_told cX9_told 3 (some .int) 5 119 G [.ref (a 0)] (wd_Model G a S0) (wd_Model G a So0) (some (.int ro)) := by
  refine xMi (by decide) (Nat.le_of_ble_eq_true rfl) ?_
  intro p e s m below meth c A C0 KN hA X ls hl
  have hx := C0.1
  have hb := C0.2.1
  have C0 : xC p s m meth c cX9_told 3 (some .int) RX9 _ := C0
  have hl : lv_has ls 3 [(0, .ref (a 0))] := hl
  unfold fn_X9_told at hf
  refine lv_aload_n (pc := 0) hx hb dX9_told_0 rfl (lv_at hl 0 rfl) ?_
  refine lv_iconst (pc := 1) (v := 0) hx hb dX9_told_1 (by decide) ?_
  obtain ⟨S_1, eS_1, hf⟩ := lt_e hf
  refine x_put (pc := 2) (ci := 9) (ws' := wd_Model G a S_1) C0 KN X 0 rfl rfl inlX9 tyX9_ok nmX9 24 (by decide) kw_30_16 rfl rfl rfl (Nat.le_of_ble_eq_true rfl) (by subst eS_1; rfl) dX9_told_2 (fun H locs X => ?_)
  refine lv_aload_n (pc := 5) hx hb dX9_told_5 rfl (lv_at hl 0 rfl) ?_
  refine lv_iconst (pc := 6) (v := 0) hx hb dX9_told_6 (by decide) ?_
  obtain ⟨S_2, eS_2, hf⟩ := lt_e hf
  refine x_put (pc := 7) (ci := 9) (ws' := wd_Model G a S_2) C0 KN X 0 rfl rfl inlX9 tyX9_ok nmX9 26 (by decide) kw_30_17 rfl rfl rfl (Nat.le_of_ble_eq_true rfl) (by subst eS_2; rfl) dX9_told_7 (fun H locs X => ?_)
  refine lb_X9_told_10 C0 KN hA _ _ _ ?_ _ ?_ _ _ hf _ _ _ X (lv_sub hl [0] rfl)
  · intro S0_e65_21 hf H locs ls X hl
    refine lv_bipush (pc := 65) (v := (-10)) hx hb dX9_told_65 (by decide) ?_
    refine lv_aload_n (pc := 67) hx hb dX9_told_67 rfl (lv_at hl 0 rfl) ?_
    refine x_get (pc := 68) (ci := 9) C0 KN X 0 rfl rfl inlX9 24 (by decide) kw_30_16 rfl dX9_told_68 ?_
    refine W.eq (g2 := F0 m 71 ls [.int (gf_Model_place S0_e65_21), .int (-10 : Int32)]) rfl ?_
    refine lv_isub (pc := 71) hx hb dX9_told_71 ?_
    obtain ⟨rfl, rfl⟩ := so_2 hf
    exact x_iret (pc := 72) C0 X dX9_told_72
  · intro S0_e76_22 hf H locs ls X hl
    refine lv_aload_n (pc := 76) hx hb dX9_told_76 rfl (lv_at hl 0 rfl) ?_
    obtain ⟨P_23, h_24, hf⟩ := bd_e hf
    refine x_cv (pc := 77) (ws' := wd_Model G a P_23) (As := []) (rest := []) (ci := 9) (qr := 0) C0 KN X hA [0, 1, 2, 3, 4, 5, 6, 7, 8, 9, 10, 11, 12, 13, 14, 15, 16, 17, 18] [] [0, 1, 2, 3, 4, 5, 6, 7, 8, 9, 10, 11, 12, 13, 14, 15, 16, 17, 18] cu_C50 rfl cu_R50 rfl (by decide) (cu_J50 (S0 := S0_e76_22)) rfl (ct_X9_keep l G a S0_e76_22 P_23 h_24) rfl rfl rfl kw_11_13 kw_11_10 kw_11_11 kw_11_12 kw_1_5 hd_X9_keep ⟨by decide, by decide⟩ hl.1 rfl (Nat.le_of_ble_eq_true rfl) ⟨Nat.zero_le _, Nat.zero_le _⟩ dX9_told_77 (fun H locs X => ?_)
    refine W.eq (g2 := F0 m 80 ls []) rfl ?_
    refine lv_iconst (pc := 80) (v := 0) hx hb dX9_told_80 (by decide) ?_
    refine lv_istore_n (pc := 81) (lv' := [(1, .int (0 : Int32)), (0, .ref (a 0))]) hx hb dX9_told_81 rfl hl (by decide) rfl (fun ls hl => ?_)
    refine lb_X9_told_82 C0 KN hA _ _ _ ?_ _ _ _ hf _ _ _ X (lv_sub hl [1, 0] rfl)
    · intro S0_e106_30 hf H locs ls X hl
      refine lv_aload_n (pc := 106) hx hb dX9_told_106 rfl (lv_at hl 0 rfl) ?_
      refine x_get (pc := 107) (ci := 9) C0 KN X 0 rfl rfl inlX9 26 (by decide) kw_30_17 rfl dX9_told_107 ?_
      refine W.eq (g2 := F0 m 110 ls [.int (gf_Model_readLong S0_e106_30)]) rfl ?_
      obtain ⟨rfl, rfl⟩ := so_2 hf
      exact x_iret (pc := 110) C0 X dX9_told_110
set_option maxHeartbeats 4000000 in
set_option maxRecDepth 100000 in
theorem lb_X9_back_24 {l : Launch} {p : Program} {e : Env} {s : State} {m : MethodId} {args : Array Value} {below : List Frame} {meth : Method} {c : Code} {G : xG} {A : Nat → Prop} {a : Nat → Nat} (C0 : xC p s m meth c cX9_back 2 (some .int) RX9 args) (KN : xKN G s) (hA : ∀ q, s.heap.size ≤ q → A q) (ro : Int32) (So0 : tt_Model) (k56 : tt_Model → Option (Int32 × tt_Model)) (hk56 : ∀ (S0 : tt_Model), k56 S0 = some (ro, So0) → ∀ (H : Heap) (locs : List Loc) (ls : Array Slot), xS G A s.heap (wd_Model G a S0) H locs → lv_has ls 2 [(0, .ref (a 0))] → W p l e ({ frames := 1, cells := 0, slots := 0, locals := 20 }) s m args below meth c H locs 0 0 (MQ below (xQo G (some (.int ro)) A (wd_Model G a So0)) args s 0 0 A) (F0 m 56 ls [])) : ∀ (n : Nat) (S0 : tt_Model) (x1 : Int32), fl_X9_back_24 k56 n S0 x1 = some (ro, So0) → ∀ (H : Heap) (locs : List Loc) (ls : Array Slot), xS G A s.heap (wd_Model G a S0) H locs → lv_has ls 2 [(0, .ref (a 0)), (1, .int x1)] → W p l e ({ frames := 1, cells := 0, slots := 0, locals := 20 }) s m args below meth c H locs 0 0 (MQ below (xQo G (some (.int ro)) A (wd_Model G a So0)) args s 0 0 A) (F0 m 24 ls []) := by
  have hx := C0.1
  have hb := C0.2.1
  intro n
  induction n with
  | zero =>
    intro S0 x1 hf
    have hf : none = some (ro, So0) := hf
    cases hf
  | succ n ih =>
    intro S0 x1 hf H locs ls X hl
    rw [fl_X9_back_24] at hf
    refine lv_iload_n (pc := 24) hx hb dX9_back_24 rfl (lv_at hl 1 rfl) ?_
    refine lv_bipush (pc := 25) (v := 103) hx hb dX9_back_25 (by decide) ?_
    refine lv_icmp_ge (pc := 27) (tgt := 56) hx hb dX9_back_27 (by decide) (fun c_4 => ?_) (fun c_4 => ?_)
    · have hf := it_p hf c_4
      exact hk56 _ hf _ _ _ X (lv_sub hl [0] rfl)
    · have hf := it_n hf c_4
      refine lv_aload_n (pc := 30) hx hb dX9_back_30 rfl (lv_at hl 0 rfl) ?_
      refine x_get (pc := 31) (ci := 9) C0 KN X 0 rfl rfl inlX9 0 (by decide) kw_7_9 rfl dX9_back_31 ?_
      refine lv_iload_n (pc := 34) hx hb dX9_back_34 rfl (lv_at hl 1 rfl) ?_
      refine lv_aload_n (pc := 35) hx hb dX9_back_35 rfl (lv_at hl 0 rfl) ?_
      refine x_get (pc := 36) (ci := 9) C0 KN X 0 rfl rfl inlX9 1 (by decide) kw_7_10 rfl dX9_back_36 ?_
      refine lv_bipush (pc := 39) (v := 103) hx hb dX9_back_39 (by decide) ?_
      refine lv_aload_n (pc := 41) hx hb dX9_back_41 rfl (lv_at hl 0 rfl) ?_
      refine x_get (pc := 42) (ci := 9) C0 KN X 0 rfl rfl inlX9 2 (by decide) kw_11_14 rfl dX9_back_42 ?_
      refine W.eq (g2 := F0 m 45 ls [.int (gf_Model_states S0), .int (103 : Int32), .ref (a 2), .int x1, .ref (a 1)]) rfl ?_
      refine lv_imul (pc := 45) hx hb dX9_back_45 ?_
      refine lv_iload_n (pc := 46) hx hb dX9_back_46 rfl (lv_at hl 1 rfl) ?_
      refine lv_iadd (pc := 47) hx hb dX9_back_47 ?_
      obtain ⟨g_5, hf⟩ := gd_e hf
      refine x_ald (pc := 48) C0 KN X 2 rfl g_5 dX9_back_48 ?_
      refine W.eq (g2 := F0 m 49 ls [.int ((gf_Model_past S0) (((103 : Int32) * (gf_Model_states S0)) + x1).toNatClampNeg), .int x1, .ref (a 1)]) rfl ?_
      refine lv_topi (fun y_6 ey_6 => ?_)
      have hf := lt_sb hf ey_6
      obtain ⟨g_7, hf⟩ := gd_e hf
      obtain ⟨S_8, eS_8, hf⟩ := lt_e hf
      refine x_ast (pc := 49) (ws' := wd_Model G a S_8) C0 KN X 1 rfl g_7 (by subst eS_8; rfl) dX9_back_49 (fun H locs X => ?_)
      obtain ⟨y_9, ey_9⟩ : ∃ y : Int32, y = x1 + (1 : Int32) := ⟨_, rfl⟩
      have hf := lt_sb hf ey_9
      refine lv_iinc (pc := 50) (v := y_9) (lv' := [(1, .int y_9), (0, .ref (a 0))]) hx hb dX9_back_50 hl (k := 1) rfl (by rw [ey_9]; rfl) (by decide) rfl (fun ls hl => ?_)
      refine lv_goto (pc := 53) (tgt := 24) hx hb dX9_back_53 (by decide) ?_
      exact ih _ _ hf _ _ _ X (lv_sub hl [1, 0] rfl)
theorem hd_X9_back : yX9_back.cls ≠ "java/lang/invoke/MethodHandle" ∧ yX9_back.cls ≠ "java/lang/invoke/VarHandle" ∧ (parseMethodDescriptor yX9_back.desc).map (fun d => d.parameters.length) = some 0 := by decide +kernel
set_option maxHeartbeats 4000000 in
set_option maxRecDepth 100000 in
theorem ct_X9_back (l : Launch) (G : xG) (a : Nat → Nat) (S0 : tt_Model) (ro : Int32) (So0 : tt_Model) (hf : fn_X9_back S0 = some (ro, So0)) : xM l yX9_back cX9_back 2 (some .int) 1 20 G [.ref (a 0)] (wd_Model G a S0) (wd_Model G a So0) (some (.int ro)) := by
  refine xMi (by decide) (Nat.le_of_ble_eq_true rfl) ?_
  intro p e s m below meth c A C0 KN hA X ls hl
  have hx := C0.1
  have hb := C0.2.1
  have C0 : xC p s m meth c cX9_back 2 (some .int) RX9 _ := C0
  have hl : lv_has ls 2 [(0, .ref (a 0))] := hl
  unfold fn_X9_back at hf
  refine lv_aload_n (pc := 0) hx hb dX9_back_0 rfl (lv_at hl 0 rfl) ?_
  refine x_get (pc := 1) (ci := 9) C0 KN X 0 rfl rfl inlX9 2 (by decide) kw_11_14 rfl dX9_back_1 ?_
  refine W.eq (g2 := F0 m 4 ls [.int (gf_Model_states S0)]) rfl ?_
  refine lv_if_ne (pc := 4) (tgt := 12) hx hb dX9_back_4 (by decide) (fun c_1 => ?_) (fun c_1 => ?_)
  · have hf := it_n hf c_1
    refine lv_aload_n (pc := 12) hx hb dX9_back_12 rfl (lv_at hl 0 rfl) ?_
    refine lv_dup (pc := 13) hx hb dX9_back_13 rfl ?_
    refine x_get (pc := 14) (ci := 9) C0 KN X 0 rfl rfl inlX9 2 (by decide) kw_11_14 rfl dX9_back_14 ?_
    refine W.eq (g2 := F0 m 17 ls [.int (gf_Model_states S0), .ref (a 0)]) rfl ?_
    refine lv_iconst (pc := 17) (v := 1) hx hb dX9_back_17 (by decide) ?_
    refine lv_isub (pc := 18) hx hb dX9_back_18 ?_
    refine lv_topi (fun y_2 ey_2 => ?_)
    have hf := lt_sb hf ey_2
    obtain ⟨S_3, eS_3, hf⟩ := lt_e hf
    refine x_put (pc := 19) (ci := 9) (ws' := wd_Model G a S_3) C0 KN X 0 rfl rfl inlX9 tyX9_ok nmX9 2 (by decide) kw_11_14 rfl rfl rfl (Nat.le_of_ble_eq_true rfl) (by subst eS_3; rfl) dX9_back_19 (fun H locs X => ?_)
    refine lv_iconst (pc := 22) (v := 0) hx hb dX9_back_22 (by decide) ?_
    refine lv_istore_n (pc := 23) (lv' := [(1, .int (0 : Int32)), (0, .ref (a 0))]) hx hb dX9_back_23 rfl hl (by decide) rfl (fun ls hl => ?_)
    refine lb_X9_back_24 C0 KN hA _ _ _ ?_ _ _ _ hf _ _ _ X (lv_sub hl [1, 0] rfl)
    · intro S0_e56_10 hf H locs ls X hl
      refine lv_aload_n (pc := 56) hx hb dX9_back_56 rfl (lv_at hl 0 rfl) ?_
      refine x_get (pc := 57) (ci := 9) C0 KN X 0 rfl rfl inlX9 2 (by decide) kw_11_14 rfl dX9_back_57 ?_
      refine W.eq (g2 := F0 m 60 ls [.int (gf_Model_states S0_e56_10)]) rfl ?_
      obtain ⟨rfl, rfl⟩ := so_2 hf
      exact x_iret (pc := 60) C0 X dX9_back_60
  · have hf := it_p hf c_1
    refine lv_aload_n (pc := 7) hx hb dX9_back_7 rfl (lv_at hl 0 rfl) ?_
    obtain ⟨r_11, P_12, h_13, hf⟩ := b2_e hf
    refine x_cv (pc := 8) (ws' := wd_Model G a P_12) (As := []) (rest := []) (ci := 9) (qr := 0) C0 KN X hA [0, 1, 2, 3, 4, 5, 6, 7, 8, 9, 10, 11, 12, 13, 14, 15, 16, 17, 18] [] [0, 1, 2, 3, 4, 5, 6, 7, 8, 9, 10, 11, 12, 13, 14, 15, 16, 17, 18] cu_C50 rfl cu_R50 rfl (by decide) (cu_J50 (S0 := S0)) rfl (ct_X9_no l G a S0 r_11 P_12 h_13) rfl rfl rfl kw_17_2 kw_16_23 kw_17_0 kw_17_1 kw_1_5 hd_X9_no ⟨by decide, by decide⟩ hl.1 rfl (Nat.le_of_ble_eq_true rfl) ⟨Nat.zero_le _, Nat.zero_le _⟩ dX9_back_8 (fun H locs X => ?_)
    refine W.eq (g2 := F0 m 11 ls [.int r_11]) rfl ?_
    obtain ⟨rfl, rfl⟩ := so_2 hf
    exact x_iret (pc := 11) C0 X dX9_back_11
theorem hd_X9_counted : yX9_counted.cls ≠ "java/lang/invoke/MethodHandle" ∧ yX9_counted.cls ≠ "java/lang/invoke/VarHandle" ∧ (parseMethodDescriptor yX9_counted.desc).map (fun d => d.parameters.length) = some 1 := by decide +kernel
set_option maxHeartbeats 4000000 in
set_option maxRecDepth 100000 in
theorem ct_X9_counted (l : Launch) (G : xG) (a : Nat → Nat) (S0 : tt_Model) (x1 : Int32) (ro : Int32) (hf : fn_X9_counted S0 x1 = some ro) : xM l yX9_counted cX9_counted 2 (some .int) 1 20 G [.ref (a 0), .int x1] (wd_Model G a S0) (wd_Model G a S0) (some (.int ro)) := by
  refine xMi (by decide) (Nat.le_of_ble_eq_true rfl) ?_
  intro p e s m below meth c A C0 KN hA X ls hl
  have hx := C0.1
  have hb := C0.2.1
  have C0 : xC p s m meth c cX9_counted 2 (some .int) RX9 _ := C0
  have hl : lv_has ls 2 [(0, .ref (a 0)), (1, .int x1)] := hl
  unfold fn_X9_counted at hf
  refine lv_iload_n (pc := 0) hx hb dX9_counted_0 rfl (lv_at hl 1 rfl) ?_
  by_cases c_1 : x1 = 3
  · have hf := it_p hf c_1
    refine lv_tableIn (pc := 1) (tgt := 36) hx hb dX9_counted_1 (by rw [c_1]; decide) (by rw [c_1]; decide) (by rw [c_1]; rfl) (by decide) ?_
    refine lv_aload_n (pc := 36) hx hb dX9_counted_36 rfl (lv_at hl 0 rfl) ?_
    refine x_get (pc := 37) (ci := 9) C0 KN X 0 rfl rfl inlX9 23 (by decide) kw_28_4 rfl dX9_counted_37 ?_
    refine W.eq (g2 := F0 m 40 ls [.int (gf_Model_textLong S0)]) rfl ?_
    obtain rfl := so_1 hf
    exact x_iret (pc := 40) C0 X dX9_counted_40
  · have hf := it_n hf c_1
    by_cases c_2 : x1 = 4
    · have hf := it_p hf c_2
      refine lv_tableIn (pc := 1) (tgt := 41) hx hb dX9_counted_1 (by rw [c_2]; decide) (by rw [c_2]; decide) (by rw [c_2]; rfl) (by decide) ?_
      refine lv_aload_n (pc := 41) hx hb dX9_counted_41 rfl (lv_at hl 0 rfl) ?_
      obtain ⟨r_3, h_4, hf⟩ := bd_e hf
      refine x_cv (pc := 42) (ws' := wd_Model G a S0) (As := []) (rest := []) (ci := 9) (qr := 0) C0 KN X hA [0, 1, 2, 3, 4, 5, 6, 7, 8, 9, 10, 11, 12, 13, 14, 15, 16, 17, 18] [] [0, 1, 2, 3, 4, 5, 6, 7, 8, 9, 10, 11, 12, 13, 14, 15, 16, 17, 18] cu_C49 rfl cu_R49 rfl (by decide) (cu_J49 (S0 := S0)) rfl (ct_X9_many l G a S0 r_3 h_4) rfl rfl rfl kw_11_5 kw_11_2 kw_11_3 kw_11_4 kw_1_5 hd_X9_many ⟨by decide, by decide⟩ hl.1 rfl (Nat.le_of_ble_eq_true rfl) ⟨Nat.zero_le _, Nat.zero_le _⟩ dX9_counted_42 (fun H locs X => ?_)
      refine W.eq (g2 := F0 m 45 ls [.int r_3]) rfl ?_
      obtain rfl := so_1 hf
      exact x_iret (pc := 45) C0 X dX9_counted_45
    · have hf := it_n hf c_2
      by_cases c_5 : x1 = 5
      · have hf := it_p hf c_5
        refine lv_tableIn (pc := 1) (tgt := 46) hx hb dX9_counted_1 (by rw [c_5]; decide) (by rw [c_5]; decide) (by rw [c_5]; rfl) (by decide) ?_
        refine lv_aload_n (pc := 46) hx hb dX9_counted_46 rfl (lv_at hl 0 rfl) ?_
        obtain ⟨r_6, h_7, hf⟩ := bd_e hf
        refine x_cv (pc := 47) (ws' := wd_Model G a S0) (As := []) (rest := []) (ci := 9) (qr := 0) C0 KN X hA [0, 1, 2, 3, 4, 5, 6, 7, 8, 9, 10, 11, 12, 13, 14, 15, 16, 17, 18] [] [0, 1, 2, 3, 4, 5, 6, 7, 8, 9, 10, 11, 12, 13, 14, 15, 16, 17, 18] cu_C49 rfl cu_R49 rfl (by decide) (cu_J49 (S0 := S0)) rfl (ct_X9_depth l G a S0 r_6 h_7) rfl rfl rfl kw_12_6 kw_12_3 kw_12_4 kw_12_5 kw_1_5 hd_X9_depth ⟨by decide, by decide⟩ hl.1 rfl (Nat.le_of_ble_eq_true rfl) ⟨Nat.zero_le _, Nat.zero_le _⟩ dX9_counted_47 (fun H locs X => ?_)
        refine W.eq (g2 := F0 m 50 ls [.int r_6]) rfl ?_
        obtain rfl := so_1 hf
        exact x_iret (pc := 50) C0 X dX9_counted_50
      · have hf := it_n hf c_5
        by_cases c_8 : x1 = 6
        · have hf := it_p hf c_8
          refine lv_tableIn (pc := 1) (tgt := 51) hx hb dX9_counted_1 (by rw [c_8]; decide) (by rw [c_8]; decide) (by rw [c_8]; rfl) (by decide) ?_
          refine lv_aload_n (pc := 51) hx hb dX9_counted_51 rfl (lv_at hl 0 rfl) ?_
          obtain ⟨r_9, h_10, hf⟩ := bd_e hf
          refine x_cv (pc := 52) (ws' := wd_Model G a S0) (As := []) (rest := []) (ci := 9) (qr := 0) C0 KN X hA [0, 1, 2, 3, 4, 5, 6, 7, 8, 9, 10, 11, 12, 13, 14, 15, 16, 17, 18] [] [0, 1, 2, 3, 4, 5, 6, 7, 8, 9, 10, 11, 12, 13, 14, 15, 16, 17, 18] cu_C49 rfl cu_R49 rfl (by decide) (cu_J49 (S0 := S0)) rfl (ct_X9_guesser l G a S0 r_9 h_10) rfl rfl rfl kw_12_10 kw_12_7 kw_12_8 kw_12_9 kw_1_5 hd_X9_guesser ⟨by decide, by decide⟩ hl.1 rfl (Nat.le_of_ble_eq_true rfl) ⟨Nat.zero_le _, Nat.zero_le _⟩ dX9_counted_52 (fun H locs X => ?_)
          refine W.eq (g2 := F0 m 55 ls [.int r_9]) rfl ?_
          obtain rfl := so_1 hf
          exact x_iret (pc := 55) C0 X dX9_counted_55
        · have hf := it_n hf c_8
          by_cases c_11 : x1 = 7
          · have hf := it_p hf c_11
            refine lv_tableIn (pc := 1) (tgt := 56) hx hb dX9_counted_1 (by rw [c_11]; decide) (by rw [c_11]; decide) (by rw [c_11]; rfl) (by decide) ?_
            refine lv_aload_n (pc := 56) hx hb dX9_counted_56 rfl (lv_at hl 0 rfl) ?_
            refine x_get (pc := 57) (ci := 9) C0 KN X 0 rfl rfl inlX9 2 (by decide) kw_11_14 rfl dX9_counted_57 ?_
            refine W.eq (g2 := F0 m 60 ls [.int (gf_Model_states S0)]) rfl ?_
            obtain rfl := so_1 hf
            exact x_iret (pc := 60) C0 X dX9_counted_60
          · have hf := it_n hf c_11
            have nc_1 := sw_ne c_1
            have nc_2 := sw_ne c_2
            have nc_5 := sw_ne c_5
            have nc_8 := sw_ne c_8
            have nc_11 := sw_ne c_11
            refine lv_tableOut (pc := 1) (tgt := 61) hx hb dX9_counted_1 (by rw [sw_3] at nc_1; rw [sw_4] at nc_2; rw [sw_5] at nc_5; rw [sw_6] at nc_8; rw [sw_7] at nc_11; omega) (by decide) ?_
            refine lv_aload_n (pc := 61) hx hb dX9_counted_61 rfl (lv_at hl 0 rfl) ?_
            refine x_get (pc := 62) (ci := 9) C0 KN X 0 rfl rfl inlX9 3 (by decide) kw_7_11 rfl dX9_counted_62 ?_
            refine lv_iload_n (pc := 65) hx hb dX9_counted_65 rfl (lv_at hl 1 rfl) ?_
            obtain ⟨g_12, hf⟩ := gd_e hf
            refine x_ald (pc := 66) C0 KN X 3 rfl g_12 dX9_counted_66 ?_
            refine W.eq (g2 := F0 m 67 ls [.int ((gf_Model_refused S0) x1.toNatClampNeg)]) rfl ?_
            obtain rfl := so_1 hf
            exact x_iret (pc := 67) C0 X dX9_counted_67
theorem hd_X9_count : yX9_count.cls ≠ "java/lang/invoke/MethodHandle" ∧ yX9_count.cls ≠ "java/lang/invoke/VarHandle" ∧ (parseMethodDescriptor yX9_count.desc).map (fun d => d.parameters.length) = some 1 := by decide +kernel
set_option maxHeartbeats 4000000 in
set_option maxRecDepth 100000 in
theorem ct_X9_count (l : Launch) (G : xG) (a : Nat → Nat) (S0 : tt_Model) (x1 : Int32) (ro : Int32) (So0 : tt_Model) (hf : fn_X9_count S0 x1 = some (ro, So0)) : xM l yX9_count cX9_count 2 (some .int) 2 41 G [.ref (a 0), .int x1] (wd_Model G a S0) (wd_Model G a So0) (some (.int ro)) := by
  refine xMi (by decide) (Nat.le_of_ble_eq_true rfl) ?_
  intro p e s m below meth c A C0 KN hA X ls hl
  have hx := C0.1
  have hb := C0.2.1
  have C0 : xC p s m meth c cX9_count 2 (some .int) RX9 _ := C0
  have hl : lv_has ls 2 [(0, .ref (a 0)), (1, .int x1)] := hl
  unfold fn_X9_count at hf
  refine lv_iload_n (pc := 0) hx hb dX9_count_0 rfl (lv_at hl 1 rfl) ?_
  refine lv_i2l (pc := 1) (v := x1.toInt64) hx hb dX9_count_1 rfl ?_
  refine lv_lconst (pc := 2) (v := 0) hx hb dX9_count_2 (by decide) ?_
  refine x_ldc2 (pc := 3) C0 kw_32_21 dX9_count_3 ?_
  obtain ⟨r_1, h_2, hf⟩ := bd_e hf
  refine x_cs (pc := 6) (As := [.long x1.toInt64, .long (0 : Int64), .long (7 : Int64)]) (rest := []) C0 (ct_X9_in l x1.toInt64 (0 : Int64) (7 : Int64) r_1 h_2) kw_10_21 kw_10_19 kw_10_20 kw_1_5 hd_X9_in ⟨by decide, by decide⟩ hl.1 rfl (Nat.le_of_ble_eq_true rfl) ⟨Nat.zero_le _, Nat.zero_le _⟩ dX9_count_6 ?_
  refine W.eq (g2 := F0 m 9 ls [.int r_1]) rfl ?_
  refine lv_if_eq (pc := 9) (tgt := 20) hx hb dX9_count_9 (by decide) (fun c_3 => ?_) (fun c_3 => ?_)
  · have hf := it_p hf c_3
    refine lv_aload_n (pc := 20) hx hb dX9_count_20 rfl (lv_at hl 0 rfl) ?_
    refine lv_bipush (pc := 21) (v := (-2)) hx hb dX9_count_21 (by decide) ?_
    obtain ⟨r_4, P_5, h_6, hf⟩ := b2_e hf
    refine x_cv (pc := 23) (ws' := wd_Model G a P_5) (As := [.int (-2 : Int32)]) (rest := []) (ci := 9) (qr := 0) C0 KN X hA [0, 1, 2, 3, 4, 5, 6, 7, 8, 9, 10, 11, 12, 13, 14, 15, 16, 17, 18] [] [0, 1, 2, 3, 4, 5, 6, 7, 8, 9, 10, 11, 12, 13, 14, 15, 16, 17, 18] cu_C50 rfl cu_R50 rfl (by decide) (cu_J50 (S0 := S0)) rfl (ct_X9_bad l G a S0 (-2 : Int32) r_4 P_5 h_6) rfl rfl rfl kw_11_1 kw_10_22 kw_10_23 kw_11_0 kw_1_5 hd_X9_bad ⟨by decide, by decide⟩ hl.1 rfl (Nat.le_of_ble_eq_true rfl) ⟨Nat.zero_le _, Nat.zero_le _⟩ dX9_count_23 (fun H locs X => ?_)
    refine W.eq (g2 := F0 m 26 ls [.int r_4]) rfl ?_
    obtain ⟨rfl, rfl⟩ := so_2 hf
    exact x_iret (pc := 26) C0 X dX9_count_26
  · have hf := it_n hf c_3
    refine lv_aload_n (pc := 12) hx hb dX9_count_12 rfl (lv_at hl 0 rfl) ?_
    refine lv_iload_n (pc := 13) hx hb dX9_count_13 rfl (lv_at hl 1 rfl) ?_
    obtain ⟨r_7, h_8, hf⟩ := bd_e hf
    refine x_cv (pc := 14) (ws' := wd_Model G a S0) (As := [.int x1]) (rest := []) (ci := 9) (qr := 0) C0 KN X hA [0, 1, 2, 3, 4, 5, 6, 7, 8, 9, 10, 11, 12, 13, 14, 15, 16, 17, 18] [] [0, 1, 2, 3, 4, 5, 6, 7, 8, 9, 10, 11, 12, 13, 14, 15, 16, 17, 18] cu_C49 rfl cu_R49 rfl (by decide) (cu_J49 (S0 := S0)) rfl (ct_X9_counted l G a S0 x1 r_7 h_8) rfl rfl rfl kw_33_1 kw_32_22 kw_32_23 kw_33_0 kw_1_5 hd_X9_counted ⟨by decide, by decide⟩ hl.1 rfl (Nat.le_of_ble_eq_true rfl) ⟨Nat.zero_le _, Nat.zero_le _⟩ dX9_count_14 (fun H locs X => ?_)
    refine W.eq (g2 := F0 m 17 ls [.int r_7]) rfl ?_
    refine lv_goto (pc := 17) (tgt := 26) hx hb dX9_count_17 (by decide) ?_
    obtain ⟨rfl, rfl⟩ := so_2 hf
    exact x_iret (pc := 26) C0 X dX9_count_26
set_option maxHeartbeats 4000000 in
set_option maxRecDepth 100000 in
theorem lb_X9_digest_6 {l : Launch} {p : Program} {e : Env} {s : State} {m : MethodId} {args : Array Value} {below : List Frame} {meth : Method} {c : Code} {G : xG} {A : Nat → Prop} {a : Nat → Nat} (C0 : xC p s m meth c cX9_digest 4 (some .long) RX9 args) (KN : xKN G s) (hA : ∀ q, s.heap.size ≤ q → A q) (ro : Int64) (So0 : tt_Model) (k31 : tt_Model → Int64 → Option (Int64 × tt_Model)) (hk31 : ∀ (S0 : tt_Model) (x1 : Int64), k31 S0 x1 = some (ro, So0) → ∀ (H : Heap) (locs : List Loc) (ls : Array Slot), xS G A s.heap (wd_Model G a S0) H locs → lv_has ls 4 [(0, .ref (a 0)), (1, .long x1)] → W p l e ({ frames := 7, cells := 0, slots := 0, locals := 161 }) s m args below meth c H locs 0 0 (MQ below (xQo G (some (.long ro)) A (wd_Model G a So0)) args s 0 0 A) (F0 m 31 ls [])) : ∀ (n : Nat) (S0 : tt_Model) (x1 : Int64) (x3 : Int32), fl_X9_digest_6 k31 n S0 x1 x3 = some (ro, So0) → ∀ (H : Heap) (locs : List Loc) (ls : Array Slot), xS G A s.heap (wd_Model G a S0) H locs → lv_has ls 4 [(0, .ref (a 0)), (1, .long x1), (3, .int x3)] → W p l e ({ frames := 7, cells := 0, slots := 0, locals := 161 }) s m args below meth c H locs 0 0 (MQ below (xQo G (some (.long ro)) A (wd_Model G a So0)) args s 0 0 A) (F0 m 6 ls []) := by
  have hx := C0.1
  have hb := C0.2.1
  intro n
  induction n with
  | zero =>
    intro S0 x1 x3 hf
    have hf : none = some (ro, So0) := hf
    cases hf
  | succ n ih =>
    intro S0 x1 x3 hf H locs ls X hl
    rw [fl_X9_digest_6] at hf
    refine lv_iload_n (pc := 6) hx hb dX9_digest_6 rfl (lv_at hl 2 rfl) ?_
    refine lv_bipush (pc := 7) (v := 8) hx hb dX9_digest_7 (by decide) ?_
    refine lv_icmp_ge (pc := 9) (tgt := 31) hx hb dX9_digest_9 (by decide) (fun c_1 => ?_) (fun c_1 => ?_)
    · have hf := it_p hf c_1
      exact hk31 _ _ hf _ _ _ X (lv_sub hl [0, 1] rfl)
    · have hf := it_n hf c_1
      refine x_ldc2 (pc := 12) C0 kw_33_17 dX9_digest_12 ?_
      refine lv_lload_n (pc := 15) hx hb dX9_digest_15 rfl (lv_at hl 1 rfl) ?_
      refine lv_lmul (pc := 16) hx hb dX9_digest_16 ?_
      refine lv_aload_n (pc := 17) hx hb dX9_digest_17 rfl (lv_at hl 0 rfl) ?_
      refine lv_iload_n (pc := 18) hx hb dX9_digest_18 rfl (lv_at hl 2 rfl) ?_
      obtain ⟨r_2, h_3, hf⟩ := bd_e hf
      refine x_cv (pc := 19) (ws' := wd_Model G a S0) (As := [.int x3]) (rest := [.long ((31 : Int64) * x1)]) (ci := 9) (qr := 0) C0 KN X hA [0, 1, 2, 3, 4, 5, 6, 7, 8, 9, 10, 11, 12, 13, 14, 15, 16, 17, 18] [] [0, 1, 2, 3, 4, 5, 6, 7, 8, 9, 10, 11, 12, 13, 14, 15, 16, 17, 18] cu_C49 rfl cu_R49 rfl (by decide) (cu_J49 (S0 := S0)) rfl (ct_X9_counted l G a S0 x3 r_2 h_3) rfl rfl rfl kw_33_1 kw_32_22 kw_32_23 kw_33_0 kw_1_5 hd_X9_counted ⟨by decide, by decide⟩ hl.1 rfl (Nat.le_of_ble_eq_true rfl) ⟨Nat.zero_le _, Nat.zero_le _⟩ dX9_digest_19 (fun H locs X => ?_)
      refine W.eq (g2 := F0 m 22 ls [.int r_2, .long ((31 : Int64) * x1)]) rfl ?_
      refine lv_i2l (pc := 22) (v := r_2.toInt64) hx hb dX9_digest_22 rfl ?_
      refine lv_ladd (pc := 23) hx hb dX9_digest_23 ?_
      refine lv_topl (fun y_4 ey_4 => ?_)
      have hf := lt_sb hf ey_4
      refine lv_lstore_n (pc := 24) (lv' := [(1, .long y_4), (0, .ref (a 0)), (3, .int x3)]) hx hb dX9_digest_24 rfl hl (by decide) rfl (fun ls hl => ?_)
      obtain ⟨y_5, ey_5⟩ : ∃ y : Int32, y = x3 + (1 : Int32) := ⟨_, rfl⟩
      have hf := lt_sb hf ey_5
      refine lv_iinc (pc := 25) (v := y_5) (lv' := [(3, .int y_5), (1, .long y_4), (0, .ref (a 0))]) hx hb dX9_digest_25 hl (k := 2) rfl (by rw [ey_5]; rfl) (by decide) rfl (fun ls hl => ?_)
      refine lv_goto (pc := 28) (tgt := 6) hx hb dX9_digest_28 (by decide) ?_
      exact ih _ _ _ hf _ _ _ X (lv_sub hl [2, 1, 0] rfl)
set_option maxHeartbeats 4000000 in
set_option maxRecDepth 100000 in
theorem lb_X9_digest_33 {l : Launch} {p : Program} {e : Env} {s : State} {m : MethodId} {args : Array Value} {below : List Frame} {meth : Method} {c : Code} {G : xG} {A : Nat → Prop} {a : Nat → Nat} (C0 : xC p s m meth c cX9_digest 4 (some .long) RX9 args) (KN : xKN G s) (hA : ∀ q, s.heap.size ≤ q → A q) (ro : Int64) (So0 : tt_Model) (k61 : tt_Model → Int64 → Option (Int64 × tt_Model)) (hk61 : ∀ (S0 : tt_Model) (x1 : Int64), k61 S0 x1 = some (ro, So0) → ∀ (H : Heap) (locs : List Loc) (ls : Array Slot), xS G A s.heap (wd_Model G a S0) H locs → lv_has ls 4 [(0, .ref (a 0)), (1, .long x1)] → W p l e ({ frames := 7, cells := 0, slots := 0, locals := 161 }) s m args below meth c H locs 0 0 (MQ below (xQo G (some (.long ro)) A (wd_Model G a So0)) args s 0 0 A) (F0 m 61 ls [])) : ∀ (n : Nat) (S0 : tt_Model) (x1 : Int64) (x3 : Int32), fl_X9_digest_33 k61 n S0 x1 x3 = some (ro, So0) → ∀ (H : Heap) (locs : List Loc) (ls : Array Slot), xS G A s.heap (wd_Model G a S0) H locs → lv_has ls 4 [(0, .ref (a 0)), (1, .long x1), (3, .int x3)] → W p l e ({ frames := 7, cells := 0, slots := 0, locals := 161 }) s m args below meth c H locs 0 0 (MQ below (xQo G (some (.long ro)) A (wd_Model G a So0)) args s 0 0 A) (F0 m 33 ls []) := by
  have hx := C0.1
  have hb := C0.2.1
  intro n
  induction n with
  | zero =>
    intro S0 x1 x3 hf
    have hf : none = some (ro, So0) := hf
    cases hf
  | succ n ih =>
    intro S0 x1 x3 hf H locs ls X hl
    rw [fl_X9_digest_33] at hf
    refine lv_iload_n (pc := 33) hx hb dX9_digest_33 rfl (lv_at hl 2 rfl) ?_
    refine lv_aload_n (pc := 34) hx hb dX9_digest_34 rfl (lv_at hl 0 rfl) ?_
    obtain ⟨r_7, h_8, hf⟩ := bd_e hf
    refine x_cv (pc := 35) (ws' := wd_Model G a S0) (As := []) (rest := [.int x3]) (ci := 9) (qr := 0) C0 KN X hA [0, 1, 2, 3, 4, 5, 6, 7, 8, 9, 10, 11, 12, 13, 14, 15, 16, 17, 18] [] [0, 1, 2, 3, 4, 5, 6, 7, 8, 9, 10, 11, 12, 13, 14, 15, 16, 17, 18] cu_C49 rfl cu_R49 rfl (by decide) (cu_J49 (S0 := S0)) rfl (ct_X9_many l G a S0 r_7 h_8) rfl rfl rfl kw_11_5 kw_11_2 kw_11_3 kw_11_4 kw_1_5 hd_X9_many ⟨by decide, by decide⟩ hl.1 rfl (Nat.le_of_ble_eq_true rfl) ⟨Nat.zero_le _, Nat.zero_le _⟩ dX9_digest_35 (fun H locs X => ?_)
    refine W.eq (g2 := F0 m 38 ls [.int r_7, .int x3]) rfl ?_
    refine lv_icmp_ge (pc := 38) (tgt := 61) hx hb dX9_digest_38 (by decide) (fun c_9 => ?_) (fun c_9 => ?_)
    · have hf := it_p hf c_9
      exact hk61 _ _ hf _ _ _ X (lv_sub hl [0, 1] rfl)
    · have hf := it_n hf c_9
      refine x_ldc2 (pc := 41) C0 kw_33_17 dX9_digest_41 ?_
      refine lv_lload_n (pc := 44) hx hb dX9_digest_44 rfl (lv_at hl 1 rfl) ?_
      refine lv_lmul (pc := 45) hx hb dX9_digest_45 ?_
      refine lv_aload_n (pc := 46) hx hb dX9_digest_46 rfl (lv_at hl 0 rfl) ?_
      refine x_get (pc := 47) (ci := 9) C0 KN X 0 rfl rfl inlX9 0 (by decide) kw_7_9 rfl dX9_digest_47 ?_
      refine lv_iload_n (pc := 50) hx hb dX9_digest_50 rfl (lv_at hl 2 rfl) ?_
      obtain ⟨g_10, hf⟩ := gd_e hf
      refine x_ald (pc := 51) C0 KN X 1 rfl g_10 dX9_digest_51 ?_
      refine W.eq (g2 := F0 m 52 ls [.int ((gf_Model_now S0) x3.toNatClampNeg), .long ((31 : Int64) * x1)]) rfl ?_
      refine lv_i2l (pc := 52) (v := ((gf_Model_now S0) x3.toNatClampNeg).toInt64) hx hb dX9_digest_52 rfl ?_
      refine lv_ladd (pc := 53) hx hb dX9_digest_53 ?_
      refine lv_topl (fun y_11 ey_11 => ?_)
      have hf := lt_sb hf ey_11
      refine lv_lstore_n (pc := 54) (lv' := [(1, .long y_11), (0, .ref (a 0)), (3, .int x3)]) hx hb dX9_digest_54 rfl hl (by decide) rfl (fun ls hl => ?_)
      obtain ⟨y_12, ey_12⟩ : ∃ y : Int32, y = x3 + (1 : Int32) := ⟨_, rfl⟩
      have hf := lt_sb hf ey_12
      refine lv_iinc (pc := 55) (v := y_12) (lv' := [(3, .int y_12), (1, .long y_11), (0, .ref (a 0))]) hx hb dX9_digest_55 hl (k := 2) rfl (by rw [ey_12]; rfl) (by decide) rfl (fun ls hl => ?_)
      refine lv_goto (pc := 58) (tgt := 33) hx hb dX9_digest_58 (by decide) ?_
      exact ih _ _ _ hf _ _ _ X (lv_sub hl [2, 1, 0] rfl)
set_option maxHeartbeats 4000000 in
set_option maxRecDepth 100000 in
theorem lb_X9_digest_104 {l : Launch} {p : Program} {e : Env} {s : State} {m : MethodId} {args : Array Value} {below : List Frame} {meth : Method} {c : Code} {G : xG} {A : Nat → Prop} {a : Nat → Nat} (C0 : xC p s m meth c cX9_digest 4 (some .long) RX9 args) (KN : xKN G s) (hA : ∀ q, s.heap.size ≤ q → A q) (ro : Int64) (So0 : tt_Model) (k132 : tt_Model → Int64 → Option (Int64 × tt_Model)) (hk132 : ∀ (S0 : tt_Model) (x1 : Int64), k132 S0 x1 = some (ro, So0) → ∀ (H : Heap) (locs : List Loc) (ls : Array Slot), xS G A s.heap (wd_Model G a S0) H locs → lv_has ls 4 [(0, .ref (a 0)), (1, .long x1)] → W p l e ({ frames := 7, cells := 0, slots := 0, locals := 161 }) s m args below meth c H locs 0 0 (MQ below (xQo G (some (.long ro)) A (wd_Model G a So0)) args s 0 0 A) (F0 m 132 ls [])) : ∀ (n : Nat) (S0 : tt_Model) (x1 : Int64) (x3 : Int32), fl_X9_digest_104 k132 n S0 x1 x3 = some (ro, So0) → ∀ (H : Heap) (locs : List Loc) (ls : Array Slot), xS G A s.heap (wd_Model G a S0) H locs → lv_has ls 4 [(0, .ref (a 0)), (1, .long x1), (3, .int x3)] → W p l e ({ frames := 7, cells := 0, slots := 0, locals := 161 }) s m args below meth c H locs 0 0 (MQ below (xQo G (some (.long ro)) A (wd_Model G a So0)) args s 0 0 A) (F0 m 104 ls []) := by
  have hx := C0.1
  have hb := C0.2.1
  intro n
  induction n with
  | zero =>
    intro S0 x1 x3 hf
    have hf : none = some (ro, So0) := hf
    cases hf
  | succ n ih =>
    intro S0 x1 x3 hf H locs ls X hl
    rw [fl_X9_digest_104] at hf
    refine lv_iload_n (pc := 104) hx hb dX9_digest_104 rfl (lv_at hl 2 rfl) ?_
    refine lv_aload_n (pc := 105) hx hb dX9_digest_105 rfl (lv_at hl 0 rfl) ?_
    refine x_get (pc := 106) (ci := 9) C0 KN X 0 rfl rfl inlX9 20 (by decide) kw_25_12 rfl dX9_digest_106 ?_
    refine W.eq (g2 := F0 m 109 ls [.int (gf_Model_outLong S0), .int x3]) rfl ?_
    refine lv_icmp_ge (pc := 109) (tgt := 132) hx hb dX9_digest_109 (by decide) (fun c_28 => ?_) (fun c_28 => ?_)
    · have hf := it_p hf c_28
      exact hk132 _ _ hf _ _ _ X (lv_sub hl [0, 1] rfl)
    · have hf := it_n hf c_28
      refine x_ldc2 (pc := 112) C0 kw_33_17 dX9_digest_112 ?_
      refine lv_lload_n (pc := 115) hx hb dX9_digest_115 rfl (lv_at hl 1 rfl) ?_
      refine lv_lmul (pc := 116) hx hb dX9_digest_116 ?_
      refine lv_aload_n (pc := 117) hx hb dX9_digest_117 rfl (lv_at hl 0 rfl) ?_
      refine x_get (pc := 118) (ci := 9) C0 KN X 0 rfl rfl inlX9 19 (by decide) kw_8_1 rfl dX9_digest_118 ?_
      refine lv_iload_n (pc := 121) hx hb dX9_digest_121 rfl (lv_at hl 2 rfl) ?_
      obtain ⟨g_29, hf⟩ := gd_e hf
      refine x_ald (pc := 122) C0 KN X 16 rfl g_29 dX9_digest_122 ?_
      refine W.eq (g2 := F0 m 123 ls [.int ((gf_Model_out S0) x3.toNatClampNeg), .long ((31 : Int64) * x1)]) rfl ?_
      refine lv_i2l (pc := 123) (v := ((gf_Model_out S0) x3.toNatClampNeg).toInt64) hx hb dX9_digest_123 rfl ?_
      refine lv_ladd (pc := 124) hx hb dX9_digest_124 ?_
      refine lv_topl (fun y_30 ey_30 => ?_)
      have hf := lt_sb hf ey_30
      refine lv_lstore_n (pc := 125) (lv' := [(1, .long y_30), (0, .ref (a 0)), (3, .int x3)]) hx hb dX9_digest_125 rfl hl (by decide) rfl (fun ls hl => ?_)
      obtain ⟨y_31, ey_31⟩ : ∃ y : Int32, y = x3 + (1 : Int32) := ⟨_, rfl⟩
      have hf := lt_sb hf ey_31
      refine lv_iinc (pc := 126) (v := y_31) (lv' := [(3, .int y_31), (1, .long y_30), (0, .ref (a 0))]) hx hb dX9_digest_126 hl (k := 2) rfl (by rw [ey_31]; rfl) (by decide) rfl (fun ls hl => ?_)
      refine lv_goto (pc := 129) (tgt := 104) hx hb dX9_digest_129 (by decide) ?_
      exact ih _ _ _ hf _ _ _ X (lv_sub hl [2, 1, 0] rfl)
theorem hd_X9_digest : yX9_digest.cls ≠ "java/lang/invoke/MethodHandle" ∧ yX9_digest.cls ≠ "java/lang/invoke/VarHandle" ∧ (parseMethodDescriptor yX9_digest.desc).map (fun d => d.parameters.length) = some 0 := by decide +kernel
set_option maxHeartbeats 4000000 in
set_option maxRecDepth 100000 in
theorem ct_X9_digest (l : Launch) (G : xG) (a : Nat → Nat) (S0 : tt_Model) (ro : Int64) (So0 : tt_Model) (hf : fn_X9_digest S0 = some (ro, So0)) : xM l yX9_digest cX9_digest 4 (some .long) 7 161 G [.ref (a 0)] (wd_Model G a S0) (wd_Model G a So0) (some (.long ro)) := by
  refine xMi (by decide) (Nat.le_of_ble_eq_true rfl) ?_
  intro p e s m below meth c A C0 KN hA X ls hl
  have hx := C0.1
  have hb := C0.2.1
  have C0 : xC p s m meth c cX9_digest 4 (some .long) RX9 _ := C0
  have hl : lv_has ls 4 [(0, .ref (a 0))] := hl
  unfold fn_X9_digest at hf
  refine x_ldc2 (pc := 0) C0 kw_33_16 dX9_digest_0 ?_
  refine lv_lstore_n (pc := 3) (lv' := [(1, .long (2113 : Int64)), (0, .ref (a 0))]) hx hb dX9_digest_3 rfl hl (by decide) rfl (fun ls hl => ?_)
  refine lv_iconst (pc := 4) (v := 0) hx hb dX9_digest_4 (by decide) ?_
  refine lv_istore_n (pc := 5) (lv' := [(3, .int (0 : Int32)), (1, .long (2113 : Int64)), (0, .ref (a 0))]) hx hb dX9_digest_5 rfl hl (by decide) rfl (fun ls hl => ?_)
  refine lb_X9_digest_6 C0 KN hA _ _ _ ?_ _ _ _ _ hf _ _ _ X (lv_sub hl [2, 1, 0] rfl)
  · intro S0_e31_6 x1_e31_6 hf H locs ls X hl
    refine lv_iconst (pc := 31) (v := 0) hx hb dX9_digest_31 (by decide) ?_
    refine lv_istore_n (pc := 32) (lv' := [(3, .int (0 : Int32)), (0, .ref (a 0)), (1, .long x1_e31_6)]) hx hb dX9_digest_32 rfl hl (by decide) rfl (fun ls hl => ?_)
    refine lb_X9_digest_33 C0 KN hA _ _ _ ?_ _ _ _ _ hf _ _ _ X (lv_sub hl [1, 2, 0] rfl)
    · intro S0_e61_13 x1_e61_13 hf H locs ls X hl
      refine x_ldc2 (pc := 61) C0 kw_33_17 dX9_digest_61 ?_
      refine lv_lload_n (pc := 64) hx hb dX9_digest_64 rfl (lv_at hl 1 rfl) ?_
      refine lv_lmul (pc := 65) hx hb dX9_digest_65 ?_
      refine lv_aload_n (pc := 66) hx hb dX9_digest_66 rfl (lv_at hl 0 rfl) ?_
      obtain ⟨r_14, P_15, h_16, hf⟩ := b2_e hf
      refine x_cv (pc := 67) (ws' := wd_Model G a P_15) (As := []) (rest := [.long ((31 : Int64) * x1_e61_13)]) (ci := 9) (qr := 0) C0 KN X hA [0, 1, 2, 3, 4, 5, 6, 7, 8, 9, 10, 11, 12, 13, 14, 15, 16, 17, 18] [] [0, 1, 2, 3, 4, 5, 6, 7, 8, 9, 10, 11, 12, 13, 14, 15, 16, 17, 18] cu_C50 rfl cu_R50 rfl (by decide) (cu_J50 (S0 := S0_e61_13)) rfl (ct_X9_guessNow l G a S0_e61_13 r_14 P_15 h_16) rfl rfl rfl kw_18_4 kw_18_1 kw_18_2 kw_18_3 kw_1_5 hd_X9_guessNow ⟨by decide, by decide⟩ hl.1 rfl (Nat.le_of_ble_eq_true rfl) ⟨Nat.zero_le _, Nat.zero_le _⟩ dX9_digest_67 (fun H locs X => ?_)
      refine W.eq (g2 := F0 m 70 ls [.int r_14, .long ((31 : Int64) * x1_e61_13)]) rfl ?_
      refine lv_i2l (pc := 70) (v := r_14.toInt64) hx hb dX9_digest_70 rfl ?_
      refine lv_ladd (pc := 71) hx hb dX9_digest_71 ?_
      refine lv_topl (fun y_17 ey_17 => ?_)
      have hf := lt_sb hf ey_17
      refine lv_lstore_n (pc := 72) (lv' := [(1, .long y_17), (0, .ref (a 0))]) hx hb dX9_digest_72 rfl hl (by decide) rfl (fun ls hl => ?_)
      refine x_ldc2 (pc := 73) C0 kw_33_17 dX9_digest_73 ?_
      refine lv_lload_n (pc := 76) hx hb dX9_digest_76 rfl (lv_at hl 0 rfl) ?_
      refine lv_lmul (pc := 77) hx hb dX9_digest_77 ?_
      refine lv_aload_n (pc := 78) hx hb dX9_digest_78 rfl (lv_at hl 1 rfl) ?_
      obtain ⟨r_18, P_19, h_20, hf⟩ := b2_e hf
      refine x_cv (pc := 79) (ws' := wd_Model G a P_19) (As := []) (rest := [.long ((31 : Int64) * y_17)]) (ci := 9) (qr := 0) C0 KN X hA [0, 1, 2, 3, 4, 5, 6, 7, 8, 9, 10, 11, 12, 13, 14, 15, 16, 17, 18] [] [0, 1, 2, 3, 4, 5, 6, 7, 8, 9, 10, 11, 12, 13, 14, 15, 16, 17, 18] cu_C50 rfl cu_R50 rfl (by decide) (cu_J50 (S0 := P_15)) rfl (ct_X9_goesNow l G a P_15 r_18 P_19 h_20) rfl rfl rfl kw_12_2 kw_11_23 kw_12_0 kw_12_1 kw_1_5 hd_X9_goesNow ⟨by decide, by decide⟩ hl.1 rfl (Nat.le_of_ble_eq_true rfl) ⟨Nat.zero_le _, Nat.zero_le _⟩ dX9_digest_79 (fun H locs X => ?_)
      refine W.eq (g2 := F0 m 82 ls [.int r_18, .long ((31 : Int64) * y_17)]) rfl ?_
      refine lv_i2l (pc := 82) (v := r_18.toInt64) hx hb dX9_digest_82 rfl ?_
      refine lv_ladd (pc := 83) hx hb dX9_digest_83 ?_
      refine lv_topl (fun y_21 ey_21 => ?_)
      have hf := lt_sb hf ey_21
      refine lv_lstore_n (pc := 84) (lv' := [(1, .long y_21), (0, .ref (a 0))]) hx hb dX9_digest_84 rfl hl (by decide) rfl (fun ls hl => ?_)
      refine x_ldc2 (pc := 85) C0 kw_33_17 dX9_digest_85 ?_
      refine lv_lload_n (pc := 88) hx hb dX9_digest_88 rfl (lv_at hl 0 rfl) ?_
      refine lv_lmul (pc := 89) hx hb dX9_digest_89 ?_
      refine lv_aload_n (pc := 90) hx hb dX9_digest_90 rfl (lv_at hl 1 rfl) ?_
      refine lv_iconst (pc := 91) (v := 0) hx hb dX9_digest_91 (by decide) ?_
      obtain ⟨r_22, P_23, h_24, hf⟩ := b2_e hf
      refine x_cv (pc := 92) (ws' := wd_Model G a P_23) (As := [.int (0 : Int32)]) (rest := [.long ((31 : Int64) * y_21)]) (ci := 9) (qr := 0) C0 KN X hA [0, 1, 2, 3, 4, 5, 6, 7, 8, 9, 10, 11, 12, 13, 14, 15, 16, 17, 18] [] [0, 1, 2, 3, 4, 5, 6, 7, 8, 9, 10, 11, 12, 13, 14, 15, 16, 17, 18] cu_C50 rfl cu_R50 rfl (by decide) (cu_J50 (S0 := P_19)) rfl (ct_X9_treeOf l G a P_19 (0 : Int32) r_22 P_23 h_24) rfl rfl rfl kw_23_2 kw_22_23 kw_23_0 kw_23_1 kw_1_5 hd_X9_treeOf ⟨by decide, by decide⟩ hl.1 rfl (Nat.le_of_ble_eq_true rfl) ⟨Nat.zero_le _, Nat.zero_le _⟩ dX9_digest_92 (fun H locs X => ?_)
      refine W.eq (g2 := F0 m 95 ls [.int r_22, .long ((31 : Int64) * y_21)]) rfl ?_
      refine lv_i2l (pc := 95) (v := r_22.toInt64) hx hb dX9_digest_95 rfl ?_
      refine lv_ladd (pc := 96) hx hb dX9_digest_96 ?_
      refine lv_topl (fun y_25 ey_25 => ?_)
      have hf := lt_sb hf ey_25
      refine lv_lstore_n (pc := 97) (lv' := [(1, .long y_25), (0, .ref (a 0))]) hx hb dX9_digest_97 rfl hl (by decide) rfl (fun ls hl => ?_)
      refine lv_aload_n (pc := 98) hx hb dX9_digest_98 rfl (lv_at hl 1 rfl) ?_
      obtain ⟨P_26, h_27, hf⟩ := bd_e hf
      refine x_cv (pc := 99) (ws' := wd_Model G a P_26) (As := []) (rest := []) (ci := 9) (qr := 0) C0 KN X hA [0, 1, 2, 3, 4, 5, 6, 7, 8, 9, 10, 11, 12, 13, 14, 15, 16, 17, 18] [] [0, 1, 2, 3, 4, 5, 6, 7, 8, 9, 10, 11, 12, 13, 14, 15, 16, 17, 18] cu_C50 rfl cu_R50 rfl (by decide) (cu_J50 (S0 := P_23)) rfl (ct_X9_writes l G a P_23 P_26 h_27) rfl rfl rfl kw_25_16 kw_25_13 kw_25_14 kw_25_15 kw_1_5 hd_X9_writes ⟨by decide, by decide⟩ hl.1 rfl (Nat.le_of_ble_eq_true rfl) ⟨Nat.zero_le _, Nat.zero_le _⟩ dX9_digest_99 (fun H locs X => ?_)
      refine W.eq (g2 := F0 m 102 ls []) rfl ?_
      refine lv_iconst (pc := 102) (v := 0) hx hb dX9_digest_102 (by decide) ?_
      refine lv_istore_n (pc := 103) (lv' := [(3, .int (0 : Int32)), (1, .long y_25), (0, .ref (a 0))]) hx hb dX9_digest_103 rfl hl (by decide) rfl (fun ls hl => ?_)
      refine lb_X9_digest_104 C0 KN hA _ _ _ ?_ _ _ _ _ hf _ _ _ X (lv_sub hl [2, 1, 0] rfl)
      · intro S0_e132_32 x1_e132_32 hf H locs ls X hl
        refine lv_lload_n (pc := 132) hx hb dX9_digest_132 rfl (lv_at hl 1 rfl) ?_
        obtain ⟨rfl, rfl⟩ := so_2 hf
        exact x_lret (pc := 133) C0 X dX9_digest_133
