def fn_X9_sign (S0 : tt_Model) (x1 : Int32) : Option (Int32 × tt_Model) :=
  bd_ (fn_X9_in x1.toInt64 (0 : Int64) (1 : Int64)) fun r_1 => if r_1 = 0 then b2_ (fn_X9_bad S0 (-2 : Int32)) fun r_19 P_20 => some (r_19, P_20) else bd_ (fn_X9_many S0) fun r_4 => if r_4 = (100 : Int32) then b2_ (fn_X9_full S0) fun r_16 P_17 => some (r_16, P_17) else bd_ (fn_X9_keep S0) fun P_7 => bd_ (fn_X9_adds P_7 x1) fun P_9 => bd_ (fn_X9_many P_9) fun r_11 => b2_ (fn_X9_costFrom P_9 (r_11 - (1 : Int32))) fun r_13 P_14 => some (r_13, P_14)
def fl_X9_signs_48 (k71 : tt_Model → Int32 → Option (Int32 × tt_Model)) : Nat → tt_Model → Int64 → Int32 → Int32 → Int32 → Option (Int32 × tt_Model)
  | 0, _, _, _, _, _ => none
  | n + 1, S0, x1, x3, x4, x5 =>
  if x3 ≤ x5 then k71 S0 x4 else bd_ (fn_X9_adds S0 (((x1 >>> (x5.toInt64 &&& 63)) &&& (1 : Int64)).toInt32)) fun P_12 => lt_ (x5 + (1 : Int32)) fun y_14 => fl_X9_signs_48 k71 n P_12 x1 x3 x4 y_14
def fn_X9_signs (S0 : tt_Model) (x1 : Int64) (x3 : Int32) : Option (Int32 × tt_Model) :=
  bd_ (fn_X9_in x3.toInt64 (1 : Int64) (64 : Int64)) fun r_1 => if r_1 = 0 then b2_ (fn_X9_bad S0 (-2 : Int32)) fun r_22 P_23 => some (r_22, P_23) else bd_ (fn_X9_many S0) fun r_4 => if (r_4 + x3) ≤ (100 : Int32) then bd_ (fn_X9_many S0) fun r_7 => bd_ (fn_X9_keep S0) fun P_9 => fl_X9_signs_48 (fun (S0_e71_15 : tt_Model) (x4_e71_15 : Int32) => b2_ (fn_X9_costFrom S0_e71_15 x4_e71_15) fun r_16 P_17 => some (r_16, P_17)) fu_ P_9 x1 x3 r_7 (0 : Int32) else b2_ (fn_X9_full S0) fun r_19 P_20 => some (r_19, P_20)
def fn_X9_draw_36 (S0 : tt_Model) : Option (Int32 × tt_Model) :=
  b2_ (fn_X9_bad S0 (-2 : Int32)) fun r_4 P_5 => some (r_4, P_5)
def fn_X9_draw_116 (k73 : tt_Model → Int32 → Int32 → Int64 → Int32 → Int32 → Option (Int32 × tt_Model)) (S0 : tt_Model) (x2 : Int32) (x3 : Int32) (x4 : Int64) (x6 : Int32) (x7 : Int32) (t0 : Int32) : Option (Int32 × tt_Model) :=
  bd_ (fn_X9_adds S0 t0) fun P_22 => lt_ (x6 + t0) fun y_24 => lt_ (x7 + (1 : Int32)) fun y_25 => k73 P_22 x2 x3 x4 y_24 y_25
def fl_X9_draw_73 (k137 : tt_Model → Int32 → Option (Int32 × tt_Model)) : Nat → tt_Model → Int32 → Int32 → Int64 → Int32 → Int32 → Option (Int32 × tt_Model)
  | 0, _, _, _, _, _, _ => none
  | n + 1, S0, x2, x3, x4, x6, x7 =>
  if x2 ≤ x7 then k137 S0 x6 else lt_ (((x4 * (1103515245 : Int64)) + (12345 : Int64)) - ((x4 * (1103515245 : Int64)) + (12345 : Int64)) / (2147483648 : Int64) * (2147483648 : Int64)) fun y_20 => if x3.toInt64 ≤ ((y_20 / (65536 : Int64)) - (y_20 / (65536 : Int64)) / (100 : Int64) * (100 : Int64)) then fn_X9_draw_116 (fl_X9_draw_73 k137 n) S0 x2 x3 y_20 x6 x7 (0 : Int32) else fn_X9_draw_116 (fl_X9_draw_73 k137 n) S0 x2 x3 y_20 x6 x7 (1 : Int32)
def fn_X9_draw (S0 : tt_Model) (x1 : Int32) (x2 : Int32) (x3 : Int32) : Option (Int32 × tt_Model) :=
  bd_ (fn_X9_in x1.toInt64 (0 : Int64) (999999 : Int64)) fun r_1 => if r_1 = 0 then fn_X9_draw_36 S0 else bd_ (fn_X9_in x2.toInt64 (1 : Int64) (100 : Int64)) fun r_7 => if r_7 = 0 then fn_X9_draw_36 S0 else bd_ (fn_X9_in x3.toInt64 (0 : Int64) (100 : Int64)) fun r_10 => if r_10 = 0 then fn_X9_draw_36 S0 else bd_ (fn_X9_many S0) fun r_13 => if (r_13 + x2) ≤ (100 : Int32) then lt_ (x1.toInt64) fun y_16 => bd_ (fn_X9_keep S0) fun P_17 => fl_X9_draw_73 (fun (S0_e137_26 : tt_Model) (x6_e137_26 : Int32) => some (x6_e137_26, S0_e137_26)) fu_ P_17 x2 x3 y_16 (0 : Int32) (0 : Int32) else b2_ (fn_X9_full S0) fun r_27 P_28 => some (r_27, P_28)
def fn_X9_sets_32 (S0 : tt_Model) : Option (Int32 × tt_Model) :=
  b2_ (fn_X9_bad S0 (-2 : Int32)) fun r_4 P_5 => some (r_4, P_5)
def fn_X9_sets_26 (S0 : tt_Model) (x1 : Int32) (x2 : Int32) (t0 : Int64) (t1 : Int64) (t2 : Int64) : Option (Int32 × tt_Model) :=
  bd_ (fn_X9_in t0 t1 t2) fun r_8 => if r_8 = 0 then fn_X9_sets_32 S0 else bd_ (fn_X9_keep S0) fun P_11 => gd_ (ix_ ((101 : Int32) + x1) 103) (lt_ ((gf_Model_now P_11) ((101 : Int32) + x1).toNatClampNeg) fun y_14 => gd_ (ix_ ((101 : Int32) + x1) 103) (lt_ (sf_Model_now P_11 (upd (gf_Model_now P_11) ((101 : Int32) + x1).toNatClampNeg x2)) fun S_16 => some (y_14, S_16)))
def fn_X9_sets (S0 : tt_Model) (x1 : Int32) (x2 : Int32) : Option (Int32 × tt_Model) :=
  bd_ (fn_X9_in x1.toInt64 (0 : Int64) (1 : Int64)) fun r_1 => if r_1 = 0 then fn_X9_sets_32 S0 else if x1 = 0 then fn_X9_sets_26 S0 x1 x2 x2.toInt64 (0 : Int64) (6 : Int64) else fn_X9_sets_26 S0 x1 x2 x2.toInt64 (0 : Int64) (3 : Int64)
def fn_X9_empties (S0 : tt_Model) : Option (Int32 × tt_Model) :=
  bd_ (fn_X9_many S0) fun r_1 => bd_ (fn_X9_keep S0) fun P_3 => gd_ (ix_ (100 : Int32) 103) (lt_ (sf_Model_now P_3 (upd (gf_Model_now P_3) (100 : Int32).toNatClampNeg (0 : Int32))) fun S_6 => some (r_1, S_6))
def fn_X9_drop (S0 : tt_Model) : Option (Int32 × tt_Model) :=
  bd_ (fn_X9_many S0) fun r_1 => if r_1 = 0 then b2_ (fn_X9_no S0) fun r_12 P_13 => some (r_12, P_13) else bd_ (fn_X9_keep S0) fun P_4 => gd_ (ix_ (100 : Int32) 103) (lt_ (((gf_Model_now P_4) (100 : Int32).toNatClampNeg) - (1 : Int32)) fun y_7 => gd_ (ix_ (100 : Int32) 103) (lt_ (sf_Model_now P_4 (upd (gf_Model_now P_4) (100 : Int32).toNatClampNeg y_7)) fun S_9 => bd_ (fn_X9_many S_9) fun r_10 => some (r_10, S_9)))
def fn_X9_at (S0 : tt_Model) (x1 : Int32) : Option (Int32 × tt_Model) :=
  bd_ (fn_X9_many S0) fun r_1 => bd_ (fn_X9_in x1.toInt64 (0 : Int64) ((r_1 - (1 : Int32)).toInt64)) fun r_3 => if r_3 = 0 then b2_ (fn_X9_bad S0 (-2 : Int32)) fun r_6 P_7 => some (r_6, P_7) else gd_ (ix_ x1 103) (some ((gf_Model_now S0) x1.toNatClampNeg, S0))
def fn_X9_guessNow (S0 : tt_Model) : Option (Int32 × tt_Model) :=
  b2_ (fn_X9_goesNow S0) fun r_1 P_2 => b2_ (fn_X9_guesses P_2) fun r_4 P_5 => some (r_4, P_5)
def fn_X9_guess (S0 : tt_Model) : Option (Int32 × tt_Model) :=
  b2_ (fn_X9_guessNow S0) fun r_1 P_2 => some (r_1, P_2)
def fn_X9_was_26 (S0 : tt_Model) : Option (Int32 × tt_Model) :=
  b2_ (fn_X9_bad S0 (-2 : Int32)) fun r_6 P_7 => some (r_6, P_7)
def fn_X9_was (S0 : tt_Model) (x1 : Int32) (x2 : Int32) : Option (Int32 × tt_Model) :=
  bd_ (fn_X9_many S0) fun r_1 => bd_ (fn_X9_in x1.toInt64 (0 : Int64) ((r_1 - (1 : Int32)).toInt64)) fun r_3 => if r_3 = 0 then fn_X9_was_26 S0 else bd_ (fn_X9_in x2.toInt64 (0 : Int64) (1 : Int64)) fun r_9 => if r_9 = 0 then fn_X9_was_26 S0 else b2_ (fn_X9_goesNow S0) fun r_12 P_13 => if x2 = 0 then gd_ (ix_ x1 128) (some ((gf_Model_guessAt P_13) x1.toNatClampNeg, P_13)) else bd_ (fn_X9_costAt P_13 x1) fun r_16 => some (r_16, P_13)
def fn_X9_isNode (S0 : tt_Model) (x1 : Int32) (x2 : Int32) : Option Int32 :=
  bd_ (fn_X9_depth S0) fun r_1 => bd_ (fn_X9_in x1.toInt64 (0 : Int64) r_1.toInt64) fun r_3 => if r_3 = 0 then some (0 : Int32) else bd_ (fn_X9_in x2.toInt64 (0 : Int64) ((((1 : Int32) <<< (x1 &&& 31)) - (1 : Int32)).toInt64)) fun r_6 => if r_6 = 0 then some (0 : Int32) else some (1 : Int32)
def fn_X9_node_21 (S0 : tt_Model) : Option (Int32 × tt_Model) :=
  b2_ (fn_X9_bad S0 (-2 : Int32)) fun r_4 P_5 => some (r_4, P_5)
def fn_X9_node (S0 : tt_Model) (x1 : Int32) (x2 : Int32) (x3 : Int32) : Option (Int32 × tt_Model) :=
  bd_ (fn_X9_isNode S0 x1 x2) fun r_1 => if r_1 = 0 then fn_X9_node_21 S0 else bd_ (fn_X9_in x3.toInt64 (0 : Int64) (3 : Int64)) fun r_7 => if r_7 = 0 then fn_X9_node_21 S0 else b2_ (fn_X9_goesNow S0) fun r_10 P_11 => bd_ (fn_X9_nodeOf x1 x2) fun r_13 => if x3 = 0 then gd_ (ix_ r_13 127) (some ((gf_Model_noughts P_11) r_13.toNatClampNeg, P_11)) else if x3 = (1 : Int32) then gd_ (ix_ r_13 127) (some ((gf_Model_ones P_11) r_13.toNatClampNeg, P_11)) else if x3 = (2 : Int32) then bd_ (fn_X9_ownOf P_11 r_13) fun r_22 => some (r_22, P_11) else bd_ (fn_X9_depth P_11) fun r_18 => if x1 = r_18 then some ((65536 : Int32), P_11) else gd_ (ix_ r_13 127) (some ((gf_Model_weights P_11) r_13.toNatClampNeg, P_11))
def fn_X9_cost (S0 : tt_Model) : Option (Int32 × tt_Model) :=
  b2_ (fn_X9_goesNow S0) fun r_1 P_2 => some (r_1, P_2)
def fn_X9_costBy_33 (S0 : tt_Model) : Option (Int32 × tt_Model) :=
  b2_ (fn_X9_bad S0 (-2 : Int32)) fun r_4 P_5 => some (r_4, P_5)
def fn_X9_costBy (S0 : tt_Model) (x1 : Int32) (x2 : Int32) : Option (Int32 × tt_Model) :=
  bd_ (fn_X9_in x1.toInt64 (0 : Int64) (6 : Int64)) fun r_1 => if r_1 = 0 then fn_X9_costBy_33 S0 else bd_ (fn_X9_in x2.toInt64 (0 : Int64) (3 : Int64)) fun r_7 => if r_7 = 0 then fn_X9_costBy_33 S0 else b2_ (fn_X9_goes S0 x1 x2) fun r_10 P_11 => some (r_10, P_11)
def fn_X9_best_77 (k31 : tt_Model → Int32 → Int32 → Int32 → Int32 → Option (Int32 × tt_Model)) (S0 : tt_Model) (x1 : Int32) (x2 : Int32) (x4 : Int32) (t0 : Int32) : Option (Int32 × tt_Model) :=
  lt_ (x4 + (1 : Int32)) fun y_13 => k31 S0 x1 x2 t0 y_13
def fn_X9_best_64 (k31 : tt_Model → Int32 → Int32 → Int32 → Int32 → Option (Int32 × tt_Model)) (S0 : tt_Model) (x1 : Int32) (x3 : Int32) (x4 : Int32) (x5 : Int32) (t0 : Int32) : Option (Int32 × tt_Model) :=
  if x3 ≤ x5 then fn_X9_best_77 k31 S0 x1 t0 x4 x3 else fn_X9_best_77 k31 S0 x1 t0 x4 x5
def fl_X9_best_31 (k84 : tt_Model → Int32 → Int32 → Int32 → Option (Int32 × tt_Model)) : Nat → tt_Model → Int32 → Int32 → Int32 → Int32 → Option (Int32 × tt_Model)
  | 0, _, _, _, _, _ => none
  | n + 1, S0, x1, x2, x3, x4 =>
  if (28 : Int32) ≤ x4 then k84 S0 x1 x2 x3 else b2_ (fn_X9_goes S0 (x4 / (4 : Int32)) (x4 - x4 / (4 : Int32) * (4 : Int32))) fun r_8 P_9 => if x3 ≤ r_8 then fn_X9_best_64 (fl_X9_best_31 k84 n) P_9 x1 x3 x4 r_8 x2 else fn_X9_best_64 (fl_X9_best_31 k84 n) P_9 x1 x3 x4 r_8 x4
def fn_X9_best (S0 : tt_Model) (x1 : Int32) : Option (Int32 × tt_Model) :=
  bd_ (fn_X9_in x1.toInt64 (0 : Int64) (2 : Int64)) fun r_1 => if r_1 = 0 then b2_ (fn_X9_bad S0 (-2 : Int32)) fun r_17 P_18 => some (r_17, P_18) else b2_ (fn_X9_goes S0 (0 : Int32) (0 : Int32)) fun r_4 P_5 => fl_X9_best_31 (fun (S0_e84_14 : tt_Model) (x1_e84_14 : Int32) (x2_e84_14 : Int32) (x3_e84_14 : Int32) => if x1_e84_14 = 0 then some (x2_e84_14 / (4 : Int32), S0_e84_14) else if x1_e84_14 = (1 : Int32) then some (x2_e84_14 - x2_e84_14 / (4 : Int32) * (4 : Int32), S0_e84_14) else some (x3_e84_14, S0_e84_14)) fu_ P_5 x1 (0 : Int32) r_4 (1 : Int32)
def fn_X9_follows_49 (k29 : tt_Model → Int32 → Int32 → Int32 → Option (Int32 × tt_Model)) (S0 : tt_Model) (x1 : Int32) (x2 : Int32) (x4 : Int32) (t0 : Int32) : Option (Int32 × tt_Model) :=
  lt_ (x2 ||| (t0 <<< (x4 &&& 31))) fun y_12 => bd_ (fn_X9_comes S0 t0) fun P_13 => lt_ (x4 + (1 : Int32)) fun y_15 => k29 P_13 x1 y_12 y_15
def fl_X9_follows_29 (k71 : tt_Model → Int32 → Option (Int32 × tt_Model)) : Nat → tt_Model → Int32 → Int32 → Int32 → Option (Int32 × tt_Model)
  | 0, _, _, _, _ => none
  | n + 1, S0, x1, x2, x4 =>
  if x1 ≤ x4 then k71 S0 x2 else b2_ (fn_X9_guesses S0) fun r_8 P_9 => if r_8 < (32768 : Int32) then fn_X9_follows_49 (fl_X9_follows_29 k71 n) P_9 x1 x2 x4 (0 : Int32) else fn_X9_follows_49 (fl_X9_follows_29 k71 n) P_9 x1 x2 x4 (1 : Int32)
def fn_X9_follows (S0 : tt_Model) (x1 : Int32) : Option (Int32 × tt_Model) :=
  bd_ (fn_X9_in x1.toInt64 (1 : Int64) (16 : Int64)) fun r_1 => if r_1 = 0 then b2_ (fn_X9_bad S0 (-2 : Int32)) fun r_17 P_18 => some (r_17, P_18) else b2_ (fn_X9_goesNow S0) fun r_4 P_5 => fl_X9_follows_29 (fun (S0_e71_16 : tt_Model) (x2_e71_16 : Int32) => some (x2_e71_16, S0_e71_16)) fu_ P_5 x1 (0 : Int32) (0 : Int32)

theorem hd_X9_sign : yX9_sign.cls ≠ "java/lang/invoke/MethodHandle" ∧ yX9_sign.cls ≠ "java/lang/invoke/VarHandle" ∧ (parseMethodDescriptor yX9_sign.desc).map (fun d => d.parameters.length) = some 1 := by decide +kernel
set_option maxHeartbeats 4000000 in
set_option maxRecDepth 100000 in
theorem ct_X9_sign (l : Launch) (G : xG) (a : Nat → Nat) (S0 : tt_Model) (x1 : Int32) (ro : Int32) (So0 : tt_Model) (hf : fn_X9_sign S0 x1 = some (ro, So0)) : xM l yX9_sign cX9_sign 2 (some .int) 6 138 G [.ref (a 0), .int x1] (wd_Model G a S0) (wd_Model G a So0) (some (.int ro)) := by
  refine xMi (by decide) (Nat.le_of_ble_eq_true rfl) ?_
  intro p e s m below meth c A C0 KN hA X ls hl
  have hx := C0.1
  have hb := C0.2.1
  have C0 : xC p s m meth c cX9_sign 2 (some .int) RX9 _ := C0
  have hl : lv_has ls 2 [(0, .ref (a 0)), (1, .int x1)] := hl
  unfold fn_X9_sign at hf
  refine lv_iload_n (pc := 0) hx hb dX9_sign_0 rfl (lv_at hl 1 rfl) ?_
  refine lv_i2l (pc := 1) (v := x1.toInt64) hx hb dX9_sign_1 rfl ?_
  refine lv_lconst (pc := 2) (v := 0) hx hb dX9_sign_2 (by decide) ?_
  refine lv_lconst (pc := 3) (v := 1) hx hb dX9_sign_3 (by decide) ?_
  obtain ⟨r_1, h_2, hf⟩ := bd_e hf
  refine x_cs (pc := 4) (As := [.long x1.toInt64, .long (0 : Int64), .long (1 : Int64)]) (rest := []) C0 (ct_X9_in l x1.toInt64 (0 : Int64) (1 : Int64) r_1 h_2) kw_10_21 kw_10_19 kw_10_20 kw_1_5 hd_X9_in ⟨by decide, by decide⟩ hl.1 rfl (Nat.le_of_ble_eq_true rfl) ⟨Nat.zero_le _, Nat.zero_le _⟩ dX9_sign_4 ?_
  refine W.eq (g2 := F0 m 7 ls [.int r_1]) rfl ?_
  refine lv_if_ne (pc := 7) (tgt := 17) hx hb dX9_sign_7 (by decide) (fun c_3 => ?_) (fun c_3 => ?_)
  · have hf := it_n hf c_3
    refine lv_aload_n (pc := 17) hx hb dX9_sign_17 rfl (lv_at hl 0 rfl) ?_
    obtain ⟨r_4, h_5, hf⟩ := bd_e hf
    refine x_cv (pc := 18) (ws' := wd_Model G a S0) (As := []) (rest := []) (ci := 9) (qr := 0) C0 KN X hA [0, 1, 2, 3, 4, 5, 6, 7, 8, 9, 10, 11, 12, 13, 14, 15, 16, 17, 18] [] [0, 1, 2, 3, 4, 5, 6, 7, 8, 9, 10, 11, 12, 13, 14, 15, 16, 17, 18] cu_C49 rfl cu_R49 rfl (by decide) (cu_J49 (S0 := S0)) rfl (ct_X9_many l G a S0 r_4 h_5) rfl rfl rfl kw_11_5 kw_11_2 kw_11_3 kw_11_4 kw_1_5 hd_X9_many ⟨by decide, by decide⟩ hl.1 rfl (Nat.le_of_ble_eq_true rfl) ⟨Nat.zero_le _, Nat.zero_le _⟩ dX9_sign_18 (fun H locs X => ?_)
    refine W.eq (g2 := F0 m 21 ls [.int r_4]) rfl ?_
    refine lv_bipush (pc := 21) (v := 100) hx hb dX9_sign_21 (by decide) ?_
    refine lv_icmp_ne (pc := 23) (tgt := 31) hx hb dX9_sign_23 (by decide) (fun c_6 => ?_) (fun c_6 => ?_)
    · have hf := it_n hf c_6
      refine lv_aload_n (pc := 31) hx hb dX9_sign_31 rfl (lv_at hl 0 rfl) ?_
      obtain ⟨P_7, h_8, hf⟩ := bd_e hf
      refine x_cv (pc := 32) (ws' := wd_Model G a P_7) (As := []) (rest := []) (ci := 9) (qr := 0) C0 KN X hA [0, 1, 2, 3, 4, 5, 6, 7, 8, 9, 10, 11, 12, 13, 14, 15, 16, 17, 18] [] [0, 1, 2, 3, 4, 5, 6, 7, 8, 9, 10, 11, 12, 13, 14, 15, 16, 17, 18] cu_C50 rfl cu_R50 rfl (by decide) (cu_J50 (S0 := S0)) rfl (ct_X9_keep l G a S0 P_7 h_8) rfl rfl rfl kw_11_13 kw_11_10 kw_11_11 kw_11_12 kw_1_5 hd_X9_keep ⟨by decide, by decide⟩ hl.1 rfl (Nat.le_of_ble_eq_true rfl) ⟨Nat.zero_le _, Nat.zero_le _⟩ dX9_sign_32 (fun H locs X => ?_)
      refine W.eq (g2 := F0 m 35 ls []) rfl ?_
      refine lv_aload_n (pc := 35) hx hb dX9_sign_35 rfl (lv_at hl 0 rfl) ?_
      refine lv_iload_n (pc := 36) hx hb dX9_sign_36 rfl (lv_at hl 1 rfl) ?_
      obtain ⟨P_9, h_10, hf⟩ := bd_e hf
      refine x_cv (pc := 37) (ws' := wd_Model G a P_9) (As := [.int x1]) (rest := []) (ci := 9) (qr := 0) C0 KN X hA [0, 1, 2, 3, 4, 5, 6, 7, 8, 9, 10, 11, 12, 13, 14, 15, 16, 17, 18] [] [0, 1, 2, 3, 4, 5, 6, 7, 8, 9, 10, 11, 12, 13, 14, 15, 16, 17, 18] cu_C50 rfl cu_R50 rfl (by decide) (cu_J50 (S0 := P_7)) rfl (ct_X9_adds l G a P_7 x1 P_9 h_10) rfl rfl rfl kw_11_18 kw_11_15 kw_11_16 kw_11_17 kw_1_5 hd_X9_adds ⟨by decide, by decide⟩ hl.1 rfl (Nat.le_of_ble_eq_true rfl) ⟨Nat.zero_le _, Nat.zero_le _⟩ dX9_sign_37 (fun H locs X => ?_)
      refine W.eq (g2 := F0 m 40 ls []) rfl ?_
      refine lv_aload_n (pc := 40) hx hb dX9_sign_40 rfl (lv_at hl 0 rfl) ?_
      refine lv_aload_n (pc := 41) hx hb dX9_sign_41 rfl (lv_at hl 0 rfl) ?_
      obtain ⟨r_11, h_12, hf⟩ := bd_e hf
      refine x_cv (pc := 42) (ws' := wd_Model G a P_9) (As := []) (rest := [.ref (a 0)]) (ci := 9) (qr := 0) C0 KN X hA [0, 1, 2, 3, 4, 5, 6, 7, 8, 9, 10, 11, 12, 13, 14, 15, 16, 17, 18] [] [0, 1, 2, 3, 4, 5, 6, 7, 8, 9, 10, 11, 12, 13, 14, 15, 16, 17, 18] cu_C49 rfl cu_R49 rfl (by decide) (cu_J49 (S0 := P_9)) rfl (ct_X9_many l G a P_9 r_11 h_12) rfl rfl rfl kw_11_5 kw_11_2 kw_11_3 kw_11_4 kw_1_5 hd_X9_many ⟨by decide, by decide⟩ hl.1 rfl (Nat.le_of_ble_eq_true rfl) ⟨Nat.zero_le _, Nat.zero_le _⟩ dX9_sign_42 (fun H locs X => ?_)
      refine W.eq (g2 := F0 m 45 ls [.int r_11, .ref (a 0)]) rfl ?_
      refine lv_iconst (pc := 45) (v := 1) hx hb dX9_sign_45 (by decide) ?_
      refine lv_isub (pc := 46) hx hb dX9_sign_46 ?_
      obtain ⟨r_13, P_14, h_15, hf⟩ := b2_e hf
      refine x_cv (pc := 47) (ws' := wd_Model G a P_14) (As := [.int (r_11 - (1 : Int32))]) (rest := []) (ci := 9) (qr := 0) C0 KN X hA [0, 1, 2, 3, 4, 5, 6, 7, 8, 9, 10, 11, 12, 13, 14, 15, 16, 17, 18] [] [0, 1, 2, 3, 4, 5, 6, 7, 8, 9, 10, 11, 12, 13, 14, 15, 16, 17, 18] cu_C50 rfl cu_R50 rfl (by decide) (cu_J50 (S0 := P_9)) rfl (ct_X9_costFrom l G a P_9 (r_11 - (1 : Int32)) r_13 P_14 h_15) rfl rfl rfl kw_11_22 kw_11_19 kw_11_20 kw_11_21 kw_1_5 hd_X9_costFrom ⟨by decide, by decide⟩ hl.1 rfl (Nat.le_of_ble_eq_true rfl) ⟨Nat.zero_le _, Nat.zero_le _⟩ dX9_sign_47 (fun H locs X => ?_)
      refine W.eq (g2 := F0 m 50 ls [.int r_13]) rfl ?_
      obtain ⟨rfl, rfl⟩ := so_2 hf
      exact x_iret (pc := 50) C0 X dX9_sign_50
    · have hf := it_p hf c_6
      refine lv_aload_n (pc := 26) hx hb dX9_sign_26 rfl (lv_at hl 0 rfl) ?_
      obtain ⟨r_16, P_17, h_18, hf⟩ := b2_e hf
      refine x_cv (pc := 27) (ws' := wd_Model G a P_17) (As := []) (rest := []) (ci := 9) (qr := 0) C0 KN X hA [0, 1, 2, 3, 4, 5, 6, 7, 8, 9, 10, 11, 12, 13, 14, 15, 16, 17, 18] [] [0, 1, 2, 3, 4, 5, 6, 7, 8, 9, 10, 11, 12, 13, 14, 15, 16, 17, 18] cu_C50 rfl cu_R50 rfl (by decide) (cu_J50 (S0 := S0)) rfl (ct_X9_full l G a S0 r_16 P_17 h_18) rfl rfl rfl kw_11_9 kw_11_6 kw_11_7 kw_11_8 kw_1_5 hd_X9_full ⟨by decide, by decide⟩ hl.1 rfl (Nat.le_of_ble_eq_true rfl) ⟨Nat.zero_le _, Nat.zero_le _⟩ dX9_sign_27 (fun H locs X => ?_)
      refine W.eq (g2 := F0 m 30 ls [.int r_16]) rfl ?_
      obtain ⟨rfl, rfl⟩ := so_2 hf
      exact x_iret (pc := 30) C0 X dX9_sign_30
  · have hf := it_p hf c_3
    refine lv_aload_n (pc := 10) hx hb dX9_sign_10 rfl (lv_at hl 0 rfl) ?_
    refine lv_bipush (pc := 11) (v := (-2)) hx hb dX9_sign_11 (by decide) ?_
    obtain ⟨r_19, P_20, h_21, hf⟩ := b2_e hf
    refine x_cv (pc := 13) (ws' := wd_Model G a P_20) (As := [.int (-2 : Int32)]) (rest := []) (ci := 9) (qr := 0) C0 KN X hA [0, 1, 2, 3, 4, 5, 6, 7, 8, 9, 10, 11, 12, 13, 14, 15, 16, 17, 18] [] [0, 1, 2, 3, 4, 5, 6, 7, 8, 9, 10, 11, 12, 13, 14, 15, 16, 17, 18] cu_C50 rfl cu_R50 rfl (by decide) (cu_J50 (S0 := S0)) rfl (ct_X9_bad l G a S0 (-2 : Int32) r_19 P_20 h_21) rfl rfl rfl kw_11_1 kw_10_22 kw_10_23 kw_11_0 kw_1_5 hd_X9_bad ⟨by decide, by decide⟩ hl.1 rfl (Nat.le_of_ble_eq_true rfl) ⟨Nat.zero_le _, Nat.zero_le _⟩ dX9_sign_13 (fun H locs X => ?_)
    refine W.eq (g2 := F0 m 16 ls [.int r_19]) rfl ?_
    obtain ⟨rfl, rfl⟩ := so_2 hf
    exact x_iret (pc := 16) C0 X dX9_sign_16
set_option maxHeartbeats 4000000 in
set_option maxRecDepth 100000 in
theorem lb_X9_signs_48 {l : Launch} {p : Program} {e : Env} {s : State} {m : MethodId} {args : Array Value} {below : List Frame} {meth : Method} {c : Code} {G : xG} {A : Nat → Prop} {a : Nat → Nat} (C0 : xC p s m meth c cX9_signs 6 (some .int) RX9 args) (KN : xKN G s) (hA : ∀ q, s.heap.size ≤ q → A q) (ro : Int32) (So0 : tt_Model) (k71 : tt_Model → Int32 → Option (Int32 × tt_Model)) (hk71 : ∀ (S0 : tt_Model) (x4 : Int32), k71 S0 x4 = some (ro, So0) → ∀ (H : Heap) (locs : List Loc) (ls : Array Slot), xS G A s.heap (wd_Model G a S0) H locs → lv_has ls 6 [(0, .ref (a 0)), (4, .int x4)] → W p l e ({ frames := 6, cells := 0, slots := 0, locals := 138 }) s m args below meth c H locs 0 0 (MQ below (xQo G (some (.int ro)) A (wd_Model G a So0)) args s 0 0 A) (F0 m 71 ls [])) : ∀ (n : Nat) (S0 : tt_Model) (x1 : Int64) (x3 : Int32) (x4 : Int32) (x5 : Int32), fl_X9_signs_48 k71 n S0 x1 x3 x4 x5 = some (ro, So0) → ∀ (H : Heap) (locs : List Loc) (ls : Array Slot), xS G A s.heap (wd_Model G a S0) H locs → lv_has ls 6 [(0, .ref (a 0)), (1, .long x1), (3, .int x3), (4, .int x4), (5, .int x5)] → W p l e ({ frames := 6, cells := 0, slots := 0, locals := 138 }) s m args below meth c H locs 0 0 (MQ below (xQo G (some (.int ro)) A (wd_Model G a So0)) args s 0 0 A) (F0 m 48 ls []) := by
  have hx := C0.1
  have hb := C0.2.1
  intro n
  induction n with
  | zero =>
    intro S0 x1 x3 x4 x5 hf
    have hf : none = some (ro, So0) := hf
    cases hf
  | succ n ih =>
    intro S0 x1 x3 x4 x5 hf H locs ls X hl
    rw [fl_X9_signs_48] at hf
    refine lv_iload (pc := 48) hx hb dX9_signs_48 (lv_at hl 4 rfl) ?_
    refine lv_iload_n (pc := 50) hx hb dX9_signs_50 rfl (lv_at hl 2 rfl) ?_
    refine lv_icmp_ge (pc := 51) (tgt := 71) hx hb dX9_signs_51 (by decide) (fun c_11 => ?_) (fun c_11 => ?_)
    · have hf := it_p hf c_11
      exact hk71 _ _ hf _ _ _ X (lv_sub hl [0, 3] rfl)
    · have hf := it_n hf c_11
      refine lv_aload_n (pc := 54) hx hb dX9_signs_54 rfl (lv_at hl 0 rfl) ?_
      refine lv_lload_n (pc := 55) hx hb dX9_signs_55 rfl (lv_at hl 1 rfl) ?_
      refine lv_iload (pc := 56) hx hb dX9_signs_56 (lv_at hl 4 rfl) ?_
      refine lv_lshr (pc := 58) (v := x1 >>> (x5.toInt64 &&& 63)) hx hb dX9_signs_58 rfl ?_
      refine lv_lconst (pc := 59) (v := 1) hx hb dX9_signs_59 (by decide) ?_
      refine lv_land (pc := 60) hx hb dX9_signs_60 ?_
      refine lv_l2i (pc := 61) (v := ((x1 >>> (x5.toInt64 &&& 63)) &&& (1 : Int64)).toInt32) hx hb dX9_signs_61 rfl ?_
      obtain ⟨P_12, h_13, hf⟩ := bd_e hf
      refine x_cv (pc := 62) (ws' := wd_Model G a P_12) (As := [.int (((x1 >>> (x5.toInt64 &&& 63)) &&& (1 : Int64)).toInt32)]) (rest := []) (ci := 9) (qr := 0) C0 KN X hA [0, 1, 2, 3, 4, 5, 6, 7, 8, 9, 10, 11, 12, 13, 14, 15, 16, 17, 18] [] [0, 1, 2, 3, 4, 5, 6, 7, 8, 9, 10, 11, 12, 13, 14, 15, 16, 17, 18] cu_C50 rfl cu_R50 rfl (by decide) (cu_J50 (S0 := S0)) rfl (ct_X9_adds l G a S0 (((x1 >>> (x5.toInt64 &&& 63)) &&& (1 : Int64)).toInt32) P_12 h_13) rfl rfl rfl kw_11_18 kw_11_15 kw_11_16 kw_11_17 kw_1_5 hd_X9_adds ⟨by decide, by decide⟩ hl.1 rfl (Nat.le_of_ble_eq_true rfl) ⟨Nat.zero_le _, Nat.zero_le _⟩ dX9_signs_62 (fun H locs X => ?_)
      refine W.eq (g2 := F0 m 65 ls []) rfl ?_
      obtain ⟨y_14, ey_14⟩ : ∃ y : Int32, y = x5 + (1 : Int32) := ⟨_, rfl⟩
      have hf := lt_sb hf ey_14
      refine lv_iinc (pc := 65) (v := y_14) (lv' := [(5, .int y_14), (0, .ref (a 0)), (1, .long x1), (3, .int x3), (4, .int x4)]) hx hb dX9_signs_65 hl (k := 4) rfl (by rw [ey_14]; rfl) (by decide) rfl (fun ls hl => ?_)
      refine lv_goto (pc := 68) (tgt := 48) hx hb dX9_signs_68 (by decide) ?_
      exact ih _ _ _ _ _ hf _ _ _ X (lv_sub hl [1, 2, 3, 4, 0] rfl)
theorem hd_X9_signs : yX9_signs.cls ≠ "java/lang/invoke/MethodHandle" ∧ yX9_signs.cls ≠ "java/lang/invoke/VarHandle" ∧ (parseMethodDescriptor yX9_signs.desc).map (fun d => d.parameters.length) = some 2 := by decide +kernel
set_option maxHeartbeats 4000000 in
set_option maxRecDepth 100000 in
theorem ct_X9_signs (l : Launch) (G : xG) (a : Nat → Nat) (S0 : tt_Model) (x1 : Int64) (x3 : Int32) (ro : Int32) (So0 : tt_Model) (hf : fn_X9_signs S0 x1 x3 = some (ro, So0)) : xM l yX9_signs cX9_signs 6 (some .int) 6 138 G [.ref (a 0), .long x1, .int x3] (wd_Model G a S0) (wd_Model G a So0) (some (.int ro)) := by
  refine xMi (by decide) (Nat.le_of_ble_eq_true rfl) ?_
  intro p e s m below meth c A C0 KN hA X ls hl
  have hx := C0.1
  have hb := C0.2.1
  have C0 : xC p s m meth c cX9_signs 6 (some .int) RX9 _ := C0
  have hl : lv_has ls 6 [(0, .ref (a 0)), (1, .long x1), (3, .int x3)] := hl
  unfold fn_X9_signs at hf
  refine lv_iload_n (pc := 0) hx hb dX9_signs_0 rfl (lv_at hl 2 rfl) ?_
  refine lv_i2l (pc := 1) (v := x3.toInt64) hx hb dX9_signs_1 rfl ?_
  refine lv_lconst (pc := 2) (v := 1) hx hb dX9_signs_2 (by decide) ?_
  refine x_ldc2 (pc := 3) C0 kw_14_3 dX9_signs_3 ?_
  obtain ⟨r_1, h_2, hf⟩ := bd_e hf
  refine x_cs (pc := 6) (As := [.long x3.toInt64, .long (1 : Int64), .long (64 : Int64)]) (rest := []) C0 (ct_X9_in l x3.toInt64 (1 : Int64) (64 : Int64) r_1 h_2) kw_10_21 kw_10_19 kw_10_20 kw_1_5 hd_X9_in ⟨by decide, by decide⟩ hl.1 rfl (Nat.le_of_ble_eq_true rfl) ⟨Nat.zero_le _, Nat.zero_le _⟩ dX9_signs_6 ?_
  refine W.eq (g2 := F0 m 9 ls [.int r_1]) rfl ?_
  refine lv_if_ne (pc := 9) (tgt := 19) hx hb dX9_signs_9 (by decide) (fun c_3 => ?_) (fun c_3 => ?_)
  · have hf := it_n hf c_3
    refine lv_aload_n (pc := 19) hx hb dX9_signs_19 rfl (lv_at hl 0 rfl) ?_
    obtain ⟨r_4, h_5, hf⟩ := bd_e hf
    refine x_cv (pc := 20) (ws' := wd_Model G a S0) (As := []) (rest := []) (ci := 9) (qr := 0) C0 KN X hA [0, 1, 2, 3, 4, 5, 6, 7, 8, 9, 10, 11, 12, 13, 14, 15, 16, 17, 18] [] [0, 1, 2, 3, 4, 5, 6, 7, 8, 9, 10, 11, 12, 13, 14, 15, 16, 17, 18] cu_C49 rfl cu_R49 rfl (by decide) (cu_J49 (S0 := S0)) rfl (ct_X9_many l G a S0 r_4 h_5) rfl rfl rfl kw_11_5 kw_11_2 kw_11_3 kw_11_4 kw_1_5 hd_X9_many ⟨by decide, by decide⟩ hl.1 rfl (Nat.le_of_ble_eq_true rfl) ⟨Nat.zero_le _, Nat.zero_le _⟩ dX9_signs_20 (fun H locs X => ?_)
    refine W.eq (g2 := F0 m 23 ls [.int r_4]) rfl ?_
    refine lv_iload_n (pc := 23) hx hb dX9_signs_23 rfl (lv_at hl 2 rfl) ?_
    refine lv_iadd (pc := 24) hx hb dX9_signs_24 ?_
    refine lv_bipush (pc := 25) (v := 100) hx hb dX9_signs_25 (by decide) ?_
    refine lv_icmp_le (pc := 27) (tgt := 35) hx hb dX9_signs_27 (by decide) (fun c_6 => ?_) (fun c_6 => ?_)
    · have hf := it_p hf c_6
      refine lv_aload_n (pc := 35) hx hb dX9_signs_35 rfl (lv_at hl 0 rfl) ?_
      obtain ⟨r_7, h_8, hf⟩ := bd_e hf
      refine x_cv (pc := 36) (ws' := wd_Model G a S0) (As := []) (rest := []) (ci := 9) (qr := 0) C0 KN X hA [0, 1, 2, 3, 4, 5, 6, 7, 8, 9, 10, 11, 12, 13, 14, 15, 16, 17, 18] [] [0, 1, 2, 3, 4, 5, 6, 7, 8, 9, 10, 11, 12, 13, 14, 15, 16, 17, 18] cu_C49 rfl cu_R49 rfl (by decide) (cu_J49 (S0 := S0)) rfl (ct_X9_many l G a S0 r_7 h_8) rfl rfl rfl kw_11_5 kw_11_2 kw_11_3 kw_11_4 kw_1_5 hd_X9_many ⟨by decide, by decide⟩ hl.1 rfl (Nat.le_of_ble_eq_true rfl) ⟨Nat.zero_le _, Nat.zero_le _⟩ dX9_signs_36 (fun H locs X => ?_)
      refine W.eq (g2 := F0 m 39 ls [.int r_7]) rfl ?_
      refine lv_istore (pc := 39) (lv' := [(4, .int r_7), (0, .ref (a 0)), (1, .long x1), (3, .int x3)]) hx hb dX9_signs_39 hl (by decide) rfl (fun ls hl => ?_)
      refine lv_aload_n (pc := 41) hx hb dX9_signs_41 rfl (lv_at hl 1 rfl) ?_
      obtain ⟨P_9, h_10, hf⟩ := bd_e hf
      refine x_cv (pc := 42) (ws' := wd_Model G a P_9) (As := []) (rest := []) (ci := 9) (qr := 0) C0 KN X hA [0, 1, 2, 3, 4, 5, 6, 7, 8, 9, 10, 11, 12, 13, 14, 15, 16, 17, 18] [] [0, 1, 2, 3, 4, 5, 6, 7, 8, 9, 10, 11, 12, 13, 14, 15, 16, 17, 18] cu_C50 rfl cu_R50 rfl (by decide) (cu_J50 (S0 := S0)) rfl (ct_X9_keep l G a S0 P_9 h_10) rfl rfl rfl kw_11_13 kw_11_10 kw_11_11 kw_11_12 kw_1_5 hd_X9_keep ⟨by decide, by decide⟩ hl.1 rfl (Nat.le_of_ble_eq_true rfl) ⟨Nat.zero_le _, Nat.zero_le _⟩ dX9_signs_42 (fun H locs X => ?_)
      refine W.eq (g2 := F0 m 45 ls []) rfl ?_
      refine lv_iconst (pc := 45) (v := 0) hx hb dX9_signs_45 (by decide) ?_
      refine lv_istore (pc := 46) (lv' := [(5, .int (0 : Int32)), (4, .int r_7), (0, .ref (a 0)), (1, .long x1), (3, .int x3)]) hx hb dX9_signs_46 hl (by decide) rfl (fun ls hl => ?_)
      refine lb_X9_signs_48 C0 KN hA _ _ _ ?_ _ _ _ _ _ _ hf _ _ _ X (lv_sub hl [2, 3, 4, 1, 0] rfl)
      · intro S0_e71_15 x4_e71_15 hf H locs ls X hl
        refine lv_aload_n (pc := 71) hx hb dX9_signs_71 rfl (lv_at hl 0 rfl) ?_
        refine lv_iload (pc := 72) hx hb dX9_signs_72 (lv_at hl 1 rfl) ?_
        obtain ⟨r_16, P_17, h_18, hf⟩ := b2_e hf
        refine x_cv (pc := 74) (ws' := wd_Model G a P_17) (As := [.int x4_e71_15]) (rest := []) (ci := 9) (qr := 0) C0 KN X hA [0, 1, 2, 3, 4, 5, 6, 7, 8, 9, 10, 11, 12, 13, 14, 15, 16, 17, 18] [] [0, 1, 2, 3, 4, 5, 6, 7, 8, 9, 10, 11, 12, 13, 14, 15, 16, 17, 18] cu_C50 rfl cu_R50 rfl (by decide) (cu_J50 (S0 := S0_e71_15)) rfl (ct_X9_costFrom l G a S0_e71_15 x4_e71_15 r_16 P_17 h_18) rfl rfl rfl kw_11_22 kw_11_19 kw_11_20 kw_11_21 kw_1_5 hd_X9_costFrom ⟨by decide, by decide⟩ hl.1 rfl (Nat.le_of_ble_eq_true rfl) ⟨Nat.zero_le _, Nat.zero_le _⟩ dX9_signs_74 (fun H locs X => ?_)
        refine W.eq (g2 := F0 m 77 ls [.int r_16]) rfl ?_
        obtain ⟨rfl, rfl⟩ := so_2 hf
        exact x_iret (pc := 77) C0 X dX9_signs_77
    · have hf := it_n hf c_6
      refine lv_aload_n (pc := 30) hx hb dX9_signs_30 rfl (lv_at hl 0 rfl) ?_
      obtain ⟨r_19, P_20, h_21, hf⟩ := b2_e hf
      refine x_cv (pc := 31) (ws' := wd_Model G a P_20) (As := []) (rest := []) (ci := 9) (qr := 0) C0 KN X hA [0, 1, 2, 3, 4, 5, 6, 7, 8, 9, 10, 11, 12, 13, 14, 15, 16, 17, 18] [] [0, 1, 2, 3, 4, 5, 6, 7, 8, 9, 10, 11, 12, 13, 14, 15, 16, 17, 18] cu_C50 rfl cu_R50 rfl (by decide) (cu_J50 (S0 := S0)) rfl (ct_X9_full l G a S0 r_19 P_20 h_21) rfl rfl rfl kw_11_9 kw_11_6 kw_11_7 kw_11_8 kw_1_5 hd_X9_full ⟨by decide, by decide⟩ hl.1 rfl (Nat.le_of_ble_eq_true rfl) ⟨Nat.zero_le _, Nat.zero_le _⟩ dX9_signs_31 (fun H locs X => ?_)
      refine W.eq (g2 := F0 m 34 ls [.int r_19]) rfl ?_
      obtain ⟨rfl, rfl⟩ := so_2 hf
      exact x_iret (pc := 34) C0 X dX9_signs_34
  · have hf := it_p hf c_3
    refine lv_aload_n (pc := 12) hx hb dX9_signs_12 rfl (lv_at hl 0 rfl) ?_
    refine lv_bipush (pc := 13) (v := (-2)) hx hb dX9_signs_13 (by decide) ?_
    obtain ⟨r_22, P_23, h_24, hf⟩ := b2_e hf
    refine x_cv (pc := 15) (ws' := wd_Model G a P_23) (As := [.int (-2 : Int32)]) (rest := []) (ci := 9) (qr := 0) C0 KN X hA [0, 1, 2, 3, 4, 5, 6, 7, 8, 9, 10, 11, 12, 13, 14, 15, 16, 17, 18] [] [0, 1, 2, 3, 4, 5, 6, 7, 8, 9, 10, 11, 12, 13, 14, 15, 16, 17, 18] cu_C50 rfl cu_R50 rfl (by decide) (cu_J50 (S0 := S0)) rfl (ct_X9_bad l G a S0 (-2 : Int32) r_22 P_23 h_24) rfl rfl rfl kw_11_1 kw_10_22 kw_10_23 kw_11_0 kw_1_5 hd_X9_bad ⟨by decide, by decide⟩ hl.1 rfl (Nat.le_of_ble_eq_true rfl) ⟨Nat.zero_le _, Nat.zero_le _⟩ dX9_signs_15 (fun H locs X => ?_)
    refine W.eq (g2 := F0 m 18 ls [.int r_22]) rfl ?_
    obtain ⟨rfl, rfl⟩ := so_2 hf
    exact x_iret (pc := 18) C0 X dX9_signs_18
set_option maxHeartbeats 4000000 in
set_option maxRecDepth 100000 in
theorem lb_X9_draw_36 {l : Launch} {p : Program} {e : Env} {s : State} {m : MethodId} {args : Array Value} {below : List Frame} {meth : Method} {c : Code} {G : xG} {A : Nat → Prop} {a : Nat → Nat} (C0 : xC p s m meth c cX9_draw 9 (some .int) RX9 args) (KN : xKN G s) (hA : ∀ q, s.heap.size ≤ q → A q) (ro : Int32) (So0 : tt_Model) : ∀ (S0 : tt_Model), fn_X9_draw_36 S0 = some (ro, So0) → ∀ (H : Heap) (locs : List Loc) (ls : Array Slot), xS G A s.heap (wd_Model G a S0) H locs → lv_has ls 9 [(0, .ref (a 0))] → W p l e ({ frames := 2, cells := 0, slots := 0, locals := 41 }) s m args below meth c H locs 0 0 (MQ below (xQo G (some (.int ro)) A (wd_Model G a So0)) args s 0 0 A) (F0 m 36 ls []) := by
  have hx := C0.1
  have hb := C0.2.1
  intro S0 hf H locs ls X hl
  unfold fn_X9_draw_36 at hf
  refine lv_aload_n (pc := 36) hx hb dX9_draw_36 rfl (lv_at hl 0 rfl) ?_
  refine lv_bipush (pc := 37) (v := (-2)) hx hb dX9_draw_37 (by decide) ?_
  obtain ⟨r_4, P_5, h_6, hf⟩ := b2_e hf
  refine x_cv (pc := 39) (ws' := wd_Model G a P_5) (As := [.int (-2 : Int32)]) (rest := []) (ci := 9) (qr := 0) C0 KN X hA [0, 1, 2, 3, 4, 5, 6, 7, 8, 9, 10, 11, 12, 13, 14, 15, 16, 17, 18] [] [0, 1, 2, 3, 4, 5, 6, 7, 8, 9, 10, 11, 12, 13, 14, 15, 16, 17, 18] cu_C50 rfl cu_R50 rfl (by decide) (cu_J50 (S0 := S0)) rfl (ct_X9_bad l G a S0 (-2 : Int32) r_4 P_5 h_6) rfl rfl rfl kw_11_1 kw_10_22 kw_10_23 kw_11_0 kw_1_5 hd_X9_bad ⟨by decide, by decide⟩ hl.1 rfl (Nat.le_of_ble_eq_true rfl) ⟨Nat.zero_le _, Nat.zero_le _⟩ dX9_draw_39 (fun H locs X => ?_)
  refine W.eq (g2 := F0 m 42 ls [.int r_4]) rfl ?_
  obtain ⟨rfl, rfl⟩ := so_2 hf
  exact x_iret (pc := 42) C0 X dX9_draw_42
set_option maxHeartbeats 4000000 in
set_option maxRecDepth 100000 in
theorem lb_X9_draw_116 {l : Launch} {p : Program} {e : Env} {s : State} {m : MethodId} {args : Array Value} {below : List Frame} {meth : Method} {c : Code} {G : xG} {A : Nat → Prop} {a : Nat → Nat} (C0 : xC p s m meth c cX9_draw 9 (some .int) RX9 args) (KN : xKN G s) (hA : ∀ q, s.heap.size ≤ q → A q) (ro : Int32) (So0 : tt_Model) (k73 : tt_Model → Int32 → Int32 → Int64 → Int32 → Int32 → Option (Int32 × tt_Model)) (hk73 : ∀ (S0 : tt_Model) (x2 : Int32) (x3 : Int32) (x4 : Int64) (x6 : Int32) (x7 : Int32), k73 S0 x2 x3 x4 x6 x7 = some (ro, So0) → ∀ (H : Heap) (locs : List Loc) (ls : Array Slot), xS G A s.heap (wd_Model G a S0) H locs → lv_has ls 9 [(0, .ref (a 0)), (2, .int x2), (3, .int x3), (4, .long x4), (6, .int x6), (7, .int x7)] → W p l e ({ frames := 2, cells := 0, slots := 0, locals := 41 }) s m args below meth c H locs 0 0 (MQ below (xQo G (some (.int ro)) A (wd_Model G a So0)) args s 0 0 A) (F0 m 73 ls [])) : ∀ (S0 : tt_Model) (x2 : Int32) (x3 : Int32) (x4 : Int64) (x6 : Int32) (x7 : Int32) (t0 : Int32), fn_X9_draw_116 k73 S0 x2 x3 x4 x6 x7 t0 = some (ro, So0) → ∀ (H : Heap) (locs : List Loc) (ls : Array Slot), xS G A s.heap (wd_Model G a S0) H locs → lv_has ls 9 [(0, .ref (a 0)), (2, .int x2), (3, .int x3), (4, .long x4), (6, .int x6), (7, .int x7)] → W p l e ({ frames := 2, cells := 0, slots := 0, locals := 41 }) s m args below meth c H locs 0 0 (MQ below (xQo G (some (.int ro)) A (wd_Model G a So0)) args s 0 0 A) (F0 m 116 ls [.int t0]) := by
  have hx := C0.1
  have hb := C0.2.1
  intro S0 x2 x3 x4 x6 x7 t0 hf H locs ls X hl
  unfold fn_X9_draw_116 at hf
  refine lv_istore (pc := 116) (lv' := [(8, .int t0), (0, .ref (a 0)), (2, .int x2), (3, .int x3), (4, .long x4), (6, .int x6), (7, .int x7)]) hx hb dX9_draw_116 hl (by decide) rfl (fun ls hl => ?_)
  refine lv_aload_n (pc := 118) hx hb dX9_draw_118 rfl (lv_at hl 1 rfl) ?_
  refine lv_iload (pc := 119) hx hb dX9_draw_119 (lv_at hl 0 rfl) ?_
  obtain ⟨P_22, h_23, hf⟩ := bd_e hf
  refine x_cv (pc := 121) (ws' := wd_Model G a P_22) (As := [.int t0]) (rest := []) (ci := 9) (qr := 0) C0 KN X hA [0, 1, 2, 3, 4, 5, 6, 7, 8, 9, 10, 11, 12, 13, 14, 15, 16, 17, 18] [] [0, 1, 2, 3, 4, 5, 6, 7, 8, 9, 10, 11, 12, 13, 14, 15, 16, 17, 18] cu_C50 rfl cu_R50 rfl (by decide) (cu_J50 (S0 := S0)) rfl (ct_X9_adds l G a S0 t0 P_22 h_23) rfl rfl rfl kw_11_18 kw_11_15 kw_11_16 kw_11_17 kw_1_5 hd_X9_adds ⟨by decide, by decide⟩ hl.1 rfl (Nat.le_of_ble_eq_true rfl) ⟨Nat.zero_le _, Nat.zero_le _⟩ dX9_draw_121 (fun H locs X => ?_)
  refine W.eq (g2 := F0 m 124 ls []) rfl ?_
  refine lv_iload (pc := 124) hx hb dX9_draw_124 (lv_at hl 5 rfl) ?_
  refine lv_iload (pc := 126) hx hb dX9_draw_126 (lv_at hl 0 rfl) ?_
  refine lv_iadd (pc := 128) hx hb dX9_draw_128 ?_
  refine lv_topi (fun y_24 ey_24 => ?_)
  have hf := lt_sb hf ey_24
  refine lv_istore (pc := 129) (lv' := [(6, .int y_24), (8, .int t0), (0, .ref (a 0)), (2, .int x2), (3, .int x3), (4, .long x4), (7, .int x7)]) hx hb dX9_draw_129 hl (by decide) rfl (fun ls hl => ?_)
  obtain ⟨y_25, ey_25⟩ : ∃ y : Int32, y = x7 + (1 : Int32) := ⟨_, rfl⟩
  have hf := lt_sb hf ey_25
  refine lv_iinc (pc := 131) (v := y_25) (lv' := [(7, .int y_25), (6, .int y_24), (8, .int t0), (0, .ref (a 0)), (2, .int x2), (3, .int x3), (4, .long x4)]) hx hb dX9_draw_131 hl (k := 6) rfl (by rw [ey_25]; rfl) (by decide) rfl (fun ls hl => ?_)
  refine lv_goto (pc := 134) (tgt := 73) hx hb dX9_draw_134 (by decide) ?_
  exact hk73 _ _ _ _ _ _ hf _ _ _ X (lv_sub hl [3, 4, 5, 6, 1, 0] rfl)
set_option maxHeartbeats 4000000 in
set_option maxRecDepth 100000 in
theorem lb_X9_draw_73 {l : Launch} {p : Program} {e : Env} {s : State} {m : MethodId} {args : Array Value} {below : List Frame} {meth : Method} {c : Code} {G : xG} {A : Nat → Prop} {a : Nat → Nat} (C0 : xC p s m meth c cX9_draw 9 (some .int) RX9 args) (KN : xKN G s) (hA : ∀ q, s.heap.size ≤ q → A q) (ro : Int32) (So0 : tt_Model) (k137 : tt_Model → Int32 → Option (Int32 × tt_Model)) (hk137 : ∀ (S0 : tt_Model) (x6 : Int32), k137 S0 x6 = some (ro, So0) → ∀ (H : Heap) (locs : List Loc) (ls : Array Slot), xS G A s.heap (wd_Model G a S0) H locs → lv_has ls 9 [(0, .ref (a 0)), (6, .int x6)] → W p l e ({ frames := 2, cells := 0, slots := 0, locals := 41 }) s m args below meth c H locs 0 0 (MQ below (xQo G (some (.int ro)) A (wd_Model G a So0)) args s 0 0 A) (F0 m 137 ls [])) : ∀ (n : Nat) (S0 : tt_Model) (x2 : Int32) (x3 : Int32) (x4 : Int64) (x6 : Int32) (x7 : Int32), fl_X9_draw_73 k137 n S0 x2 x3 x4 x6 x7 = some (ro, So0) → ∀ (H : Heap) (locs : List Loc) (ls : Array Slot), xS G A s.heap (wd_Model G a S0) H locs → lv_has ls 9 [(0, .ref (a 0)), (2, .int x2), (3, .int x3), (4, .long x4), (6, .int x6), (7, .int x7)] → W p l e ({ frames := 2, cells := 0, slots := 0, locals := 41 }) s m args below meth c H locs 0 0 (MQ below (xQo G (some (.int ro)) A (wd_Model G a So0)) args s 0 0 A) (F0 m 73 ls []) := by
  have hx := C0.1
  have hb := C0.2.1
  intro n
  induction n with
  | zero =>
    intro S0 x2 x3 x4 x6 x7 hf
    have hf : none = some (ro, So0) := hf
    cases hf
  | succ n ih =>
    intro S0 x2 x3 x4 x6 x7 hf H locs ls X hl
    rw [fl_X9_draw_73] at hf
    refine lv_iload (pc := 73) hx hb dX9_draw_73 (lv_at hl 5 rfl) ?_
    refine lv_iload_n (pc := 75) hx hb dX9_draw_75 rfl (lv_at hl 1 rfl) ?_
    refine lv_icmp_ge (pc := 76) (tgt := 137) hx hb dX9_draw_76 (by decide) (fun c_19 => ?_) (fun c_19 => ?_)
    · have hf := it_p hf c_19
      exact hk137 _ _ hf _ _ _ X (lv_sub hl [0, 4] rfl)
    · have hf := it_n hf c_19
      refine lv_lload (pc := 79) hx hb dX9_draw_79 (lv_at hl 3 rfl) ?_
      refine x_ldc2 (pc := 81) C0 kw_15_9 dX9_draw_81 ?_
      refine lv_lmul (pc := 84) hx hb dX9_draw_84 ?_
      refine x_ldc2 (pc := 85) C0 kw_15_10 dX9_draw_85 ?_
      refine lv_ladd (pc := 88) hx hb dX9_draw_88 ?_
      refine x_ldc2 (pc := 89) C0 kw_15_11 dX9_draw_89 ?_
      refine lv_lrem (pc := 92) hx hb dX9_draw_92 (by decide) ?_
      refine lv_topl (fun y_20 ey_20 => ?_)
      have hf := lt_sb hf ey_20
      refine lv_lstore (pc := 93) (lv' := [(4, .long y_20), (0, .ref (a 0)), (2, .int x2), (3, .int x3), (6, .int x6), (7, .int x7)]) hx hb dX9_draw_93 hl (by decide) rfl (fun ls hl => ?_)
      refine lv_lload (pc := 95) hx hb dX9_draw_95 (lv_at hl 0 rfl) ?_
      refine x_ldc2 (pc := 97) C0 kw_13_3 dX9_draw_97 ?_
      refine lv_ldiv (pc := 100) hx hb dX9_draw_100 (by decide) ?_
      refine x_ldc2 (pc := 101) C0 kw_15_8 dX9_draw_101 ?_
      refine lv_lrem (pc := 104) hx hb dX9_draw_104 (by decide) ?_
      refine lv_iload_n (pc := 105) hx hb dX9_draw_105 rfl (lv_at hl 3 rfl) ?_
      refine lv_i2l (pc := 106) (v := x3.toInt64) hx hb dX9_draw_106 rfl ?_
      refine W.lcmp (pc := 107) hx hb dX9_draw_107 ?_
      refine lv_if_ge (pc := 108) (tgt := 115) hx hb dX9_draw_108 (by decide) (fun c_21 => ?_) (fun c_21 => ?_)
      · have hf := it_p hf ((lg_cmp_ge ((y_20 / (65536 : Int64)) - (y_20 / (65536 : Int64)) / (100 : Int64) * (100 : Int64)) x3.toInt64).mp c_21)
        refine lv_iconst (pc := 115) (v := 0) hx hb dX9_draw_115 (by decide) ?_
        exact lb_X9_draw_116 C0 KN hA _ _ (fl_X9_draw_73 k137 n) ih _ _ _ _ _ _ _ hf _ _ _ X (lv_sub hl [1, 2, 3, 0, 4, 5] rfl)
      · have hf := it_n hf (fun z => c_21 ((lg_cmp_ge ((y_20 / (65536 : Int64)) - (y_20 / (65536 : Int64)) / (100 : Int64) * (100 : Int64)) x3.toInt64).mpr z))
        refine lv_iconst (pc := 111) (v := 1) hx hb dX9_draw_111 (by decide) ?_
        refine lv_goto (pc := 112) (tgt := 116) hx hb dX9_draw_112 (by decide) ?_
        exact lb_X9_draw_116 C0 KN hA _ _ (fl_X9_draw_73 k137 n) ih _ _ _ _ _ _ _ hf _ _ _ X (lv_sub hl [1, 2, 3, 0, 4, 5] rfl)
theorem hd_X9_draw : yX9_draw.cls ≠ "java/lang/invoke/MethodHandle" ∧ yX9_draw.cls ≠ "java/lang/invoke/VarHandle" ∧ (parseMethodDescriptor yX9_draw.desc).map (fun d => d.parameters.length) = some 3 := by decide +kernel
set_option maxHeartbeats 4000000 in
set_option maxRecDepth 100000 in
theorem ct_X9_draw (l : Launch) (G : xG) (a : Nat → Nat) (S0 : tt_Model) (x1 : Int32) (x2 : Int32) (x3 : Int32) (ro : Int32) (So0 : tt_Model) (hf : fn_X9_draw S0 x1 x2 x3 = some (ro, So0)) : xM l yX9_draw cX9_draw 9 (some .int) 2 41 G [.ref (a 0), .int x1, .int x2, .int x3] (wd_Model G a S0) (wd_Model G a So0) (some (.int ro)) := by
  refine xMi (by decide) (Nat.le_of_ble_eq_true rfl) ?_
  intro p e s m below meth c A C0 KN hA X ls hl
  have hx := C0.1
  have hb := C0.2.1
  have C0 : xC p s m meth c cX9_draw 9 (some .int) RX9 _ := C0
  have hl : lv_has ls 9 [(0, .ref (a 0)), (1, .int x1), (2, .int x2), (3, .int x3)] := hl
  unfold fn_X9_draw at hf
  refine lv_iload_n (pc := 0) hx hb dX9_draw_0 rfl (lv_at hl 1 rfl) ?_
  refine lv_i2l (pc := 1) (v := x1.toInt64) hx hb dX9_draw_1 rfl ?_
  refine lv_lconst (pc := 2) (v := 0) hx hb dX9_draw_2 (by decide) ?_
  refine x_ldc2 (pc := 3) C0 kw_15_7 dX9_draw_3 ?_
  obtain ⟨r_1, h_2, hf⟩ := bd_e hf
  refine x_cs (pc := 6) (As := [.long x1.toInt64, .long (0 : Int64), .long (999999 : Int64)]) (rest := []) C0 (ct_X9_in l x1.toInt64 (0 : Int64) (999999 : Int64) r_1 h_2) kw_10_21 kw_10_19 kw_10_20 kw_1_5 hd_X9_in ⟨by decide, by decide⟩ hl.1 rfl (Nat.le_of_ble_eq_true rfl) ⟨Nat.zero_le _, Nat.zero_le _⟩ dX9_draw_6 ?_
  refine W.eq (g2 := F0 m 9 ls [.int r_1]) rfl ?_
  refine lv_if_eq (pc := 9) (tgt := 36) hx hb dX9_draw_9 (by decide) (fun c_3 => ?_) (fun c_3 => ?_)
  · have hf := it_p hf c_3
    exact lb_X9_draw_36 C0 KN hA _ _  _ hf _ _ _ X (lv_sub hl [0] rfl)
  · have hf := it_n hf c_3
    refine lv_iload_n (pc := 12) hx hb dX9_draw_12 rfl (lv_at hl 2 rfl) ?_
    refine lv_i2l (pc := 13) (v := x2.toInt64) hx hb dX9_draw_13 rfl ?_
    refine lv_lconst (pc := 14) (v := 1) hx hb dX9_draw_14 (by decide) ?_
    refine x_ldc2 (pc := 15) C0 kw_15_8 dX9_draw_15 ?_
    obtain ⟨r_7, h_8, hf⟩ := bd_e hf
    refine x_cs (pc := 18) (As := [.long x2.toInt64, .long (1 : Int64), .long (100 : Int64)]) (rest := []) C0 (ct_X9_in l x2.toInt64 (1 : Int64) (100 : Int64) r_7 h_8) kw_10_21 kw_10_19 kw_10_20 kw_1_5 hd_X9_in ⟨by decide, by decide⟩ hl.1 rfl (Nat.le_of_ble_eq_true rfl) ⟨Nat.zero_le _, Nat.zero_le _⟩ dX9_draw_18 ?_
    refine W.eq (g2 := F0 m 21 ls [.int r_7]) rfl ?_
    refine lv_if_eq (pc := 21) (tgt := 36) hx hb dX9_draw_21 (by decide) (fun c_9 => ?_) (fun c_9 => ?_)
    · have hf := it_p hf c_9
      exact lb_X9_draw_36 C0 KN hA _ _  _ hf _ _ _ X (lv_sub hl [0] rfl)
    · have hf := it_n hf c_9
      refine lv_iload_n (pc := 24) hx hb dX9_draw_24 rfl (lv_at hl 3 rfl) ?_
      refine lv_i2l (pc := 25) (v := x3.toInt64) hx hb dX9_draw_25 rfl ?_
      refine lv_lconst (pc := 26) (v := 0) hx hb dX9_draw_26 (by decide) ?_
      refine x_ldc2 (pc := 27) C0 kw_15_8 dX9_draw_27 ?_
      obtain ⟨r_10, h_11, hf⟩ := bd_e hf
      refine x_cs (pc := 30) (As := [.long x3.toInt64, .long (0 : Int64), .long (100 : Int64)]) (rest := []) C0 (ct_X9_in l x3.toInt64 (0 : Int64) (100 : Int64) r_10 h_11) kw_10_21 kw_10_19 kw_10_20 kw_1_5 hd_X9_in ⟨by decide, by decide⟩ hl.1 rfl (Nat.le_of_ble_eq_true rfl) ⟨Nat.zero_le _, Nat.zero_le _⟩ dX9_draw_30 ?_
      refine W.eq (g2 := F0 m 33 ls [.int r_10]) rfl ?_
      refine lv_if_ne (pc := 33) (tgt := 43) hx hb dX9_draw_33 (by decide) (fun c_12 => ?_) (fun c_12 => ?_)
      · have hf := it_n hf c_12
        refine lv_aload_n (pc := 43) hx hb dX9_draw_43 rfl (lv_at hl 0 rfl) ?_
        obtain ⟨r_13, h_14, hf⟩ := bd_e hf
        refine x_cv (pc := 44) (ws' := wd_Model G a S0) (As := []) (rest := []) (ci := 9) (qr := 0) C0 KN X hA [0, 1, 2, 3, 4, 5, 6, 7, 8, 9, 10, 11, 12, 13, 14, 15, 16, 17, 18] [] [0, 1, 2, 3, 4, 5, 6, 7, 8, 9, 10, 11, 12, 13, 14, 15, 16, 17, 18] cu_C49 rfl cu_R49 rfl (by decide) (cu_J49 (S0 := S0)) rfl (ct_X9_many l G a S0 r_13 h_14) rfl rfl rfl kw_11_5 kw_11_2 kw_11_3 kw_11_4 kw_1_5 hd_X9_many ⟨by decide, by decide⟩ hl.1 rfl (Nat.le_of_ble_eq_true rfl) ⟨Nat.zero_le _, Nat.zero_le _⟩ dX9_draw_44 (fun H locs X => ?_)
        refine W.eq (g2 := F0 m 47 ls [.int r_13]) rfl ?_
        refine lv_iload_n (pc := 47) hx hb dX9_draw_47 rfl (lv_at hl 2 rfl) ?_
        refine lv_iadd (pc := 48) hx hb dX9_draw_48 ?_
        refine lv_bipush (pc := 49) (v := 100) hx hb dX9_draw_49 (by decide) ?_
        refine lv_icmp_le (pc := 51) (tgt := 59) hx hb dX9_draw_51 (by decide) (fun c_15 => ?_) (fun c_15 => ?_)
        · have hf := it_p hf c_15
          refine lv_iload_n (pc := 59) hx hb dX9_draw_59 rfl (lv_at hl 1 rfl) ?_
          refine lv_i2l (pc := 60) (v := x1.toInt64) hx hb dX9_draw_60 rfl ?_
          refine lv_topl (fun y_16 ey_16 => ?_)
          have hf := lt_sb hf ey_16
          refine lv_lstore (pc := 61) (lv' := [(4, .long y_16), (0, .ref (a 0)), (1, .int x1), (2, .int x2), (3, .int x3)]) hx hb dX9_draw_61 hl (by decide) rfl (fun ls hl => ?_)
          refine lv_iconst (pc := 63) (v := 0) hx hb dX9_draw_63 (by decide) ?_
          refine lv_istore (pc := 64) (lv' := [(6, .int (0 : Int32)), (4, .long y_16), (0, .ref (a 0)), (1, .int x1), (2, .int x2), (3, .int x3)]) hx hb dX9_draw_64 hl (by decide) rfl (fun ls hl => ?_)
          refine lv_aload_n (pc := 66) hx hb dX9_draw_66 rfl (lv_at hl 2 rfl) ?_
          obtain ⟨P_17, h_18, hf⟩ := bd_e hf
          refine x_cv (pc := 67) (ws' := wd_Model G a P_17) (As := []) (rest := []) (ci := 9) (qr := 0) C0 KN X hA [0, 1, 2, 3, 4, 5, 6, 7, 8, 9, 10, 11, 12, 13, 14, 15, 16, 17, 18] [] [0, 1, 2, 3, 4, 5, 6, 7, 8, 9, 10, 11, 12, 13, 14, 15, 16, 17, 18] cu_C50 rfl cu_R50 rfl (by decide) (cu_J50 (S0 := S0)) rfl (ct_X9_keep l G a S0 P_17 h_18) rfl rfl rfl kw_11_13 kw_11_10 kw_11_11 kw_11_12 kw_1_5 hd_X9_keep ⟨by decide, by decide⟩ hl.1 rfl (Nat.le_of_ble_eq_true rfl) ⟨Nat.zero_le _, Nat.zero_le _⟩ dX9_draw_67 (fun H locs X => ?_)
          refine W.eq (g2 := F0 m 70 ls []) rfl ?_
          refine lv_iconst (pc := 70) (v := 0) hx hb dX9_draw_70 (by decide) ?_
          refine lv_istore (pc := 71) (lv' := [(7, .int (0 : Int32)), (6, .int (0 : Int32)), (4, .long y_16), (0, .ref (a 0)), (1, .int x1), (2, .int x2), (3, .int x3)]) hx hb dX9_draw_71 hl (by decide) rfl (fun ls hl => ?_)
          refine lb_X9_draw_73 C0 KN hA _ _ _ ?_ _ _ _ _ _ _ _ hf _ _ _ X (lv_sub hl [3, 5, 6, 2, 1, 0] rfl)
          · intro S0_e137_26 x6_e137_26 hf H locs ls X hl
            refine lv_iload (pc := 137) hx hb dX9_draw_137 (lv_at hl 1 rfl) ?_
            obtain ⟨rfl, rfl⟩ := so_2 hf
            exact x_iret (pc := 139) C0 X dX9_draw_139
        · have hf := it_n hf c_15
          refine lv_aload_n (pc := 54) hx hb dX9_draw_54 rfl (lv_at hl 0 rfl) ?_
          obtain ⟨r_27, P_28, h_29, hf⟩ := b2_e hf
          refine x_cv (pc := 55) (ws' := wd_Model G a P_28) (As := []) (rest := []) (ci := 9) (qr := 0) C0 KN X hA [0, 1, 2, 3, 4, 5, 6, 7, 8, 9, 10, 11, 12, 13, 14, 15, 16, 17, 18] [] [0, 1, 2, 3, 4, 5, 6, 7, 8, 9, 10, 11, 12, 13, 14, 15, 16, 17, 18] cu_C50 rfl cu_R50 rfl (by decide) (cu_J50 (S0 := S0)) rfl (ct_X9_full l G a S0 r_27 P_28 h_29) rfl rfl rfl kw_11_9 kw_11_6 kw_11_7 kw_11_8 kw_1_5 hd_X9_full ⟨by decide, by decide⟩ hl.1 rfl (Nat.le_of_ble_eq_true rfl) ⟨Nat.zero_le _, Nat.zero_le _⟩ dX9_draw_55 (fun H locs X => ?_)
          refine W.eq (g2 := F0 m 58 ls [.int r_27]) rfl ?_
          obtain ⟨rfl, rfl⟩ := so_2 hf
          exact x_iret (pc := 58) C0 X dX9_draw_58
      · have hf := it_p hf c_12
        exact lb_X9_draw_36 C0 KN hA _ _  _ hf _ _ _ X (lv_sub hl [0] rfl)
set_option maxHeartbeats 4000000 in
set_option maxRecDepth 100000 in
theorem lb_X9_sets_32 {l : Launch} {p : Program} {e : Env} {s : State} {m : MethodId} {args : Array Value} {below : List Frame} {meth : Method} {c : Code} {G : xG} {A : Nat → Prop} {a : Nat → Nat} (C0 : xC p s m meth c cX9_sets 4 (some .int) RX9 args) (KN : xKN G s) (hA : ∀ q, s.heap.size ≤ q → A q) (ro : Int32) (So0 : tt_Model) : ∀ (S0 : tt_Model), fn_X9_sets_32 S0 = some (ro, So0) → ∀ (H : Heap) (locs : List Loc) (ls : Array Slot), xS G A s.heap (wd_Model G a S0) H locs → lv_has ls 4 [(0, .ref (a 0))] → W p l e ({ frames := 1, cells := 0, slots := 0, locals := 25 }) s m args below meth c H locs 0 0 (MQ below (xQo G (some (.int ro)) A (wd_Model G a So0)) args s 0 0 A) (F0 m 32 ls []) := by
  have hx := C0.1
  have hb := C0.2.1
  intro S0 hf H locs ls X hl
  unfold fn_X9_sets_32 at hf
  refine lv_aload_n (pc := 32) hx hb dX9_sets_32 rfl (lv_at hl 0 rfl) ?_
  refine lv_bipush (pc := 33) (v := (-2)) hx hb dX9_sets_33 (by decide) ?_
  obtain ⟨r_4, P_5, h_6, hf⟩ := b2_e hf
  refine x_cv (pc := 35) (ws' := wd_Model G a P_5) (As := [.int (-2 : Int32)]) (rest := []) (ci := 9) (qr := 0) C0 KN X hA [0, 1, 2, 3, 4, 5, 6, 7, 8, 9, 10, 11, 12, 13, 14, 15, 16, 17, 18] [] [0, 1, 2, 3, 4, 5, 6, 7, 8, 9, 10, 11, 12, 13, 14, 15, 16, 17, 18] cu_C50 rfl cu_R50 rfl (by decide) (cu_J50 (S0 := S0)) rfl (ct_X9_bad l G a S0 (-2 : Int32) r_4 P_5 h_6) rfl rfl rfl kw_11_1 kw_10_22 kw_10_23 kw_11_0 kw_1_5 hd_X9_bad ⟨by decide, by decide⟩ hl.1 rfl (Nat.le_of_ble_eq_true rfl) ⟨Nat.zero_le _, Nat.zero_le _⟩ dX9_sets_35 (fun H locs X => ?_)
  refine W.eq (g2 := F0 m 38 ls [.int r_4]) rfl ?_
  obtain ⟨rfl, rfl⟩ := so_2 hf
  exact x_iret (pc := 38) C0 X dX9_sets_38
set_option maxHeartbeats 4000000 in
set_option maxRecDepth 100000 in
theorem lb_X9_sets_26 {l : Launch} {p : Program} {e : Env} {s : State} {m : MethodId} {args : Array Value} {below : List Frame} {meth : Method} {c : Code} {G : xG} {A : Nat → Prop} {a : Nat → Nat} (C0 : xC p s m meth c cX9_sets 4 (some .int) RX9 args) (KN : xKN G s) (hA : ∀ q, s.heap.size ≤ q → A q) (ro : Int32) (So0 : tt_Model) : ∀ (S0 : tt_Model) (x1 : Int32) (x2 : Int32) (t0 : Int64) (t1 : Int64) (t2 : Int64), fn_X9_sets_26 S0 x1 x2 t0 t1 t2 = some (ro, So0) → ∀ (H : Heap) (locs : List Loc) (ls : Array Slot), xS G A s.heap (wd_Model G a S0) H locs → lv_has ls 4 [(0, .ref (a 0)), (1, .int x1), (2, .int x2)] → W p l e ({ frames := 1, cells := 0, slots := 0, locals := 25 }) s m args below meth c H locs 0 0 (MQ below (xQo G (some (.int ro)) A (wd_Model G a So0)) args s 0 0 A) (F0 m 26 ls [.long t2, .long t1, .long t0]) := by
  have hx := C0.1
  have hb := C0.2.1
  intro S0 x1 x2 t0 t1 t2 hf H locs ls X hl
  unfold fn_X9_sets_26 at hf
  obtain ⟨r_8, h_9, hf⟩ := bd_e hf
  refine x_cs (pc := 26) (As := [.long t0, .long t1, .long t2]) (rest := []) C0 (ct_X9_in l t0 t1 t2 r_8 h_9) kw_10_21 kw_10_19 kw_10_20 kw_1_5 hd_X9_in ⟨by decide, by decide⟩ hl.1 rfl (Nat.le_of_ble_eq_true rfl) ⟨Nat.zero_le _, Nat.zero_le _⟩ dX9_sets_26 ?_
  refine W.eq (g2 := F0 m 29 ls [.int r_8]) rfl ?_
  refine lv_if_ne (pc := 29) (tgt := 39) hx hb dX9_sets_29 (by decide) (fun c_10 => ?_) (fun c_10 => ?_)
  · have hf := it_n hf c_10
    refine lv_aload_n (pc := 39) hx hb dX9_sets_39 rfl (lv_at hl 0 rfl) ?_
    obtain ⟨P_11, h_12, hf⟩ := bd_e hf
    refine x_cv (pc := 40) (ws' := wd_Model G a P_11) (As := []) (rest := []) (ci := 9) (qr := 0) C0 KN X hA [0, 1, 2, 3, 4, 5, 6, 7, 8, 9, 10, 11, 12, 13, 14, 15, 16, 17, 18] [] [0, 1, 2, 3, 4, 5, 6, 7, 8, 9, 10, 11, 12, 13, 14, 15, 16, 17, 18] cu_C50 rfl cu_R50 rfl (by decide) (cu_J50 (S0 := S0)) rfl (ct_X9_keep l G a S0 P_11 h_12) rfl rfl rfl kw_11_13 kw_11_10 kw_11_11 kw_11_12 kw_1_5 hd_X9_keep ⟨by decide, by decide⟩ hl.1 rfl (Nat.le_of_ble_eq_true rfl) ⟨Nat.zero_le _, Nat.zero_le _⟩ dX9_sets_40 (fun H locs X => ?_)
    refine W.eq (g2 := F0 m 43 ls []) rfl ?_
    refine lv_aload_n (pc := 43) hx hb dX9_sets_43 rfl (lv_at hl 0 rfl) ?_
    refine x_get (pc := 44) (ci := 9) C0 KN X 0 rfl rfl inlX9 0 (by decide) kw_7_9 rfl dX9_sets_44 ?_
    refine lv_bipush (pc := 47) (v := 101) hx hb dX9_sets_47 (by decide) ?_
    refine lv_iload_n (pc := 49) hx hb dX9_sets_49 rfl (lv_at hl 1 rfl) ?_
    refine lv_iadd (pc := 50) hx hb dX9_sets_50 ?_
    obtain ⟨g_13, hf⟩ := gd_e hf
    refine x_ald (pc := 51) C0 KN X 1 rfl g_13 dX9_sets_51 ?_
    refine W.eq (g2 := F0 m 52 ls [.int ((gf_Model_now P_11) ((101 : Int32) + x1).toNatClampNeg)]) rfl ?_
    refine lv_topi (fun y_14 ey_14 => ?_)
    have hf := lt_sb hf ey_14
    refine lv_istore_n (pc := 52) (lv' := [(3, .int y_14), (0, .ref (a 0)), (1, .int x1), (2, .int x2)]) hx hb dX9_sets_52 rfl hl (by decide) rfl (fun ls hl => ?_)
    refine lv_aload_n (pc := 53) hx hb dX9_sets_53 rfl (lv_at hl 1 rfl) ?_
    refine x_get (pc := 54) (ci := 9) C0 KN X 0 rfl rfl inlX9 0 (by decide) kw_7_9 rfl dX9_sets_54 ?_
    refine lv_bipush (pc := 57) (v := 101) hx hb dX9_sets_57 (by decide) ?_
    refine lv_iload_n (pc := 59) hx hb dX9_sets_59 rfl (lv_at hl 2 rfl) ?_
    refine lv_iadd (pc := 60) hx hb dX9_sets_60 ?_
    refine lv_iload_n (pc := 61) hx hb dX9_sets_61 rfl (lv_at hl 3 rfl) ?_
    obtain ⟨g_15, hf⟩ := gd_e hf
    obtain ⟨S_16, eS_16, hf⟩ := lt_e hf
    refine x_ast (pc := 62) (ws' := wd_Model G a S_16) C0 KN X 1 rfl g_15 (by subst eS_16; rfl) dX9_sets_62 (fun H locs X => ?_)
    refine lv_iload_n (pc := 63) hx hb dX9_sets_63 rfl (lv_at hl 0 rfl) ?_
    obtain ⟨rfl, rfl⟩ := so_2 hf
    exact x_iret (pc := 64) C0 X dX9_sets_64
  · have hf := it_p hf c_10
    exact lb_X9_sets_32 C0 KN hA _ _  _ hf _ _ _ X (lv_sub hl [0] rfl)
theorem hd_X9_sets : yX9_sets.cls ≠ "java/lang/invoke/MethodHandle" ∧ yX9_sets.cls ≠ "java/lang/invoke/VarHandle" ∧ (parseMethodDescriptor yX9_sets.desc).map (fun d => d.parameters.length) = some 2 := by decide +kernel
set_option maxHeartbeats 4000000 in
set_option maxRecDepth 100000 in
theorem ct_X9_sets (l : Launch) (G : xG) (a : Nat → Nat) (S0 : tt_Model) (x1 : Int32) (x2 : Int32) (ro : Int32) (So0 : tt_Model) (hf : fn_X9_sets S0 x1 x2 = some (ro, So0)) : xM l yX9_sets cX9_sets 4 (some .int) 1 25 G [.ref (a 0), .int x1, .int x2] (wd_Model G a S0) (wd_Model G a So0) (some (.int ro)) := by
  refine xMi (by decide) (Nat.le_of_ble_eq_true rfl) ?_
  intro p e s m below meth c A C0 KN hA X ls hl
  have hx := C0.1
  have hb := C0.2.1
  have C0 : xC p s m meth c cX9_sets 4 (some .int) RX9 _ := C0
  have hl : lv_has ls 4 [(0, .ref (a 0)), (1, .int x1), (2, .int x2)] := hl
  unfold fn_X9_sets at hf
  refine lv_iload_n (pc := 0) hx hb dX9_sets_0 rfl (lv_at hl 1 rfl) ?_
  refine lv_i2l (pc := 1) (v := x1.toInt64) hx hb dX9_sets_1 rfl ?_
  refine lv_lconst (pc := 2) (v := 0) hx hb dX9_sets_2 (by decide) ?_
  refine lv_lconst (pc := 3) (v := 1) hx hb dX9_sets_3 (by decide) ?_
  obtain ⟨r_1, h_2, hf⟩ := bd_e hf
  refine x_cs (pc := 4) (As := [.long x1.toInt64, .long (0 : Int64), .long (1 : Int64)]) (rest := []) C0 (ct_X9_in l x1.toInt64 (0 : Int64) (1 : Int64) r_1 h_2) kw_10_21 kw_10_19 kw_10_20 kw_1_5 hd_X9_in ⟨by decide, by decide⟩ hl.1 rfl (Nat.le_of_ble_eq_true rfl) ⟨Nat.zero_le _, Nat.zero_le _⟩ dX9_sets_4 ?_
  refine W.eq (g2 := F0 m 7 ls [.int r_1]) rfl ?_
  refine lv_if_eq (pc := 7) (tgt := 32) hx hb dX9_sets_7 (by decide) (fun c_3 => ?_) (fun c_3 => ?_)
  · have hf := it_p hf c_3
    exact lb_X9_sets_32 C0 KN hA _ _  _ hf _ _ _ X (lv_sub hl [0] rfl)
  · have hf := it_n hf c_3
    refine lv_iload_n (pc := 10) hx hb dX9_sets_10 rfl (lv_at hl 2 rfl) ?_
    refine lv_i2l (pc := 11) (v := x2.toInt64) hx hb dX9_sets_11 rfl ?_
    refine lv_lconst (pc := 12) (v := 0) hx hb dX9_sets_12 (by decide) ?_
    refine lv_iload_n (pc := 13) hx hb dX9_sets_13 rfl (lv_at hl 1 rfl) ?_
    refine lv_if_ne (pc := 14) (tgt := 23) hx hb dX9_sets_14 (by decide) (fun c_7 => ?_) (fun c_7 => ?_)
    · have hf := it_n hf c_7
      refine x_ldc2 (pc := 23) C0 kw_16_6 dX9_sets_23 ?_
      exact lb_X9_sets_26 C0 KN hA _ _  _ _ _ _ _ _ hf _ _ _ X (lv_sub hl [0, 1, 2] rfl)
    · have hf := it_p hf c_7
      refine x_ldc2 (pc := 17) C0 kw_16_5 dX9_sets_17 ?_
      refine lv_goto (pc := 20) (tgt := 26) hx hb dX9_sets_20 (by decide) ?_
      exact lb_X9_sets_26 C0 KN hA _ _  _ _ _ _ _ _ hf _ _ _ X (lv_sub hl [0, 1, 2] rfl)
theorem hd_X9_empties : yX9_empties.cls ≠ "java/lang/invoke/MethodHandle" ∧ yX9_empties.cls ≠ "java/lang/invoke/VarHandle" ∧ (parseMethodDescriptor yX9_empties.desc).map (fun d => d.parameters.length) = some 0 := by decide +kernel
set_option maxHeartbeats 4000000 in
set_option maxRecDepth 100000 in
theorem ct_X9_empties (l : Launch) (G : xG) (a : Nat → Nat) (S0 : tt_Model) (ro : Int32) (So0 : tt_Model) (hf : fn_X9_empties S0 = some (ro, So0)) : xM l yX9_empties cX9_empties 2 (some .int) 1 21 G [.ref (a 0)] (wd_Model G a S0) (wd_Model G a So0) (some (.int ro)) := by
  refine xMi (by decide) (Nat.le_of_ble_eq_true rfl) ?_
  intro p e s m below meth c A C0 KN hA X ls hl
  have hx := C0.1
  have hb := C0.2.1
  have C0 : xC p s m meth c cX9_empties 2 (some .int) RX9 _ := C0
  have hl : lv_has ls 2 [(0, .ref (a 0))] := hl
  unfold fn_X9_empties at hf
  refine lv_aload_n (pc := 0) hx hb dX9_empties_0 rfl (lv_at hl 0 rfl) ?_
  obtain ⟨r_1, h_2, hf⟩ := bd_e hf
  refine x_cv (pc := 1) (ws' := wd_Model G a S0) (As := []) (rest := []) (ci := 9) (qr := 0) C0 KN X hA [0, 1, 2, 3, 4, 5, 6, 7, 8, 9, 10, 11, 12, 13, 14, 15, 16, 17, 18] [] [0, 1, 2, 3, 4, 5, 6, 7, 8, 9, 10, 11, 12, 13, 14, 15, 16, 17, 18] cu_C49 rfl cu_R49 rfl (by decide) (cu_J49 (S0 := S0)) rfl (ct_X9_many l G a S0 r_1 h_2) rfl rfl rfl kw_11_5 kw_11_2 kw_11_3 kw_11_4 kw_1_5 hd_X9_many ⟨by decide, by decide⟩ hl.1 rfl (Nat.le_of_ble_eq_true rfl) ⟨Nat.zero_le _, Nat.zero_le _⟩ dX9_empties_1 (fun H locs X => ?_)
  refine W.eq (g2 := F0 m 4 ls [.int r_1]) rfl ?_
  refine lv_istore_n (pc := 4) (lv' := [(1, .int r_1), (0, .ref (a 0))]) hx hb dX9_empties_4 rfl hl (by decide) rfl (fun ls hl => ?_)
  refine lv_aload_n (pc := 5) hx hb dX9_empties_5 rfl (lv_at hl 1 rfl) ?_
  obtain ⟨P_3, h_4, hf⟩ := bd_e hf
  refine x_cv (pc := 6) (ws' := wd_Model G a P_3) (As := []) (rest := []) (ci := 9) (qr := 0) C0 KN X hA [0, 1, 2, 3, 4, 5, 6, 7, 8, 9, 10, 11, 12, 13, 14, 15, 16, 17, 18] [] [0, 1, 2, 3, 4, 5, 6, 7, 8, 9, 10, 11, 12, 13, 14, 15, 16, 17, 18] cu_C50 rfl cu_R50 rfl (by decide) (cu_J50 (S0 := S0)) rfl (ct_X9_keep l G a S0 P_3 h_4) rfl rfl rfl kw_11_13 kw_11_10 kw_11_11 kw_11_12 kw_1_5 hd_X9_keep ⟨by decide, by decide⟩ hl.1 rfl (Nat.le_of_ble_eq_true rfl) ⟨Nat.zero_le _, Nat.zero_le _⟩ dX9_empties_6 (fun H locs X => ?_)
  refine W.eq (g2 := F0 m 9 ls []) rfl ?_
  refine lv_aload_n (pc := 9) hx hb dX9_empties_9 rfl (lv_at hl 1 rfl) ?_
  refine x_get (pc := 10) (ci := 9) C0 KN X 0 rfl rfl inlX9 0 (by decide) kw_7_9 rfl dX9_empties_10 ?_
  refine lv_bipush (pc := 13) (v := 100) hx hb dX9_empties_13 (by decide) ?_
  refine lv_iconst (pc := 15) (v := 0) hx hb dX9_empties_15 (by decide) ?_
  obtain ⟨g_5, hf⟩ := gd_e hf
  obtain ⟨S_6, eS_6, hf⟩ := lt_e hf
  refine x_ast (pc := 16) (ws' := wd_Model G a S_6) C0 KN X 1 rfl g_5 (by subst eS_6; rfl) dX9_empties_16 (fun H locs X => ?_)
  refine lv_iload_n (pc := 17) hx hb dX9_empties_17 rfl (lv_at hl 0 rfl) ?_
  obtain ⟨rfl, rfl⟩ := so_2 hf
  exact x_iret (pc := 18) C0 X dX9_empties_18
theorem hd_X9_drop : yX9_drop.cls ≠ "java/lang/invoke/MethodHandle" ∧ yX9_drop.cls ≠ "java/lang/invoke/VarHandle" ∧ (parseMethodDescriptor yX9_drop.desc).map (fun d => d.parameters.length) = some 0 := by decide +kernel
set_option maxHeartbeats 4000000 in
set_option maxRecDepth 100000 in
theorem ct_X9_drop (l : Launch) (G : xG) (a : Nat → Nat) (S0 : tt_Model) (ro : Int32) (So0 : tt_Model) (hf : fn_X9_drop S0 = some (ro, So0)) : xM l yX9_drop cX9_drop 1 (some .int) 1 21 G [.ref (a 0)] (wd_Model G a S0) (wd_Model G a So0) (some (.int ro)) := by
  refine xMi (by decide) (Nat.le_of_ble_eq_true rfl) ?_
  intro p e s m below meth c A C0 KN hA X ls hl
  have hx := C0.1
  have hb := C0.2.1
  have C0 : xC p s m meth c cX9_drop 1 (some .int) RX9 _ := C0
  have hl : lv_has ls 1 [(0, .ref (a 0))] := hl
  unfold fn_X9_drop at hf
  refine lv_aload_n (pc := 0) hx hb dX9_drop_0 rfl (lv_at hl 0 rfl) ?_
  obtain ⟨r_1, h_2, hf⟩ := bd_e hf
  refine x_cv (pc := 1) (ws' := wd_Model G a S0) (As := []) (rest := []) (ci := 9) (qr := 0) C0 KN X hA [0, 1, 2, 3, 4, 5, 6, 7, 8, 9, 10, 11, 12, 13, 14, 15, 16, 17, 18] [] [0, 1, 2, 3, 4, 5, 6, 7, 8, 9, 10, 11, 12, 13, 14, 15, 16, 17, 18] cu_C49 rfl cu_R49 rfl (by decide) (cu_J49 (S0 := S0)) rfl (ct_X9_many l G a S0 r_1 h_2) rfl rfl rfl kw_11_5 kw_11_2 kw_11_3 kw_11_4 kw_1_5 hd_X9_many ⟨by decide, by decide⟩ hl.1 rfl (Nat.le_of_ble_eq_true rfl) ⟨Nat.zero_le _, Nat.zero_le _⟩ dX9_drop_1 (fun H locs X => ?_)
  refine W.eq (g2 := F0 m 4 ls [.int r_1]) rfl ?_
  refine lv_if_ne (pc := 4) (tgt := 12) hx hb dX9_drop_4 (by decide) (fun c_3 => ?_) (fun c_3 => ?_)
  · have hf := it_n hf c_3
    refine lv_aload_n (pc := 12) hx hb dX9_drop_12 rfl (lv_at hl 0 rfl) ?_
    obtain ⟨P_4, h_5, hf⟩ := bd_e hf
    refine x_cv (pc := 13) (ws' := wd_Model G a P_4) (As := []) (rest := []) (ci := 9) (qr := 0) C0 KN X hA [0, 1, 2, 3, 4, 5, 6, 7, 8, 9, 10, 11, 12, 13, 14, 15, 16, 17, 18] [] [0, 1, 2, 3, 4, 5, 6, 7, 8, 9, 10, 11, 12, 13, 14, 15, 16, 17, 18] cu_C50 rfl cu_R50 rfl (by decide) (cu_J50 (S0 := S0)) rfl (ct_X9_keep l G a S0 P_4 h_5) rfl rfl rfl kw_11_13 kw_11_10 kw_11_11 kw_11_12 kw_1_5 hd_X9_keep ⟨by decide, by decide⟩ hl.1 rfl (Nat.le_of_ble_eq_true rfl) ⟨Nat.zero_le _, Nat.zero_le _⟩ dX9_drop_13 (fun H locs X => ?_)
    refine W.eq (g2 := F0 m 16 ls []) rfl ?_
    refine lv_aload_n (pc := 16) hx hb dX9_drop_16 rfl (lv_at hl 0 rfl) ?_
    refine x_get (pc := 17) (ci := 9) C0 KN X 0 rfl rfl inlX9 0 (by decide) kw_7_9 rfl dX9_drop_17 ?_
    refine lv_bipush (pc := 20) (v := 100) hx hb dX9_drop_20 (by decide) ?_
    refine lv_dup2_11 (pc := 22) hx hb dX9_drop_22 rfl rfl ?_
    obtain ⟨g_6, hf⟩ := gd_e hf
    refine x_ald (pc := 23) C0 KN X 1 rfl g_6 dX9_drop_23 ?_
    refine W.eq (g2 := F0 m 24 ls [.int ((gf_Model_now P_4) (100 : Int32).toNatClampNeg), .int (100 : Int32), .ref (a 1)]) rfl ?_
    refine lv_iconst (pc := 24) (v := 1) hx hb dX9_drop_24 (by decide) ?_
    refine lv_isub (pc := 25) hx hb dX9_drop_25 ?_
    refine lv_topi (fun y_7 ey_7 => ?_)
    have hf := lt_sb hf ey_7
    obtain ⟨g_8, hf⟩ := gd_e hf
    obtain ⟨S_9, eS_9, hf⟩ := lt_e hf
    refine x_ast (pc := 26) (ws' := wd_Model G a S_9) C0 KN X 1 rfl g_8 (by subst eS_9; rfl) dX9_drop_26 (fun H locs X => ?_)
    refine lv_aload_n (pc := 27) hx hb dX9_drop_27 rfl (lv_at hl 0 rfl) ?_
    obtain ⟨r_10, h_11, hf⟩ := bd_e hf
    refine x_cv (pc := 28) (ws' := wd_Model G a S_9) (As := []) (rest := []) (ci := 9) (qr := 0) C0 KN X hA [0, 1, 2, 3, 4, 5, 6, 7, 8, 9, 10, 11, 12, 13, 14, 15, 16, 17, 18] [] [0, 1, 2, 3, 4, 5, 6, 7, 8, 9, 10, 11, 12, 13, 14, 15, 16, 17, 18] cu_C49 rfl cu_R49 rfl (by decide) (cu_J49 (S0 := S_9)) rfl (ct_X9_many l G a S_9 r_10 h_11) rfl rfl rfl kw_11_5 kw_11_2 kw_11_3 kw_11_4 kw_1_5 hd_X9_many ⟨by decide, by decide⟩ hl.1 rfl (Nat.le_of_ble_eq_true rfl) ⟨Nat.zero_le _, Nat.zero_le _⟩ dX9_drop_28 (fun H locs X => ?_)
    refine W.eq (g2 := F0 m 31 ls [.int r_10]) rfl ?_
    obtain ⟨rfl, rfl⟩ := so_2 hf
    exact x_iret (pc := 31) C0 X dX9_drop_31
  · have hf := it_p hf c_3
    refine lv_aload_n (pc := 7) hx hb dX9_drop_7 rfl (lv_at hl 0 rfl) ?_
    obtain ⟨r_12, P_13, h_14, hf⟩ := b2_e hf
    refine x_cv (pc := 8) (ws' := wd_Model G a P_13) (As := []) (rest := []) (ci := 9) (qr := 0) C0 KN X hA [0, 1, 2, 3, 4, 5, 6, 7, 8, 9, 10, 11, 12, 13, 14, 15, 16, 17, 18] [] [0, 1, 2, 3, 4, 5, 6, 7, 8, 9, 10, 11, 12, 13, 14, 15, 16, 17, 18] cu_C50 rfl cu_R50 rfl (by decide) (cu_J50 (S0 := S0)) rfl (ct_X9_no l G a S0 r_12 P_13 h_14) rfl rfl rfl kw_17_2 kw_16_23 kw_17_0 kw_17_1 kw_1_5 hd_X9_no ⟨by decide, by decide⟩ hl.1 rfl (Nat.le_of_ble_eq_true rfl) ⟨Nat.zero_le _, Nat.zero_le _⟩ dX9_drop_8 (fun H locs X => ?_)
    refine W.eq (g2 := F0 m 11 ls [.int r_12]) rfl ?_
    obtain ⟨rfl, rfl⟩ := so_2 hf
    exact x_iret (pc := 11) C0 X dX9_drop_11
theorem hd_X9_at : yX9_at.cls ≠ "java/lang/invoke/MethodHandle" ∧ yX9_at.cls ≠ "java/lang/invoke/VarHandle" ∧ (parseMethodDescriptor yX9_at.desc).map (fun d => d.parameters.length) = some 1 := by decide +kernel
set_option maxHeartbeats 4000000 in
set_option maxRecDepth 100000 in
theorem ct_X9_at (l : Launch) (G : xG) (a : Nat → Nat) (S0 : tt_Model) (x1 : Int32) (ro : Int32) (So0 : tt_Model) (hf : fn_X9_at S0 x1 = some (ro, So0)) : xM l yX9_at cX9_at 2 (some .int) 1 25 G [.ref (a 0), .int x1] (wd_Model G a S0) (wd_Model G a So0) (some (.int ro)) := by
  refine xMi (by decide) (Nat.le_of_ble_eq_true rfl) ?_
  intro p e s m below meth c A C0 KN hA X ls hl
  have hx := C0.1
  have hb := C0.2.1
  have C0 : xC p s m meth c cX9_at 2 (some .int) RX9 _ := C0
  have hl : lv_has ls 2 [(0, .ref (a 0)), (1, .int x1)] := hl
  unfold fn_X9_at at hf
  refine lv_iload_n (pc := 0) hx hb dX9_at_0 rfl (lv_at hl 1 rfl) ?_
  refine lv_i2l (pc := 1) (v := x1.toInt64) hx hb dX9_at_1 rfl ?_
  refine lv_lconst (pc := 2) (v := 0) hx hb dX9_at_2 (by decide) ?_
  refine lv_aload_n (pc := 3) hx hb dX9_at_3 rfl (lv_at hl 0 rfl) ?_
  obtain ⟨r_1, h_2, hf⟩ := bd_e hf
  refine x_cv (pc := 4) (ws' := wd_Model G a S0) (As := []) (rest := [.long (0 : Int64), .long x1.toInt64]) (ci := 9) (qr := 0) C0 KN X hA [0, 1, 2, 3, 4, 5, 6, 7, 8, 9, 10, 11, 12, 13, 14, 15, 16, 17, 18] [] [0, 1, 2, 3, 4, 5, 6, 7, 8, 9, 10, 11, 12, 13, 14, 15, 16, 17, 18] cu_C49 rfl cu_R49 rfl (by decide) (cu_J49 (S0 := S0)) rfl (ct_X9_many l G a S0 r_1 h_2) rfl rfl rfl kw_11_5 kw_11_2 kw_11_3 kw_11_4 kw_1_5 hd_X9_many ⟨by decide, by decide⟩ hl.1 rfl (Nat.le_of_ble_eq_true rfl) ⟨Nat.zero_le _, Nat.zero_le _⟩ dX9_at_4 (fun H locs X => ?_)
  refine W.eq (g2 := F0 m 7 ls [.int r_1, .long (0 : Int64), .long x1.toInt64]) rfl ?_
  refine lv_iconst (pc := 7) (v := 1) hx hb dX9_at_7 (by decide) ?_
  refine lv_isub (pc := 8) hx hb dX9_at_8 ?_
  refine lv_i2l (pc := 9) (v := (r_1 - (1 : Int32)).toInt64) hx hb dX9_at_9 rfl ?_
  obtain ⟨r_3, h_4, hf⟩ := bd_e hf
  refine x_cs (pc := 10) (As := [.long x1.toInt64, .long (0 : Int64), .long ((r_1 - (1 : Int32)).toInt64)]) (rest := []) C0 (ct_X9_in l x1.toInt64 (0 : Int64) ((r_1 - (1 : Int32)).toInt64) r_3 h_4) kw_10_21 kw_10_19 kw_10_20 kw_1_5 hd_X9_in ⟨by decide, by decide⟩ hl.1 rfl (Nat.le_of_ble_eq_true rfl) ⟨Nat.zero_le _, Nat.zero_le _⟩ dX9_at_10 ?_
  refine W.eq (g2 := F0 m 13 ls [.int r_3]) rfl ?_
  refine lv_if_eq (pc := 13) (tgt := 25) hx hb dX9_at_13 (by decide) (fun c_5 => ?_) (fun c_5 => ?_)
  · have hf := it_p hf c_5
    refine lv_aload_n (pc := 25) hx hb dX9_at_25 rfl (lv_at hl 0 rfl) ?_
    refine lv_bipush (pc := 26) (v := (-2)) hx hb dX9_at_26 (by decide) ?_
    obtain ⟨r_6, P_7, h_8, hf⟩ := b2_e hf
    refine x_cv (pc := 28) (ws' := wd_Model G a P_7) (As := [.int (-2 : Int32)]) (rest := []) (ci := 9) (qr := 0) C0 KN X hA [0, 1, 2, 3, 4, 5, 6, 7, 8, 9, 10, 11, 12, 13, 14, 15, 16, 17, 18] [] [0, 1, 2, 3, 4, 5, 6, 7, 8, 9, 10, 11, 12, 13, 14, 15, 16, 17, 18] cu_C50 rfl cu_R50 rfl (by decide) (cu_J50 (S0 := S0)) rfl (ct_X9_bad l G a S0 (-2 : Int32) r_6 P_7 h_8) rfl rfl rfl kw_11_1 kw_10_22 kw_10_23 kw_11_0 kw_1_5 hd_X9_bad ⟨by decide, by decide⟩ hl.1 rfl (Nat.le_of_ble_eq_true rfl) ⟨Nat.zero_le _, Nat.zero_le _⟩ dX9_at_28 (fun H locs X => ?_)
    refine W.eq (g2 := F0 m 31 ls [.int r_6]) rfl ?_
    obtain ⟨rfl, rfl⟩ := so_2 hf
    exact x_iret (pc := 31) C0 X dX9_at_31
  · have hf := it_n hf c_5
    refine lv_aload_n (pc := 16) hx hb dX9_at_16 rfl (lv_at hl 0 rfl) ?_
    refine x_get (pc := 17) (ci := 9) C0 KN X 0 rfl rfl inlX9 0 (by decide) kw_7_9 rfl dX9_at_17 ?_
    refine lv_iload_n (pc := 20) hx hb dX9_at_20 rfl (lv_at hl 1 rfl) ?_
    obtain ⟨g_9, hf⟩ := gd_e hf
    refine x_ald (pc := 21) C0 KN X 1 rfl g_9 dX9_at_21 ?_
    refine W.eq (g2 := F0 m 22 ls [.int ((gf_Model_now S0) x1.toNatClampNeg)]) rfl ?_
    refine lv_goto (pc := 22) (tgt := 31) hx hb dX9_at_22 (by decide) ?_
    obtain ⟨rfl, rfl⟩ := so_2 hf
    exact x_iret (pc := 31) C0 X dX9_at_31
theorem hd_X9_guessNow : yX9_guessNow.cls ≠ "java/lang/invoke/MethodHandle" ∧ yX9_guessNow.cls ≠ "java/lang/invoke/VarHandle" ∧ (parseMethodDescriptor yX9_guessNow.desc).map (fun d => d.parameters.length) = some 0 := by decide +kernel
set_option maxHeartbeats 4000000 in
set_option maxRecDepth 100000 in
theorem ct_X9_guessNow (l : Launch) (G : xG) (a : Nat → Nat) (S0 : tt_Model) (ro : Int32) (So0 : tt_Model) (hf : fn_X9_guessNow S0 = some (ro, So0)) : xM l yX9_guessNow cX9_guessNow 2 (some .int) 5 114 G [.ref (a 0)] (wd_Model G a S0) (wd_Model G a So0) (some (.int ro)) := by
  refine xMi (by decide) (Nat.le_of_ble_eq_true rfl) ?_
  intro p e s m below meth c A C0 KN hA X ls hl
  have hx := C0.1
  have hb := C0.2.1
  have C0 : xC p s m meth c cX9_guessNow 2 (some .int) RX9 _ := C0
  have hl : lv_has ls 2 [(0, .ref (a 0))] := hl
  unfold fn_X9_guessNow at hf
  refine lv_aload_n (pc := 0) hx hb dX9_guessNow_0 rfl (lv_at hl 0 rfl) ?_
  obtain ⟨r_1, P_2, h_3, hf⟩ := b2_e hf
  refine x_cv (pc := 1) (ws' := wd_Model G a P_2) (As := []) (rest := []) (ci := 9) (qr := 0) C0 KN X hA [0, 1, 2, 3, 4, 5, 6, 7, 8, 9, 10, 11, 12, 13, 14, 15, 16, 17, 18] [] [0, 1, 2, 3, 4, 5, 6, 7, 8, 9, 10, 11, 12, 13, 14, 15, 16, 17, 18] cu_C50 rfl cu_R50 rfl (by decide) (cu_J50 (S0 := S0)) rfl (ct_X9_goesNow l G a S0 r_1 P_2 h_3) rfl rfl rfl kw_12_2 kw_11_23 kw_12_0 kw_12_1 kw_1_5 hd_X9_goesNow ⟨by decide, by decide⟩ hl.1 rfl (Nat.le_of_ble_eq_true rfl) ⟨Nat.zero_le _, Nat.zero_le _⟩ dX9_guessNow_1 (fun H locs X => ?_)
  refine W.eq (g2 := F0 m 4 ls [.int r_1]) rfl ?_
  refine lv_istore_n (pc := 4) (lv' := [(1, .int r_1), (0, .ref (a 0))]) hx hb dX9_guessNow_4 rfl hl (by decide) rfl (fun ls hl => ?_)
  refine lv_aload_n (pc := 5) hx hb dX9_guessNow_5 rfl (lv_at hl 1 rfl) ?_
  obtain ⟨r_4, P_5, h_6, hf⟩ := b2_e hf
  refine x_cv (pc := 6) (ws' := wd_Model G a P_5) (As := []) (rest := []) (ci := 9) (qr := 0) C0 KN X hA [0, 1, 2, 3, 4, 5, 6, 7, 8, 9, 10, 11, 12, 13, 14, 15, 16, 17, 18] [] [0, 1, 2, 3, 4, 5, 6, 7, 8, 9, 10, 11, 12, 13, 14, 15, 16, 17, 18] cu_C50 rfl cu_R50 rfl (by decide) (cu_J50 (S0 := P_2)) rfl (ct_X9_guesses l G a P_2 r_4 P_5 h_6) rfl rfl rfl kw_13_2 kw_12_23 kw_13_0 kw_13_1 kw_1_5 hd_X9_guesses ⟨by decide, by decide⟩ hl.1 rfl (Nat.le_of_ble_eq_true rfl) ⟨Nat.zero_le _, Nat.zero_le _⟩ dX9_guessNow_6 (fun H locs X => ?_)
  refine W.eq (g2 := F0 m 9 ls [.int r_4]) rfl ?_
  obtain ⟨rfl, rfl⟩ := so_2 hf
  exact x_iret (pc := 9) C0 X dX9_guessNow_9
theorem hd_X9_guess : yX9_guess.cls ≠ "java/lang/invoke/MethodHandle" ∧ yX9_guess.cls ≠ "java/lang/invoke/VarHandle" ∧ (parseMethodDescriptor yX9_guess.desc).map (fun d => d.parameters.length) = some 0 := by decide +kernel
set_option maxHeartbeats 4000000 in
set_option maxRecDepth 100000 in
theorem ct_X9_guess (l : Launch) (G : xG) (a : Nat → Nat) (S0 : tt_Model) (ro : Int32) (So0 : tt_Model) (hf : fn_X9_guess S0 = some (ro, So0)) : xM l yX9_guess cX9_guess 1 (some .int) 6 135 G [.ref (a 0)] (wd_Model G a S0) (wd_Model G a So0) (some (.int ro)) := by
  refine xMi (by decide) (Nat.le_of_ble_eq_true rfl) ?_
  intro p e s m below meth c A C0 KN hA X ls hl
  have hx := C0.1
  have hb := C0.2.1
  have C0 : xC p s m meth c cX9_guess 1 (some .int) RX9 _ := C0
  have hl : lv_has ls 1 [(0, .ref (a 0))] := hl
  unfold fn_X9_guess at hf
  refine lv_aload_n (pc := 0) hx hb dX9_guess_0 rfl (lv_at hl 0 rfl) ?_
  obtain ⟨r_1, P_2, h_3, hf⟩ := b2_e hf
  refine x_cv (pc := 1) (ws' := wd_Model G a P_2) (As := []) (rest := []) (ci := 9) (qr := 0) C0 KN X hA [0, 1, 2, 3, 4, 5, 6, 7, 8, 9, 10, 11, 12, 13, 14, 15, 16, 17, 18] [] [0, 1, 2, 3, 4, 5, 6, 7, 8, 9, 10, 11, 12, 13, 14, 15, 16, 17, 18] cu_C50 rfl cu_R50 rfl (by decide) (cu_J50 (S0 := S0)) rfl (ct_X9_guessNow l G a S0 r_1 P_2 h_3) rfl rfl rfl kw_18_4 kw_18_1 kw_18_2 kw_18_3 kw_1_5 hd_X9_guessNow ⟨by decide, by decide⟩ hl.1 rfl (Nat.le_of_ble_eq_true rfl) ⟨Nat.zero_le _, Nat.zero_le _⟩ dX9_guess_1 (fun H locs X => ?_)
  refine W.eq (g2 := F0 m 4 ls [.int r_1]) rfl ?_
  obtain ⟨rfl, rfl⟩ := so_2 hf
  exact x_iret (pc := 4) C0 X dX9_guess_4
set_option maxHeartbeats 4000000 in
set_option maxRecDepth 100000 in
theorem lb_X9_was_26 {l : Launch} {p : Program} {e : Env} {s : State} {m : MethodId} {args : Array Value} {below : List Frame} {meth : Method} {c : Code} {G : xG} {A : Nat → Prop} {a : Nat → Nat} (C0 : xC p s m meth c cX9_was 4 (some .int) RX9 args) (KN : xKN G s) (hA : ∀ q, s.heap.size ≤ q → A q) (ro : Int32) (So0 : tt_Model) : ∀ (S0 : tt_Model), fn_X9_was_26 S0 = some (ro, So0) → ∀ (H : Heap) (locs : List Loc) (ls : Array Slot), xS G A s.heap (wd_Model G a S0) H locs → lv_has ls 4 [(0, .ref (a 0))] → W p l e ({ frames := 5, cells := 0, slots := 0, locals := 114 }) s m args below meth c H locs 0 0 (MQ below (xQo G (some (.int ro)) A (wd_Model G a So0)) args s 0 0 A) (F0 m 26 ls []) := by
  have hx := C0.1
  have hb := C0.2.1
  intro S0 hf H locs ls X hl
  unfold fn_X9_was_26 at hf
  refine lv_aload_n (pc := 26) hx hb dX9_was_26 rfl (lv_at hl 0 rfl) ?_
  refine lv_bipush (pc := 27) (v := (-2)) hx hb dX9_was_27 (by decide) ?_
  obtain ⟨r_6, P_7, h_8, hf⟩ := b2_e hf
  refine x_cv (pc := 29) (ws' := wd_Model G a P_7) (As := [.int (-2 : Int32)]) (rest := []) (ci := 9) (qr := 0) C0 KN X hA [0, 1, 2, 3, 4, 5, 6, 7, 8, 9, 10, 11, 12, 13, 14, 15, 16, 17, 18] [] [0, 1, 2, 3, 4, 5, 6, 7, 8, 9, 10, 11, 12, 13, 14, 15, 16, 17, 18] cu_C50 rfl cu_R50 rfl (by decide) (cu_J50 (S0 := S0)) rfl (ct_X9_bad l G a S0 (-2 : Int32) r_6 P_7 h_8) rfl rfl rfl kw_11_1 kw_10_22 kw_10_23 kw_11_0 kw_1_5 hd_X9_bad ⟨by decide, by decide⟩ hl.1 rfl (Nat.le_of_ble_eq_true rfl) ⟨Nat.zero_le _, Nat.zero_le _⟩ dX9_was_29 (fun H locs X => ?_)
  refine W.eq (g2 := F0 m 32 ls [.int r_6]) rfl ?_
  obtain ⟨rfl, rfl⟩ := so_2 hf
  exact x_iret (pc := 32) C0 X dX9_was_32
theorem hd_X9_was : yX9_was.cls ≠ "java/lang/invoke/MethodHandle" ∧ yX9_was.cls ≠ "java/lang/invoke/VarHandle" ∧ (parseMethodDescriptor yX9_was.desc).map (fun d => d.parameters.length) = some 2 := by decide +kernel
set_option maxHeartbeats 4000000 in
set_option maxRecDepth 100000 in
theorem ct_X9_was (l : Launch) (G : xG) (a : Nat → Nat) (S0 : tt_Model) (x1 : Int32) (x2 : Int32) (ro : Int32) (So0 : tt_Model) (hf : fn_X9_was S0 x1 x2 = some (ro, So0)) : xM l yX9_was cX9_was 4 (some .int) 5 114 G [.ref (a 0), .int x1, .int x2] (wd_Model G a S0) (wd_Model G a So0) (some (.int ro)) := by
  refine xMi (by decide) (Nat.le_of_ble_eq_true rfl) ?_
  intro p e s m below meth c A C0 KN hA X ls hl
  have hx := C0.1
  have hb := C0.2.1
  have C0 : xC p s m meth c cX9_was 4 (some .int) RX9 _ := C0
  have hl : lv_has ls 4 [(0, .ref (a 0)), (1, .int x1), (2, .int x2)] := hl
  unfold fn_X9_was at hf
  refine lv_iload_n (pc := 0) hx hb dX9_was_0 rfl (lv_at hl 1 rfl) ?_
  refine lv_i2l (pc := 1) (v := x1.toInt64) hx hb dX9_was_1 rfl ?_
  refine lv_lconst (pc := 2) (v := 0) hx hb dX9_was_2 (by decide) ?_
  refine lv_aload_n (pc := 3) hx hb dX9_was_3 rfl (lv_at hl 0 rfl) ?_
  obtain ⟨r_1, h_2, hf⟩ := bd_e hf
  refine x_cv (pc := 4) (ws' := wd_Model G a S0) (As := []) (rest := [.long (0 : Int64), .long x1.toInt64]) (ci := 9) (qr := 0) C0 KN X hA [0, 1, 2, 3, 4, 5, 6, 7, 8, 9, 10, 11, 12, 13, 14, 15, 16, 17, 18] [] [0, 1, 2, 3, 4, 5, 6, 7, 8, 9, 10, 11, 12, 13, 14, 15, 16, 17, 18] cu_C49 rfl cu_R49 rfl (by decide) (cu_J49 (S0 := S0)) rfl (ct_X9_many l G a S0 r_1 h_2) rfl rfl rfl kw_11_5 kw_11_2 kw_11_3 kw_11_4 kw_1_5 hd_X9_many ⟨by decide, by decide⟩ hl.1 rfl (Nat.le_of_ble_eq_true rfl) ⟨Nat.zero_le _, Nat.zero_le _⟩ dX9_was_4 (fun H locs X => ?_)
  refine W.eq (g2 := F0 m 7 ls [.int r_1, .long (0 : Int64), .long x1.toInt64]) rfl ?_
  refine lv_iconst (pc := 7) (v := 1) hx hb dX9_was_7 (by decide) ?_
  refine lv_isub (pc := 8) hx hb dX9_was_8 ?_
  refine lv_i2l (pc := 9) (v := (r_1 - (1 : Int32)).toInt64) hx hb dX9_was_9 rfl ?_
  obtain ⟨r_3, h_4, hf⟩ := bd_e hf
  refine x_cs (pc := 10) (As := [.long x1.toInt64, .long (0 : Int64), .long ((r_1 - (1 : Int32)).toInt64)]) (rest := []) C0 (ct_X9_in l x1.toInt64 (0 : Int64) ((r_1 - (1 : Int32)).toInt64) r_3 h_4) kw_10_21 kw_10_19 kw_10_20 kw_1_5 hd_X9_in ⟨by decide, by decide⟩ hl.1 rfl (Nat.le_of_ble_eq_true rfl) ⟨Nat.zero_le _, Nat.zero_le _⟩ dX9_was_10 ?_
  refine W.eq (g2 := F0 m 13 ls [.int r_3]) rfl ?_
  refine lv_if_eq (pc := 13) (tgt := 26) hx hb dX9_was_13 (by decide) (fun c_5 => ?_) (fun c_5 => ?_)
  · have hf := it_p hf c_5
    exact lb_X9_was_26 C0 KN hA _ _  _ hf _ _ _ X (lv_sub hl [0] rfl)
  · have hf := it_n hf c_5
    refine lv_iload_n (pc := 16) hx hb dX9_was_16 rfl (lv_at hl 2 rfl) ?_
    refine lv_i2l (pc := 17) (v := x2.toInt64) hx hb dX9_was_17 rfl ?_
    refine lv_lconst (pc := 18) (v := 0) hx hb dX9_was_18 (by decide) ?_
    refine lv_lconst (pc := 19) (v := 1) hx hb dX9_was_19 (by decide) ?_
    obtain ⟨r_9, h_10, hf⟩ := bd_e hf
    refine x_cs (pc := 20) (As := [.long x2.toInt64, .long (0 : Int64), .long (1 : Int64)]) (rest := []) C0 (ct_X9_in l x2.toInt64 (0 : Int64) (1 : Int64) r_9 h_10) kw_10_21 kw_10_19 kw_10_20 kw_1_5 hd_X9_in ⟨by decide, by decide⟩ hl.1 rfl (Nat.le_of_ble_eq_true rfl) ⟨Nat.zero_le _, Nat.zero_le _⟩ dX9_was_20 ?_
    refine W.eq (g2 := F0 m 23 ls [.int r_9]) rfl ?_
    refine lv_if_ne (pc := 23) (tgt := 33) hx hb dX9_was_23 (by decide) (fun c_11 => ?_) (fun c_11 => ?_)
    · have hf := it_n hf c_11
      refine lv_aload_n (pc := 33) hx hb dX9_was_33 rfl (lv_at hl 0 rfl) ?_
      obtain ⟨r_12, P_13, h_14, hf⟩ := b2_e hf
      refine x_cv (pc := 34) (ws' := wd_Model G a P_13) (As := []) (rest := []) (ci := 9) (qr := 0) C0 KN X hA [0, 1, 2, 3, 4, 5, 6, 7, 8, 9, 10, 11, 12, 13, 14, 15, 16, 17, 18] [] [0, 1, 2, 3, 4, 5, 6, 7, 8, 9, 10, 11, 12, 13, 14, 15, 16, 17, 18] cu_C50 rfl cu_R50 rfl (by decide) (cu_J50 (S0 := S0)) rfl (ct_X9_goesNow l G a S0 r_12 P_13 h_14) rfl rfl rfl kw_12_2 kw_11_23 kw_12_0 kw_12_1 kw_1_5 hd_X9_goesNow ⟨by decide, by decide⟩ hl.1 rfl (Nat.le_of_ble_eq_true rfl) ⟨Nat.zero_le _, Nat.zero_le _⟩ dX9_was_34 (fun H locs X => ?_)
      refine W.eq (g2 := F0 m 37 ls [.int r_12]) rfl ?_
      refine lv_istore_n (pc := 37) (lv' := [(3, .int r_12), (0, .ref (a 0)), (1, .int x1), (2, .int x2)]) hx hb dX9_was_37 rfl hl (by decide) rfl (fun ls hl => ?_)
      refine lv_iload_n (pc := 38) hx hb dX9_was_38 rfl (lv_at hl 3 rfl) ?_
      refine lv_if_ne (pc := 39) (tgt := 51) hx hb dX9_was_39 (by decide) (fun c_15 => ?_) (fun c_15 => ?_)
      · have hf := it_n hf c_15
        refine lv_aload_n (pc := 51) hx hb dX9_was_51 rfl (lv_at hl 1 rfl) ?_
        refine lv_iload_n (pc := 52) hx hb dX9_was_52 rfl (lv_at hl 2 rfl) ?_
        obtain ⟨r_16, h_17, hf⟩ := bd_e hf
        refine x_cv (pc := 53) (ws' := wd_Model G a P_13) (As := [.int x1]) (rest := []) (ci := 9) (qr := 0) C0 KN X hA [0, 1, 2, 3, 4, 5, 6, 7, 8, 9, 10, 11, 12, 13, 14, 15, 16, 17, 18] [] [0, 1, 2, 3, 4, 5, 6, 7, 8, 9, 10, 11, 12, 13, 14, 15, 16, 17, 18] cu_C49 rfl cu_R49 rfl (by decide) (cu_J49 (S0 := P_13)) rfl (ct_X9_costAt l G a P_13 x1 r_16 h_17) rfl rfl rfl kw_14_9 kw_14_6 kw_14_7 kw_14_8 kw_1_5 hd_X9_costAt ⟨by decide, by decide⟩ hl.1 rfl (Nat.le_of_ble_eq_true rfl) ⟨Nat.zero_le _, Nat.zero_le _⟩ dX9_was_53 (fun H locs X => ?_)
        refine W.eq (g2 := F0 m 56 ls [.int r_16]) rfl ?_
        obtain ⟨rfl, rfl⟩ := so_2 hf
        exact x_iret (pc := 56) C0 X dX9_was_56
      · have hf := it_p hf c_15
        refine lv_aload_n (pc := 42) hx hb dX9_was_42 rfl (lv_at hl 1 rfl) ?_
        refine x_get (pc := 43) (ci := 9) C0 KN X 0 rfl rfl inlX9 15 (by decide) kw_7_20 rfl dX9_was_43 ?_
        refine lv_iload_n (pc := 46) hx hb dX9_was_46 rfl (lv_at hl 2 rfl) ?_
        obtain ⟨g_18, hf⟩ := gd_e hf
        refine x_ald (pc := 47) C0 KN X 12 rfl g_18 dX9_was_47 ?_
        refine W.eq (g2 := F0 m 48 ls [.int ((gf_Model_guessAt P_13) x1.toNatClampNeg)]) rfl ?_
        refine lv_goto (pc := 48) (tgt := 56) hx hb dX9_was_48 (by decide) ?_
        obtain ⟨rfl, rfl⟩ := so_2 hf
        exact x_iret (pc := 56) C0 X dX9_was_56
    · have hf := it_p hf c_11
      exact lb_X9_was_26 C0 KN hA _ _  _ hf _ _ _ X (lv_sub hl [0] rfl)
theorem hd_X9_isNode : yX9_isNode.cls ≠ "java/lang/invoke/MethodHandle" ∧ yX9_isNode.cls ≠ "java/lang/invoke/VarHandle" ∧ (parseMethodDescriptor yX9_isNode.desc).map (fun d => d.parameters.length) = some 2 := by decide +kernel
set_option maxHeartbeats 4000000 in
set_option maxRecDepth 100000 in
theorem ct_X9_isNode (l : Launch) (G : xG) (a : Nat → Nat) (S0 : tt_Model) (x1 : Int32) (x2 : Int32) (ro : Int32) (hf : fn_X9_isNode S0 x1 x2 = some ro) : xM l yX9_isNode cX9_isNode 3 (some .boolean) 1 25 G [.ref (a 0), .int x1, .int x2] (wd_Model G a S0) (wd_Model G a S0) (some (.int ro)) := by
  refine xMi (by decide) (Nat.le_of_ble_eq_true rfl) ?_
  intro p e s m below meth c A C0 KN hA X ls hl
  have hx := C0.1
  have hb := C0.2.1
  have C0 : xC p s m meth c cX9_isNode 3 (some .boolean) RX9 _ := C0
  have hl : lv_has ls 3 [(0, .ref (a 0)), (1, .int x1), (2, .int x2)] := hl
  unfold fn_X9_isNode at hf
  refine lv_iload_n (pc := 0) hx hb dX9_isNode_0 rfl (lv_at hl 1 rfl) ?_
  refine lv_i2l (pc := 1) (v := x1.toInt64) hx hb dX9_isNode_1 rfl ?_
  refine lv_lconst (pc := 2) (v := 0) hx hb dX9_isNode_2 (by decide) ?_
  refine lv_aload_n (pc := 3) hx hb dX9_isNode_3 rfl (lv_at hl 0 rfl) ?_
  obtain ⟨r_1, h_2, hf⟩ := bd_e hf
  refine x_cv (pc := 4) (ws' := wd_Model G a S0) (As := []) (rest := [.long (0 : Int64), .long x1.toInt64]) (ci := 9) (qr := 0) C0 KN X hA [0, 1, 2, 3, 4, 5, 6, 7, 8, 9, 10, 11, 12, 13, 14, 15, 16, 17, 18] [] [0, 1, 2, 3, 4, 5, 6, 7, 8, 9, 10, 11, 12, 13, 14, 15, 16, 17, 18] cu_C49 rfl cu_R49 rfl (by decide) (cu_J49 (S0 := S0)) rfl (ct_X9_depth l G a S0 r_1 h_2) rfl rfl rfl kw_12_6 kw_12_3 kw_12_4 kw_12_5 kw_1_5 hd_X9_depth ⟨by decide, by decide⟩ hl.1 rfl (Nat.le_of_ble_eq_true rfl) ⟨Nat.zero_le _, Nat.zero_le _⟩ dX9_isNode_4 (fun H locs X => ?_)
  refine W.eq (g2 := F0 m 7 ls [.int r_1, .long (0 : Int64), .long x1.toInt64]) rfl ?_
  refine lv_i2l (pc := 7) (v := r_1.toInt64) hx hb dX9_isNode_7 rfl ?_
  obtain ⟨r_3, h_4, hf⟩ := bd_e hf
  refine x_cs (pc := 8) (As := [.long x1.toInt64, .long (0 : Int64), .long r_1.toInt64]) (rest := []) C0 (ct_X9_in l x1.toInt64 (0 : Int64) r_1.toInt64 r_3 h_4) kw_10_21 kw_10_19 kw_10_20 kw_1_5 hd_X9_in ⟨by decide, by decide⟩ hl.1 rfl (Nat.le_of_ble_eq_true rfl) ⟨Nat.zero_le _, Nat.zero_le _⟩ dX9_isNode_8 ?_
  refine W.eq (g2 := F0 m 11 ls [.int r_3]) rfl ?_
  refine lv_if_eq (pc := 11) (tgt := 33) hx hb dX9_isNode_11 (by decide) (fun c_5 => ?_) (fun c_5 => ?_)
  · have hf := it_p hf c_5
    refine lv_iconst (pc := 33) (v := 0) hx hb dX9_isNode_33 (by decide) ?_
    obtain rfl := so_1 hf
    exact x_zret (pc := 34) C0 X (by decide) dX9_isNode_34
  · have hf := it_n hf c_5
    refine lv_iload_n (pc := 14) hx hb dX9_isNode_14 rfl (lv_at hl 2 rfl) ?_
    refine lv_i2l (pc := 15) (v := x2.toInt64) hx hb dX9_isNode_15 rfl ?_
    refine lv_lconst (pc := 16) (v := 0) hx hb dX9_isNode_16 (by decide) ?_
    refine lv_iconst (pc := 17) (v := 1) hx hb dX9_isNode_17 (by decide) ?_
    refine lv_iload_n (pc := 18) hx hb dX9_isNode_18 rfl (lv_at hl 1 rfl) ?_
    refine lv_ishl (pc := 19) hx hb dX9_isNode_19 ?_
    refine lv_iconst (pc := 20) (v := 1) hx hb dX9_isNode_20 (by decide) ?_
    refine lv_isub (pc := 21) hx hb dX9_isNode_21 ?_
    refine lv_i2l (pc := 22) (v := (((1 : Int32) <<< (x1 &&& 31)) - (1 : Int32)).toInt64) hx hb dX9_isNode_22 rfl ?_
    obtain ⟨r_6, h_7, hf⟩ := bd_e hf
    refine x_cs (pc := 23) (As := [.long x2.toInt64, .long (0 : Int64), .long ((((1 : Int32) <<< (x1 &&& 31)) - (1 : Int32)).toInt64)]) (rest := []) C0 (ct_X9_in l x2.toInt64 (0 : Int64) ((((1 : Int32) <<< (x1 &&& 31)) - (1 : Int32)).toInt64) r_6 h_7) kw_10_21 kw_10_19 kw_10_20 kw_1_5 hd_X9_in ⟨by decide, by decide⟩ hl.1 rfl (Nat.le_of_ble_eq_true rfl) ⟨Nat.zero_le _, Nat.zero_le _⟩ dX9_isNode_23 ?_
    refine W.eq (g2 := F0 m 26 ls [.int r_6]) rfl ?_
    refine lv_if_eq (pc := 26) (tgt := 33) hx hb dX9_isNode_26 (by decide) (fun c_8 => ?_) (fun c_8 => ?_)
    · have hf := it_p hf c_8
      refine lv_iconst (pc := 33) (v := 0) hx hb dX9_isNode_33 (by decide) ?_
      obtain rfl := so_1 hf
      exact x_zret (pc := 34) C0 X (by decide) dX9_isNode_34
    · have hf := it_n hf c_8
      refine lv_iconst (pc := 29) (v := 1) hx hb dX9_isNode_29 (by decide) ?_
      refine lv_goto (pc := 30) (tgt := 34) hx hb dX9_isNode_30 (by decide) ?_
      obtain rfl := so_1 hf
      exact x_zret (pc := 34) C0 X (by decide) dX9_isNode_34
set_option maxHeartbeats 4000000 in
set_option maxRecDepth 100000 in
theorem lb_X9_node_21 {l : Launch} {p : Program} {e : Env} {s : State} {m : MethodId} {args : Array Value} {below : List Frame} {meth : Method} {c : Code} {G : xG} {A : Nat → Prop} {a : Nat → Nat} (C0 : xC p s m meth c cX9_node 6 (some .int) RX9 args) (KN : xKN G s) (hA : ∀ q, s.heap.size ≤ q → A q) (ro : Int32) (So0 : tt_Model) : ∀ (S0 : tt_Model), fn_X9_node_21 S0 = some (ro, So0) → ∀ (H : Heap) (locs : List Loc) (ls : Array Slot), xS G A s.heap (wd_Model G a S0) H locs → lv_has ls 6 [(0, .ref (a 0))] → W p l e ({ frames := 5, cells := 0, slots := 0, locals := 114 }) s m args below meth c H locs 0 0 (MQ below (xQo G (some (.int ro)) A (wd_Model G a So0)) args s 0 0 A) (F0 m 21 ls []) := by
  have hx := C0.1
  have hb := C0.2.1
  intro S0 hf H locs ls X hl
  unfold fn_X9_node_21 at hf
  refine lv_aload_n (pc := 21) hx hb dX9_node_21 rfl (lv_at hl 0 rfl) ?_
  refine lv_bipush (pc := 22) (v := (-2)) hx hb dX9_node_22 (by decide) ?_
  obtain ⟨r_4, P_5, h_6, hf⟩ := b2_e hf
  refine x_cv (pc := 24) (ws' := wd_Model G a P_5) (As := [.int (-2 : Int32)]) (rest := []) (ci := 9) (qr := 0) C0 KN X hA [0, 1, 2, 3, 4, 5, 6, 7, 8, 9, 10, 11, 12, 13, 14, 15, 16, 17, 18] [] [0, 1, 2, 3, 4, 5, 6, 7, 8, 9, 10, 11, 12, 13, 14, 15, 16, 17, 18] cu_C50 rfl cu_R50 rfl (by decide) (cu_J50 (S0 := S0)) rfl (ct_X9_bad l G a S0 (-2 : Int32) r_4 P_5 h_6) rfl rfl rfl kw_11_1 kw_10_22 kw_10_23 kw_11_0 kw_1_5 hd_X9_bad ⟨by decide, by decide⟩ hl.1 rfl (Nat.le_of_ble_eq_true rfl) ⟨Nat.zero_le _, Nat.zero_le _⟩ dX9_node_24 (fun H locs X => ?_)
  refine W.eq (g2 := F0 m 27 ls [.int r_4]) rfl ?_
  obtain ⟨rfl, rfl⟩ := so_2 hf
  exact x_iret (pc := 27) C0 X dX9_node_27
theorem hd_X9_node : yX9_node.cls ≠ "java/lang/invoke/MethodHandle" ∧ yX9_node.cls ≠ "java/lang/invoke/VarHandle" ∧ (parseMethodDescriptor yX9_node.desc).map (fun d => d.parameters.length) = some 3 := by decide +kernel
set_option maxHeartbeats 4000000 in
set_option maxRecDepth 100000 in
theorem ct_X9_node (l : Launch) (G : xG) (a : Nat → Nat) (S0 : tt_Model) (x1 : Int32) (x2 : Int32) (x3 : Int32) (ro : Int32) (So0 : tt_Model) (hf : fn_X9_node S0 x1 x2 x3 = some (ro, So0)) : xM l yX9_node cX9_node 6 (some .int) 5 114 G [.ref (a 0), .int x1, .int x2, .int x3] (wd_Model G a S0) (wd_Model G a So0) (some (.int ro)) := by
  refine xMi (by decide) (Nat.le_of_ble_eq_true rfl) ?_
  intro p e s m below meth c A C0 KN hA X ls hl
  have hx := C0.1
  have hb := C0.2.1
  have C0 : xC p s m meth c cX9_node 6 (some .int) RX9 _ := C0
  have hl : lv_has ls 6 [(0, .ref (a 0)), (1, .int x1), (2, .int x2), (3, .int x3)] := hl
  unfold fn_X9_node at hf
  refine lv_aload_n (pc := 0) hx hb dX9_node_0 rfl (lv_at hl 0 rfl) ?_
  refine lv_iload_n (pc := 1) hx hb dX9_node_1 rfl (lv_at hl 1 rfl) ?_
  refine lv_iload_n (pc := 2) hx hb dX9_node_2 rfl (lv_at hl 2 rfl) ?_
  obtain ⟨r_1, h_2, hf⟩ := bd_e hf
  refine x_cv (pc := 3) (ws' := wd_Model G a S0) (As := [.int x1, .int x2]) (rest := []) (ci := 9) (qr := 0) C0 KN X hA [0, 1, 2, 3, 4, 5, 6, 7, 8, 9, 10, 11, 12, 13, 14, 15, 16, 17, 18] [] [0, 1, 2, 3, 4, 5, 6, 7, 8, 9, 10, 11, 12, 13, 14, 15, 16, 17, 18] cu_C49 rfl cu_R49 rfl (by decide) (cu_J49 (S0 := S0)) rfl (ct_X9_isNode l G a S0 x1 x2 r_1 h_2) rfl rfl rfl kw_19_11 kw_19_8 kw_19_9 kw_19_10 kw_1_5 hd_X9_isNode ⟨by decide, by decide⟩ hl.1 rfl (Nat.le_of_ble_eq_true rfl) ⟨Nat.zero_le _, Nat.zero_le _⟩ dX9_node_3 (fun H locs X => ?_)
  refine W.eq (g2 := F0 m 6 ls [.int r_1]) rfl ?_
  refine lv_if_eq (pc := 6) (tgt := 21) hx hb dX9_node_6 (by decide) (fun c_3 => ?_) (fun c_3 => ?_)
  · have hf := it_p hf c_3
    exact lb_X9_node_21 C0 KN hA _ _  _ hf _ _ _ X (lv_sub hl [0] rfl)
  · have hf := it_n hf c_3
    refine lv_iload_n (pc := 9) hx hb dX9_node_9 rfl (lv_at hl 3 rfl) ?_
    refine lv_i2l (pc := 10) (v := x3.toInt64) hx hb dX9_node_10 rfl ?_
    refine lv_lconst (pc := 11) (v := 0) hx hb dX9_node_11 (by decide) ?_
    refine x_ldc2 (pc := 12) C0 kw_16_6 dX9_node_12 ?_
    obtain ⟨r_7, h_8, hf⟩ := bd_e hf
    refine x_cs (pc := 15) (As := [.long x3.toInt64, .long (0 : Int64), .long (3 : Int64)]) (rest := []) C0 (ct_X9_in l x3.toInt64 (0 : Int64) (3 : Int64) r_7 h_8) kw_10_21 kw_10_19 kw_10_20 kw_1_5 hd_X9_in ⟨by decide, by decide⟩ hl.1 rfl (Nat.le_of_ble_eq_true rfl) ⟨Nat.zero_le _, Nat.zero_le _⟩ dX9_node_15 ?_
    refine W.eq (g2 := F0 m 18 ls [.int r_7]) rfl ?_
    refine lv_if_ne (pc := 18) (tgt := 28) hx hb dX9_node_18 (by decide) (fun c_9 => ?_) (fun c_9 => ?_)
    · have hf := it_n hf c_9
      refine lv_aload_n (pc := 28) hx hb dX9_node_28 rfl (lv_at hl 0 rfl) ?_
      obtain ⟨r_10, P_11, h_12, hf⟩ := b2_e hf
      refine x_cv (pc := 29) (ws' := wd_Model G a P_11) (As := []) (rest := []) (ci := 9) (qr := 0) C0 KN X hA [0, 1, 2, 3, 4, 5, 6, 7, 8, 9, 10, 11, 12, 13, 14, 15, 16, 17, 18] [] [0, 1, 2, 3, 4, 5, 6, 7, 8, 9, 10, 11, 12, 13, 14, 15, 16, 17, 18] cu_C50 rfl cu_R50 rfl (by decide) (cu_J50 (S0 := S0)) rfl (ct_X9_goesNow l G a S0 r_10 P_11 h_12) rfl rfl rfl kw_12_2 kw_11_23 kw_12_0 kw_12_1 kw_1_5 hd_X9_goesNow ⟨by decide, by decide⟩ hl.1 rfl (Nat.le_of_ble_eq_true rfl) ⟨Nat.zero_le _, Nat.zero_le _⟩ dX9_node_29 (fun H locs X => ?_)
      refine W.eq (g2 := F0 m 32 ls [.int r_10]) rfl ?_
      refine lv_istore (pc := 32) (lv' := [(4, .int r_10), (0, .ref (a 0)), (1, .int x1), (2, .int x2), (3, .int x3)]) hx hb dX9_node_32 hl (by decide) rfl (fun ls hl => ?_)
      refine lv_iload_n (pc := 34) hx hb dX9_node_34 rfl (lv_at hl 2 rfl) ?_
      refine lv_iload_n (pc := 35) hx hb dX9_node_35 rfl (lv_at hl 3 rfl) ?_
      obtain ⟨r_13, h_14, hf⟩ := bd_e hf
      refine x_cs (pc := 36) (As := [.int x1, .int x2]) (rest := []) C0 (ct_X9_nodeOf l x1 x2 r_13 h_14) kw_13_6 kw_13_4 kw_13_5 kw_1_5 hd_X9_nodeOf ⟨by decide, by decide⟩ hl.1 rfl (Nat.le_of_ble_eq_true rfl) ⟨Nat.zero_le _, Nat.zero_le _⟩ dX9_node_36 ?_
      refine W.eq (g2 := F0 m 39 ls [.int r_13]) rfl ?_
      refine lv_istore (pc := 39) (lv' := [(5, .int r_13), (4, .int r_10), (0, .ref (a 0)), (1, .int x1), (2, .int x2), (3, .int x3)]) hx hb dX9_node_39 hl (by decide) rfl (fun ls hl => ?_)
      refine lv_iload_n (pc := 41) hx hb dX9_node_41 rfl (lv_at hl 5 rfl) ?_
      refine lv_if_ne (pc := 42) (tgt := 55) hx hb dX9_node_42 (by decide) (fun c_15 => ?_) (fun c_15 => ?_)
      · have hf := it_n hf c_15
        refine lv_iload_n (pc := 55) hx hb dX9_node_55 rfl (lv_at hl 5 rfl) ?_
        refine lv_iconst (pc := 56) (v := 1) hx hb dX9_node_56 (by decide) ?_
        refine lv_icmp_ne (pc := 57) (tgt := 70) hx hb dX9_node_57 (by decide) (fun c_16 => ?_) (fun c_16 => ?_)
        · have hf := it_n hf c_16
          refine lv_iload_n (pc := 70) hx hb dX9_node_70 rfl (lv_at hl 5 rfl) ?_
          refine lv_iconst (pc := 71) (v := 2) hx hb dX9_node_71 (by decide) ?_
          refine lv_icmp_ne (pc := 72) (tgt := 84) hx hb dX9_node_72 (by decide) (fun c_17 => ?_) (fun c_17 => ?_)
          · have hf := it_n hf c_17
            refine lv_iload_n (pc := 84) hx hb dX9_node_84 rfl (lv_at hl 3 rfl) ?_
            refine lv_aload_n (pc := 85) hx hb dX9_node_85 rfl (lv_at hl 2 rfl) ?_
            obtain ⟨r_18, h_19, hf⟩ := bd_e hf
            refine x_cv (pc := 86) (ws' := wd_Model G a P_11) (As := []) (rest := [.int x1]) (ci := 9) (qr := 0) C0 KN X hA [0, 1, 2, 3, 4, 5, 6, 7, 8, 9, 10, 11, 12, 13, 14, 15, 16, 17, 18] [] [0, 1, 2, 3, 4, 5, 6, 7, 8, 9, 10, 11, 12, 13, 14, 15, 16, 17, 18] cu_C49 rfl cu_R49 rfl (by decide) (cu_J49 (S0 := P_11)) rfl (ct_X9_depth l G a P_11 r_18 h_19) rfl rfl rfl kw_12_6 kw_12_3 kw_12_4 kw_12_5 kw_1_5 hd_X9_depth ⟨by decide, by decide⟩ hl.1 rfl (Nat.le_of_ble_eq_true rfl) ⟨Nat.zero_le _, Nat.zero_le _⟩ dX9_node_86 (fun H locs X => ?_)
            refine W.eq (g2 := F0 m 89 ls [.int r_18, .int x1]) rfl ?_
            refine lv_icmp_ne (pc := 89) (tgt := 97) hx hb dX9_node_89 (by decide) (fun c_20 => ?_) (fun c_20 => ?_)
            · have hf := it_n hf c_20
              refine lv_aload_n (pc := 97) hx hb dX9_node_97 rfl (lv_at hl 2 rfl) ?_
              refine x_get (pc := 98) (ci := 9) C0 KN X 0 rfl rfl inlX9 10 (by decide) kw_7_15 rfl dX9_node_98 ?_
              refine lv_iload (pc := 101) hx hb dX9_node_101 (lv_at hl 0 rfl) ?_
              obtain ⟨g_21, hf⟩ := gd_e hf
              refine x_ald (pc := 103) C0 KN X 7 rfl g_21 dX9_node_103 ?_
              refine W.eq (g2 := F0 m 104 ls [.int ((gf_Model_weights P_11) r_13.toNatClampNeg)]) rfl ?_
              obtain ⟨rfl, rfl⟩ := so_2 hf
              exact x_iret (pc := 104) C0 X dX9_node_104
            · have hf := it_p hf c_20
              refine x_ldc (pc := 92) C0 kw_13_19 dX9_node_92 ?_
              refine lv_goto (pc := 94) (tgt := 104) hx hb dX9_node_94 (by decide) ?_
              obtain ⟨rfl, rfl⟩ := so_2 hf
              exact x_iret (pc := 104) C0 X dX9_node_104
          · have hf := it_p hf c_17
            refine lv_aload_n (pc := 75) hx hb dX9_node_75 rfl (lv_at hl 2 rfl) ?_
            refine lv_iload (pc := 76) hx hb dX9_node_76 (lv_at hl 0 rfl) ?_
            obtain ⟨r_22, h_23, hf⟩ := bd_e hf
            refine x_cv (pc := 78) (ws' := wd_Model G a P_11) (As := [.int r_13]) (rest := []) (ci := 9) (qr := 0) C0 KN X hA [0, 1, 2, 3, 4, 5, 6, 7, 8, 9, 10, 11, 12, 13, 14, 15, 16, 17, 18] [] [0, 1, 2, 3, 4, 5, 6, 7, 8, 9, 10, 11, 12, 13, 14, 15, 16, 17, 18] cu_C49 rfl cu_R49 rfl (by decide) (cu_J49 (S0 := P_11)) rfl (ct_X9_ownOf l G a P_11 r_13 r_22 h_23) rfl rfl rfl kw_13_10 kw_13_7 kw_13_8 kw_13_9 kw_1_5 hd_X9_ownOf ⟨by decide, by decide⟩ hl.1 rfl (Nat.le_of_ble_eq_true rfl) ⟨Nat.zero_le _, Nat.zero_le _⟩ dX9_node_78 (fun H locs X => ?_)
            refine W.eq (g2 := F0 m 81 ls [.int r_22]) rfl ?_
            refine lv_goto (pc := 81) (tgt := 104) hx hb dX9_node_81 (by decide) ?_
            obtain ⟨rfl, rfl⟩ := so_2 hf
            exact x_iret (pc := 104) C0 X dX9_node_104
        · have hf := it_p hf c_16
          refine lv_aload_n (pc := 60) hx hb dX9_node_60 rfl (lv_at hl 2 rfl) ?_
          refine x_get (pc := 61) (ci := 9) C0 KN X 0 rfl rfl inlX9 9 (by decide) kw_7_14 rfl dX9_node_61 ?_
          refine lv_iload (pc := 64) hx hb dX9_node_64 (lv_at hl 0 rfl) ?_
          obtain ⟨g_24, hf⟩ := gd_e hf
          refine x_ald (pc := 66) C0 KN X 6 rfl g_24 dX9_node_66 ?_
          refine W.eq (g2 := F0 m 67 ls [.int ((gf_Model_ones P_11) r_13.toNatClampNeg)]) rfl ?_
          refine lv_goto (pc := 67) (tgt := 104) hx hb dX9_node_67 (by decide) ?_
          obtain ⟨rfl, rfl⟩ := so_2 hf
          exact x_iret (pc := 104) C0 X dX9_node_104
      · have hf := it_p hf c_15
        refine lv_aload_n (pc := 45) hx hb dX9_node_45 rfl (lv_at hl 2 rfl) ?_
        refine x_get (pc := 46) (ci := 9) C0 KN X 0 rfl rfl inlX9 8 (by decide) kw_7_13 rfl dX9_node_46 ?_
        refine lv_iload (pc := 49) hx hb dX9_node_49 (lv_at hl 0 rfl) ?_
        obtain ⟨g_25, hf⟩ := gd_e hf
        refine x_ald (pc := 51) C0 KN X 5 rfl g_25 dX9_node_51 ?_
        refine W.eq (g2 := F0 m 52 ls [.int ((gf_Model_noughts P_11) r_13.toNatClampNeg)]) rfl ?_
        refine lv_goto (pc := 52) (tgt := 104) hx hb dX9_node_52 (by decide) ?_
        obtain ⟨rfl, rfl⟩ := so_2 hf
        exact x_iret (pc := 104) C0 X dX9_node_104
    · have hf := it_p hf c_9
      exact lb_X9_node_21 C0 KN hA _ _  _ hf _ _ _ X (lv_sub hl [0] rfl)
theorem hd_X9_cost : yX9_cost.cls ≠ "java/lang/invoke/MethodHandle" ∧ yX9_cost.cls ≠ "java/lang/invoke/VarHandle" ∧ (parseMethodDescriptor yX9_cost.desc).map (fun d => d.parameters.length) = some 0 := by decide +kernel
set_option maxHeartbeats 4000000 in
set_option maxRecDepth 100000 in
theorem ct_X9_cost (l : Launch) (G : xG) (a : Nat → Nat) (S0 : tt_Model) (ro : Int32) (So0 : tt_Model) (hf : fn_X9_cost S0 = some (ro, So0)) : xM l yX9_cost cX9_cost 1 (some .int) 5 114 G [.ref (a 0)] (wd_Model G a S0) (wd_Model G a So0) (some (.int ro)) := by
  refine xMi (by decide) (Nat.le_of_ble_eq_true rfl) ?_
  intro p e s m below meth c A C0 KN hA X ls hl
  have hx := C0.1
  have hb := C0.2.1
  have C0 : xC p s m meth c cX9_cost 1 (some .int) RX9 _ := C0
  have hl : lv_has ls 1 [(0, .ref (a 0))] := hl
  unfold fn_X9_cost at hf
  refine lv_aload_n (pc := 0) hx hb dX9_cost_0 rfl (lv_at hl 0 rfl) ?_
  obtain ⟨r_1, P_2, h_3, hf⟩ := b2_e hf
  refine x_cv (pc := 1) (ws' := wd_Model G a P_2) (As := []) (rest := []) (ci := 9) (qr := 0) C0 KN X hA [0, 1, 2, 3, 4, 5, 6, 7, 8, 9, 10, 11, 12, 13, 14, 15, 16, 17, 18] [] [0, 1, 2, 3, 4, 5, 6, 7, 8, 9, 10, 11, 12, 13, 14, 15, 16, 17, 18] cu_C50 rfl cu_R50 rfl (by decide) (cu_J50 (S0 := S0)) rfl (ct_X9_goesNow l G a S0 r_1 P_2 h_3) rfl rfl rfl kw_12_2 kw_11_23 kw_12_0 kw_12_1 kw_1_5 hd_X9_goesNow ⟨by decide, by decide⟩ hl.1 rfl (Nat.le_of_ble_eq_true rfl) ⟨Nat.zero_le _, Nat.zero_le _⟩ dX9_cost_1 (fun H locs X => ?_)
  refine W.eq (g2 := F0 m 4 ls [.int r_1]) rfl ?_
  obtain ⟨rfl, rfl⟩ := so_2 hf
  exact x_iret (pc := 4) C0 X dX9_cost_4
set_option maxHeartbeats 4000000 in
set_option maxRecDepth 100000 in
theorem lb_X9_costBy_33 {l : Launch} {p : Program} {e : Env} {s : State} {m : MethodId} {args : Array Value} {below : List Frame} {meth : Method} {c : Code} {G : xG} {A : Nat → Prop} {a : Nat → Nat} (C0 : xC p s m meth c cX9_costBy 3 (some .int) RX9 args) (KN : xKN G s) (hA : ∀ q, s.heap.size ≤ q → A q) (ro : Int32) (So0 : tt_Model) : ∀ (S0 : tt_Model), fn_X9_costBy_33 S0 = some (ro, So0) → ∀ (H : Heap) (locs : List Loc) (ls : Array Slot), xS G A s.heap (wd_Model G a S0) H locs → lv_has ls 3 [(0, .ref (a 0))] → W p l e ({ frames := 4, cells := 0, slots := 0, locals := 94 }) s m args below meth c H locs 0 0 (MQ below (xQo G (some (.int ro)) A (wd_Model G a So0)) args s 0 0 A) (F0 m 33 ls []) := by
  have hx := C0.1
  have hb := C0.2.1
  intro S0 hf H locs ls X hl
  unfold fn_X9_costBy_33 at hf
  refine lv_aload_n (pc := 33) hx hb dX9_costBy_33 rfl (lv_at hl 0 rfl) ?_
  refine lv_bipush (pc := 34) (v := (-2)) hx hb dX9_costBy_34 (by decide) ?_
  obtain ⟨r_4, P_5, h_6, hf⟩ := b2_e hf
  refine x_cv (pc := 36) (ws' := wd_Model G a P_5) (As := [.int (-2 : Int32)]) (rest := []) (ci := 9) (qr := 0) C0 KN X hA [0, 1, 2, 3, 4, 5, 6, 7, 8, 9, 10, 11, 12, 13, 14, 15, 16, 17, 18] [] [0, 1, 2, 3, 4, 5, 6, 7, 8, 9, 10, 11, 12, 13, 14, 15, 16, 17, 18] cu_C50 rfl cu_R50 rfl (by decide) (cu_J50 (S0 := S0)) rfl (ct_X9_bad l G a S0 (-2 : Int32) r_4 P_5 h_6) rfl rfl rfl kw_11_1 kw_10_22 kw_10_23 kw_11_0 kw_1_5 hd_X9_bad ⟨by decide, by decide⟩ hl.1 rfl (Nat.le_of_ble_eq_true rfl) ⟨Nat.zero_le _, Nat.zero_le _⟩ dX9_costBy_36 (fun H locs X => ?_)
  refine W.eq (g2 := F0 m 39 ls [.int r_4]) rfl ?_
  obtain ⟨rfl, rfl⟩ := so_2 hf
  exact x_iret (pc := 39) C0 X dX9_costBy_39
theorem hd_X9_costBy : yX9_costBy.cls ≠ "java/lang/invoke/MethodHandle" ∧ yX9_costBy.cls ≠ "java/lang/invoke/VarHandle" ∧ (parseMethodDescriptor yX9_costBy.desc).map (fun d => d.parameters.length) = some 2 := by decide +kernel
set_option maxHeartbeats 4000000 in
set_option maxRecDepth 100000 in
theorem ct_X9_costBy (l : Launch) (G : xG) (a : Nat → Nat) (S0 : tt_Model) (x1 : Int32) (x2 : Int32) (ro : Int32) (So0 : tt_Model) (hf : fn_X9_costBy S0 x1 x2 = some (ro, So0)) : xM l yX9_costBy cX9_costBy 3 (some .int) 4 94 G [.ref (a 0), .int x1, .int x2] (wd_Model G a S0) (wd_Model G a So0) (some (.int ro)) := by
  refine xMi (by decide) (Nat.le_of_ble_eq_true rfl) ?_
  intro p e s m below meth c A C0 KN hA X ls hl
  have hx := C0.1
  have hb := C0.2.1
  have C0 : xC p s m meth c cX9_costBy 3 (some .int) RX9 _ := C0
  have hl : lv_has ls 3 [(0, .ref (a 0)), (1, .int x1), (2, .int x2)] := hl
  unfold fn_X9_costBy at hf
  refine lv_iload_n (pc := 0) hx hb dX9_costBy_0 rfl (lv_at hl 1 rfl) ?_
  refine lv_i2l (pc := 1) (v := x1.toInt64) hx hb dX9_costBy_1 rfl ?_
  refine lv_lconst (pc := 2) (v := 0) hx hb dX9_costBy_2 (by decide) ?_
  refine x_ldc2 (pc := 3) C0 kw_16_5 dX9_costBy_3 ?_
  obtain ⟨r_1, h_2, hf⟩ := bd_e hf
  refine x_cs (pc := 6) (As := [.long x1.toInt64, .long (0 : Int64), .long (6 : Int64)]) (rest := []) C0 (ct_X9_in l x1.toInt64 (0 : Int64) (6 : Int64) r_1 h_2) kw_10_21 kw_10_19 kw_10_20 kw_1_5 hd_X9_in ⟨by decide, by decide⟩ hl.1 rfl (Nat.le_of_ble_eq_true rfl) ⟨Nat.zero_le _, Nat.zero_le _⟩ dX9_costBy_6 ?_
  refine W.eq (g2 := F0 m 9 ls [.int r_1]) rfl ?_
  refine lv_if_eq (pc := 9) (tgt := 33) hx hb dX9_costBy_9 (by decide) (fun c_3 => ?_) (fun c_3 => ?_)
  · have hf := it_p hf c_3
    exact lb_X9_costBy_33 C0 KN hA _ _  _ hf _ _ _ X (lv_sub hl [0] rfl)
  · have hf := it_n hf c_3
    refine lv_iload_n (pc := 12) hx hb dX9_costBy_12 rfl (lv_at hl 2 rfl) ?_
    refine lv_i2l (pc := 13) (v := x2.toInt64) hx hb dX9_costBy_13 rfl ?_
    refine lv_lconst (pc := 14) (v := 0) hx hb dX9_costBy_14 (by decide) ?_
    refine x_ldc2 (pc := 15) C0 kw_16_6 dX9_costBy_15 ?_
    obtain ⟨r_7, h_8, hf⟩ := bd_e hf
    refine x_cs (pc := 18) (As := [.long x2.toInt64, .long (0 : Int64), .long (3 : Int64)]) (rest := []) C0 (ct_X9_in l x2.toInt64 (0 : Int64) (3 : Int64) r_7 h_8) kw_10_21 kw_10_19 kw_10_20 kw_1_5 hd_X9_in ⟨by decide, by decide⟩ hl.1 rfl (Nat.le_of_ble_eq_true rfl) ⟨Nat.zero_le _, Nat.zero_le _⟩ dX9_costBy_18 ?_
    refine W.eq (g2 := F0 m 21 ls [.int r_7]) rfl ?_
    refine lv_if_eq (pc := 21) (tgt := 33) hx hb dX9_costBy_21 (by decide) (fun c_9 => ?_) (fun c_9 => ?_)
    · have hf := it_p hf c_9
      exact lb_X9_costBy_33 C0 KN hA _ _  _ hf _ _ _ X (lv_sub hl [0] rfl)
    · have hf := it_n hf c_9
      refine lv_aload_n (pc := 24) hx hb dX9_costBy_24 rfl (lv_at hl 0 rfl) ?_
      refine lv_iload_n (pc := 25) hx hb dX9_costBy_25 rfl (lv_at hl 1 rfl) ?_
      refine lv_iload_n (pc := 26) hx hb dX9_costBy_26 rfl (lv_at hl 2 rfl) ?_
      obtain ⟨r_10, P_11, h_12, hf⟩ := b2_e hf
      refine x_cv (pc := 27) (ws' := wd_Model G a P_11) (As := [.int x1, .int x2]) (rest := []) (ci := 9) (qr := 0) C0 KN X hA [0, 1, 2, 3, 4, 5, 6, 7, 8, 9, 10, 11, 12, 13, 14, 15, 16, 17, 18] [] [0, 1, 2, 3, 4, 5, 6, 7, 8, 9, 10, 11, 12, 13, 14, 15, 16, 17, 18] cu_C50 rfl cu_R50 rfl (by decide) (cu_J50 (S0 := S0)) rfl (ct_X9_goes l G a S0 x1 x2 r_10 P_11 h_12) rfl rfl rfl kw_12_14 kw_12_11 kw_12_12 kw_12_13 kw_1_5 hd_X9_goes ⟨by decide, by decide⟩ hl.1 rfl (Nat.le_of_ble_eq_true rfl) ⟨Nat.zero_le _, Nat.zero_le _⟩ dX9_costBy_27 (fun H locs X => ?_)
      refine W.eq (g2 := F0 m 30 ls [.int r_10]) rfl ?_
      refine lv_goto (pc := 30) (tgt := 39) hx hb dX9_costBy_30 (by decide) ?_
      obtain ⟨rfl, rfl⟩ := so_2 hf
      exact x_iret (pc := 39) C0 X dX9_costBy_39
set_option maxHeartbeats 4000000 in
set_option maxRecDepth 100000 in
theorem lb_X9_best_77 {l : Launch} {p : Program} {e : Env} {s : State} {m : MethodId} {args : Array Value} {below : List Frame} {meth : Method} {c : Code} {G : xG} {A : Nat → Prop} {a : Nat → Nat} (C0 : xC p s m meth c cX9_best 6 (some .int) RX9 args) (KN : xKN G s) (hA : ∀ q, s.heap.size ≤ q → A q) (ro : Int32) (So0 : tt_Model) (k31 : tt_Model → Int32 → Int32 → Int32 → Int32 → Option (Int32 × tt_Model)) (hk31 : ∀ (S0 : tt_Model) (x1 : Int32) (x2 : Int32) (x3 : Int32) (x4 : Int32), k31 S0 x1 x2 x3 x4 = some (ro, So0) → ∀ (H : Heap) (locs : List Loc) (ls : Array Slot), xS G A s.heap (wd_Model G a S0) H locs → lv_has ls 6 [(0, .ref (a 0)), (1, .int x1), (2, .int x2), (3, .int x3), (4, .int x4)] → W p l e ({ frames := 4, cells := 0, slots := 0, locals := 94 }) s m args below meth c H locs 0 0 (MQ below (xQo G (some (.int ro)) A (wd_Model G a So0)) args s 0 0 A) (F0 m 31 ls [])) : ∀ (S0 : tt_Model) (x1 : Int32) (x2 : Int32) (x4 : Int32) (t0 : Int32), fn_X9_best_77 k31 S0 x1 x2 x4 t0 = some (ro, So0) → ∀ (H : Heap) (locs : List Loc) (ls : Array Slot), xS G A s.heap (wd_Model G a S0) H locs → lv_has ls 6 [(0, .ref (a 0)), (1, .int x1), (2, .int x2), (4, .int x4)] → W p l e ({ frames := 4, cells := 0, slots := 0, locals := 94 }) s m args below meth c H locs 0 0 (MQ below (xQo G (some (.int ro)) A (wd_Model G a So0)) args s 0 0 A) (F0 m 77 ls [.int t0]) := by
  have hx := C0.1
  have hb := C0.2.1
  intro S0 x1 x2 x4 t0 hf H locs ls X hl
  unfold fn_X9_best_77 at hf
  refine lv_istore_n (pc := 77) (lv' := [(3, .int t0), (0, .ref (a 0)), (1, .int x1), (2, .int x2), (4, .int x4)]) hx hb dX9_best_77 rfl hl (by decide) rfl (fun ls hl => ?_)
  obtain ⟨y_13, ey_13⟩ : ∃ y : Int32, y = x4 + (1 : Int32) := ⟨_, rfl⟩
  have hf := lt_sb hf ey_13
  refine lv_iinc (pc := 78) (v := y_13) (lv' := [(4, .int y_13), (3, .int t0), (0, .ref (a 0)), (1, .int x1), (2, .int x2)]) hx hb dX9_best_78 hl (k := 4) rfl (by rw [ey_13]; rfl) (by decide) rfl (fun ls hl => ?_)
  refine lv_goto (pc := 81) (tgt := 31) hx hb dX9_best_81 (by decide) ?_
  exact hk31 _ _ _ _ _ hf _ _ _ X (lv_sub hl [2, 3, 4, 1, 0] rfl)
set_option maxHeartbeats 4000000 in
set_option maxRecDepth 100000 in
theorem lb_X9_best_64 {l : Launch} {p : Program} {e : Env} {s : State} {m : MethodId} {args : Array Value} {below : List Frame} {meth : Method} {c : Code} {G : xG} {A : Nat → Prop} {a : Nat → Nat} (C0 : xC p s m meth c cX9_best 6 (some .int) RX9 args) (KN : xKN G s) (hA : ∀ q, s.heap.size ≤ q → A q) (ro : Int32) (So0 : tt_Model) (k31 : tt_Model → Int32 → Int32 → Int32 → Int32 → Option (Int32 × tt_Model)) (hk31 : ∀ (S0 : tt_Model) (x1 : Int32) (x2 : Int32) (x3 : Int32) (x4 : Int32), k31 S0 x1 x2 x3 x4 = some (ro, So0) → ∀ (H : Heap) (locs : List Loc) (ls : Array Slot), xS G A s.heap (wd_Model G a S0) H locs → lv_has ls 6 [(0, .ref (a 0)), (1, .int x1), (2, .int x2), (3, .int x3), (4, .int x4)] → W p l e ({ frames := 4, cells := 0, slots := 0, locals := 94 }) s m args below meth c H locs 0 0 (MQ below (xQo G (some (.int ro)) A (wd_Model G a So0)) args s 0 0 A) (F0 m 31 ls [])) : ∀ (S0 : tt_Model) (x1 : Int32) (x3 : Int32) (x4 : Int32) (x5 : Int32) (t0 : Int32), fn_X9_best_64 k31 S0 x1 x3 x4 x5 t0 = some (ro, So0) → ∀ (H : Heap) (locs : List Loc) (ls : Array Slot), xS G A s.heap (wd_Model G a S0) H locs → lv_has ls 6 [(0, .ref (a 0)), (1, .int x1), (3, .int x3), (4, .int x4), (5, .int x5)] → W p l e ({ frames := 4, cells := 0, slots := 0, locals := 94 }) s m args below meth c H locs 0 0 (MQ below (xQo G (some (.int ro)) A (wd_Model G a So0)) args s 0 0 A) (F0 m 64 ls [.int t0]) := by
  have hx := C0.1
  have hb := C0.2.1
  intro S0 x1 x3 x4 x5 t0 hf H locs ls X hl
  unfold fn_X9_best_64 at hf
  refine lv_istore_n (pc := 64) (lv' := [(2, .int t0), (0, .ref (a 0)), (1, .int x1), (3, .int x3), (4, .int x4), (5, .int x5)]) hx hb dX9_best_64 rfl hl (by decide) rfl (fun ls hl => ?_)
  refine lv_iload (pc := 65) hx hb dX9_best_65 (lv_at hl 5 rfl) ?_
  refine lv_iload_n (pc := 67) hx hb dX9_best_67 rfl (lv_at hl 3 rfl) ?_
  refine lv_icmp_ge (pc := 68) (tgt := 76) hx hb dX9_best_68 (by decide) (fun c_12 => ?_) (fun c_12 => ?_)
  · have hf := it_p hf c_12
    refine lv_iload_n (pc := 76) hx hb dX9_best_76 rfl (lv_at hl 3 rfl) ?_
    exact lb_X9_best_77 C0 KN hA _ _ k31 hk31 _ _ _ _ _ hf _ _ _ X (lv_sub hl [1, 2, 0, 4] rfl)
  · have hf := it_n hf c_12
    refine lv_iload (pc := 71) hx hb dX9_best_71 (lv_at hl 5 rfl) ?_
    refine lv_goto (pc := 73) (tgt := 77) hx hb dX9_best_73 (by decide) ?_
    exact lb_X9_best_77 C0 KN hA _ _ k31 hk31 _ _ _ _ _ hf _ _ _ X (lv_sub hl [1, 2, 0, 4] rfl)
set_option maxHeartbeats 4000000 in
set_option maxRecDepth 100000 in
theorem lb_X9_best_31 {l : Launch} {p : Program} {e : Env} {s : State} {m : MethodId} {args : Array Value} {below : List Frame} {meth : Method} {c : Code} {G : xG} {A : Nat → Prop} {a : Nat → Nat} (C0 : xC p s m meth c cX9_best 6 (some .int) RX9 args) (KN : xKN G s) (hA : ∀ q, s.heap.size ≤ q → A q) (ro : Int32) (So0 : tt_Model) (k84 : tt_Model → Int32 → Int32 → Int32 → Option (Int32 × tt_Model)) (hk84 : ∀ (S0 : tt_Model) (x1 : Int32) (x2 : Int32) (x3 : Int32), k84 S0 x1 x2 x3 = some (ro, So0) → ∀ (H : Heap) (locs : List Loc) (ls : Array Slot), xS G A s.heap (wd_Model G a S0) H locs → lv_has ls 6 [(0, .ref (a 0)), (1, .int x1), (2, .int x2), (3, .int x3)] → W p l e ({ frames := 4, cells := 0, slots := 0, locals := 94 }) s m args below meth c H locs 0 0 (MQ below (xQo G (some (.int ro)) A (wd_Model G a So0)) args s 0 0 A) (F0 m 84 ls [])) : ∀ (n : Nat) (S0 : tt_Model) (x1 : Int32) (x2 : Int32) (x3 : Int32) (x4 : Int32), fl_X9_best_31 k84 n S0 x1 x2 x3 x4 = some (ro, So0) → ∀ (H : Heap) (locs : List Loc) (ls : Array Slot), xS G A s.heap (wd_Model G a S0) H locs → lv_has ls 6 [(0, .ref (a 0)), (1, .int x1), (2, .int x2), (3, .int x3), (4, .int x4)] → W p l e ({ frames := 4, cells := 0, slots := 0, locals := 94 }) s m args below meth c H locs 0 0 (MQ below (xQo G (some (.int ro)) A (wd_Model G a So0)) args s 0 0 A) (F0 m 31 ls []) := by
  have hx := C0.1
  have hb := C0.2.1
  intro n
  induction n with
  | zero =>
    intro S0 x1 x2 x3 x4 hf
    have hf : none = some (ro, So0) := hf
    cases hf
  | succ n ih =>
    intro S0 x1 x2 x3 x4 hf H locs ls X hl
    rw [fl_X9_best_31] at hf
    refine lv_iload (pc := 31) hx hb dX9_best_31 (lv_at hl 4 rfl) ?_
    refine lv_bipush (pc := 33) (v := 28) hx hb dX9_best_33 (by decide) ?_
    refine lv_icmp_ge (pc := 35) (tgt := 84) hx hb dX9_best_35 (by decide) (fun c_7 => ?_) (fun c_7 => ?_)
    · have hf := it_p hf c_7
      exact hk84 _ _ _ _ hf _ _ _ X (lv_sub hl [0, 1, 2, 3] rfl)
    · have hf := it_n hf c_7
      refine lv_aload_n (pc := 38) hx hb dX9_best_38 rfl (lv_at hl 0 rfl) ?_
      refine lv_iload (pc := 39) hx hb dX9_best_39 (lv_at hl 4 rfl) ?_
      refine lv_iconst (pc := 41) (v := 4) hx hb dX9_best_41 (by decide) ?_
      refine lv_idiv (pc := 42) hx hb dX9_best_42 (by decide) ?_
      refine lv_iload (pc := 43) hx hb dX9_best_43 (lv_at hl 4 rfl) ?_
      refine lv_iconst (pc := 45) (v := 4) hx hb dX9_best_45 (by decide) ?_
      refine lv_irem (pc := 46) hx hb dX9_best_46 (by decide) ?_
      obtain ⟨r_8, P_9, h_10, hf⟩ := b2_e hf
      refine x_cv (pc := 47) (ws' := wd_Model G a P_9) (As := [.int (x4 / (4 : Int32)), .int (x4 - x4 / (4 : Int32) * (4 : Int32))]) (rest := []) (ci := 9) (qr := 0) C0 KN X hA [0, 1, 2, 3, 4, 5, 6, 7, 8, 9, 10, 11, 12, 13, 14, 15, 16, 17, 18] [] [0, 1, 2, 3, 4, 5, 6, 7, 8, 9, 10, 11, 12, 13, 14, 15, 16, 17, 18] cu_C50 rfl cu_R50 rfl (by decide) (cu_J50 (S0 := S0)) rfl (ct_X9_goes l G a S0 (x4 / (4 : Int32)) (x4 - x4 / (4 : Int32) * (4 : Int32)) r_8 P_9 h_10) rfl rfl rfl kw_12_14 kw_12_11 kw_12_12 kw_12_13 kw_1_5 hd_X9_goes ⟨by decide, by decide⟩ hl.1 rfl (Nat.le_of_ble_eq_true rfl) ⟨Nat.zero_le _, Nat.zero_le _⟩ dX9_best_47 (fun H locs X => ?_)
      refine W.eq (g2 := F0 m 50 ls [.int r_8]) rfl ?_
      refine lv_istore (pc := 50) (lv' := [(5, .int r_8), (0, .ref (a 0)), (1, .int x1), (2, .int x2), (3, .int x3), (4, .int x4)]) hx hb dX9_best_50 hl (by decide) rfl (fun ls hl => ?_)
      refine lv_iload (pc := 52) hx hb dX9_best_52 (lv_at hl 0 rfl) ?_
      refine lv_iload_n (pc := 54) hx hb dX9_best_54 rfl (lv_at hl 4 rfl) ?_
      refine lv_icmp_ge (pc := 55) (tgt := 63) hx hb dX9_best_55 (by decide) (fun c_11 => ?_) (fun c_11 => ?_)
      · have hf := it_p hf c_11
        refine lv_iload_n (pc := 63) hx hb dX9_best_63 rfl (lv_at hl 3 rfl) ?_
        exact lb_X9_best_64 C0 KN hA _ _ (fl_X9_best_31 k84 n) ih _ _ _ _ _ _ hf _ _ _ X (lv_sub hl [1, 2, 4, 5, 0] rfl)
      · have hf := it_n hf c_11
        refine lv_iload (pc := 58) hx hb dX9_best_58 (lv_at hl 5 rfl) ?_
        refine lv_goto (pc := 60) (tgt := 64) hx hb dX9_best_60 (by decide) ?_
        exact lb_X9_best_64 C0 KN hA _ _ (fl_X9_best_31 k84 n) ih _ _ _ _ _ _ hf _ _ _ X (lv_sub hl [1, 2, 4, 5, 0] rfl)
theorem hd_X9_best : yX9_best.cls ≠ "java/lang/invoke/MethodHandle" ∧ yX9_best.cls ≠ "java/lang/invoke/VarHandle" ∧ (parseMethodDescriptor yX9_best.desc).map (fun d => d.parameters.length) = some 1 := by decide +kernel
set_option maxHeartbeats 4000000 in
set_option maxRecDepth 100000 in
theorem ct_X9_best (l : Launch) (G : xG) (a : Nat → Nat) (S0 : tt_Model) (x1 : Int32) (ro : Int32) (So0 : tt_Model) (hf : fn_X9_best S0 x1 = some (ro, So0)) : xM l yX9_best cX9_best 6 (some .int) 4 94 G [.ref (a 0), .int x1] (wd_Model G a S0) (wd_Model G a So0) (some (.int ro)) := by
  refine xMi (by decide) (Nat.le_of_ble_eq_true rfl) ?_
  intro p e s m below meth c A C0 KN hA X ls hl
  have hx := C0.1
  have hb := C0.2.1
  have C0 : xC p s m meth c cX9_best 6 (some .int) RX9 _ := C0
  have hl : lv_has ls 6 [(0, .ref (a 0)), (1, .int x1)] := hl
  unfold fn_X9_best at hf
  refine lv_iload_n (pc := 0) hx hb dX9_best_0 rfl (lv_at hl 1 rfl) ?_
  refine lv_i2l (pc := 1) (v := x1.toInt64) hx hb dX9_best_1 rfl ?_
  refine lv_lconst (pc := 2) (v := 0) hx hb dX9_best_2 (by decide) ?_
  refine x_ldc2 (pc := 3) C0 kw_21_7 dX9_best_3 ?_
  obtain ⟨r_1, h_2, hf⟩ := bd_e hf
  refine x_cs (pc := 6) (As := [.long x1.toInt64, .long (0 : Int64), .long (2 : Int64)]) (rest := []) C0 (ct_X9_in l x1.toInt64 (0 : Int64) (2 : Int64) r_1 h_2) kw_10_21 kw_10_19 kw_10_20 kw_1_5 hd_X9_in ⟨by decide, by decide⟩ hl.1 rfl (Nat.le_of_ble_eq_true rfl) ⟨Nat.zero_le _, Nat.zero_le _⟩ dX9_best_6 ?_
  refine W.eq (g2 := F0 m 9 ls [.int r_1]) rfl ?_
  refine lv_if_ne (pc := 9) (tgt := 19) hx hb dX9_best_9 (by decide) (fun c_3 => ?_) (fun c_3 => ?_)
  · have hf := it_n hf c_3
    refine lv_iconst (pc := 19) (v := 0) hx hb dX9_best_19 (by decide) ?_
    refine lv_istore_n (pc := 20) (lv' := [(2, .int (0 : Int32)), (0, .ref (a 0)), (1, .int x1)]) hx hb dX9_best_20 rfl hl (by decide) rfl (fun ls hl => ?_)
    refine lv_aload_n (pc := 21) hx hb dX9_best_21 rfl (lv_at hl 1 rfl) ?_
    refine lv_iconst (pc := 22) (v := 0) hx hb dX9_best_22 (by decide) ?_
    refine lv_iconst (pc := 23) (v := 0) hx hb dX9_best_23 (by decide) ?_
    obtain ⟨r_4, P_5, h_6, hf⟩ := b2_e hf
    refine x_cv (pc := 24) (ws' := wd_Model G a P_5) (As := [.int (0 : Int32), .int (0 : Int32)]) (rest := []) (ci := 9) (qr := 0) C0 KN X hA [0, 1, 2, 3, 4, 5, 6, 7, 8, 9, 10, 11, 12, 13, 14, 15, 16, 17, 18] [] [0, 1, 2, 3, 4, 5, 6, 7, 8, 9, 10, 11, 12, 13, 14, 15, 16, 17, 18] cu_C50 rfl cu_R50 rfl (by decide) (cu_J50 (S0 := S0)) rfl (ct_X9_goes l G a S0 (0 : Int32) (0 : Int32) r_4 P_5 h_6) rfl rfl rfl kw_12_14 kw_12_11 kw_12_12 kw_12_13 kw_1_5 hd_X9_goes ⟨by decide, by decide⟩ hl.1 rfl (Nat.le_of_ble_eq_true rfl) ⟨Nat.zero_le _, Nat.zero_le _⟩ dX9_best_24 (fun H locs X => ?_)
    refine W.eq (g2 := F0 m 27 ls [.int r_4]) rfl ?_
    refine lv_istore_n (pc := 27) (lv' := [(3, .int r_4), (2, .int (0 : Int32)), (0, .ref (a 0)), (1, .int x1)]) hx hb dX9_best_27 rfl hl (by decide) rfl (fun ls hl => ?_)
    refine lv_iconst (pc := 28) (v := 1) hx hb dX9_best_28 (by decide) ?_
    refine lv_istore (pc := 29) (lv' := [(4, .int (1 : Int32)), (3, .int r_4), (2, .int (0 : Int32)), (0, .ref (a 0)), (1, .int x1)]) hx hb dX9_best_29 hl (by decide) rfl (fun ls hl => ?_)
    refine lb_X9_best_31 C0 KN hA _ _ _ ?_ _ _ _ _ _ _ hf _ _ _ X (lv_sub hl [3, 4, 2, 1, 0] rfl)
    · intro S0_e84_14 x1_e84_14 x2_e84_14 x3_e84_14 hf H locs ls X hl
      refine lv_iload_n (pc := 84) hx hb dX9_best_84 rfl (lv_at hl 1 rfl) ?_
      refine lv_if_ne (pc := 85) (tgt := 94) hx hb dX9_best_85 (by decide) (fun c_15 => ?_) (fun c_15 => ?_)
      · have hf := it_n hf c_15
        refine lv_iload_n (pc := 94) hx hb dX9_best_94 rfl (lv_at hl 1 rfl) ?_
        refine lv_iconst (pc := 95) (v := 1) hx hb dX9_best_95 (by decide) ?_
        refine lv_icmp_ne (pc := 96) (tgt := 105) hx hb dX9_best_96 (by decide) (fun c_16 => ?_) (fun c_16 => ?_)
        · have hf := it_n hf c_16
          refine lv_iload_n (pc := 105) hx hb dX9_best_105 rfl (lv_at hl 3 rfl) ?_
          obtain ⟨rfl, rfl⟩ := so_2 hf
          exact x_iret (pc := 106) C0 X dX9_best_106
        · have hf := it_p hf c_16
          refine lv_iload_n (pc := 99) hx hb dX9_best_99 rfl (lv_at hl 2 rfl) ?_
          refine lv_iconst (pc := 100) (v := 4) hx hb dX9_best_100 (by decide) ?_
          refine lv_irem (pc := 101) hx hb dX9_best_101 (by decide) ?_
          refine lv_goto (pc := 102) (tgt := 106) hx hb dX9_best_102 (by decide) ?_
          obtain ⟨rfl, rfl⟩ := so_2 hf
          exact x_iret (pc := 106) C0 X dX9_best_106
      · have hf := it_p hf c_15
        refine lv_iload_n (pc := 88) hx hb dX9_best_88 rfl (lv_at hl 2 rfl) ?_
        refine lv_iconst (pc := 89) (v := 4) hx hb dX9_best_89 (by decide) ?_
        refine lv_idiv (pc := 90) hx hb dX9_best_90 (by decide) ?_
        refine lv_goto (pc := 91) (tgt := 106) hx hb dX9_best_91 (by decide) ?_
        obtain ⟨rfl, rfl⟩ := so_2 hf
        exact x_iret (pc := 106) C0 X dX9_best_106
  · have hf := it_p hf c_3
    refine lv_aload_n (pc := 12) hx hb dX9_best_12 rfl (lv_at hl 0 rfl) ?_
    refine lv_bipush (pc := 13) (v := (-2)) hx hb dX9_best_13 (by decide) ?_
    obtain ⟨r_17, P_18, h_19, hf⟩ := b2_e hf
    refine x_cv (pc := 15) (ws' := wd_Model G a P_18) (As := [.int (-2 : Int32)]) (rest := []) (ci := 9) (qr := 0) C0 KN X hA [0, 1, 2, 3, 4, 5, 6, 7, 8, 9, 10, 11, 12, 13, 14, 15, 16, 17, 18] [] [0, 1, 2, 3, 4, 5, 6, 7, 8, 9, 10, 11, 12, 13, 14, 15, 16, 17, 18] cu_C50 rfl cu_R50 rfl (by decide) (cu_J50 (S0 := S0)) rfl (ct_X9_bad l G a S0 (-2 : Int32) r_17 P_18 h_19) rfl rfl rfl kw_11_1 kw_10_22 kw_10_23 kw_11_0 kw_1_5 hd_X9_bad ⟨by decide, by decide⟩ hl.1 rfl (Nat.le_of_ble_eq_true rfl) ⟨Nat.zero_le _, Nat.zero_le _⟩ dX9_best_15 (fun H locs X => ?_)
    refine W.eq (g2 := F0 m 18 ls [.int r_17]) rfl ?_
    obtain ⟨rfl, rfl⟩ := so_2 hf
    exact x_iret (pc := 18) C0 X dX9_best_18
set_option maxHeartbeats 4000000 in
set_option maxRecDepth 100000 in
theorem lb_X9_follows_49 {l : Launch} {p : Program} {e : Env} {s : State} {m : MethodId} {args : Array Value} {below : List Frame} {meth : Method} {c : Code} {G : xG} {A : Nat → Prop} {a : Nat → Nat} (C0 : xC p s m meth c cX9_follows 6 (some .int) RX9 args) (KN : xKN G s) (hA : ∀ q, s.heap.size ≤ q → A q) (ro : Int32) (So0 : tt_Model) (k29 : tt_Model → Int32 → Int32 → Int32 → Option (Int32 × tt_Model)) (hk29 : ∀ (S0 : tt_Model) (x1 : Int32) (x2 : Int32) (x4 : Int32), k29 S0 x1 x2 x4 = some (ro, So0) → ∀ (H : Heap) (locs : List Loc) (ls : Array Slot), xS G A s.heap (wd_Model G a S0) H locs → lv_has ls 6 [(0, .ref (a 0)), (1, .int x1), (2, .int x2), (4, .int x4)] → W p l e ({ frames := 5, cells := 0, slots := 0, locals := 114 }) s m args below meth c H locs 0 0 (MQ below (xQo G (some (.int ro)) A (wd_Model G a So0)) args s 0 0 A) (F0 m 29 ls [])) : ∀ (S0 : tt_Model) (x1 : Int32) (x2 : Int32) (x4 : Int32) (t0 : Int32), fn_X9_follows_49 k29 S0 x1 x2 x4 t0 = some (ro, So0) → ∀ (H : Heap) (locs : List Loc) (ls : Array Slot), xS G A s.heap (wd_Model G a S0) H locs → lv_has ls 6 [(0, .ref (a 0)), (1, .int x1), (2, .int x2), (4, .int x4)] → W p l e ({ frames := 5, cells := 0, slots := 0, locals := 114 }) s m args below meth c H locs 0 0 (MQ below (xQo G (some (.int ro)) A (wd_Model G a So0)) args s 0 0 A) (F0 m 49 ls [.int t0]) := by
  have hx := C0.1
  have hb := C0.2.1
  intro S0 x1 x2 x4 t0 hf H locs ls X hl
  unfold fn_X9_follows_49 at hf
  refine lv_istore (pc := 49) (lv' := [(5, .int t0), (0, .ref (a 0)), (1, .int x1), (2, .int x2), (4, .int x4)]) hx hb dX9_follows_49 hl (by decide) rfl (fun ls hl => ?_)
  refine lv_iload_n (pc := 51) hx hb dX9_follows_51 rfl (lv_at hl 3 rfl) ?_
  refine lv_iload (pc := 52) hx hb dX9_follows_52 (lv_at hl 0 rfl) ?_
  refine lv_iload (pc := 54) hx hb dX9_follows_54 (lv_at hl 4 rfl) ?_
  refine lv_ishl (pc := 56) hx hb dX9_follows_56 ?_
  refine lv_ior (pc := 57) hx hb dX9_follows_57 ?_
  refine lv_topi (fun y_12 ey_12 => ?_)
  have hf := lt_sb hf ey_12
  refine lv_istore_n (pc := 58) (lv' := [(2, .int y_12), (5, .int t0), (0, .ref (a 0)), (1, .int x1), (4, .int x4)]) hx hb dX9_follows_58 rfl hl (by decide) rfl (fun ls hl => ?_)
  refine lv_aload_n (pc := 59) hx hb dX9_follows_59 rfl (lv_at hl 2 rfl) ?_
  refine lv_iload (pc := 60) hx hb dX9_follows_60 (lv_at hl 1 rfl) ?_
  obtain ⟨P_13, h_14, hf⟩ := bd_e hf
  refine x_cv (pc := 62) (ws' := wd_Model G a P_13) (As := [.int t0]) (rest := []) (ci := 9) (qr := 0) C0 KN X hA [0, 1, 2, 3, 4, 5, 6, 7, 8, 9, 10, 11, 12, 13, 14, 15, 16, 17, 18] [] [0, 1, 2, 3, 4, 5, 6, 7, 8, 9, 10, 11, 12, 13, 14, 15, 16, 17, 18] cu_C50 rfl cu_R50 rfl (by decide) (cu_J50 (S0 := S0)) rfl (ct_X9_comes l G a S0 t0 P_13 h_14) rfl rfl rfl kw_14_2 kw_13_23 kw_14_0 kw_14_1 kw_1_5 hd_X9_comes ⟨by decide, by decide⟩ hl.1 rfl (Nat.le_of_ble_eq_true rfl) ⟨Nat.zero_le _, Nat.zero_le _⟩ dX9_follows_62 (fun H locs X => ?_)
  refine W.eq (g2 := F0 m 65 ls []) rfl ?_
  obtain ⟨y_15, ey_15⟩ : ∃ y : Int32, y = x4 + (1 : Int32) := ⟨_, rfl⟩
  have hf := lt_sb hf ey_15
  refine lv_iinc (pc := 65) (v := y_15) (lv' := [(4, .int y_15), (2, .int y_12), (5, .int t0), (0, .ref (a 0)), (1, .int x1)]) hx hb dX9_follows_65 hl (k := 4) rfl (by rw [ey_15]; rfl) (by decide) rfl (fun ls hl => ?_)
  refine lv_goto (pc := 68) (tgt := 29) hx hb dX9_follows_68 (by decide) ?_
  exact hk29 _ _ _ _ hf _ _ _ X (lv_sub hl [3, 4, 1, 0] rfl)
set_option maxHeartbeats 4000000 in
set_option maxRecDepth 100000 in
theorem lb_X9_follows_29 {l : Launch} {p : Program} {e : Env} {s : State} {m : MethodId} {args : Array Value} {below : List Frame} {meth : Method} {c : Code} {G : xG} {A : Nat → Prop} {a : Nat → Nat} (C0 : xC p s m meth c cX9_follows 6 (some .int) RX9 args) (KN : xKN G s) (hA : ∀ q, s.heap.size ≤ q → A q) (ro : Int32) (So0 : tt_Model) (k71 : tt_Model → Int32 → Option (Int32 × tt_Model)) (hk71 : ∀ (S0 : tt_Model) (x2 : Int32), k71 S0 x2 = some (ro, So0) → ∀ (H : Heap) (locs : List Loc) (ls : Array Slot), xS G A s.heap (wd_Model G a S0) H locs → lv_has ls 6 [(0, .ref (a 0)), (2, .int x2)] → W p l e ({ frames := 5, cells := 0, slots := 0, locals := 114 }) s m args below meth c H locs 0 0 (MQ below (xQo G (some (.int ro)) A (wd_Model G a So0)) args s 0 0 A) (F0 m 71 ls [])) : ∀ (n : Nat) (S0 : tt_Model) (x1 : Int32) (x2 : Int32) (x4 : Int32), fl_X9_follows_29 k71 n S0 x1 x2 x4 = some (ro, So0) → ∀ (H : Heap) (locs : List Loc) (ls : Array Slot), xS G A s.heap (wd_Model G a S0) H locs → lv_has ls 6 [(0, .ref (a 0)), (1, .int x1), (2, .int x2), (4, .int x4)] → W p l e ({ frames := 5, cells := 0, slots := 0, locals := 114 }) s m args below meth c H locs 0 0 (MQ below (xQo G (some (.int ro)) A (wd_Model G a So0)) args s 0 0 A) (F0 m 29 ls []) := by
  have hx := C0.1
  have hb := C0.2.1
  intro n
  induction n with
  | zero =>
    intro S0 x1 x2 x4 hf
    have hf : none = some (ro, So0) := hf
    cases hf
  | succ n ih =>
    intro S0 x1 x2 x4 hf H locs ls X hl
    rw [fl_X9_follows_29] at hf
    refine lv_iload (pc := 29) hx hb dX9_follows_29 (lv_at hl 3 rfl) ?_
    refine lv_iload_n (pc := 31) hx hb dX9_follows_31 rfl (lv_at hl 1 rfl) ?_
    refine lv_icmp_ge (pc := 32) (tgt := 71) hx hb dX9_follows_32 (by decide) (fun c_7 => ?_) (fun c_7 => ?_)
    · have hf := it_p hf c_7
      exact hk71 _ _ hf _ _ _ X (lv_sub hl [0, 2] rfl)
    · have hf := it_n hf c_7
      refine lv_aload_n (pc := 35) hx hb dX9_follows_35 rfl (lv_at hl 0 rfl) ?_
      obtain ⟨r_8, P_9, h_10, hf⟩ := b2_e hf
      refine x_cv (pc := 36) (ws' := wd_Model G a P_9) (As := []) (rest := []) (ci := 9) (qr := 0) C0 KN X hA [0, 1, 2, 3, 4, 5, 6, 7, 8, 9, 10, 11, 12, 13, 14, 15, 16, 17, 18] [] [0, 1, 2, 3, 4, 5, 6, 7, 8, 9, 10, 11, 12, 13, 14, 15, 16, 17, 18] cu_C50 rfl cu_R50 rfl (by decide) (cu_J50 (S0 := S0)) rfl (ct_X9_guesses l G a S0 r_8 P_9 h_10) rfl rfl rfl kw_13_2 kw_12_23 kw_13_0 kw_13_1 kw_1_5 hd_X9_guesses ⟨by decide, by decide⟩ hl.1 rfl (Nat.le_of_ble_eq_true rfl) ⟨Nat.zero_le _, Nat.zero_le _⟩ dX9_follows_36 (fun H locs X => ?_)
      refine W.eq (g2 := F0 m 39 ls [.int r_8]) rfl ?_
      refine x_ldc (pc := 39) C0 kw_12_22 dX9_follows_39 ?_
      refine lv_icmp_lt (pc := 41) (tgt := 48) hx hb dX9_follows_41 (by decide) (fun c_11 => ?_) (fun c_11 => ?_)
      · have hf := it_p hf c_11
        refine lv_iconst (pc := 48) (v := 0) hx hb dX9_follows_48 (by decide) ?_
        exact lb_X9_follows_49 C0 KN hA _ _ (fl_X9_follows_29 k71 n) ih _ _ _ _ _ hf _ _ _ X (lv_sub hl [0, 1, 2, 3] rfl)
      · have hf := it_n hf c_11
        refine lv_iconst (pc := 44) (v := 1) hx hb dX9_follows_44 (by decide) ?_
        refine lv_goto (pc := 45) (tgt := 49) hx hb dX9_follows_45 (by decide) ?_
        exact lb_X9_follows_49 C0 KN hA _ _ (fl_X9_follows_29 k71 n) ih _ _ _ _ _ hf _ _ _ X (lv_sub hl [0, 1, 2, 3] rfl)
theorem hd_X9_follows : yX9_follows.cls ≠ "java/lang/invoke/MethodHandle" ∧ yX9_follows.cls ≠ "java/lang/invoke/VarHandle" ∧ (parseMethodDescriptor yX9_follows.desc).map (fun d => d.parameters.length) = some 1 := by decide +kernel
set_option maxHeartbeats 4000000 in
set_option maxRecDepth 100000 in
theorem ct_X9_follows (l : Launch) (G : xG) (a : Nat → Nat) (S0 : tt_Model) (x1 : Int32) (ro : Int32) (So0 : tt_Model) (hf : fn_X9_follows S0 x1 = some (ro, So0)) : xM l yX9_follows cX9_follows 6 (some .int) 5 114 G [.ref (a 0), .int x1] (wd_Model G a S0) (wd_Model G a So0) (some (.int ro)) := by
  refine xMi (by decide) (Nat.le_of_ble_eq_true rfl) ?_
  intro p e s m below meth c A C0 KN hA X ls hl
  have hx := C0.1
  have hb := C0.2.1
  have C0 : xC p s m meth c cX9_follows 6 (some .int) RX9 _ := C0
  have hl : lv_has ls 6 [(0, .ref (a 0)), (1, .int x1)] := hl
  unfold fn_X9_follows at hf
  refine lv_iload_n (pc := 0) hx hb dX9_follows_0 rfl (lv_at hl 1 rfl) ?_
  refine lv_i2l (pc := 1) (v := x1.toInt64) hx hb dX9_follows_1 rfl ?_
  refine lv_lconst (pc := 2) (v := 1) hx hb dX9_follows_2 (by decide) ?_
  refine x_ldc2 (pc := 3) C0 kw_21_18 dX9_follows_3 ?_
  obtain ⟨r_1, h_2, hf⟩ := bd_e hf
  refine x_cs (pc := 6) (As := [.long x1.toInt64, .long (1 : Int64), .long (16 : Int64)]) (rest := []) C0 (ct_X9_in l x1.toInt64 (1 : Int64) (16 : Int64) r_1 h_2) kw_10_21 kw_10_19 kw_10_20 kw_1_5 hd_X9_in ⟨by decide, by decide⟩ hl.1 rfl (Nat.le_of_ble_eq_true rfl) ⟨Nat.zero_le _, Nat.zero_le _⟩ dX9_follows_6 ?_
  refine W.eq (g2 := F0 m 9 ls [.int r_1]) rfl ?_
  refine lv_if_ne (pc := 9) (tgt := 19) hx hb dX9_follows_9 (by decide) (fun c_3 => ?_) (fun c_3 => ?_)
  · have hf := it_n hf c_3
    refine lv_iconst (pc := 19) (v := 0) hx hb dX9_follows_19 (by decide) ?_
    refine lv_istore_n (pc := 20) (lv' := [(2, .int (0 : Int32)), (0, .ref (a 0)), (1, .int x1)]) hx hb dX9_follows_20 rfl hl (by decide) rfl (fun ls hl => ?_)
    refine lv_aload_n (pc := 21) hx hb dX9_follows_21 rfl (lv_at hl 1 rfl) ?_
    obtain ⟨r_4, P_5, h_6, hf⟩ := b2_e hf
    refine x_cv (pc := 22) (ws' := wd_Model G a P_5) (As := []) (rest := []) (ci := 9) (qr := 0) C0 KN X hA [0, 1, 2, 3, 4, 5, 6, 7, 8, 9, 10, 11, 12, 13, 14, 15, 16, 17, 18] [] [0, 1, 2, 3, 4, 5, 6, 7, 8, 9, 10, 11, 12, 13, 14, 15, 16, 17, 18] cu_C50 rfl cu_R50 rfl (by decide) (cu_J50 (S0 := S0)) rfl (ct_X9_goesNow l G a S0 r_4 P_5 h_6) rfl rfl rfl kw_12_2 kw_11_23 kw_12_0 kw_12_1 kw_1_5 hd_X9_goesNow ⟨by decide, by decide⟩ hl.1 rfl (Nat.le_of_ble_eq_true rfl) ⟨Nat.zero_le _, Nat.zero_le _⟩ dX9_follows_22 (fun H locs X => ?_)
    refine W.eq (g2 := F0 m 25 ls [.int r_4]) rfl ?_
    refine lv_istore_n (pc := 25) (lv' := [(3, .int r_4), (2, .int (0 : Int32)), (0, .ref (a 0)), (1, .int x1)]) hx hb dX9_follows_25 rfl hl (by decide) rfl (fun ls hl => ?_)
    refine lv_iconst (pc := 26) (v := 0) hx hb dX9_follows_26 (by decide) ?_
    refine lv_istore (pc := 27) (lv' := [(4, .int (0 : Int32)), (3, .int r_4), (2, .int (0 : Int32)), (0, .ref (a 0)), (1, .int x1)]) hx hb dX9_follows_27 hl (by decide) rfl (fun ls hl => ?_)
    refine lb_X9_follows_29 C0 KN hA _ _ _ ?_ _ _ _ _ _ hf _ _ _ X (lv_sub hl [3, 4, 2, 0] rfl)
    · intro S0_e71_16 x2_e71_16 hf H locs ls X hl
      refine lv_iload_n (pc := 71) hx hb dX9_follows_71 rfl (lv_at hl 1 rfl) ?_
      obtain ⟨rfl, rfl⟩ := so_2 hf
      exact x_iret (pc := 72) C0 X dX9_follows_72
  · have hf := it_p hf c_3
    refine lv_aload_n (pc := 12) hx hb dX9_follows_12 rfl (lv_at hl 0 rfl) ?_
    refine lv_bipush (pc := 13) (v := (-2)) hx hb dX9_follows_13 (by decide) ?_
    obtain ⟨r_17, P_18, h_19, hf⟩ := b2_e hf
    refine x_cv (pc := 15) (ws' := wd_Model G a P_18) (As := [.int (-2 : Int32)]) (rest := []) (ci := 9) (qr := 0) C0 KN X hA [0, 1, 2, 3, 4, 5, 6, 7, 8, 9, 10, 11, 12, 13, 14, 15, 16, 17, 18] [] [0, 1, 2, 3, 4, 5, 6, 7, 8, 9, 10, 11, 12, 13, 14, 15, 16, 17, 18] cu_C50 rfl cu_R50 rfl (by decide) (cu_J50 (S0 := S0)) rfl (ct_X9_bad l G a S0 (-2 : Int32) r_17 P_18 h_19) rfl rfl rfl kw_11_1 kw_10_22 kw_10_23 kw_11_0 kw_1_5 hd_X9_bad ⟨by decide, by decide⟩ hl.1 rfl (Nat.le_of_ble_eq_true rfl) ⟨Nat.zero_le _, Nat.zero_le _⟩ dX9_follows_15 (fun H locs X => ?_)
    refine W.eq (g2 := F0 m 18 ls [.int r_17]) rfl ?_
    obtain ⟨rfl, rfl⟩ := so_2 hf
    exact x_iret (pc := 18) C0 X dX9_follows_18
