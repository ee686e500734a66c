def fn_X2_mix (S0 : tt_Pasts) (x1 : Int32) (x2 : Int32) : Option Int32 :=
  gd_ (ix_ x1 128) (lt_ (((gf_Pasts_weights S0) x1.toNatClampNeg).toInt64) fun y_2 => gd_ (ix_ x2 7) (gd_ (ix_ (x2 + (1 : Int32)) 7) (lt_ ((y_2 * (((gf_Pasts_owns S0) x2.toNatClampNeg).toInt64)) + (((65536 : Int64) - y_2) * (((gf_Pasts_guesses S0) (x2 + (1 : Int32)).toNatClampNeg).toInt64))) fun y_5 => bd_ (fn_X8_kept (y_5 / (65536 : Int64)) (1 : Int32) (65535 : Int32)) fun r_6 => some r_6)))
def fn_X2_lookAhead_71 (k5 : tt_Pasts → Int32 → Option tt_Pasts) (S0 : tt_Pasts) (x1 : Int32) (t1 : Int32) (t2 : Int32) : Option tt_Pasts :=
  gd_ (ix_ t1 7) (lt_ (sf_Pasts_guesses S0 (upd (gf_Pasts_guesses S0) t1.toNatClampNeg t2)) fun S_14 => lt_ (x1 + (-1 : Int32)) fun y_15 => k5 S_14 y_15)
def fl_X2_lookAhead_5 (k78 : tt_Pasts → Option tt_Pasts) : Nat → tt_Pasts → Int32 → Option tt_Pasts
  | 0, _, _ => none
  | n + 1, S0, x1 =>
  if x1 < 0 then k78 S0 else bd_ (fn_X8_nodeOf x1 (gf_Pasts_past S0)) fun r_3 => gd_ (ix_ r_3 128) (gd_ (ix_ r_3 128) (bd_ (fn_X8_opinion (gf_Pasts_guesser S0) ((gf_Pasts_zeros S0) r_3.toNatClampNeg) ((gf_Pasts_ones S0) r_3.toNatClampNeg)) fun r_7 => gd_ (ix_ x1 7) (lt_ (sf_Pasts_owns S0 (upd (gf_Pasts_owns S0) x1.toNatClampNeg r_7)) fun S_10 => if (gf_Pasts_depth S_10) ≤ x1 then gd_ (ix_ x1 7) (fn_X2_lookAhead_71 (fl_X2_lookAhead_5 k78 n) S_10 x1 x1 ((gf_Pasts_owns S_10) x1.toNatClampNeg)) else bd_ (fn_X2_mix S_10 r_3 x1) fun r_16 => fn_X2_lookAhead_71 (fl_X2_lookAhead_5 k78 n) S_10 x1 x1 r_16)))
def fn_X2_lookAhead (S0 : tt_Pasts) : Option tt_Pasts :=
  lt_ (gf_Pasts_depth S0) fun y_1 => fl_X2_lookAhead_5 (fun (S0_e78_18 : tt_Pasts) => some S0_e78_18) fu_ S0 y_1
def fl_X2_begin_34 (k79 : tt_Pasts → Option tt_Pasts) : Nat → tt_Pasts → Int32 → Option tt_Pasts
  | 0, _, _ => none
  | n + 1, S0, x3 =>
  if ((2 : Int32) <<< ((gf_Pasts_depth S0) &&& 31)) ≤ x3 then k79 S0 else gd_ (ix_ x3 128) (lt_ (sf_Pasts_zeros S0 (upd (gf_Pasts_zeros S0) x3.toNatClampNeg (0 : Int32))) fun S_12 => gd_ (ix_ x3 128) (lt_ (sf_Pasts_ones S_12 (upd (gf_Pasts_ones S_12) x3.toNatClampNeg (0 : Int32))) fun S_14 => gd_ (ix_ x3 128) (lt_ (sf_Pasts_weights S_14 (upd (gf_Pasts_weights S_14) x3.toNatClampNeg (32768 : Int32))) fun S_16 => gd_ (ix_ x3 128) (lt_ (sf_Pasts_paidAlone S_16 (upd (gf_Pasts_paidAlone S_16) x3.toNatClampNeg (0 : Int32))) fun S_18 => lt_ (x3 + (1 : Int32)) fun y_19 => fl_X2_begin_34 k79 n S_18 y_19))))
def fn_X2_begin (S0 : tt_Pasts) (x1 : Int32) (x2 : Int32) : Option tt_Pasts :=
  bd_ (fn_X8_kept x1.toInt64 (0 : Int32) (6 : Int32)) fun r_1 => lt_ (sf_Pasts_depth S0 r_1) fun S_3 => bd_ (fn_X8_kept x2.toInt64 (0 : Int32) (3 : Int32)) fun r_4 => lt_ (sf_Pasts_guesser S_3 r_4) fun S_6 => lt_ (sf_Pasts_past S_6 (0 : Int32)) fun S_7 => bd_ (fn_X8_nodeOf (0 : Int32) (0 : Int32)) fun r_8 => fl_X2_begin_34 (fun (S0_e79_20 : tt_Pasts) => bd_ (fn_X2_lookAhead S0_e79_20) fun P_21 => some P_21) fu_ S_7 r_8
def fn_X2_has (S0 : tt_Pasts) (x1 : Int32) (x2 : Int32) : Option Int32 :=
  bd_ (fn_X8_within x1 (0 : Int32) (gf_Pasts_depth S0)) fun r_1 => if r_1 = 0 then some (0 : Int32) else bd_ (fn_X8_within x2 (0 : Int32) (((1 : Int32) <<< (x1 &&& 31)) - (1 : Int32))) fun r_4 => if r_4 = 0 then some (0 : Int32) else some (1 : Int32)
def fn_X2_next (S0 : tt_Pasts) : Option Int32 :=
  gd_ (ix_ (0 : Int32) 7) (some ((gf_Pasts_guesses S0) (0 : Int32).toNatClampNeg))
def fn_X2_tally_50 (S0 : tt_Pasts) (x1 : Int32) : Option tt_Pasts :=
  gd_ (ix_ x1 128) (lt_ (((gf_Pasts_zeros S0) x1.toNatClampNeg) / (2 : Int32)) fun y_9 => gd_ (ix_ x1 128) (lt_ (sf_Pasts_zeros S0 (upd (gf_Pasts_zeros S0) x1.toNatClampNeg y_9)) fun S_11 => gd_ (ix_ x1 128) (lt_ (((gf_Pasts_ones S_11) x1.toNatClampNeg) / (2 : Int32)) fun y_13 => gd_ (ix_ x1 128) (lt_ (sf_Pasts_ones S_11 (upd (gf_Pasts_ones S_11) x1.toNatClampNeg y_13)) fun S_15 => some S_15))))
def fn_X2_tally_28 (S0 : tt_Pasts) (x1 : Int32) : Option tt_Pasts :=
  gd_ (ix_ x1 128) (if (60 : Int32) < ((gf_Pasts_zeros S0) x1.toNatClampNeg) then fn_X2_tally_50 S0 x1 else gd_ (ix_ x1 128) (if ((gf_Pasts_ones S0) x1.toNatClampNeg) ≤ (60 : Int32) then some S0 else fn_X2_tally_50 S0 x1))
def fn_X2_tally (S0 : tt_Pasts) (x1 : Int32) (x2 : Int32) : Option tt_Pasts :=
  if x2 = (1 : Int32) then gd_ (ix_ x1 128) (lt_ (((gf_Pasts_ones S0) x1.toNatClampNeg) + (1 : Int32)) fun y_19 => gd_ (ix_ x1 128) (lt_ (sf_Pasts_ones S0 (upd (gf_Pasts_ones S0) x1.toNatClampNeg y_19)) fun S_21 => fn_X2_tally_28 S_21 x1)) else gd_ (ix_ x1 128) (lt_ (((gf_Pasts_zeros S0) x1.toNatClampNeg) + (1 : Int32)) fun y_3 => gd_ (ix_ x1 128) (lt_ (sf_Pasts_zeros S0 (upd (gf_Pasts_zeros S0) x1.toNatClampNeg y_3)) fun S_5 => fn_X2_tally_28 S_5 x1))
def fn_X2_weighAnew (S0 : tt_Pasts) (x1 : Int32) (x2 : Int32) (x3 : Int32) : Option tt_Pasts :=
  gd_ (ix_ x1 128) (lt_ (((gf_Pasts_weights S0) x1.toNatClampNeg).toInt64) fun y_2 => gd_ (ix_ x2 7) (bd_ (fn_X8_ofSign x3 ((gf_Pasts_owns S0) x2.toNatClampNeg)) fun r_4 => lt_ (y_2 * r_4.toInt64) fun y_6 => gd_ (ix_ (x2 + (1 : Int32)) 7) (bd_ (fn_X8_ofSign x3 ((gf_Pasts_guesses S0) (x2 + (1 : Int32)).toNatClampNeg)) fun r_8 => lt_ (((65536 : Int64) - y_2) * r_8.toInt64) fun y_10 => bd_ (fn_X8_quotient ((65536 : Int64) * y_6) (y_6 + y_10)) fun r_11 => bd_ (fn_X8_kept r_11 (64 : Int32) (65472 : Int32)) fun r_13 => gd_ (ix_ x1 128) (lt_ (sf_Pasts_weights S0 (upd (gf_Pasts_weights S0) x1.toNatClampNeg r_13)) fun S_16 => some S_16))))
def fn_X2_take_56 (k2 : tt_Pasts → Int32 → Int32 → Option tt_Pasts) (S0 : tt_Pasts) (x1 : Int32) (x2 : Int32) (x3 : Int32) : Option tt_Pasts :=
  bd_ (fn_X2_tally S0 x3 x1) fun P_14 => lt_ (x2 + (1 : Int32)) fun y_16 => k2 P_14 x1 y_16
def fl_X2_take_2 (k68 : tt_Pasts → Int32 → Option tt_Pasts) : Nat → tt_Pasts → Int32 → Int32 → Option tt_Pasts
  | 0, _, _, _ => none
  | n + 1, S0, x1, x2 =>
  if (gf_Pasts_depth S0) < x2 then k68 S0 x1 else bd_ (fn_X8_nodeOf x2 (gf_Pasts_past S0)) fun r_2 => gd_ (ix_ r_2 128) (gd_ (ix_ x2 7) (bd_ (fn_X8_ofSign x1 ((gf_Pasts_owns S0) x2.toNatClampNeg)) fun r_6 => bd_ (fn_X8_bitsOf r_6) fun r_8 => lt_ (((gf_Pasts_paidAlone S0) r_2.toNatClampNeg) + r_8) fun y_10 => gd_ (ix_ r_2 128) (lt_ (sf_Pasts_paidAlone S0 (upd (gf_Pasts_paidAlone S0) r_2.toNatClampNeg y_10)) fun S_12 => if (gf_Pasts_depth S_12) ≤ x2 then fn_X2_take_56 (fl_X2_take_2 k68 n) S_12 x1 x2 r_2 else bd_ (fn_X2_weighAnew S_12 r_2 x2 x1) fun P_17 => fn_X2_take_56 (fl_X2_take_2 k68 n) P_17 x1 x2 r_2)))
def fn_X2_take (S0 : tt_Pasts) (x1 : Int32) : Option tt_Pasts :=
  fl_X2_take_2 (fun (S0_e68_19 : tt_Pasts) (x1_e68_19 : Int32) => lt_ ((((gf_Pasts_past S0_e68_19) <<< ((1 : Int32) &&& 31)) ||| x1_e68_19) &&& (63 : Int32)) fun y_20 => lt_ (sf_Pasts_past S0_e68_19 y_20) fun S_21 => bd_ (fn_X2_lookAhead S_21) fun P_22 => some P_22) fu_ S0 x1 (0 : Int32)
theorem cu_C0 {G : xG} {a : Nat → Nat} {S0 : tt_Pasts} : [0, 1, 2, 3, 4, 5, 6].map (fun i => (wd_Pasts G a S0)[i]?) = (wd_Pasts G a S0 : va_W).map some := rfl
theorem cu_R0 {G : xG} {a : Nat → Nat} {S0 : tt_Pasts} : ([] : List Nat).map (fun i => (wd_Pasts G a S0)[i]?) = ([] : va_W).map some := rfl
theorem cu_J0 {G : xG} {a : Nat → Nat} {S0 : tt_Pasts}  : [0, 1, 2, 3, 4, 5, 6].map (fun i => (([] : va_W) ++ (wd_Pasts G a S0))[i]?) = (wd_Pasts G a S0 : va_W).map some := rfl
theorem cu_C1 {G : xG} {a : Nat → Nat} {S0 : tt_Pasts} : [0, 1, 2, 3, 4, 5, 6].map (fun i => (wd_Pasts G a S0)[i]?) = (wd_Pasts G a S0 : va_W).map some := rfl
theorem cu_R1 {G : xG} {a : Nat → Nat} {S0 : tt_Pasts} : ([] : List Nat).map (fun i => (wd_Pasts G a S0)[i]?) = ([] : va_W).map some := rfl
theorem cu_J1 {G : xG} {a : Nat → Nat} {S0 : tt_Pasts} {P0 : tt_Pasts} : [0, 1, 2, 3, 4, 5, 6].map (fun i => (([] : va_W) ++ (wd_Pasts G a P0))[i]?) = (wd_Pasts G a P0 : va_W).map some := rfl
theorem hd_X2_mix : yX2_mix.cls ≠ "java/lang/invoke/MethodHandle" ∧ yX2_mix.cls ≠ "java/lang/invoke/VarHandle" ∧ (parseMethodDescriptor yX2_mix.desc).map (fun d => d.parameters.length) = some 2 := by decide +kernel
set_option maxHeartbeats 4000000 in
set_option maxRecDepth 100000 in
theorem ct_X2_mix (l : Launch) (G : xG) (a : Nat → Nat) (S0 : tt_Pasts) (x1 : Int32) (x2 : Int32) (ro : Int32) (hf : fn_X2_mix S0 x1 x2 = some ro) : xM l yX2_mix cX2_mix 7 (some .int) 1 23 G [.ref (a 0), .int x1, .int x2] (wd_Pasts G a S0) (wd_Pasts G a S0) (some (.int ro)) := by
  refine xMi (by decide) (Nat.le_of_ble_eq_true rfl) ?_
  intro p e s m below meth c A C0 KN hA X ls hl
  have hx := C0.1
  have hb := C0.2.1
  have C0 : xC p s m meth c cX2_mix 7 (some .int) RX2 _ := C0
  have hl : lv_has ls 7 [(0, .ref (a 0)), (1, .int x1), (2, .int x2)] := hl
  unfold fn_X2_mix at hf
  refine lv_aload_n (pc := 0) hx hb dX2_mix_0 rfl (lv_at hl 0 rfl) ?_
  refine x_get (pc := 1) (ci := 2) C0 KN X 0 rfl rfl inlX2 2 (by decide) kw_3_13 rfl dX2_mix_1 ?_
  refine lv_iload_n (pc := 4) hx hb dX2_mix_4 rfl (lv_at hl 1 rfl) ?_
  obtain ⟨g_1, hf⟩ := gd_e hf
  refine x_ald (pc := 5) C0 KN X 3 rfl g_1 dX2_mix_5 ?_
  refine W.eq (g2 := F0 m 6 ls [.int ((gf_Pasts_weights S0) x1.toNatClampNeg)]) rfl ?_
  refine lv_i2l (pc := 6) (v := ((gf_Pasts_weights S0) x1.toNatClampNeg).toInt64) hx hb dX2_mix_6 rfl ?_
  refine lv_topl (fun y_2 ey_2 => ?_)
  have hf := lt_sb hf ey_2
  refine lv_lstore_n (pc := 7) (lv' := [(3, .long y_2), (0, .ref (a 0)), (1, .int x1), (2, .int x2)]) hx hb dX2_mix_7 rfl hl (by decide) rfl (fun ls hl => ?_)
  refine lv_lload_n (pc := 8) hx hb dX2_mix_8 rfl (lv_at hl 0 rfl) ?_
  refine lv_aload_n (pc := 9) hx hb dX2_mix_9 rfl (lv_at hl 1 rfl) ?_
  refine x_get (pc := 10) (ci := 2) C0 KN X 0 rfl rfl inlX2 4 (by decide) kw_3_15 rfl dX2_mix_10 ?_
  refine lv_iload_n (pc := 13) hx hb dX2_mix_13 rfl (lv_at hl 3 rfl) ?_
  obtain ⟨g_3, hf⟩ := gd_e hf
  refine x_ald (pc := 14) C0 KN X 5 rfl g_3 dX2_mix_14 ?_
  refine W.eq (g2 := F0 m 15 ls [.int ((gf_Pasts_owns S0) x2.toNatClampNeg), .long y_2]) rfl ?_
  refine lv_i2l (pc := 15) (v := ((gf_Pasts_owns S0) x2.toNatClampNeg).toInt64) hx hb dX2_mix_15 rfl ?_
  refine lv_lmul (pc := 16) hx hb dX2_mix_16 ?_
  refine x_ldc2 (pc := 17) C0 kw_4_21 dX2_mix_17 ?_
  refine lv_lload_n (pc := 20) hx hb dX2_mix_20 rfl (lv_at hl 0 rfl) ?_
  refine lv_lsub (pc := 21) hx hb dX2_mix_21 ?_
  refine lv_aload_n (pc := 22) hx hb dX2_mix_22 rfl (lv_at hl 1 rfl) ?_
  refine x_get (pc := 23) (ci := 2) C0 KN X 0 rfl rfl inlX2 5 (by decide) kw_3_16 rfl dX2_mix_23 ?_
  refine lv_iload_n (pc := 26) hx hb dX2_mix_26 rfl (lv_at hl 3 rfl) ?_
  refine lv_iconst (pc := 27) (v := 1) hx hb dX2_mix_27 (by decide) ?_
  refine lv_iadd (pc := 28) hx hb dX2_mix_28 ?_
  obtain ⟨g_4, hf⟩ := gd_e hf
  refine x_ald (pc := 29) C0 KN X 6 rfl g_4 dX2_mix_29 ?_
  refine W.eq (g2 := F0 m 30 ls [.int ((gf_Pasts_guesses S0) (x2 + (1 : Int32)).toNatClampNeg), .long ((65536 : Int64) - y_2), .long (y_2 * (((gf_Pasts_owns S0) x2.toNatClampNeg).toInt64))]) rfl ?_
  refine lv_i2l (pc := 30) (v := ((gf_Pasts_guesses S0) (x2 + (1 : Int32)).toNatClampNeg).toInt64) hx hb dX2_mix_30 rfl ?_
  refine lv_lmul (pc := 31) hx hb dX2_mix_31 ?_
  refine lv_ladd (pc := 32) hx hb dX2_mix_32 ?_
  refine lv_topl (fun y_5 ey_5 => ?_)
  have hf := lt_sb hf ey_5
  refine lv_lstore (pc := 33) (lv' := [(5, .long y_5), (3, .long y_2), (0, .ref (a 0)), (1, .int x1), (2, .int x2)]) hx hb dX2_mix_33 hl (by decide) rfl (fun ls hl => ?_)
  refine lv_lload (pc := 35) hx hb dX2_mix_35 (lv_at hl 0 rfl) ?_
  refine x_ldc2 (pc := 37) C0 kw_4_21 dX2_mix_37 ?_
  refine lv_ldiv (pc := 40) hx hb dX2_mix_40 (by decide) ?_
  refine lv_iconst (pc := 41) (v := 1) hx hb dX2_mix_41 (by decide) ?_
  refine x_ldc (pc := 42) C0 kw_4_22 dX2_mix_42 ?_
  obtain ⟨r_6, h_7, hf⟩ := bd_e hf
  refine x_csN (pc := 44) (As := [.long (y_5 / (65536 : Int64)), .int (1 : Int32), .int (65535 : Int32)]) (rest := []) C0 KN (ct_X8_kept l (y_5 / (65536 : Int64)) (1 : Int32) (65535 : Int32) r_6 h_7) kw_4_2 (List.mem_of_getElem? (i := 1) rfl) kw_4_1 kw_1_2 hd_X8_kept ⟨by decide, by decide⟩ hl.1 rfl (Nat.le_of_ble_eq_true rfl) ⟨Nat.zero_le _, Nat.zero_le _⟩ dX2_mix_44 ?_
  refine W.eq (g2 := F0 m 47 ls [.int r_6]) rfl ?_
  obtain rfl := so_1 hf
  exact x_iret (pc := 47) C0 X dX2_mix_47
set_option maxHeartbeats 4000000 in
set_option maxRecDepth 100000 in
theorem lb_X2_lookAhead_71 {l : Launch} {p : Program} {e : Env} {s : State} {m : MethodId} {args : Array Value} {below : List Frame} {meth : Method} {c : Code} {G : xG} {A : Nat → Prop} {a : Nat → Nat} (C0 : xC p s m meth c cX2_lookAhead 3 (none) RX2 args) (KN : xKN G s) (hA : ∀ q, s.heap.size ≤ q → A q) (So0 : tt_Pasts) (k5 : tt_Pasts → Int32 → Option tt_Pasts) (hk5 : ∀ (S0 : tt_Pasts) (x1 : Int32), k5 S0 x1 = some So0 → ∀ (H : Heap) (locs : List Loc) (ls : Array Slot), xS G A s.heap (wd_Pasts G a S0) H locs → lv_has ls 3 [(0, .ref (a 0)), (1, .int x1)] → W p l e ({ frames := 2, cells := 0, slots := 0, locals := 49 }) s m args below meth c H locs 0 0 (MQ below (xQo G none A (wd_Pasts G a So0)) args s 0 0 A) (F0 m 5 ls [])) : ∀ (S0 : tt_Pasts) (x1 : Int32) (t1 : Int32) (t2 : Int32), fn_X2_lookAhead_71 k5 S0 x1 t1 t2 = some So0 → ∀ (H : Heap) (locs : List Loc) (ls : Array Slot), xS G A s.heap (wd_Pasts G a S0) H locs → lv_has ls 3 [(0, .ref (a 0)), (1, .int x1)] → W p l e ({ frames := 2, cells := 0, slots := 0, locals := 49 }) s m args below meth c H locs 0 0 (MQ below (xQo G none A (wd_Pasts G a So0)) args s 0 0 A) (F0 m 71 ls [.int t2, .int t1, .ref (a 6)]) := by
  have hx := C0.1
  have hb := C0.2.1
  intro S0 x1 t1 t2 hf H locs ls X hl
  unfold fn_X2_lookAhead_71 at hf
  obtain ⟨g_13, hf⟩ := gd_e hf
  obtain ⟨S_14, eS_14, hf⟩ := lt_e hf
  refine x_ast (pc := 71) (ws' := wd_Pasts G a S_14) C0 KN X 6 rfl g_13 (by subst eS_14; rfl) dX2_lookAhead_71 (fun H locs X => ?_)
  obtain ⟨y_15, ey_15⟩ : ∃ y : Int32, y = x1 + (-1 : Int32) := ⟨_, rfl⟩
  have hf := lt_sb hf ey_15
  refine lv_iinc (pc := 72) (v := y_15) (lv' := [(1, .int y_15), (0, .ref (a 0))]) hx hb dX2_lookAhead_72 hl (k := 1) rfl (by rw [ey_15]; rfl) (by decide) rfl (fun ls hl => ?_)
  refine lv_goto (pc := 75) (tgt := 5) hx hb dX2_lookAhead_75 (by decide) ?_
  exact hk5 _ _ hf _ _ _ X (lv_sub hl [1, 0] rfl)
set_option maxHeartbeats 4000000 in
set_option maxRecDepth 100000 in
theorem lb_X2_lookAhead_5 {l : Launch} {p : Program} {e : Env} {s : State} {m : MethodId} {args : Array Value} {below : List Frame} {meth : Method} {c : Code} {G : xG} {A : Nat → Prop} {a : Nat → Nat} (C0 : xC p s m meth c cX2_lookAhead 3 (none) RX2 args) (KN : xKN G s) (hA : ∀ q, s.heap.size ≤ q → A q) (So0 : tt_Pasts) (k78 : tt_Pasts → Option tt_Pasts) (hk78 : ∀ (S0 : tt_Pasts), k78 S0 = some So0 → ∀ (H : Heap) (locs : List Loc) (ls : Array Slot), xS G A s.heap (wd_Pasts G a S0) H locs → lv_has ls 3 [(0, .ref (a 0))] → W p l e ({ frames := 2, cells := 0, slots := 0, locals := 49 }) s m args below meth c H locs 0 0 (MQ below (xQo G none A (wd_Pasts G a So0)) args s 0 0 A) (F0 m 78 ls [])) : ∀ (n : Nat) (S0 : tt_Pasts) (x1 : Int32), fl_X2_lookAhead_5 k78 n S0 x1 = some So0 → ∀ (H : Heap) (locs : List Loc) (ls : Array Slot), xS G A s.heap (wd_Pasts G a S0) H locs → lv_has ls 3 [(0, .ref (a 0)), (1, .int x1)] → W p l e ({ frames := 2, cells := 0, slots := 0, locals := 49 }) s m args below meth c H locs 0 0 (MQ below (xQo G none A (wd_Pasts G a So0)) args s 0 0 A) (F0 m 5 ls []) := by
  have hx := C0.1
  have hb := C0.2.1
  intro n
  induction n with
  | zero =>
    intro S0 x1 hf
    have hf : none = some So0 := hf
    cases hf
  | succ n ih =>
    intro S0 x1 hf H locs ls X hl
    rw [fl_X2_lookAhead_5] at hf
    refine lv_iload_n (pc := 5) hx hb dX2_lookAhead_5 rfl (lv_at hl 1 rfl) ?_
    refine lv_if_lt (pc := 6) (tgt := 78) hx hb dX2_lookAhead_6 (by decide) (fun c_2 => ?_) (fun c_2 => ?_)
    · have hf := it_p hf c_2
      exact hk78 _ hf _ _ _ X (lv_sub hl [0] rfl)
    · have hf := it_n hf c_2
      refine lv_iload_n (pc := 9) hx hb dX2_lookAhead_9 rfl (lv_at hl 1 rfl) ?_
      refine lv_aload_n (pc := 10) hx hb dX2_lookAhead_10 rfl (lv_at hl 0 rfl) ?_
      refine x_get (pc := 11) (ci := 2) C0 KN X 0 rfl rfl inlX2 8 (by decide) kw_3_19 rfl dX2_lookAhead_11 ?_
      refine W.eq (g2 := F0 m 14 ls [.int (gf_Pasts_past S0), .int x1]) rfl ?_
      obtain ⟨r_3, h_4, hf⟩ := bd_e hf
      refine x_csN (pc := 14) (As := [.int x1, .int (gf_Pasts_past S0)]) (rest := []) C0 KN (ct_X8_nodeOf l x1 (gf_Pasts_past S0) r_3 h_4) kw_4_4 (List.mem_of_getElem? (i := 2) rfl) kw_4_3 kw_1_2 hd_X8_nodeOf ⟨by decide, by decide⟩ hl.1 rfl (Nat.le_of_ble_eq_true rfl) ⟨Nat.zero_le _, Nat.zero_le _⟩ dX2_lookAhead_14 ?_
      refine W.eq (g2 := F0 m 17 ls [.int r_3]) rfl ?_
      refine lv_istore_n (pc := 17) (lv' := [(2, .int r_3), (0, .ref (a 0)), (1, .int x1)]) hx hb dX2_lookAhead_17 rfl hl (by decide) rfl (fun ls hl => ?_)
      refine lv_aload_n (pc := 18) hx hb dX2_lookAhead_18 rfl (lv_at hl 1 rfl) ?_
      refine x_get (pc := 19) (ci := 2) C0 KN X 0 rfl rfl inlX2 4 (by decide) kw_3_15 rfl dX2_lookAhead_19 ?_
      refine lv_iload_n (pc := 22) hx hb dX2_lookAhead_22 rfl (lv_at hl 2 rfl) ?_
      refine lv_aload_n (pc := 23) hx hb dX2_lookAhead_23 rfl (lv_at hl 1 rfl) ?_
      refine x_get (pc := 24) (ci := 2) C0 KN X 0 rfl rfl inlX2 7 (by decide) kw_3_18 rfl dX2_lookAhead_24 ?_
      refine W.eq (g2 := F0 m 27 ls [.int (gf_Pasts_guesser S0), .int x1, .ref (a 5)]) rfl ?_
      refine lv_aload_n (pc := 27) hx hb dX2_lookAhead_27 rfl (lv_at hl 1 rfl) ?_
      refine x_get (pc := 28) (ci := 2) C0 KN X 0 rfl rfl inlX2 0 (by decide) kw_3_11 rfl dX2_lookAhead_28 ?_
      refine lv_iload_n (pc := 31) hx hb dX2_lookAhead_31 rfl (lv_at hl 0 rfl) ?_
      obtain ⟨g_5, hf⟩ := gd_e hf
      refine x_ald (pc := 32) C0 KN X 1 rfl g_5 dX2_lookAhead_32 ?_
      refine W.eq (g2 := F0 m 33 ls [.int ((gf_Pasts_zeros S0) r_3.toNatClampNeg), .int (gf_Pasts_guesser S0), .int x1, .ref (a 5)]) rfl ?_
      refine lv_aload_n (pc := 33) hx hb dX2_lookAhead_33 rfl (lv_at hl 1 rfl) ?_
      refine x_get (pc := 34) (ci := 2) C0 KN X 0 rfl rfl inlX2 1 (by decide) kw_3_12 rfl dX2_lookAhead_34 ?_
      refine lv_iload_n (pc := 37) hx hb dX2_lookAhead_37 rfl (lv_at hl 0 rfl) ?_
      obtain ⟨g_6, hf⟩ := gd_e hf
      refine x_ald (pc := 38) C0 KN X 2 rfl g_6 dX2_lookAhead_38 ?_
      refine W.eq (g2 := F0 m 39 ls [.int ((gf_Pasts_ones S0) r_3.toNatClampNeg), .int ((gf_Pasts_zeros S0) r_3.toNatClampNeg), .int (gf_Pasts_guesser S0), .int x1, .ref (a 5)]) rfl ?_
      obtain ⟨r_7, h_8, hf⟩ := bd_e hf
      refine x_csN (pc := 39) (As := [.int (gf_Pasts_guesser S0), .int ((gf_Pasts_zeros S0) r_3.toNatClampNeg), .int ((gf_Pasts_ones S0) r_3.toNatClampNeg)]) (rest := [.int x1, .ref (a 5)]) C0 KN (ct_X8_opinion l (gf_Pasts_guesser S0) ((gf_Pasts_zeros S0) r_3.toNatClampNeg) ((gf_Pasts_ones S0) r_3.toNatClampNeg) r_7 h_8) kw_4_11 (List.mem_of_getElem? (i := 3) rfl) kw_4_10 kw_1_2 hd_X8_opinion ⟨by decide, by decide⟩ hl.1 rfl (Nat.le_of_ble_eq_true rfl) ⟨Nat.zero_le _, Nat.zero_le _⟩ dX2_lookAhead_39 ?_
      refine W.eq (g2 := F0 m 42 ls [.int r_7, .int x1, .ref (a 5)]) rfl ?_
      obtain ⟨g_9, hf⟩ := gd_e hf
      obtain ⟨S_10, eS_10, hf⟩ := lt_e hf
      refine x_ast (pc := 42) (ws' := wd_Pasts G a S_10) C0 KN X 5 rfl g_9 (by subst eS_10; rfl) dX2_lookAhead_42 (fun H locs X => ?_)
      refine lv_aload_n (pc := 43) hx hb dX2_lookAhead_43 rfl (lv_at hl 1 rfl) ?_
      refine x_get (pc := 44) (ci := 2) C0 KN X 0 rfl rfl inlX2 5 (by decide) kw_3_16 rfl dX2_lookAhead_44 ?_
      refine lv_iload_n (pc := 47) hx hb dX2_lookAhead_47 rfl (lv_at hl 2 rfl) ?_
      refine lv_iload_n (pc := 48) hx hb dX2_lookAhead_48 rfl (lv_at hl 2 rfl) ?_
      refine lv_aload_n (pc := 49) hx hb dX2_lookAhead_49 rfl (lv_at hl 1 rfl) ?_
      refine x_get (pc := 50) (ci := 2) C0 KN X 0 rfl rfl inlX2 6 (by decide) kw_3_17 rfl dX2_lookAhead_50 ?_
      refine W.eq (g2 := F0 m 53 ls [.int (gf_Pasts_depth S_10), .int x1, .int x1, .ref (a 6)]) rfl ?_
      refine lv_icmp_ge (pc := 53) (tgt := 65) hx hb dX2_lookAhead_53 (by decide) (fun c_11 => ?_) (fun c_11 => ?_)
      · have hf := it_p hf c_11
        refine lv_aload_n (pc := 65) hx hb dX2_lookAhead_65 rfl (lv_at hl 1 rfl) ?_
        refine x_get (pc := 66) (ci := 2) C0 KN X 0 rfl rfl inlX2 4 (by decide) kw_3_15 rfl dX2_lookAhead_66 ?_
        refine lv_iload_n (pc := 69) hx hb dX2_lookAhead_69 rfl (lv_at hl 2 rfl) ?_
        obtain ⟨g_12, hf⟩ := gd_e hf
        refine x_ald (pc := 70) C0 KN X 5 rfl g_12 dX2_lookAhead_70 ?_
        refine W.eq (g2 := F0 m 71 ls [.int ((gf_Pasts_owns S_10) x1.toNatClampNeg), .int x1, .ref (a 6)]) rfl ?_
        exact lb_X2_lookAhead_71 C0 KN hA _ (fl_X2_lookAhead_5 k78 n) ih _ _ _ _ hf _ _ _ X (lv_sub hl [1, 2] rfl)
      · have hf := it_n hf c_11
        refine lv_aload_n (pc := 56) hx hb dX2_lookAhead_56 rfl (lv_at hl 1 rfl) ?_
        refine lv_iload_n (pc := 57) hx hb dX2_lookAhead_57 rfl (lv_at hl 0 rfl) ?_
        refine lv_iload_n (pc := 58) hx hb dX2_lookAhead_58 rfl (lv_at hl 2 rfl) ?_
        obtain ⟨r_16, h_17, hf⟩ := bd_e hf
        refine x_cv (pc := 59) (ws' := wd_Pasts G a S_10) (As := [.int r_3, .int x1]) (rest := [.int x1, .ref (a 6)]) (ci := 2) (qr := 0) C0 KN X hA [0, 1, 2, 3, 4, 5, 6] [] [0, 1, 2, 3, 4, 5, 6] cu_C0 rfl cu_R0 rfl (by decide) (cu_J0 (S0 := S_10)) rfl (ct_X2_mix l G a S_10 r_3 x1 r_16 h_17) rfl rfl rfl kw_4_20 kw_4_17 kw_4_18 kw_4_19 kw_1_19 hd_X2_mix ⟨by decide, by decide⟩ hl.1 rfl (Nat.le_of_ble_eq_true rfl) ⟨Nat.zero_le _, Nat.zero_le _⟩ dX2_lookAhead_59 (fun H locs X => ?_)
        refine W.eq (g2 := F0 m 62 ls [.int r_16, .int x1, .ref (a 6)]) rfl ?_
        refine lv_goto (pc := 62) (tgt := 71) hx hb dX2_lookAhead_62 (by decide) ?_
        exact lb_X2_lookAhead_71 C0 KN hA _ (fl_X2_lookAhead_5 k78 n) ih _ _ _ _ hf _ _ _ X (lv_sub hl [1, 2] rfl)
theorem hd_X2_lookAhead : yX2_lookAhead.cls ≠ "java/lang/invoke/MethodHandle" ∧ yX2_lookAhead.cls ≠ "java/lang/invoke/VarHandle" ∧ (parseMethodDescriptor yX2_lookAhead.desc).map (fun d => d.parameters.length) = some 0 := by decide +kernel
set_option maxHeartbeats 4000000 in
set_option maxRecDepth 100000 in
theorem ct_X2_lookAhead (l : Launch) (G : xG) (a : Nat → Nat) (S0 : tt_Pasts) (So0 : tt_Pasts) (hf : fn_X2_lookAhead S0 = some So0) : xM l yX2_lookAhead cX2_lookAhead 3 (none) 2 49 G [.ref (a 0)] (wd_Pasts G a S0) (wd_Pasts G a So0) none := by
  refine xMi (by decide) (Nat.le_of_ble_eq_true rfl) ?_
  intro p e s m below meth c A C0 KN hA X ls hl
  have hx := C0.1
  have hb := C0.2.1
  have C0 : xC p s m meth c cX2_lookAhead 3 (none) RX2 _ := C0
  have hl : lv_has ls 3 [(0, .ref (a 0))] := hl
  unfold fn_X2_lookAhead at hf
  refine lv_aload_n (pc := 0) hx hb dX2_lookAhead_0 rfl (lv_at hl 0 rfl) ?_
  refine x_get (pc := 1) (ci := 2) C0 KN X 0 rfl rfl inlX2 6 (by decide) kw_3_17 rfl dX2_lookAhead_1 ?_
  refine W.eq (g2 := F0 m 4 ls [.int (gf_Pasts_depth S0)]) rfl ?_
  refine lv_topi (fun y_1 ey_1 => ?_)
  have hf := lt_sb hf ey_1
  refine lv_istore_n (pc := 4) (lv' := [(1, .int y_1), (0, .ref (a 0))]) hx hb dX2_lookAhead_4 rfl hl (by decide) rfl (fun ls hl => ?_)
  refine lb_X2_lookAhead_5 C0 KN hA _ _ ?_ _ _ _ hf _ _ _ X (lv_sub hl [1, 0] rfl)
  · intro S0_e78_18 hf H locs ls X hl
    obtain rfl := so_1 hf
    exact x_vret (pc := 78) C0 X dX2_lookAhead_78
set_option maxHeartbeats 4000000 in
set_option maxRecDepth 100000 in
theorem lb_X2_begin_34 {l : Launch} {p : Program} {e : Env} {s : State} {m : MethodId} {args : Array Value} {below : List Frame} {meth : Method} {c : Code} {G : xG} {A : Nat → Prop} {a : Nat → Nat} (C0 : xC p s m meth c cX2_begin 4 (none) RX2 args) (KN : xKN G s) (hA : ∀ q, s.heap.size ≤ q → A q) (So0 : tt_Pasts) (k79 : tt_Pasts → Option tt_Pasts) (hk79 : ∀ (S0 : tt_Pasts), k79 S0 = some So0 → ∀ (H : Heap) (locs : List Loc) (ls : Array Slot), xS G A s.heap (wd_Pasts G a S0) H locs → lv_has ls 4 [(0, .ref (a 0))] → W p l e ({ frames := 3, cells := 0, slots := 0, locals := 71 }) s m args below meth c H locs 0 0 (MQ below (xQo G none A (wd_Pasts G a So0)) args s 0 0 A) (F0 m 79 ls [])) : ∀ (n : Nat) (S0 : tt_Pasts) (x3 : Int32), fl_X2_begin_34 k79 n S0 x3 = some So0 → ∀ (H : Heap) (locs : List Loc) (ls : Array Slot), xS G A s.heap (wd_Pasts G a S0) H locs → lv_has ls 4 [(0, .ref (a 0)), (3, .int x3)] → W p l e ({ frames := 3, cells := 0, slots := 0, locals := 71 }) s m args below meth c H locs 0 0 (MQ below (xQo G none A (wd_Pasts G a So0)) args s 0 0 A) (F0 m 34 ls []) := by
  have hx := C0.1
  have hb := C0.2.1
  intro n
  induction n with
  | zero =>
    intro S0 x3 hf
    have hf : none = some So0 := hf
    cases hf
  | succ n ih =>
    intro S0 x3 hf H locs ls X hl
    rw [fl_X2_begin_34] at hf
    refine lv_iload_n (pc := 34) hx hb dX2_begin_34 rfl (lv_at hl 1 rfl) ?_
    refine lv_iconst (pc := 35) (v := 2) hx hb dX2_begin_35 (by decide) ?_
    refine lv_aload_n (pc := 36) hx hb dX2_begin_36 rfl (lv_at hl 0 rfl) ?_
    refine x_get (pc := 37) (ci := 2) C0 KN X 0 rfl rfl inlX2 6 (by decide) kw_3_17 rfl dX2_begin_37 ?_
    refine W.eq (g2 := F0 m 40 ls [.int (gf_Pasts_depth S0), .int (2 : Int32), .int x3]) rfl ?_
    refine lv_ishl (pc := 40) hx hb dX2_begin_40 ?_
    refine lv_icmp_ge (pc := 41) (tgt := 79) hx hb dX2_begin_41 (by decide) (fun c_10 => ?_) (fun c_10 => ?_)
    · have hf := it_p hf c_10
      exact hk79 _ hf _ _ _ X (lv_sub hl [0] rfl)
    · have hf := it_n hf c_10
      refine lv_aload_n (pc := 44) hx hb dX2_begin_44 rfl (lv_at hl 0 rfl) ?_
      refine x_get (pc := 45) (ci := 2) C0 KN X 0 rfl rfl inlX2 0 (by decide) kw_3_11 rfl dX2_begin_45 ?_
      refine lv_iload_n (pc := 48) hx hb dX2_begin_48 rfl (lv_at hl 1 rfl) ?_
      refine lv_iconst (pc := 49) (v := 0) hx hb dX2_begin_49 (by decide) ?_
      obtain ⟨g_11, hf⟩ := gd_e hf
      obtain ⟨S_12, eS_12, hf⟩ := lt_e hf
      refine x_ast (pc := 50) (ws' := wd_Pasts G a S_12) C0 KN X 1 rfl g_11 (by subst eS_12; rfl) dX2_begin_50 (fun H locs X => ?_)
      refine lv_aload_n (pc := 51) hx hb dX2_begin_51 rfl (lv_at hl 0 rfl) ?_
      refine x_get (pc := 52) (ci := 2) C0 KN X 0 rfl rfl inlX2 1 (by decide) kw_3_12 rfl dX2_begin_52 ?_
      refine lv_iload_n (pc := 55) hx hb dX2_begin_55 rfl (lv_at hl 1 rfl) ?_
      refine lv_iconst (pc := 56) (v := 0) hx hb dX2_begin_56 (by decide) ?_
      obtain ⟨g_13, hf⟩ := gd_e hf
      obtain ⟨S_14, eS_14, hf⟩ := lt_e hf
      refine x_ast (pc := 57) (ws' := wd_Pasts G a S_14) C0 KN X 2 rfl g_13 (by subst eS_14; rfl) dX2_begin_57 (fun H locs X => ?_)
      refine lv_aload_n (pc := 58) hx hb dX2_begin_58 rfl (lv_at hl 0 rfl) ?_
      refine x_get (pc := 59) (ci := 2) C0 KN X 0 rfl rfl inlX2 2 (by decide) kw_3_13 rfl dX2_begin_59 ?_
      refine lv_iload_n (pc := 62) hx hb dX2_begin_62 rfl (lv_at hl 1 rfl) ?_
      refine x_ldc (pc := 63) C0 kw_4_0 dX2_begin_63 ?_
      obtain ⟨g_15, hf⟩ := gd_e hf
      obtain ⟨S_16, eS_16, hf⟩ := lt_e hf
      refine x_ast (pc := 65) (ws' := wd_Pasts G a S_16) C0 KN X 3 rfl g_15 (by subst eS_16; rfl) dX2_begin_65 (fun H locs X => ?_)
      refine lv_aload_n (pc := 66) hx hb dX2_begin_66 rfl (lv_at hl 0 rfl) ?_
      refine x_get (pc := 67) (ci := 2) C0 KN X 0 rfl rfl inlX2 3 (by decide) kw_3_14 rfl dX2_begin_67 ?_
      refine lv_iload_n (pc := 70) hx hb dX2_begin_70 rfl (lv_at hl 1 rfl) ?_
      refine lv_iconst (pc := 71) (v := 0) hx hb dX2_begin_71 (by decide) ?_
      obtain ⟨g_17, hf⟩ := gd_e hf
      obtain ⟨S_18, eS_18, hf⟩ := lt_e hf
      refine x_ast (pc := 72) (ws' := wd_Pasts G a S_18) C0 KN X 4 rfl g_17 (by subst eS_18; rfl) dX2_begin_72 (fun H locs X => ?_)
      obtain ⟨y_19, ey_19⟩ : ∃ y : Int32, y = x3 + (1 : Int32) := ⟨_, rfl⟩
      have hf := lt_sb hf ey_19
      refine lv_iinc (pc := 73) (v := y_19) (lv' := [(3, .int y_19), (0, .ref (a 0))]) hx hb dX2_begin_73 hl (k := 1) rfl (by rw [ey_19]; rfl) (by decide) rfl (fun ls hl => ?_)
      refine lv_goto (pc := 76) (tgt := 34) hx hb dX2_begin_76 (by decide) ?_
      exact ih _ _ hf _ _ _ X (lv_sub hl [1, 0] rfl)
theorem hd_X2_begin : yX2_begin.cls ≠ "java/lang/invoke/MethodHandle" ∧ yX2_begin.cls ≠ "java/lang/invoke/VarHandle" ∧ (parseMethodDescriptor yX2_begin.desc).map (fun d => d.parameters.length) = some 2 := by decide +kernel
set_option maxHeartbeats 4000000 in
set_option maxRecDepth 100000 in
theorem ct_X2_begin (l : Launch) (G : xG) (a : Nat → Nat) (S0 : tt_Pasts) (x1 : Int32) (x2 : Int32) (So0 : tt_Pasts) (hf : fn_X2_begin S0 x1 x2 = some So0) : xM l yX2_begin cX2_begin 4 (none) 3 71 G [.ref (a 0), .int x1, .int x2] (wd_Pasts G a S0) (wd_Pasts G a So0) none := by
  refine xMi (by decide) (Nat.le_of_ble_eq_true rfl) ?_
  intro p e s m below meth c A C0 KN hA X ls hl
  have hx := C0.1
  have hb := C0.2.1
  have C0 : xC p s m meth c cX2_begin 4 (none) RX2 _ := C0
  have hl : lv_has ls 4 [(0, .ref (a 0)), (1, .int x1), (2, .int x2)] := hl
  unfold fn_X2_begin at hf
  refine lv_aload_n (pc := 0) hx hb dX2_begin_0 rfl (lv_at hl 0 rfl) ?_
  refine lv_iload_n (pc := 1) hx hb dX2_begin_1 rfl (lv_at hl 1 rfl) ?_
  refine lv_i2l (pc := 2) (v := x1.toInt64) hx hb dX2_begin_2 rfl ?_
  refine lv_iconst (pc := 3) (v := 0) hx hb dX2_begin_3 (by decide) ?_
  refine lv_bipush (pc := 4) (v := 6) hx hb dX2_begin_4 (by decide) ?_
  obtain ⟨r_1, h_2, hf⟩ := bd_e hf
  refine x_csN (pc := 6) (As := [.long x1.toInt64, .int (0 : Int32), .int (6 : Int32)]) (rest := [.ref (a 0)]) C0 KN (ct_X8_kept l x1.toInt64 (0 : Int32) (6 : Int32) r_1 h_2) kw_4_2 (List.mem_of_getElem? (i := 1) rfl) kw_4_1 kw_1_2 hd_X8_kept ⟨by decide, by decide⟩ hl.1 rfl (Nat.le_of_ble_eq_true rfl) ⟨Nat.zero_le _, Nat.zero_le _⟩ dX2_begin_6 ?_
  refine W.eq (g2 := F0 m 9 ls [.int r_1, .ref (a 0)]) rfl ?_
  obtain ⟨S_3, eS_3, hf⟩ := lt_e hf
  refine x_put (pc := 9) (ci := 2) (ws' := wd_Pasts G a S_3) C0 KN X 0 rfl rfl inlX2 tyX2_ok nmX2 6 (by decide) kw_3_17 rfl rfl rfl (Nat.le_of_ble_eq_true rfl) (by subst eS_3; rfl) dX2_begin_9 (fun H locs X => ?_)
  refine lv_aload_n (pc := 12) hx hb dX2_begin_12 rfl (lv_at hl 0 rfl) ?_
  refine lv_iload_n (pc := 13) hx hb dX2_begin_13 rfl (lv_at hl 2 rfl) ?_
  refine lv_i2l (pc := 14) (v := x2.toInt64) hx hb dX2_begin_14 rfl ?_
  refine lv_iconst (pc := 15) (v := 0) hx hb dX2_begin_15 (by decide) ?_
  refine lv_iconst (pc := 16) (v := 3) hx hb dX2_begin_16 (by decide) ?_
  obtain ⟨r_4, h_5, hf⟩ := bd_e hf
  refine x_csN (pc := 17) (As := [.long x2.toInt64, .int (0 : Int32), .int (3 : Int32)]) (rest := [.ref (a 0)]) C0 KN (ct_X8_kept l x2.toInt64 (0 : Int32) (3 : Int32) r_4 h_5) kw_4_2 (List.mem_of_getElem? (i := 1) rfl) kw_4_1 kw_1_2 hd_X8_kept ⟨by decide, by decide⟩ hl.1 rfl (Nat.le_of_ble_eq_true rfl) ⟨Nat.zero_le _, Nat.zero_le _⟩ dX2_begin_17 ?_
  refine W.eq (g2 := F0 m 20 ls [.int r_4, .ref (a 0)]) rfl ?_
  obtain ⟨S_6, eS_6, hf⟩ := lt_e hf
  refine x_put (pc := 20) (ci := 2) (ws' := wd_Pasts G a S_6) C0 KN X 0 rfl rfl inlX2 tyX2_ok nmX2 7 (by decide) kw_3_18 rfl rfl rfl (Nat.le_of_ble_eq_true rfl) (by subst eS_6; rfl) dX2_begin_20 (fun H locs X => ?_)
  refine lv_aload_n (pc := 23) hx hb dX2_begin_23 rfl (lv_at hl 0 rfl) ?_
  refine lv_iconst (pc := 24) (v := 0) hx hb dX2_begin_24 (by decide) ?_
  obtain ⟨S_7, eS_7, hf⟩ := lt_e hf
  refine x_put (pc := 25) (ci := 2) (ws' := wd_Pasts G a S_7) C0 KN X 0 rfl rfl inlX2 tyX2_ok nmX2 8 (by decide) kw_3_19 rfl rfl rfl (Nat.le_of_ble_eq_true rfl) (by subst eS_7; rfl) dX2_begin_25 (fun H locs X => ?_)
  refine lv_iconst (pc := 28) (v := 0) hx hb dX2_begin_28 (by decide) ?_
  refine lv_iconst (pc := 29) (v := 0) hx hb dX2_begin_29 (by decide) ?_
  obtain ⟨r_8, h_9, hf⟩ := bd_e hf
  refine x_csN (pc := 30) (As := [.int (0 : Int32), .int (0 : Int32)]) (rest := []) C0 KN (ct_X8_nodeOf l (0 : Int32) (0 : Int32) r_8 h_9) kw_4_4 (List.mem_of_getElem? (i := 2) rfl) kw_4_3 kw_1_2 hd_X8_nodeOf ⟨by decide, by decide⟩ hl.1 rfl (Nat.le_of_ble_eq_true rfl) ⟨Nat.zero_le _, Nat.zero_le _⟩ dX2_begin_30 ?_
  refine W.eq (g2 := F0 m 33 ls [.int r_8]) rfl ?_
  refine lv_istore_n (pc := 33) (lv' := [(3, .int r_8), (0, .ref (a 0)), (1, .int x1), (2, .int x2)]) hx hb dX2_begin_33 rfl hl (by decide) rfl (fun ls hl => ?_)
  refine lb_X2_begin_34 C0 KN hA _ _ ?_ _ _ _ hf _ _ _ X (lv_sub hl [1, 0] rfl)
  · intro S0_e79_20 hf H locs ls X hl
    refine lv_aload_n (pc := 79) hx hb dX2_begin_79 rfl (lv_at hl 0 rfl) ?_
    obtain ⟨P_21, h_22, hf⟩ := bd_e hf
    refine x_cv (pc := 80) (ws' := wd_Pasts G a P_21) (As := []) (rest := []) (ci := 2) (qr := 0) C0 KN X hA [0, 1, 2, 3, 4, 5, 6] [] [0, 1, 2, 3, 4, 5, 6] cu_C1 rfl cu_R1 rfl (by decide) (cu_J1 (S0 := S0_e79_20)) rfl (ct_X2_lookAhead l G a S0_e79_20 P_21 h_22) rfl rfl rfl kw_4_9 kw_4_6 kw_4_7 kw_4_8 kw_1_19 hd_X2_lookAhead ⟨by decide, by decide⟩ hl.1 rfl (Nat.le_of_ble_eq_true rfl) ⟨Nat.zero_le _, Nat.zero_le _⟩ dX2_begin_80 (fun H locs X => ?_)
    refine W.eq (g2 := F0 m 83 ls []) rfl ?_
    obtain rfl := so_1 hf
    exact x_vret (pc := 83) C0 X dX2_begin_83
theorem hd_X2_has : yX2_has.cls ≠ "java/lang/invoke/MethodHandle" ∧ yX2_has.cls ≠ "java/lang/invoke/VarHandle" ∧ (parseMethodDescriptor yX2_has.desc).map (fun d => d.parameters.length) = some 2 := by decide +kernel
set_option maxHeartbeats 4000000 in
set_option maxRecDepth 100000 in
theorem ct_X2_has (l : Launch) (G : xG) (a : Nat → Nat) (S0 : tt_Pasts) (x1 : Int32) (x2 : Int32) (ro : Int32) (hf : fn_X2_has S0 x1 x2 = some ro) : xM l yX2_has cX2_has 3 (some .boolean) 1 22 G [.ref (a 0), .int x1, .int x2] (wd_Pasts G a S0) (wd_Pasts G a S0) (some (.int ro)) := by
  refine xMi (by decide) (Nat.le_of_ble_eq_true rfl) ?_
  intro p e s m below meth c A C0 KN hA X ls hl
  have hx := C0.1
  have hb := C0.2.1
  have C0 : xC p s m meth c cX2_has 3 (some .boolean) RX2 _ := C0
  have hl : lv_has ls 3 [(0, .ref (a 0)), (1, .int x1), (2, .int x2)] := hl
  unfold fn_X2_has at hf
  refine lv_iload_n (pc := 0) hx hb dX2_has_0 rfl (lv_at hl 1 rfl) ?_
  refine lv_iconst (pc := 1) (v := 0) hx hb dX2_has_1 (by decide) ?_
  refine lv_aload_n (pc := 2) hx hb dX2_has_2 rfl (lv_at hl 0 rfl) ?_
  refine x_get (pc := 3) (ci := 2) C0 KN X 0 rfl rfl inlX2 6 (by decide) kw_3_17 rfl dX2_has_3 ?_
  refine W.eq (g2 := F0 m 6 ls [.int (gf_Pasts_depth S0), .int (0 : Int32), .int x1]) rfl ?_
  obtain ⟨r_1, h_2, hf⟩ := bd_e hf
  refine x_csN (pc := 6) (As := [.int x1, .int (0 : Int32), .int (gf_Pasts_depth S0)]) (rest := []) C0 KN (ct_X8_within l x1 (0 : Int32) (gf_Pasts_depth S0) r_1 h_2) kw_8_10 (List.mem_of_getElem? (i := 16) rfl) kw_8_9 kw_1_2 hd_X8_within ⟨by decide, by decide⟩ hl.1 rfl (Nat.le_of_ble_eq_true rfl) ⟨Nat.zero_le _, Nat.zero_le _⟩ dX2_has_6 ?_
  refine W.eq (g2 := F0 m 9 ls [.int r_1]) rfl ?_
  refine lv_if_eq (pc := 9) (tgt := 29) hx hb dX2_has_9 (by decide) (fun c_3 => ?_) (fun c_3 => ?_)
  · have hf := it_p hf c_3
    refine lv_iconst (pc := 29) (v := 0) hx hb dX2_has_29 (by decide) ?_
    obtain rfl := so_1 hf
    exact x_zret (pc := 30) C0 X (by decide) dX2_has_30
  · have hf := it_n hf c_3
    refine lv_iload_n (pc := 12) hx hb dX2_has_12 rfl (lv_at hl 2 rfl) ?_
    refine lv_iconst (pc := 13) (v := 0) hx hb dX2_has_13 (by decide) ?_
    refine lv_iconst (pc := 14) (v := 1) hx hb dX2_has_14 (by decide) ?_
    refine lv_iload_n (pc := 15) hx hb dX2_has_15 rfl (lv_at hl 1 rfl) ?_
    refine lv_ishl (pc := 16) hx hb dX2_has_16 ?_
    refine lv_iconst (pc := 17) (v := 1) hx hb dX2_has_17 (by decide) ?_
    refine lv_isub (pc := 18) hx hb dX2_has_18 ?_
    obtain ⟨r_4, h_5, hf⟩ := bd_e hf
    refine x_csN (pc := 19) (As := [.int x2, .int (0 : Int32), .int (((1 : Int32) <<< (x1 &&& 31)) - (1 : Int32))]) (rest := []) C0 KN (ct_X8_within l x2 (0 : Int32) (((1 : Int32) <<< (x1 &&& 31)) - (1 : Int32)) r_4 h_5) kw_8_10 (List.mem_of_getElem? (i := 16) rfl) kw_8_9 kw_1_2 hd_X8_within ⟨by decide, by decide⟩ hl.1 rfl (Nat.le_of_ble_eq_true rfl) ⟨Nat.zero_le _, Nat.zero_le _⟩ dX2_has_19 ?_
    refine W.eq (g2 := F0 m 22 ls [.int r_4]) rfl ?_
    refine lv_if_eq (pc := 22) (tgt := 29) hx hb dX2_has_22 (by decide) (fun c_6 => ?_) (fun c_6 => ?_)
    · have hf := it_p hf c_6
      refine lv_iconst (pc := 29) (v := 0) hx hb dX2_has_29 (by decide) ?_
      obtain rfl := so_1 hf
      exact x_zret (pc := 30) C0 X (by decide) dX2_has_30
    · have hf := it_n hf c_6
      refine lv_iconst (pc := 25) (v := 1) hx hb dX2_has_25 (by decide) ?_
      refine lv_goto (pc := 26) (tgt := 30) hx hb dX2_has_26 (by decide) ?_
      obtain rfl := so_1 hf
      exact x_zret (pc := 30) C0 X (by decide) dX2_has_30
theorem hd_X2_next : yX2_next.cls ≠ "java/lang/invoke/MethodHandle" ∧ yX2_next.cls ≠ "java/lang/invoke/VarHandle" ∧ (parseMethodDescriptor yX2_next.desc).map (fun d => d.parameters.length) = some 0 := by decide +kernel
set_option maxHeartbeats 4000000 in
set_option maxRecDepth 100000 in
theorem ct_X2_next (l : Launch) (G : xG) (a : Nat → Nat) (S0 : tt_Pasts) (ro : Int32) (hf : fn_X2_next S0 = some ro) : xM l yX2_next cX2_next 1 (some .int) 0 0 G [.ref (a 0)] (wd_Pasts G a S0) (wd_Pasts G a S0) (some (.int ro)) := by
  refine xMi (by decide) (Nat.le_of_ble_eq_true rfl) ?_
  intro p e s m below meth c A C0 KN hA X ls hl
  have hx := C0.1
  have hb := C0.2.1
  have C0 : xC p s m meth c cX2_next 1 (some .int) RX2 _ := C0
  have hl : lv_has ls 1 [(0, .ref (a 0))] := hl
  unfold fn_X2_next at hf
  refine lv_aload_n (pc := 0) hx hb dX2_next_0 rfl (lv_at hl 0 rfl) ?_
  refine x_get (pc := 1) (ci := 2) C0 KN X 0 rfl rfl inlX2 5 (by decide) kw_3_16 rfl dX2_next_1 ?_
  refine lv_iconst (pc := 4) (v := 0) hx hb dX2_next_4 (by decide) ?_
  obtain ⟨g_1, hf⟩ := gd_e hf
  refine x_ald (pc := 5) C0 KN X 6 rfl g_1 dX2_next_5 ?_
  refine W.eq (g2 := F0 m 6 ls [.int ((gf_Pasts_guesses S0) (0 : Int32).toNatClampNeg)]) rfl ?_
  obtain rfl := so_1 hf
  exact x_iret (pc := 6) C0 X dX2_next_6
set_option maxHeartbeats 4000000 in
set_option maxRecDepth 100000 in
theorem lb_X2_tally_50 {l : Launch} {p : Program} {e : Env} {s : State} {m : MethodId} {args : Array Value} {below : List Frame} {meth : Method} {c : Code} {G : xG} {A : Nat → Prop} {a : Nat → Nat} (C0 : xC p s m meth c cX2_tally 3 (none) RX2 args) (KN : xKN G s) (hA : ∀ q, s.heap.size ≤ q → A q) (So0 : tt_Pasts) : ∀ (S0 : tt_Pasts) (x1 : Int32), fn_X2_tally_50 S0 x1 = some So0 → ∀ (H : Heap) (locs : List Loc) (ls : Array Slot), xS G A s.heap (wd_Pasts G a S0) H locs → lv_has ls 3 [(0, .ref (a 0)), (1, .int x1)] → W p l e ({ frames := 0, cells := 0, slots := 0, locals := 0 }) s m args below meth c H locs 0 0 (MQ below (xQo G none A (wd_Pasts G a So0)) args s 0 0 A) (F0 m 50 ls []) := by
  have hx := C0.1
  have hb := C0.2.1
  intro S0 x1 hf H locs ls X hl
  unfold fn_X2_tally_50 at hf
  refine lv_aload_n (pc := 50) hx hb dX2_tally_50 rfl (lv_at hl 0 rfl) ?_
  refine x_get (pc := 51) (ci := 2) C0 KN X 0 rfl rfl inlX2 0 (by decide) kw_3_11 rfl dX2_tally_51 ?_
  refine lv_iload_n (pc := 54) hx hb dX2_tally_54 rfl (lv_at hl 1 rfl) ?_
  refine lv_dup2_11 (pc := 55) hx hb dX2_tally_55 rfl rfl ?_
  obtain ⟨g_8, hf⟩ := gd_e hf
  refine x_ald (pc := 56) C0 KN X 1 rfl g_8 dX2_tally_56 ?_
  refine W.eq (g2 := F0 m 57 ls [.int ((gf_Pasts_zeros S0) x1.toNatClampNeg), .int x1, .ref (a 1)]) rfl ?_
  refine lv_iconst (pc := 57) (v := 2) hx hb dX2_tally_57 (by decide) ?_
  refine lv_idiv (pc := 58) hx hb dX2_tally_58 (by decide) ?_
  refine lv_topi (fun y_9 ey_9 => ?_)
  have hf := lt_sb hf ey_9
  obtain ⟨g_10, hf⟩ := gd_e hf
  obtain ⟨S_11, eS_11, hf⟩ := lt_e hf
  refine x_ast (pc := 59) (ws' := wd_Pasts G a S_11) C0 KN X 1 rfl g_10 (by subst eS_11; rfl) dX2_tally_59 (fun H locs X => ?_)
  refine lv_aload_n (pc := 60) hx hb dX2_tally_60 rfl (lv_at hl 0 rfl) ?_
  refine x_get (pc := 61) (ci := 2) C0 KN X 0 rfl rfl inlX2 1 (by decide) kw_3_12 rfl dX2_tally_61 ?_
  refine lv_iload_n (pc := 64) hx hb dX2_tally_64 rfl (lv_at hl 1 rfl) ?_
  refine lv_dup2_11 (pc := 65) hx hb dX2_tally_65 rfl rfl ?_
  obtain ⟨g_12, hf⟩ := gd_e hf
  refine x_ald (pc := 66) C0 KN X 2 rfl g_12 dX2_tally_66 ?_
  refine W.eq (g2 := F0 m 67 ls [.int ((gf_Pasts_ones S_11) x1.toNatClampNeg), .int x1, .ref (a 2)]) rfl ?_
  refine lv_iconst (pc := 67) (v := 2) hx hb dX2_tally_67 (by decide) ?_
  refine lv_idiv (pc := 68) hx hb dX2_tally_68 (by decide) ?_
  refine lv_topi (fun y_13 ey_13 => ?_)
  have hf := lt_sb hf ey_13
  obtain ⟨g_14, hf⟩ := gd_e hf
  obtain ⟨S_15, eS_15, hf⟩ := lt_e hf
  refine x_ast (pc := 69) (ws' := wd_Pasts G a S_15) C0 KN X 2 rfl g_14 (by subst eS_15; rfl) dX2_tally_69 (fun H locs X => ?_)
  obtain rfl := so_1 hf
  exact x_vret (pc := 70) C0 X dX2_tally_70
set_option maxHeartbeats 4000000 in
set_option maxRecDepth 100000 in
theorem lb_X2_tally_28 {l : Launch} {p : Program} {e : Env} {s : State} {m : MethodId} {args : Array Value} {below : List Frame} {meth : Method} {c : Code} {G : xG} {A : Nat → Prop} {a : Nat → Nat} (C0 : xC p s m meth c cX2_tally 3 (none) RX2 args) (KN : xKN G s) (hA : ∀ q, s.heap.size ≤ q → A q) (So0 : tt_Pasts) : ∀ (S0 : tt_Pasts) (x1 : Int32), fn_X2_tally_28 S0 x1 = some So0 → ∀ (H : Heap) (locs : List Loc) (ls : Array Slot), xS G A s.heap (wd_Pasts G a S0) H locs → lv_has ls 3 [(0, .ref (a 0)), (1, .int x1)] → W p l e ({ frames := 0, cells := 0, slots := 0, locals := 0 }) s m args below meth c H locs 0 0 (MQ below (xQo G none A (wd_Pasts G a So0)) args s 0 0 A) (F0 m 28 ls []) := by
  have hx := C0.1
  have hb := C0.2.1
  intro S0 x1 hf H locs ls X hl
  unfold fn_X2_tally_28 at hf
  refine lv_aload_n (pc := 28) hx hb dX2_tally_28 rfl (lv_at hl 0 rfl) ?_
  refine x_get (pc := 29) (ci := 2) C0 KN X 0 rfl rfl inlX2 0 (by decide) kw_3_11 rfl dX2_tally_29 ?_
  refine lv_iload_n (pc := 32) hx hb dX2_tally_32 rfl (lv_at hl 1 rfl) ?_
  obtain ⟨g_6, hf⟩ := gd_e hf
  refine x_ald (pc := 33) C0 KN X 1 rfl g_6 dX2_tally_33 ?_
  refine W.eq (g2 := F0 m 34 ls [.int ((gf_Pasts_zeros S0) x1.toNatClampNeg)]) rfl ?_
  refine lv_bipush (pc := 34) (v := 60) hx hb dX2_tally_34 (by decide) ?_
  refine lv_icmp_gt (pc := 36) (tgt := 50) hx hb dX2_tally_36 (by decide) (fun c_7 => ?_) (fun c_7 => ?_)
  · have hf := it_p hf c_7
    exact lb_X2_tally_50 C0 KN hA _  _ _ hf _ _ _ X (lv_sub hl [0, 1] rfl)
  · have hf := it_n hf c_7
    refine lv_aload_n (pc := 39) hx hb dX2_tally_39 rfl (lv_at hl 0 rfl) ?_
    refine x_get (pc := 40) (ci := 2) C0 KN X 0 rfl rfl inlX2 1 (by decide) kw_3_12 rfl dX2_tally_40 ?_
    refine lv_iload_n (pc := 43) hx hb dX2_tally_43 rfl (lv_at hl 1 rfl) ?_
    obtain ⟨g_16, hf⟩ := gd_e hf
    refine x_ald (pc := 44) C0 KN X 2 rfl g_16 dX2_tally_44 ?_
    refine W.eq (g2 := F0 m 45 ls [.int ((gf_Pasts_ones S0) x1.toNatClampNeg)]) rfl ?_
    refine lv_bipush (pc := 45) (v := 60) hx hb dX2_tally_45 (by decide) ?_
    refine lv_icmp_le (pc := 47) (tgt := 70) hx hb dX2_tally_47 (by decide) (fun c_17 => ?_) (fun c_17 => ?_)
    · have hf := it_p hf c_17
      obtain rfl := so_1 hf
      exact x_vret (pc := 70) C0 X dX2_tally_70
    · have hf := it_n hf c_17
      exact lb_X2_tally_50 C0 KN hA _  _ _ hf _ _ _ X (lv_sub hl [0, 1] rfl)
theorem hd_X2_tally : yX2_tally.cls ≠ "java/lang/invoke/MethodHandle" ∧ yX2_tally.cls ≠ "java/lang/invoke/VarHandle" ∧ (parseMethodDescriptor yX2_tally.desc).map (fun d => d.parameters.length) = some 2 := by decide +kernel
set_option maxHeartbeats 4000000 in
set_option maxRecDepth 100000 in
theorem ct_X2_tally (l : Launch) (G : xG) (a : Nat → Nat) (S0 : tt_Pasts) (x1 : Int32) (x2 : Int32) (So0 : tt_Pasts) (hf : fn_X2_tally S0 x1 x2 = some So0) : xM l yX2_tally cX2_tally 3 (none) 0 0 G [.ref (a 0), .int x1, .int x2] (wd_Pasts G a S0) (wd_Pasts G a So0) none := by
  refine xMi (by decide) (Nat.le_of_ble_eq_true rfl) ?_
  intro p e s m below meth c A C0 KN hA X ls hl
  have hx := C0.1
  have hb := C0.2.1
  have C0 : xC p s m meth c cX2_tally 3 (none) RX2 _ := C0
  have hl : lv_has ls 3 [(0, .ref (a 0)), (1, .int x1), (2, .int x2)] := hl
  unfold fn_X2_tally at hf
  refine lv_iload_n (pc := 0) hx hb dX2_tally_0 rfl (lv_at hl 2 rfl) ?_
  refine lv_iconst (pc := 1) (v := 1) hx hb dX2_tally_1 (by decide) ?_
  refine lv_icmp_ne (pc := 2) (tgt := 18) hx hb dX2_tally_2 (by decide) (fun c_1 => ?_) (fun c_1 => ?_)
  · have hf := it_n hf c_1
    refine lv_aload_n (pc := 18) hx hb dX2_tally_18 rfl (lv_at hl 0 rfl) ?_
    refine x_get (pc := 19) (ci := 2) C0 KN X 0 rfl rfl inlX2 0 (by decide) kw_3_11 rfl dX2_tally_19 ?_
    refine lv_iload_n (pc := 22) hx hb dX2_tally_22 rfl (lv_at hl 1 rfl) ?_
    refine lv_dup2_11 (pc := 23) hx hb dX2_tally_23 rfl rfl ?_
    obtain ⟨g_2, hf⟩ := gd_e hf
    refine x_ald (pc := 24) C0 KN X 1 rfl g_2 dX2_tally_24 ?_
    refine W.eq (g2 := F0 m 25 ls [.int ((gf_Pasts_zeros S0) x1.toNatClampNeg), .int x1, .ref (a 1)]) rfl ?_
    refine lv_iconst (pc := 25) (v := 1) hx hb dX2_tally_25 (by decide) ?_
    refine lv_iadd (pc := 26) hx hb dX2_tally_26 ?_
    refine lv_topi (fun y_3 ey_3 => ?_)
    have hf := lt_sb hf ey_3
    obtain ⟨g_4, hf⟩ := gd_e hf
    obtain ⟨S_5, eS_5, hf⟩ := lt_e hf
    refine x_ast (pc := 27) (ws' := wd_Pasts G a S_5) C0 KN X 1 rfl g_4 (by subst eS_5; rfl) dX2_tally_27 (fun H locs X => ?_)
    exact lb_X2_tally_28 C0 KN hA _  _ _ hf _ _ _ X (lv_sub hl [0, 1] rfl)
  · have hf := it_p hf c_1
    refine lv_aload_n (pc := 5) hx hb dX2_tally_5 rfl (lv_at hl 0 rfl) ?_
    refine x_get (pc := 6) (ci := 2) C0 KN X 0 rfl rfl inlX2 1 (by decide) kw_3_12 rfl dX2_tally_6 ?_
    refine lv_iload_n (pc := 9) hx hb dX2_tally_9 rfl (lv_at hl 1 rfl) ?_
    refine lv_dup2_11 (pc := 10) hx hb dX2_tally_10 rfl rfl ?_
    obtain ⟨g_18, hf⟩ := gd_e hf
    refine x_ald (pc := 11) C0 KN X 2 rfl g_18 dX2_tally_11 ?_
    refine W.eq (g2 := F0 m 12 ls [.int ((gf_Pasts_ones S0) x1.toNatClampNeg), .int x1, .ref (a 2)]) rfl ?_
    refine lv_iconst (pc := 12) (v := 1) hx hb dX2_tally_12 (by decide) ?_
    refine lv_iadd (pc := 13) hx hb dX2_tally_13 ?_
    refine lv_topi (fun y_19 ey_19 => ?_)
    have hf := lt_sb hf ey_19
    obtain ⟨g_20, hf⟩ := gd_e hf
    obtain ⟨S_21, eS_21, hf⟩ := lt_e hf
    refine x_ast (pc := 14) (ws' := wd_Pasts G a S_21) C0 KN X 2 rfl g_20 (by subst eS_21; rfl) dX2_tally_14 (fun H locs X => ?_)
    refine lv_goto (pc := 15) (tgt := 28) hx hb dX2_tally_15 (by decide) ?_
    exact lb_X2_tally_28 C0 KN hA _  _ _ hf _ _ _ X (lv_sub hl [0, 1] rfl)
theorem hd_X2_weighAnew : yX2_weighAnew.cls ≠ "java/lang/invoke/MethodHandle" ∧ yX2_weighAnew.cls ≠ "java/lang/invoke/VarHandle" ∧ (parseMethodDescriptor yX2_weighAnew.desc).map (fun d => d.parameters.length) = some 3 := by decide +kernel
set_option maxHeartbeats 4000000 in
set_option maxRecDepth 100000 in
theorem ct_X2_weighAnew (l : Launch) (G : xG) (a : Nat → Nat) (S0 : tt_Pasts) (x1 : Int32) (x2 : Int32) (x3 : Int32) (So0 : tt_Pasts) (hf : fn_X2_weighAnew S0 x1 x2 x3 = some So0) : xM l yX2_weighAnew cX2_weighAnew 10 (none) 1 23 G [.ref (a 0), .int x1, .int x2, .int x3] (wd_Pasts G a S0) (wd_Pasts G a So0) none := by
  refine xMi (by decide) (Nat.le_of_ble_eq_true rfl) ?_
  intro p e s m below meth c A C0 KN hA X ls hl
  have hx := C0.1
  have hb := C0.2.1
  have C0 : xC p s m meth c cX2_weighAnew 10 (none) RX2 _ := C0
  have hl : lv_has ls 10 [(0, .ref (a 0)), (1, .int x1), (2, .int x2), (3, .int x3)] := hl
  unfold fn_X2_weighAnew at hf
  refine lv_aload_n (pc := 0) hx hb dX2_weighAnew_0 rfl (lv_at hl 0 rfl) ?_
  refine x_get (pc := 1) (ci := 2) C0 KN X 0 rfl rfl inlX2 2 (by decide) kw_3_13 rfl dX2_weighAnew_1 ?_
  refine lv_iload_n (pc := 4) hx hb dX2_weighAnew_4 rfl (lv_at hl 1 rfl) ?_
  obtain ⟨g_1, hf⟩ := gd_e hf
  refine x_ald (pc := 5) C0 KN X 3 rfl g_1 dX2_weighAnew_5 ?_
  refine W.eq (g2 := F0 m 6 ls [.int ((gf_Pasts_weights S0) x1.toNatClampNeg)]) rfl ?_
  refine lv_i2l (pc := 6) (v := ((gf_Pasts_weights S0) x1.toNatClampNeg).toInt64) hx hb dX2_weighAnew_6 rfl ?_
  refine lv_topl (fun y_2 ey_2 => ?_)
  have hf := lt_sb hf ey_2
  refine lv_lstore (pc := 7) (lv' := [(4, .long y_2), (0, .ref (a 0)), (1, .int x1), (2, .int x2), (3, .int x3)]) hx hb dX2_weighAnew_7 hl (by decide) rfl (fun ls hl => ?_)
  refine lv_lload (pc := 9) hx hb dX2_weighAnew_9 (lv_at hl 0 rfl) ?_
  refine lv_iload_n (pc := 11) hx hb dX2_weighAnew_11 rfl (lv_at hl 4 rfl) ?_
  refine lv_aload_n (pc := 12) hx hb dX2_weighAnew_12 rfl (lv_at hl 1 rfl) ?_
  refine x_get (pc := 13) (ci := 2) C0 KN X 0 rfl rfl inlX2 4 (by decide) kw_3_15 rfl dX2_weighAnew_13 ?_
  refine lv_iload_n (pc := 16) hx hb dX2_weighAnew_16 rfl (lv_at hl 3 rfl) ?_
  obtain ⟨g_3, hf⟩ := gd_e hf
  refine x_ald (pc := 17) C0 KN X 5 rfl g_3 dX2_weighAnew_17 ?_
  refine W.eq (g2 := F0 m 18 ls [.int ((gf_Pasts_owns S0) x2.toNatClampNeg), .int x3, .long y_2]) rfl ?_
  obtain ⟨r_4, h_5, hf⟩ := bd_e hf
  refine x_csN (pc := 18) (As := [.int x3, .int ((gf_Pasts_owns S0) x2.toNatClampNeg)]) (rest := [.long y_2]) C0 KN (ct_X8_ofSign l x3 ((gf_Pasts_owns S0) x2.toNatClampNeg) r_4 h_5) kw_9_22 (List.mem_of_getElem? (i := 12) rfl) kw_9_21 kw_1_2 hd_X8_ofSign ⟨by decide, by decide⟩ hl.1 rfl (Nat.le_of_ble_eq_true rfl) ⟨Nat.zero_le _, Nat.zero_le _⟩ dX2_weighAnew_18 ?_
  refine W.eq (g2 := F0 m 21 ls [.int r_4, .long y_2]) rfl ?_
  refine lv_i2l (pc := 21) (v := r_4.toInt64) hx hb dX2_weighAnew_21 rfl ?_
  refine lv_lmul (pc := 22) hx hb dX2_weighAnew_22 ?_
  refine lv_topl (fun y_6 ey_6 => ?_)
  have hf := lt_sb hf ey_6
  refine lv_lstore (pc := 23) (lv' := [(6, .long y_6), (4, .long y_2), (0, .ref (a 0)), (1, .int x1), (2, .int x2), (3, .int x3)]) hx hb dX2_weighAnew_23 hl (by decide) rfl (fun ls hl => ?_)
  refine x_ldc2 (pc := 25) C0 kw_4_21 dX2_weighAnew_25 ?_
  refine lv_lload (pc := 28) hx hb dX2_weighAnew_28 (lv_at hl 1 rfl) ?_
  refine lv_lsub (pc := 30) hx hb dX2_weighAnew_30 ?_
  refine lv_iload_n (pc := 31) hx hb dX2_weighAnew_31 rfl (lv_at hl 5 rfl) ?_
  refine lv_aload_n (pc := 32) hx hb dX2_weighAnew_32 rfl (lv_at hl 2 rfl) ?_
  refine x_get (pc := 33) (ci := 2) C0 KN X 0 rfl rfl inlX2 5 (by decide) kw_3_16 rfl dX2_weighAnew_33 ?_
  refine lv_iload_n (pc := 36) hx hb dX2_weighAnew_36 rfl (lv_at hl 4 rfl) ?_
  refine lv_iconst (pc := 37) (v := 1) hx hb dX2_weighAnew_37 (by decide) ?_
  refine lv_iadd (pc := 38) hx hb dX2_weighAnew_38 ?_
  obtain ⟨g_7, hf⟩ := gd_e hf
  refine x_ald (pc := 39) C0 KN X 6 rfl g_7 dX2_weighAnew_39 ?_
  refine W.eq (g2 := F0 m 40 ls [.int ((gf_Pasts_guesses S0) (x2 + (1 : Int32)).toNatClampNeg), .int x3, .long ((65536 : Int64) - y_2)]) rfl ?_
  obtain ⟨r_8, h_9, hf⟩ := bd_e hf
  refine x_csN (pc := 40) (As := [.int x3, .int ((gf_Pasts_guesses S0) (x2 + (1 : Int32)).toNatClampNeg)]) (rest := [.long ((65536 : Int64) - y_2)]) C0 KN (ct_X8_ofSign l x3 ((gf_Pasts_guesses S0) (x2 + (1 : Int32)).toNatClampNeg) r_8 h_9) kw_9_22 (List.mem_of_getElem? (i := 12) rfl) kw_9_21 kw_1_2 hd_X8_ofSign ⟨by decide, by decide⟩ hl.1 rfl (Nat.le_of_ble_eq_true rfl) ⟨Nat.zero_le _, Nat.zero_le _⟩ dX2_weighAnew_40 ?_
  refine W.eq (g2 := F0 m 43 ls [.int r_8, .long ((65536 : Int64) - y_2)]) rfl ?_
  refine lv_i2l (pc := 43) (v := r_8.toInt64) hx hb dX2_weighAnew_43 rfl ?_
  refine lv_lmul (pc := 44) hx hb dX2_weighAnew_44 ?_
  refine lv_topl (fun y_10 ey_10 => ?_)
  have hf := lt_sb hf ey_10
  refine lv_lstore (pc := 45) (lv' := [(8, .long y_10), (6, .long y_6), (4, .long y_2), (0, .ref (a 0)), (1, .int x1), (2, .int x2), (3, .int x3)]) hx hb dX2_weighAnew_45 hl (by decide) rfl (fun ls hl => ?_)
  refine lv_aload_n (pc := 47) hx hb dX2_weighAnew_47 rfl (lv_at hl 3 rfl) ?_
  refine x_get (pc := 48) (ci := 2) C0 KN X 0 rfl rfl inlX2 2 (by decide) kw_3_13 rfl dX2_weighAnew_48 ?_
  refine lv_iload_n (pc := 51) hx hb dX2_weighAnew_51 rfl (lv_at hl 4 rfl) ?_
  refine x_ldc2 (pc := 52) C0 kw_4_21 dX2_weighAnew_52 ?_
  refine lv_lload (pc := 55) hx hb dX2_weighAnew_55 (lv_at hl 1 rfl) ?_
  refine lv_lmul (pc := 57) hx hb dX2_weighAnew_57 ?_
  refine lv_lload (pc := 58) hx hb dX2_weighAnew_58 (lv_at hl 1 rfl) ?_
  refine lv_lload (pc := 60) hx hb dX2_weighAnew_60 (lv_at hl 0 rfl) ?_
  refine lv_ladd (pc := 62) hx hb dX2_weighAnew_62 ?_
  obtain ⟨r_11, h_12, hf⟩ := bd_e hf
  refine x_csN (pc := 63) (As := [.long ((65536 : Int64) * y_6), .long (y_6 + y_10)]) (rest := [.int x1, .ref (a 3)]) C0 KN (ct_X8_quotient l ((65536 : Int64) * y_6) (y_6 + y_10) r_11 h_12) kw_4_16 (List.mem_of_getElem? (i := 14) rfl) kw_4_15 kw_1_2 hd_X8_quotient ⟨by decide, by decide⟩ hl.1 rfl (Nat.le_of_ble_eq_true rfl) ⟨Nat.zero_le _, Nat.zero_le _⟩ dX2_weighAnew_63 ?_
  refine W.eq (g2 := F0 m 66 ls [.long r_11, .int x1, .ref (a 3)]) rfl ?_
  refine lv_bipush (pc := 66) (v := 64) hx hb dX2_weighAnew_66 (by decide) ?_
  refine x_ldc (pc := 68) C0 kw_10_10 dX2_weighAnew_68 ?_
  obtain ⟨r_13, h_14, hf⟩ := bd_e hf
  refine x_csN (pc := 70) (As := [.long r_11, .int (64 : Int32), .int (65472 : Int32)]) (rest := [.int x1, .ref (a 3)]) C0 KN (ct_X8_kept l r_11 (64 : Int32) (65472 : Int32) r_13 h_14) kw_4_2 (List.mem_of_getElem? (i := 1) rfl) kw_4_1 kw_1_2 hd_X8_kept ⟨by decide, by decide⟩ hl.1 rfl (Nat.le_of_ble_eq_true rfl) ⟨Nat.zero_le _, Nat.zero_le _⟩ dX2_weighAnew_70 ?_
  refine W.eq (g2 := F0 m 73 ls [.int r_13, .int x1, .ref (a 3)]) rfl ?_
  obtain ⟨g_15, hf⟩ := gd_e hf
  obtain ⟨S_16, eS_16, hf⟩ := lt_e hf
  refine x_ast (pc := 73) (ws' := wd_Pasts G a S_16) C0 KN X 3 rfl g_15 (by subst eS_16; rfl) dX2_weighAnew_73 (fun H locs X => ?_)
  obtain rfl := so_1 hf
  exact x_vret (pc := 74) C0 X dX2_weighAnew_74
set_option maxHeartbeats 4000000 in
set_option maxRecDepth 100000 in
theorem lb_X2_take_56 {l : Launch} {p : Program} {e : Env} {s : State} {m : MethodId} {args : Array Value} {below : List Frame} {meth : Method} {c : Code} {G : xG} {A : Nat → Prop} {a : Nat → Nat} (C0 : xC p s m meth c cX2_take 4 (none) RX2 args) (KN : xKN G s) (hA : ∀ q, s.heap.size ≤ q → A q) (So0 : tt_Pasts) (k2 : tt_Pasts → Int32 → Int32 → Option tt_Pasts) (hk2 : ∀ (S0 : tt_Pasts) (x1 : Int32) (x2 : Int32), k2 S0 x1 x2 = some So0 → ∀ (H : Heap) (locs : List Loc) (ls : Array Slot), xS G A s.heap (wd_Pasts G a S0) H locs → lv_has ls 4 [(0, .ref (a 0)), (1, .int x1), (2, .int x2)] → W p l e ({ frames := 3, cells := 0, slots := 0, locals := 71 }) s m args below meth c H locs 0 0 (MQ below (xQo G none A (wd_Pasts G a So0)) args s 0 0 A) (F0 m 2 ls [])) : ∀ (S0 : tt_Pasts) (x1 : Int32) (x2 : Int32) (x3 : Int32), fn_X2_take_56 k2 S0 x1 x2 x3 = some So0 → ∀ (H : Heap) (locs : List Loc) (ls : Array Slot), xS G A s.heap (wd_Pasts G a S0) H locs → lv_has ls 4 [(0, .ref (a 0)), (1, .int x1), (2, .int x2), (3, .int x3)] → W p l e ({ frames := 3, cells := 0, slots := 0, locals := 71 }) s m args below meth c H locs 0 0 (MQ below (xQo G none A (wd_Pasts G a So0)) args s 0 0 A) (F0 m 56 ls []) := by
  have hx := C0.1
  have hb := C0.2.1
  intro S0 x1 x2 x3 hf H locs ls X hl
  unfold fn_X2_take_56 at hf
  refine lv_aload_n (pc := 56) hx hb dX2_take_56 rfl (lv_at hl 0 rfl) ?_
  refine lv_iload_n (pc := 57) hx hb dX2_take_57 rfl (lv_at hl 3 rfl) ?_
  refine lv_iload_n (pc := 58) hx hb dX2_take_58 rfl (lv_at hl 1 rfl) ?_
  obtain ⟨P_14, h_15, hf⟩ := bd_e hf
  refine x_cv (pc := 59) (ws' := wd_Pasts G a P_14) (As := [.int x3, .int x1]) (rest := []) (ci := 2) (qr := 0) C0 KN X hA [0, 1, 2, 3, 4, 5, 6] [] [0, 1, 2, 3, 4, 5, 6] cu_C1 rfl cu_R1 rfl (by decide) (cu_J1 (S0 := S0)) rfl (ct_X2_tally l G a S0 x3 x1 P_14 h_15) rfl rfl rfl kw_10_14 kw_10_11 kw_10_12 kw_10_13 kw_1_19 hd_X2_tally ⟨by decide, by decide⟩ hl.1 rfl (Nat.le_of_ble_eq_true rfl) ⟨Nat.zero_le _, Nat.zero_le _⟩ dX2_take_59 (fun H locs X => ?_)
  refine W.eq (g2 := F0 m 62 ls []) rfl ?_
  obtain ⟨y_16, ey_16⟩ : ∃ y : Int32, y = x2 + (1 : Int32) := ⟨_, rfl⟩
  have hf := lt_sb hf ey_16
  refine lv_iinc (pc := 62) (v := y_16) (lv' := [(2, .int y_16), (0, .ref (a 0)), (1, .int x1), (3, .int x3)]) hx hb dX2_take_62 hl (k := 2) rfl (by rw [ey_16]; rfl) (by decide) rfl (fun ls hl => ?_)
  refine lv_goto (pc := 65) (tgt := 2) hx hb dX2_take_65 (by decide) ?_
  exact hk2 _ _ _ hf _ _ _ X (lv_sub hl [1, 2, 0] rfl)
set_option maxHeartbeats 4000000 in
set_option maxRecDepth 100000 in
theorem lb_X2_take_2 {l : Launch} {p : Program} {e : Env} {s : State} {m : MethodId} {args : Array Value} {below : List Frame} {meth : Method} {c : Code} {G : xG} {A : Nat → Prop} {a : Nat → Nat} (C0 : xC p s m meth c cX2_take 4 (none) RX2 args) (KN : xKN G s) (hA : ∀ q, s.heap.size ≤ q → A q) (So0 : tt_Pasts) (k68 : tt_Pasts → Int32 → Option tt_Pasts) (hk68 : ∀ (S0 : tt_Pasts) (x1 : Int32), k68 S0 x1 = some So0 → ∀ (H : Heap) (locs : List Loc) (ls : Array Slot), xS G A s.heap (wd_Pasts G a S0) H locs → lv_has ls 4 [(0, .ref (a 0)), (1, .int x1)] → W p l e ({ frames := 3, cells := 0, slots := 0, locals := 71 }) s m args below meth c H locs 0 0 (MQ below (xQo G none A (wd_Pasts G a So0)) args s 0 0 A) (F0 m 68 ls [])) : ∀ (n : Nat) (S0 : tt_Pasts) (x1 : Int32) (x2 : Int32), fl_X2_take_2 k68 n S0 x1 x2 = some So0 → ∀ (H : Heap) (locs : List Loc) (ls : Array Slot), xS G A s.heap (wd_Pasts G a S0) H locs → lv_has ls 4 [(0, .ref (a 0)), (1, .int x1), (2, .int x2)] → W p l e ({ frames := 3, cells := 0, slots := 0, locals := 71 }) s m args below meth c H locs 0 0 (MQ below (xQo G none A (wd_Pasts G a So0)) args s 0 0 A) (F0 m 2 ls []) := by
  have hx := C0.1
  have hb := C0.2.1
  intro n
  induction n with
  | zero =>
    intro S0 x1 x2 hf
    have hf : none = some So0 := hf
    cases hf
  | succ n ih =>
    intro S0 x1 x2 hf H locs ls X hl
    rw [fl_X2_take_2] at hf
    refine lv_iload_n (pc := 2) hx hb dX2_take_2 rfl (lv_at hl 2 rfl) ?_
    refine lv_aload_n (pc := 3) hx hb dX2_take_3 rfl (lv_at hl 0 rfl) ?_
    refine x_get (pc := 4) (ci := 2) C0 KN X 0 rfl rfl inlX2 6 (by decide) kw_3_17 rfl dX2_take_4 ?_
    refine W.eq (g2 := F0 m 7 ls [.int (gf_Pasts_depth S0), .int x2]) rfl ?_
    refine lv_icmp_gt (pc := 7) (tgt := 68) hx hb dX2_take_7 (by decide) (fun c_1 => ?_) (fun c_1 => ?_)
    · have hf := it_p hf c_1
      exact hk68 _ _ hf _ _ _ X (lv_sub hl [0, 1] rfl)
    · have hf := it_n hf c_1
      refine lv_iload_n (pc := 10) hx hb dX2_take_10 rfl (lv_at hl 2 rfl) ?_
      refine lv_aload_n (pc := 11) hx hb dX2_take_11 rfl (lv_at hl 0 rfl) ?_
      refine x_get (pc := 12) (ci := 2) C0 KN X 0 rfl rfl inlX2 8 (by decide) kw_3_19 rfl dX2_take_12 ?_
      refine W.eq (g2 := F0 m 15 ls [.int (gf_Pasts_past S0), .int x2]) rfl ?_
      obtain ⟨r_2, h_3, hf⟩ := bd_e hf
      refine x_csN (pc := 15) (As := [.int x2, .int (gf_Pasts_past S0)]) (rest := []) C0 KN (ct_X8_nodeOf l x2 (gf_Pasts_past S0) r_2 h_3) kw_4_4 (List.mem_of_getElem? (i := 2) rfl) kw_4_3 kw_1_2 hd_X8_nodeOf ⟨by decide, by decide⟩ hl.1 rfl (Nat.le_of_ble_eq_true rfl) ⟨Nat.zero_le _, Nat.zero_le _⟩ dX2_take_15 ?_
      refine W.eq (g2 := F0 m 18 ls [.int r_2]) rfl ?_
      refine lv_istore_n (pc := 18) (lv' := [(3, .int r_2), (0, .ref (a 0)), (1, .int x1), (2, .int x2)]) hx hb dX2_take_18 rfl hl (by decide) rfl (fun ls hl => ?_)
      refine lv_aload_n (pc := 19) hx hb dX2_take_19 rfl (lv_at hl 1 rfl) ?_
      refine x_get (pc := 20) (ci := 2) C0 KN X 0 rfl rfl inlX2 3 (by decide) kw_3_14 rfl dX2_take_20 ?_
      refine lv_iload_n (pc := 23) hx hb dX2_take_23 rfl (lv_at hl 0 rfl) ?_
      refine lv_dup2_11 (pc := 24) hx hb dX2_take_24 rfl rfl ?_
      obtain ⟨g_4, hf⟩ := gd_e hf
      refine x_ald (pc := 25) C0 KN X 4 rfl g_4 dX2_take_25 ?_
      refine W.eq (g2 := F0 m 26 ls [.int ((gf_Pasts_paidAlone S0) r_2.toNatClampNeg), .int r_2, .ref (a 4)]) rfl ?_
      refine lv_iload_n (pc := 26) hx hb dX2_take_26 rfl (lv_at hl 2 rfl) ?_
      refine lv_aload_n (pc := 27) hx hb dX2_take_27 rfl (lv_at hl 1 rfl) ?_
      refine x_get (pc := 28) (ci := 2) C0 KN X 0 rfl rfl inlX2 4 (by decide) kw_3_15 rfl dX2_take_28 ?_
      refine lv_iload_n (pc := 31) hx hb dX2_take_31 rfl (lv_at hl 3 rfl) ?_
      obtain ⟨g_5, hf⟩ := gd_e hf
      refine x_ald (pc := 32) C0 KN X 5 rfl g_5 dX2_take_32 ?_
      refine W.eq (g2 := F0 m 33 ls [.int ((gf_Pasts_owns S0) x2.toNatClampNeg), .int x1, .int ((gf_Pasts_paidAlone S0) r_2.toNatClampNeg), .int r_2, .ref (a 4)]) rfl ?_
      obtain ⟨r_6, h_7, hf⟩ := bd_e hf
      refine x_csN (pc := 33) (As := [.int x1, .int ((gf_Pasts_owns S0) x2.toNatClampNeg)]) (rest := [.int ((gf_Pasts_paidAlone S0) r_2.toNatClampNeg), .int r_2, .ref (a 4)]) C0 KN (ct_X8_ofSign l x1 ((gf_Pasts_owns S0) x2.toNatClampNeg) r_6 h_7) kw_9_22 (List.mem_of_getElem? (i := 12) rfl) kw_9_21 kw_1_2 hd_X8_ofSign ⟨by decide, by decide⟩ hl.1 rfl (Nat.le_of_ble_eq_true rfl) ⟨Nat.zero_le _, Nat.zero_le _⟩ dX2_take_33 ?_
      refine W.eq (g2 := F0 m 36 ls [.int r_6, .int ((gf_Pasts_paidAlone S0) r_2.toNatClampNeg), .int r_2, .ref (a 4)]) rfl ?_
      obtain ⟨r_8, h_9, hf⟩ := bd_e hf
      refine x_csN (pc := 36) (As := [.int r_6]) (rest := [.int ((gf_Pasts_paidAlone S0) r_2.toNatClampNeg), .int r_2, .ref (a 4)]) C0 KN (ct_X8_bitsOf l r_6 r_8 h_9) kw_10_1 (List.mem_of_getElem? (i := 13) rfl) kw_10_0 kw_1_2 hd_X8_bitsOf ⟨by decide, by decide⟩ hl.1 rfl (Nat.le_of_ble_eq_true rfl) ⟨Nat.zero_le _, Nat.zero_le _⟩ dX2_take_36 ?_
      refine W.eq (g2 := F0 m 39 ls [.int r_8, .int ((gf_Pasts_paidAlone S0) r_2.toNatClampNeg), .int r_2, .ref (a 4)]) rfl ?_
      refine lv_iadd (pc := 39) hx hb dX2_take_39 ?_
      refine lv_topi (fun y_10 ey_10 => ?_)
      have hf := lt_sb hf ey_10
      obtain ⟨g_11, hf⟩ := gd_e hf
      obtain ⟨S_12, eS_12, hf⟩ := lt_e hf
      refine x_ast (pc := 40) (ws' := wd_Pasts G a S_12) C0 KN X 4 rfl g_11 (by subst eS_12; rfl) dX2_take_40 (fun H locs X => ?_)
      refine lv_iload_n (pc := 41) hx hb dX2_take_41 rfl (lv_at hl 3 rfl) ?_
      refine lv_aload_n (pc := 42) hx hb dX2_take_42 rfl (lv_at hl 1 rfl) ?_
      refine x_get (pc := 43) (ci := 2) C0 KN X 0 rfl rfl inlX2 6 (by decide) kw_3_17 rfl dX2_take_43 ?_
      refine W.eq (g2 := F0 m 46 ls [.int (gf_Pasts_depth S_12), .int x2]) rfl ?_
      refine lv_icmp_ge (pc := 46) (tgt := 56) hx hb dX2_take_46 (by decide) (fun c_13 => ?_) (fun c_13 => ?_)
      · have hf := it_p hf c_13
        exact lb_X2_take_56 C0 KN hA _ (fl_X2_take_2 k68 n) ih _ _ _ _ hf _ _ _ X (lv_sub hl [1, 2, 3, 0] rfl)
      · have hf := it_n hf c_13
        refine lv_aload_n (pc := 49) hx hb dX2_take_49 rfl (lv_at hl 1 rfl) ?_
        refine lv_iload_n (pc := 50) hx hb dX2_take_50 rfl (lv_at hl 0 rfl) ?_
        refine lv_iload_n (pc := 51) hx hb dX2_take_51 rfl (lv_at hl 3 rfl) ?_
        refine lv_iload_n (pc := 52) hx hb dX2_take_52 rfl (lv_at hl 2 rfl) ?_
        obtain ⟨P_17, h_18, hf⟩ := bd_e hf
        refine x_cv (pc := 53) (ws' := wd_Pasts G a P_17) (As := [.int r_2, .int x2, .int x1]) (rest := []) (ci := 2) (qr := 0) C0 KN X hA [0, 1, 2, 3, 4, 5, 6] [] [0, 1, 2, 3, 4, 5, 6] cu_C1 rfl cu_R1 rfl (by decide) (cu_J1 (S0 := S_12)) rfl (ct_X2_weighAnew l G a S_12 r_2 x2 x1 P_17 h_18) rfl rfl rfl kw_10_9 kw_10_6 kw_10_7 kw_10_8 kw_1_19 hd_X2_weighAnew ⟨by decide, by decide⟩ hl.1 rfl (Nat.le_of_ble_eq_true rfl) ⟨Nat.zero_le _, Nat.zero_le _⟩ dX2_take_53 (fun H locs X => ?_)
        refine W.eq (g2 := F0 m 56 ls []) rfl ?_
        exact lb_X2_take_56 C0 KN hA _ (fl_X2_take_2 k68 n) ih _ _ _ _ hf _ _ _ X (lv_sub hl [1, 2, 3, 0] rfl)
theorem hd_X2_take : yX2_take.cls ≠ "java/lang/invoke/MethodHandle" ∧ yX2_take.cls ≠ "java/lang/invoke/VarHandle" ∧ (parseMethodDescriptor yX2_take.desc).map (fun d => d.parameters.length) = some 1 := by decide +kernel
set_option maxHeartbeats 4000000 in
set_option maxRecDepth 100000 in
theorem ct_X2_take (l : Launch) (G : xG) (a : Nat → Nat) (S0 : tt_Pasts) (x1 : Int32) (So0 : tt_Pasts) (hf : fn_X2_take S0 x1 = some So0) : xM l yX2_take cX2_take 4 (none) 3 71 G [.ref (a 0), .int x1] (wd_Pasts G a S0) (wd_Pasts G a So0) none := by
  refine xMi (by decide) (Nat.le_of_ble_eq_true rfl) ?_
  intro p e s m below meth c A C0 KN hA X ls hl
  have hx := C0.1
  have hb := C0.2.1
  have C0 : xC p s m meth c cX2_take 4 (none) RX2 _ := C0
  have hl : lv_has ls 4 [(0, .ref (a 0)), (1, .int x1)] := hl
  unfold fn_X2_take at hf
  refine lv_iconst (pc := 0) (v := 0) hx hb dX2_take_0 (by decide) ?_
  refine lv_istore_n (pc := 1) (lv' := [(2, .int (0 : Int32)), (0, .ref (a 0)), (1, .int x1)]) hx hb dX2_take_1 rfl hl (by decide) rfl (fun ls hl => ?_)
  refine lb_X2_take_2 C0 KN hA _ _ ?_ _ _ _ _ hf _ _ _ X (lv_sub hl [1, 2, 0] rfl)
  · intro S0_e68_19 x1_e68_19 hf H locs ls X hl
    refine lv_aload_n (pc := 68) hx hb dX2_take_68 rfl (lv_at hl 0 rfl) ?_
    refine lv_aload_n (pc := 69) hx hb dX2_take_69 rfl (lv_at hl 0 rfl) ?_
    refine x_get (pc := 70) (ci := 2) C0 KN X 0 rfl rfl inlX2 8 (by decide) kw_3_19 rfl dX2_take_70 ?_
    refine W.eq (g2 := F0 m 73 ls [.int (gf_Pasts_past S0_e68_19), .ref (a 0)]) rfl ?_
    refine lv_iconst (pc := 73) (v := 1) hx hb dX2_take_73 (by decide) ?_
    refine lv_ishl (pc := 74) hx hb dX2_take_74 ?_
    refine lv_iload_n (pc := 75) hx hb dX2_take_75 rfl (lv_at hl 1 rfl) ?_
    refine lv_ior (pc := 76) hx hb dX2_take_76 ?_
    refine lv_bipush (pc := 77) (v := 63) hx hb dX2_take_77 (by decide) ?_
    refine lv_iand (pc := 79) hx hb dX2_take_79 ?_
    refine lv_topi (fun y_20 ey_20 => ?_)
    have hf := lt_sb hf ey_20
    obtain ⟨S_21, eS_21, hf⟩ := lt_e hf
    refine x_put (pc := 80) (ci := 2) (ws' := wd_Pasts G a S_21) C0 KN X 0 rfl rfl inlX2 tyX2_ok nmX2 8 (by decide) kw_3_19 rfl rfl rfl (Nat.le_of_ble_eq_true rfl) (by subst eS_21; rfl) dX2_take_80 (fun H locs X => ?_)
    refine lv_aload_n (pc := 83) hx hb dX2_take_83 rfl (lv_at hl 0 rfl) ?_
    obtain ⟨P_22, h_23, hf⟩ := bd_e hf
    refine x_cv (pc := 84) (ws' := wd_Pasts G a P_22) (As := []) (rest := []) (ci := 2) (qr := 0) C0 KN X hA [0, 1, 2, 3, 4, 5, 6] [] [0, 1, 2, 3, 4, 5, 6] cu_C1 rfl cu_R1 rfl (by decide) (cu_J1 (S0 := S_21)) rfl (ct_X2_lookAhead l G a S_21 P_22 h_23) rfl rfl rfl kw_4_9 kw_4_6 kw_4_7 kw_4_8 kw_1_19 hd_X2_lookAhead ⟨by decide, by decide⟩ hl.1 rfl (Nat.le_of_ble_eq_true rfl) ⟨Nat.zero_le _, Nat.zero_le _⟩ dX2_take_84 (fun H locs X => ?_)
    refine W.eq (g2 := F0 m 87 ls []) rfl ?_
    obtain rfl := so_1 hf
    exact x_vret (pc := 87) C0 X dX2_take_87
