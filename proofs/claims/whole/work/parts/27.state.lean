def fl_X4_copyFrom_32 (k58 : tt_State → Option tt_State) (S1 : tt_Row) : Nat → tt_State → Int32 → Option tt_State
  | 0, _, _ => none
  | n + 1, S0, x2 =>
  if (gf_State_length S0) ≤ x2 then k58 S0 else gd_ (ix_ x2 100) (lt_ ((gf_Row_signs S1) x2.toNatClampNeg) fun y_9 => gd_ (ix_ x2 100) (lt_ (sf_State_signs S0 (upd (gf_State_signs S0) x2.toNatClampNeg y_9)) fun S_11 => lt_ (x2 + (1 : Int32)) fun y_12 => fl_X4_copyFrom_32 k58 S1 n S_11 y_12))
def fn_X4_copyFrom (S0 : tt_State) (S1 : tt_Row) : Option tt_State :=
  lt_ (gf_Row_length S1) fun y_1 => lt_ (sf_State_length S0 y_1) fun S_2 => lt_ (gf_Pasts_depth (gf_Row_pasts S1)) fun y_3 => lt_ (sf_State_depth S_2 y_3) fun S_4 => lt_ (gf_Pasts_guesser (gf_Row_pasts S1)) fun y_5 => lt_ (sf_State_guesser S_4 y_5) fun S_6 => fl_X4_copyFrom_32 (fun (S0_e58_13 : tt_State) => some S0_e58_13) S1 fu_ S_6 (0 : Int32)
def fl_X4_copySignsTo_2 (k28 : tt_Row → Option tt_Row) (S0 : tt_State) : Nat → tt_Row → Int32 → Option tt_Row
  | 0, _, _ => none
  | n + 1, S1, x2 =>
  if (gf_State_length S0) ≤ x2 then k28 S1 else gd_ (ix_ x2 100) (lt_ ((gf_State_signs S0) x2.toNatClampNeg) fun y_3 => gd_ (ix_ x2 100) (lt_ (sf_Row_signs S1 (upd (gf_Row_signs S1) x2.toNatClampNeg y_3)) fun S_5 => lt_ (x2 + (1 : Int32)) fun y_6 => fl_X4_copySignsTo_2 k28 S0 n S_5 y_6))
def fn_X4_copySignsTo (S0 : tt_State) (S1 : tt_Row) : Option tt_Row :=
  fl_X4_copySignsTo_2 (fun (S1_e28_7 : tt_Row) => some S1_e28_7) S0 fu_ S1 (0 : Int32)

set_option maxHeartbeats 4000000 in
set_option maxRecDepth 100000 in
theorem lb_X4_copyFrom_32 {l : Launch} {p : Program} {e : Env} {s : State} {m : MethodId} {args : Array Value} {below : List Frame} {meth : Method} {c : Code} {G : xG} {A : Nat → Prop} {a b : Nat → Nat} (C0 : xC p s m meth c cX4_copyFrom 3 (none) RX4 args) (KN : xKN G s) (hA : ∀ q, s.heap.size ≤ q → A q) (S1 : tt_Row) (So0 : tt_State) (k58 : tt_State → Option tt_State) (hk58 : ∀ (S0 : tt_State), k58 S0 = some So0 → ∀ (H : Heap) (locs : List Loc) (ls : Array Slot), xS G A s.heap (wd_State G a S0 ++ wd_Row G b S1) H locs → lv_has ls 3 [(0, .ref (a 0)), (1, .ref (b 0))] → W p l e ({ frames := 0, cells := 0, slots := 0, locals := 0 }) s m args below meth c H locs 0 0 (MQ below (xQo G none A (wd_State G a So0 ++ wd_Row G b S1)) args s 0 0 A) (F0 m 58 ls [])) : ∀ (n : Nat) (S0 : tt_State) (x2 : Int32), fl_X4_copyFrom_32 k58 S1 n S0 x2 = some So0 → ∀ (H : Heap) (locs : List Loc) (ls : Array Slot), xS G A s.heap (wd_State G a S0 ++ wd_Row G b S1) H locs → lv_has ls 3 [(0, .ref (a 0)), (1, .ref (b 0)), (2, .int x2)] → W p l e ({ frames := 0, cells := 0, slots := 0, locals := 0 }) s m args below meth c H locs 0 0 (MQ below (xQo G none A (wd_State G a So0 ++ wd_Row G b S1)) args s 0 0 A) (F0 m 32 ls []) := by
  have hx := C0.1
  have hb := C0.2.1
  intro n
  induction n with
  | zero =>
    intro S0 x2 hf
    have hf : none = some So0 := hf
    cases hf
  | succ n ih =>
    intro S0 x2 hf H locs ls X hl
    rw [fl_X4_copyFrom_32] at hf
    refine lv_iload_n (pc := 32) hx hb dX4_copyFrom_32 rfl (lv_at hl 2 rfl) ?_
    refine lv_aload_n (pc := 33) hx hb dX4_copyFrom_33 rfl (lv_at hl 0 rfl) ?_
    refine x_get (pc := 34) (ci := 4) C0 KN X 0 rfl rfl inlX4 1 (by decide) kw_7_2 rfl dX4_copyFrom_34 ?_
    refine W.eq (g2 := F0 m 37 ls [.int (gf_State_length S0), .int x2]) rfl ?_
    refine lv_icmp_ge (pc := 37) (tgt := 58) hx hb dX4_copyFrom_37 (by decide) (fun c_7 => ?_) (fun c_7 => ?_)
    · have hf := it_p hf c_7
      exact hk58 _ hf _ _ _ X (lv_sub hl [0, 1] rfl)
    · have hf := it_n hf c_7
      refine lv_aload_n (pc := 40) hx hb dX4_copyFrom_40 rfl (lv_at hl 0 rfl) ?_
      refine x_get (pc := 41) (ci := 4) C0 KN X 0 rfl rfl inlX4 0 (by decide) kw_7_1 rfl dX4_copyFrom_41 ?_
      refine lv_iload_n (pc := 44) hx hb dX4_copyFrom_44 rfl (lv_at hl 2 rfl) ?_
      refine lv_aload_n (pc := 45) hx hb dX4_copyFrom_45 rfl (lv_at hl 1 rfl) ?_
      refine x_get (pc := 46) (ci := 3) C0 KN X 2 rfl rfl inlX3 0 (by decide) kw_9_12 rfl dX4_copyFrom_46 ?_
      refine lv_iload_n (pc := 49) hx hb dX4_copyFrom_49 rfl (lv_at hl 2 rfl) ?_
      obtain ⟨g_8, hf⟩ := gd_e hf
      refine x_ald (pc := 50) C0 KN X 3 rfl g_8 dX4_copyFrom_50 ?_
      refine W.eq (g2 := F0 m 51 ls [.int ((gf_Row_signs S1) x2.toNatClampNeg), .int x2, .ref (a 1)]) rfl ?_
      refine lv_topi (fun y_9 ey_9 => ?_)
      have hf := lt_sb hf ey_9
      obtain ⟨g_10, hf⟩ := gd_e hf
      obtain ⟨S_11, eS_11, hf⟩ := lt_e hf
      refine x_ast (pc := 51) (ws' := wd_State G a S_11 ++ wd_Row G b S1) C0 KN X 1 rfl g_10 (by subst eS_11; rfl) dX4_copyFrom_51 (fun H locs X => ?_)
      obtain ⟨y_12, ey_12⟩ : ∃ y : Int32, y = x2 + (1 : Int32) := ⟨_, rfl⟩
      have hf := lt_sb hf ey_12
      refine lv_iinc (pc := 52) (v := y_12) (lv' := [(2, .int y_12), (0, .ref (a 0)), (1, .ref (b 0))]) hx hb dX4_copyFrom_52 hl (k := 2) rfl (by rw [ey_12]; rfl) (by decide) rfl (fun ls hl => ?_)
      refine lv_goto (pc := 55) (tgt := 32) hx hb dX4_copyFrom_55 (by decide) ?_
      exact ih _ _ hf _ _ _ X (lv_sub hl [1, 2, 0] rfl)
theorem hd_X4_copyFrom : yX4_copyFrom.cls ≠ "java/lang/invoke/MethodHandle" ∧ yX4_copyFrom.cls ≠ "java/lang/invoke/VarHandle" ∧ (parseMethodDescriptor yX4_copyFrom.desc).map (fun d => d.parameters.length) = some 1 := by decide +kernel
set_option maxHeartbeats 4000000 in
set_option maxRecDepth 100000 in
theorem ct_X4_copyFrom (l : Launch) (G : xG) (a b : Nat → Nat) (S0 : tt_State) (S1 : tt_Row) (So0 : tt_State) (hf : fn_X4_copyFrom S0 S1 = some So0) : xM l yX4_copyFrom cX4_copyFrom 3 (none) 0 0 G [.ref (a 0), .ref (b 0)] (wd_State G a S0 ++ wd_Row G b S1) (wd_State G a So0 ++ wd_Row G b S1) none := by
  refine xMi (by decide) (Nat.le_of_ble_eq_true rfl) ?_
  intro p e s m below meth c A C0 KN hA X ls hl
  have hx := C0.1
  have hb := C0.2.1
  have C0 : xC p s m meth c cX4_copyFrom 3 (none) RX4 _ := C0
  have hl : lv_has ls 3 [(0, .ref (a 0)), (1, .ref (b 0))] := hl
  unfold fn_X4_copyFrom at hf
  refine lv_aload_n (pc := 0) hx hb dX4_copyFrom_0 rfl (lv_at hl 0 rfl) ?_
  refine lv_aload_n (pc := 1) hx hb dX4_copyFrom_1 rfl (lv_at hl 1 rfl) ?_
  refine x_get (pc := 2) (ci := 3) C0 KN X 2 rfl rfl inlX3 4 (by decide) kw_9_8 rfl dX4_copyFrom_2 ?_
  refine W.eq (g2 := F0 m 5 ls [.int (gf_Row_length S1), .ref (a 0)]) rfl ?_
  refine lv_topi (fun y_1 ey_1 => ?_)
  have hf := lt_sb hf ey_1
  obtain ⟨S_2, eS_2, hf⟩ := lt_e hf
  refine x_put (pc := 5) (ci := 4) (ws' := wd_State G a S_2 ++ wd_Row G b S1) C0 KN X 0 rfl rfl inlX4 tyX4_ok nmX4 1 (by decide) kw_7_2 rfl rfl rfl (Nat.le_of_ble_eq_true rfl) (by subst eS_2; rfl) dX4_copyFrom_5 (fun H locs X => ?_)
  refine lv_aload_n (pc := 8) hx hb dX4_copyFrom_8 rfl (lv_at hl 0 rfl) ?_
  refine lv_aload_n (pc := 9) hx hb dX4_copyFrom_9 rfl (lv_at hl 1 rfl) ?_
  refine x_get (pc := 10) (ci := 3) C0 KN X 2 rfl rfl inlX3 3 (by decide) kw_9_9 rfl dX4_copyFrom_10 ?_
  refine x_get (pc := 13) (ci := 2) C0 KN X 6 rfl rfl inlX2 6 (by decide) kw_9_10 rfl dX4_copyFrom_13 ?_
  refine W.eq (g2 := F0 m 16 ls [.int (gf_Pasts_depth (gf_Row_pasts S1)), .ref (a 0)]) rfl ?_
  refine lv_topi (fun y_3 ey_3 => ?_)
  have hf := lt_sb hf ey_3
  obtain ⟨S_4, eS_4, hf⟩ := lt_e hf
  refine x_put (pc := 16) (ci := 4) (ws' := wd_State G a S_4 ++ wd_Row G b S1) C0 KN X 0 rfl rfl inlX4 tyX4_ok nmX4 2 (by decide) kw_7_3 rfl rfl rfl (Nat.le_of_ble_eq_true rfl) (by subst eS_4; rfl) dX4_copyFrom_16 (fun H locs X => ?_)
  refine lv_aload_n (pc := 19) hx hb dX4_copyFrom_19 rfl (lv_at hl 0 rfl) ?_
  refine lv_aload_n (pc := 20) hx hb dX4_copyFrom_20 rfl (lv_at hl 1 rfl) ?_
  refine x_get (pc := 21) (ci := 3) C0 KN X 2 rfl rfl inlX3 3 (by decide) kw_9_9 rfl dX4_copyFrom_21 ?_
  refine x_get (pc := 24) (ci := 2) C0 KN X 6 rfl rfl inlX2 7 (by decide) kw_9_11 rfl dX4_copyFrom_24 ?_
  refine W.eq (g2 := F0 m 27 ls [.int (gf_Pasts_guesser (gf_Row_pasts S1)), .ref (a 0)]) rfl ?_
  refine lv_topi (fun y_5 ey_5 => ?_)
  have hf := lt_sb hf ey_5
  obtain ⟨S_6, eS_6, hf⟩ := lt_e hf
  refine x_put (pc := 27) (ci := 4) (ws' := wd_State G a S_6 ++ wd_Row G b S1) C0 KN X 0 rfl rfl inlX4 tyX4_ok nmX4 3 (by decide) kw_7_4 rfl rfl rfl (Nat.le_of_ble_eq_true rfl) (by subst eS_6; rfl) dX4_copyFrom_27 (fun H locs X => ?_)
  refine lv_iconst (pc := 30) (v := 0) hx hb dX4_copyFrom_30 (by decide) ?_
  refine lv_istore_n (pc := 31) (lv' := [(2, .int (0 : Int32)), (0, .ref (a 0)), (1, .ref (b 0))]) hx hb dX4_copyFrom_31 rfl hl (by decide) rfl (fun ls hl => ?_)
  refine lb_X4_copyFrom_32 C0 KN hA S1 _ _ ?_ _ _ _ hf _ _ _ X (lv_sub hl [1, 2, 0] rfl)
  · intro S0_e58_13 hf H locs ls X hl
    obtain rfl := so_1 hf
    exact x_vret (pc := 58) C0 X dX4_copyFrom_58
set_option maxHeartbeats 4000000 in
set_option maxRecDepth 100000 in
theorem lb_X4_copySignsTo_2 {l : Launch} {p : Program} {e : Env} {s : State} {m : MethodId} {args : Array Value} {below : List Frame} {meth : Method} {c : Code} {G : xG} {A : Nat → Prop} {a b : Nat → Nat} (C0 : xC p s m meth c cX4_copySignsTo 3 (none) RX4 args) (KN : xKN G s) (hA : ∀ q, s.heap.size ≤ q → A q) (S0 : tt_State) (So1 : tt_Row) (k28 : tt_Row → Option tt_Row) (hk28 : ∀ (S1 : tt_Row), k28 S1 = some So1 → ∀ (H : Heap) (locs : List Loc) (ls : Array Slot), xS G A s.heap (wd_State G a S0 ++ wd_Row G b S1) H locs → lv_has ls 3 [(0, .ref (a 0)), (1, .ref (b 0))] → W p l e ({ frames := 0, cells := 0, slots := 0, locals := 0 }) s m args below meth c H locs 0 0 (MQ below (xQo G none A (wd_State G a S0 ++ wd_Row G b So1)) args s 0 0 A) (F0 m 28 ls [])) : ∀ (n : Nat) (S1 : tt_Row) (x2 : Int32), fl_X4_copySignsTo_2 k28 S0 n S1 x2 = some So1 → ∀ (H : Heap) (locs : List Loc) (ls : Array Slot), xS G A s.heap (wd_State G a S0 ++ wd_Row G b S1) H locs → lv_has ls 3 [(0, .ref (a 0)), (1, .ref (b 0)), (2, .int x2)] → W p l e ({ frames := 0, cells := 0, slots := 0, locals := 0 }) s m args below meth c H locs 0 0 (MQ below (xQo G none A (wd_State G a S0 ++ wd_Row G b So1)) args s 0 0 A) (F0 m 2 ls []) := by
  have hx := C0.1
  have hb := C0.2.1
  intro n
  induction n with
  | zero =>
    intro S1 x2 hf
    have hf : none = some So1 := hf
    cases hf
  | succ n ih =>
    intro S1 x2 hf H locs ls X hl
    rw [fl_X4_copySignsTo_2] at hf
    refine lv_iload_n (pc := 2) hx hb dX4_copySignsTo_2 rfl (lv_at hl 2 rfl) ?_
    refine lv_aload_n (pc := 3) hx hb dX4_copySignsTo_3 rfl (lv_at hl 0 rfl) ?_
    refine x_get (pc := 4) (ci := 4) C0 KN X 0 rfl rfl inlX4 1 (by decide) kw_7_2 rfl dX4_copySignsTo_4 ?_
    refine W.eq (g2 := F0 m 7 ls [.int (gf_State_length S0), .int x2]) rfl ?_
    refine lv_icmp_ge (pc := 7) (tgt := 28) hx hb dX4_copySignsTo_7 (by decide) (fun c_1 => ?_) (fun c_1 => ?_)
    · have hf := it_p hf c_1
      exact hk28 _ hf _ _ _ X (lv_sub hl [0, 1] rfl)
    · have hf := it_n hf c_1
      refine lv_aload_n (pc := 10) hx hb dX4_copySignsTo_10 rfl (lv_at hl 1 rfl) ?_
      refine x_get (pc := 11) (ci := 3) C0 KN X 2 rfl rfl inlX3 0 (by decide) kw_9_12 rfl dX4_copySignsTo_11 ?_
      refine lv_iload_n (pc := 14) hx hb dX4_copySignsTo_14 rfl (lv_at hl 2 rfl) ?_
      refine lv_aload_n (pc := 15) hx hb dX4_copySignsTo_15 rfl (lv_at hl 0 rfl) ?_
      refine x_get (pc := 16) (ci := 4) C0 KN X 0 rfl rfl inlX4 0 (by decide) kw_7_1 rfl dX4_copySignsTo_16 ?_
      refine lv_iload_n (pc := 19) hx hb dX4_copySignsTo_19 rfl (lv_at hl 2 rfl) ?_
      obtain ⟨g_2, hf⟩ := gd_e hf
      refine x_ald (pc := 20) C0 KN X 1 rfl g_2 dX4_copySignsTo_20 ?_
      refine W.eq (g2 := F0 m 21 ls [.int ((gf_State_signs S0) x2.toNatClampNeg), .int x2, .ref (b 1)]) rfl ?_
      refine lv_topi (fun y_3 ey_3 => ?_)
      have hf := lt_sb hf ey_3
      obtain ⟨g_4, hf⟩ := gd_e hf
      obtain ⟨S_5, eS_5, hf⟩ := lt_e hf
      refine x_ast (pc := 21) (ws' := wd_State G a S0 ++ wd_Row G b S_5) C0 KN X 3 rfl g_4 (by subst eS_5; rfl) dX4_copySignsTo_21 (fun H locs X => ?_)
      obtain ⟨y_6, ey_6⟩ : ∃ y : Int32, y = x2 + (1 : Int32) := ⟨_, rfl⟩
      have hf := lt_sb hf ey_6
      refine lv_iinc (pc := 22) (v := y_6) (lv' := [(2, .int y_6), (0, .ref (a 0)), (1, .ref (b 0))]) hx hb dX4_copySignsTo_22 hl (k := 2) rfl (by rw [ey_6]; rfl) (by decide) rfl (fun ls hl => ?_)
      refine lv_goto (pc := 25) (tgt := 2) hx hb dX4_copySignsTo_25 (by decide) ?_
      exact ih _ _ hf _ _ _ X (lv_sub hl [1, 2, 0] rfl)
theorem hd_X4_copySignsTo : yX4_copySignsTo.cls ≠ "java/lang/invoke/MethodHandle" ∧ yX4_copySignsTo.cls ≠ "java/lang/invoke/VarHandle" ∧ (parseMethodDescriptor yX4_copySignsTo.desc).map (fun d => d.parameters.length) = some 1 := by decide +kernel
set_option maxHeartbeats 4000000 in
set_option maxRecDepth 100000 in
theorem ct_X4_copySignsTo (l : Launch) (G : xG) (a b : Nat → Nat) (S0 : tt_State) (S1 : tt_Row) (So1 : tt_Row) (hf : fn_X4_copySignsTo S0 S1 = some So1) : xM l yX4_copySignsTo cX4_copySignsTo 3 (none) 0 0 G [.ref (a 0), .ref (b 0)] (wd_State G a S0 ++ wd_Row G b S1) (wd_State G a S0 ++ wd_Row G b So1) none := by
  refine xMi (by decide) (Nat.le_of_ble_eq_true rfl) ?_
  intro p e s m below meth c A C0 KN hA X ls hl
  have hx := C0.1
  have hb := C0.2.1
  have C0 : xC p s m meth c cX4_copySignsTo 3 (none) RX4 _ := C0
  have hl : lv_has ls 3 [(0, .ref (a 0)), (1, .ref (b 0))] := hl
  unfold fn_X4_copySignsTo at hf
  refine lv_iconst (pc := 0) (v := 0) hx hb dX4_copySignsTo_0 (by decide) ?_
  refine lv_istore_n (pc := 1) (lv' := [(2, .int (0 : Int32)), (0, .ref (a 0)), (1, .ref (b 0))]) hx hb dX4_copySignsTo_1 rfl hl (by decide) rfl (fun ls hl => ?_)
  refine lb_X4_copySignsTo_2 C0 KN hA S0 _ _ ?_ _ _ _ hf _ _ _ X (lv_sub hl [1, 2, 0] rfl)
  · intro S1_e28_7 hf H locs ls X hl
    obtain rfl := so_1 hf
    exact x_vret (pc := 28) C0 X dX4_copySignsTo_28
