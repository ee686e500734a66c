def fl_X1_isJudged_15 (S0 : tt_Contest) (S1 : tt_Row) : Nat → Int32 → Option Int32
  | 0, _ => none
  | n + 1, x2 =>
  if (gf_Contest_length S0) ≤ x2 then some (1 : Int32) else gd_ (ix_ x2 100) (gd_ (ix_ x2 100) (if ((gf_Contest_judged S0) x2.toNatClampNeg) = ((gf_Row_signs S1) x2.toNatClampNeg) then lt_ (x2 + (1 : Int32)) fun y_6 => fl_X1_isJudged_15 S0 S1 n y_6 else some (0 : Int32)))
def fn_X1_isJudged (S0 : tt_Contest) (S1 : tt_Row) : Option Int32 :=
  if (gf_Contest_length S0) = (gf_Row_length S1) then fl_X1_isJudged_15 S0 S1 fu_ (0 : Int32) else some (0 : Int32)
def fn_X1_judge_71 (k20 : tt_Contest → tt_Pasts → Int32 → Int32 → Option (tt_Contest × tt_Pasts)) (S1 : tt_Row) (S0 : tt_Contest) (S2 : tt_Pasts) (x3 : Int32) (x4 : Int32) : Option (tt_Contest × tt_Pasts) :=
  lt_ (x4 + (1 : Int32)) fun y_11 => k20 S0 S2 x3 y_11
def fn_X1_judge_54 (k20 : tt_Contest → tt_Pasts → Int32 → Int32 → Option (tt_Contest × tt_Pasts)) (S1 : tt_Row) (S0 : tt_Contest) (S2 : tt_Pasts) (x3 : Int32) (x4 : Int32) (x5 : Int32) : Option (tt_Contest × tt_Pasts) :=
  lt_ (sf_Contest_depth S0 x3) fun S_12 => lt_ (sf_Contest_guesser S_12 x4) fun S_13 => lt_ (sf_Contest_price S_13 x5) fun S_14 => fn_X1_judge_71 k20 S1 S_14 S2 x3 x4
def fn_X1_judge_45 (k20 : tt_Contest → tt_Pasts → Int32 → Int32 → Option (tt_Contest × tt_Pasts)) (S1 : tt_Row) (S0 : tt_Contest) (S2 : tt_Pasts) (x3 : Int32) (x4 : Int32) (x5 : Int32) : Option (tt_Contest × tt_Pasts) :=
  if (gf_Contest_price S0) ≤ x5 then fn_X1_judge_71 k20 S1 S0 S2 x3 x4 else fn_X1_judge_54 k20 S1 S0 S2 x3 x4 x5
def fl_X1_judge_20 (k77 : tt_Contest → tt_Pasts → Int32 → Option (tt_Contest × tt_Pasts)) (S1 : tt_Row) : Nat → tt_Contest → tt_Pasts → Int32 → Int32 → Option (tt_Contest × tt_Pasts)
  | 0, _, _, _, _ => none
  | n + 1, S0, S2, x3, x4 =>
  if (3 : Int32) < x4 then k77 S0 S2 x3 else b2_ (fn_X3_priceBy S1 S2 x3 x4) fun r_6 P_7 => if x3 = 0 then if x4 = 0 then fn_X1_judge_54 (fl_X1_judge_20 k77 S1 n) S1 S0 P_7 x3 x4 r_6 else fn_X1_judge_45 (fl_X1_judge_20 k77 S1 n) S1 S0 P_7 x3 x4 r_6 else fn_X1_judge_45 (fl_X1_judge_20 k77 S1 n) S1 S0 P_7 x3 x4 r_6
def fl_X1_judge_11 (k83 : tt_Contest → tt_Pasts → Option (tt_Contest × tt_Pasts)) (S1 : tt_Row) : Nat → tt_Contest → tt_Pasts → Int32 → Option (tt_Contest × tt_Pasts)
  | 0, _, _, _ => none
  | n + 1, S0, S2, x3 =>
  if (6 : Int32) < x3 then k83 S0 S2 else fl_X1_judge_20 (fun (S0_e77_16 : tt_Contest) (S2_e77_16 : tt_Pasts) (x3_e77_16 : Int32) => lt_ (x3_e77_16 + (1 : Int32)) fun y_17 => fl_X1_judge_11 k83 S1 n S0_e77_16 S2_e77_16 y_17) S1 fu_ S0 S2 x3 (0 : Int32)
def fl_X1_judge_93 (k119 : tt_Contest → tt_Pasts → Option (tt_Contest × tt_Pasts)) (S1 : tt_Row) : Nat → tt_Contest → tt_Pasts → Int32 → Option (tt_Contest × tt_Pasts)
  | 0, _, _, _ => none
  | n + 1, S0, S2, x3 =>
  if (gf_Contest_length S0) ≤ x3 then k119 S0 S2 else gd_ (ix_ x3 100) (lt_ ((gf_Row_signs S1) x3.toNatClampNeg) fun y_23 => gd_ (ix_ x3 100) (lt_ (sf_Contest_judged S0 (upd (gf_Contest_judged S0) x3.toNatClampNeg y_23)) fun S_25 => lt_ (x3 + (1 : Int32)) fun y_26 => fl_X1_judge_93 k119 S1 n S_25 S2 y_26))
def fn_X1_judge (S0 : tt_Contest) (S1 : tt_Row) (S2 : tt_Pasts) : Option (tt_Contest × tt_Pasts) :=
  bd_ (fn_X1_isJudged S0 S1) fun r_1 => if r_1 = 0 then fl_X1_judge_11 (fun (S0_e83_18 : tt_Contest) (S2_e83_18 : tt_Pasts) => lt_ (gf_Row_length S1) fun y_19 => lt_ (sf_Contest_length S0_e83_18 y_19) fun S_20 => fl_X1_judge_93 (fun (S0_e119_27 : tt_Contest) (S2_e119_27 : tt_Pasts) => some (S0_e119_27, S2_e119_27)) S1 fu_ S_20 S2_e83_18 (0 : Int32)) S1 fu_ S0 S2 (0 : Int32) else some (S0, S2)
theorem cu_C7 {G : xG} {a b d : Nat → Nat} {S0 : tt_Contest} {S1 : tt_Row} {S2 : tt_Pasts} : [0, 1, 2, 3, 4, 5, 6, 7, 8, 9, 10, 11, 12].map (fun i => (wd_Contest G a S0 ++ wd_Row G b S1 ++ wd_Pasts G d S2)[i]?) = (wd_Contest G a S0 ++ wd_Row G b S1 : va_W).map some := rfl
theorem cu_R7 {G : xG} {a b d : Nat → Nat} {S0 : tt_Contest} {S1 : tt_Row} {S2 : tt_Pasts} : ([13, 14, 15, 16, 17, 18, 19] : List Nat).map (fun i => (wd_Contest G a S0 ++ wd_Row G b S1 ++ wd_Pasts G d S2)[i]?) = ([(d 0, .inr (2, [.ref (d 1), .ref (d 2), .ref (d 3), .ref (d 4), .ref (d 5), .ref (d 6), .int (gf_Pasts_depth S2), .int (gf_Pasts_guesser S2), .int (gf_Pasts_past S2)])), (d 1, .inl (G.2.1, 128, .inl (gf_Pasts_zeros S2))), (d 2, .inl (G.2.1, 128, .inl (gf_Pasts_ones S2))), (d 3, .inl (G.2.1, 128, .inl (gf_Pasts_weights S2))), (d 4, .inl (G.2.1, 128, .inl (gf_Pasts_paidAlone S2))), (d 5, .inl (G.2.1, 7, .inl (gf_Pasts_owns S2))), (d 6, .inl (G.2.1, 7, .inl (gf_Pasts_guesses S2)))] : va_W).map some := rfl
theorem cu_J7 {G : xG} {a b d : Nat → Nat} {S0 : tt_Contest} {S1 : tt_Row} {S2 : tt_Pasts}  : [7, 8, 9, 10, 11, 12, 13, 14, 15, 16, 17, 18, 19, 0, 1, 2, 3, 4, 5, 6].map (fun i => (([(d 0, .inr (2, [.ref (d 1), .ref (d 2), .ref (d 3), .ref (d 4), .ref (d 5), .ref (d 6), .int (gf_Pasts_depth S2), .int (gf_Pasts_guesser S2), .int (gf_Pasts_past S2)])), (d 1, .inl (G.2.1, 128, .inl (gf_Pasts_zeros S2))), (d 2, .inl (G.2.1, 128, .inl (gf_Pasts_ones S2))), (d 3, .inl (G.2.1, 128, .inl (gf_Pasts_weights S2))), (d 4, .inl (G.2.1, 128, .inl (gf_Pasts_paidAlone S2))), (d 5, .inl (G.2.1, 7, .inl (gf_Pasts_owns S2))), (d 6, .inl (G.2.1, 7, .inl (gf_Pasts_guesses S2)))] : va_W) ++ (wd_Contest G a S0 ++ wd_Row G b S1))[i]?) = (wd_Contest G a S0 ++ wd_Row G b S1 ++ wd_Pasts G d S2 : va_W).map some := rfl
theorem cu_C8 {G : xG} {a b d : Nat → Nat} {S0 : tt_Contest} {S1 : tt_Row} {S2 : tt_Pasts} : [2, 3, 4, 5, 6, 7, 8, 9, 10, 11, 12, 13, 14, 15, 16, 17, 18, 19].map (fun i => (wd_Contest G a S0 ++ wd_Row G b S1 ++ wd_Pasts G d S2)[i]?) = (wd_Row G b S1 ++ wd_Pasts G d S2 : va_W).map some := rfl
theorem cu_R8 {G : xG} {a b d : Nat → Nat} {S0 : tt_Contest} {S1 : tt_Row} {S2 : tt_Pasts} : ([0, 1] : List Nat).map (fun i => (wd_Contest G a S0 ++ wd_Row G b S1 ++ wd_Pasts G d S2)[i]?) = ([(a 0, .inr (1, [.ref (a 1), .int (gf_Contest_length S0), .int (gf_Contest_depth S0), .int (gf_Contest_guesser S0), .int (gf_Contest_price S0)])), (a 1, .inl (G.2.1, 100, .inl (gf_Contest_judged S0)))] : va_W).map some := rfl
theorem cu_J8 {G : xG} {a b d : Nat → Nat} {S0 : tt_Contest} {S1 : tt_Row} {S2 : tt_Pasts} {P1 : tt_Pasts} : [0, 1, 2, 3, 4, 5, 6, 7, 8, 9, 10, 11, 12, 13, 14, 15, 16, 17, 18, 19].map (fun i => (([(a 0, .inr (1, [.ref (a 1), .int (gf_Contest_length S0), .int (gf_Contest_depth S0), .int (gf_Contest_guesser S0), .int (gf_Contest_price S0)])), (a 1, .inl (G.2.1, 100, .inl (gf_Contest_judged S0)))] : va_W) ++ (wd_Row G b S1 ++ wd_Pasts G d P1))[i]?) = (wd_Contest G a S0 ++ wd_Row G b S1 ++ wd_Pasts G d P1 : va_W).map some := rfl
set_option maxHeartbeats 4000000 in
set_option maxRecDepth 100000 in
theorem lb_X1_isJudged_15 {l : Launch} {p : Program} {e : Env} {s : State} {m : MethodId} {args : Array Value} {below : List Frame} {meth : Method} {c : Code} {G : xG} {A : Nat → Prop} {a b : Nat → Nat} (C0 : xC p s m meth c cX1_isJudged 3 (some .boolean) RX1 args) (KN : xKN G s) (hA : ∀ q, s.heap.size ≤ q → A q) (S0 : tt_Contest) (S1 : tt_Row) (ro : Int32) : ∀ (n : Nat) (x2 : Int32), fl_X1_isJudged_15 S0 S1 n x2 = some ro → ∀ (H : Heap) (locs : List Loc) (ls : Array Slot), xS G A s.heap (wd_Contest G a S0 ++ wd_Row G b S1) H locs → lv_has ls 3 [(0, .ref (a 0)), (1, .ref (b 0)), (2, .int x2)] → W p l e ({ frames := 0, cells := 0, slots := 0, locals := 0 }) s m args below meth c H locs 0 0 (MQ below (xQo G (some (.int ro)) A (wd_Contest G a S0 ++ wd_Row G b S1)) args s 0 0 A) (F0 m 15 ls []) := by
  have hx := C0.1
  have hb := C0.2.1
  intro n
  induction n with
  | zero =>
    intro x2 hf
    have hf : none = some ro := hf
    cases hf
  | succ n ih =>
    intro x2 hf H locs ls X hl
    rw [fl_X1_isJudged_15] at hf
    refine lv_iload_n (pc := 15) hx hb dX1_isJudged_15 rfl (lv_at hl 2 rfl) ?_
    refine lv_aload_n (pc := 16) hx hb dX1_isJudged_16 rfl (lv_at hl 0 rfl) ?_
    refine x_get (pc := 17) (ci := 1) C0 KN X 0 rfl rfl inlX1 1 (by decide) kw_5_4 rfl dX1_isJudged_17 ?_
    refine W.eq (g2 := F0 m 20 ls [.int (gf_Contest_length S0), .int x2]) rfl ?_
    refine lv_icmp_ge (pc := 20) (tgt := 46) hx hb dX1_isJudged_20 (by decide) (fun c_2 => ?_) (fun c_2 => ?_)
    · have hf := it_p hf c_2
      refine lv_iconst (pc := 46) (v := 1) hx hb dX1_isJudged_46 (by decide) ?_
      obtain rfl := so_1 hf
      exact x_zret (pc := 47) C0 X (by decide) dX1_isJudged_47
    · have hf := it_n hf c_2
      refine lv_aload_n (pc := 23) hx hb dX1_isJudged_23 rfl (lv_at hl 0 rfl) ?_
      refine x_get (pc := 24) (ci := 1) C0 KN X 0 rfl rfl inlX1 0 (by decide) kw_5_3 rfl dX1_isJudged_24 ?_
      refine lv_iload_n (pc := 27) hx hb dX1_isJudged_27 rfl (lv_at hl 2 rfl) ?_
      obtain ⟨g_3, hf⟩ := gd_e hf
      refine x_ald (pc := 28) C0 KN X 1 rfl g_3 dX1_isJudged_28 ?_
      refine W.eq (g2 := F0 m 29 ls [.int ((gf_Contest_judged S0) x2.toNatClampNeg)]) rfl ?_
      refine lv_aload_n (pc := 29) hx hb dX1_isJudged_29 rfl (lv_at hl 1 rfl) ?_
      refine x_get (pc := 30) (ci := 3) C0 KN X 2 rfl rfl inlX3 0 (by decide) kw_20_21 rfl dX1_isJudged_30 ?_
      refine lv_iload_n (pc := 33) hx hb dX1_isJudged_33 rfl (lv_at hl 2 rfl) ?_
      obtain ⟨g_4, hf⟩ := gd_e hf
      refine x_ald (pc := 34) C0 KN X 3 rfl g_4 dX1_isJudged_34 ?_
      refine W.eq (g2 := F0 m 35 ls [.int ((gf_Row_signs S1) x2.toNatClampNeg), .int ((gf_Contest_judged S0) x2.toNatClampNeg)]) rfl ?_
      refine lv_icmp_eq (pc := 35) (tgt := 40) hx hb dX1_isJudged_35 (by decide) (fun c_5 => ?_) (fun c_5 => ?_)
      · have hf := it_p hf c_5
        obtain ⟨y_6, ey_6⟩ : ∃ y : Int32, y = x2 + (1 : Int32) := ⟨_, rfl⟩
        have hf := lt_sb hf ey_6
        refine lv_iinc (pc := 40) (v := y_6) (lv' := [(2, .int y_6), (0, .ref (a 0)), (1, .ref (b 0))]) hx hb dX1_isJudged_40 hl (k := 2) rfl (by rw [ey_6]; rfl) (by decide) rfl (fun ls hl => ?_)
        refine lv_goto (pc := 43) (tgt := 15) hx hb dX1_isJudged_43 (by decide) ?_
        exact ih _ hf _ _ _ X (lv_sub hl [1, 2, 0] rfl)
      · have hf := it_n hf c_5
        refine lv_iconst (pc := 38) (v := 0) hx hb dX1_isJudged_38 (by decide) ?_
        obtain rfl := so_1 hf
        exact x_zret (pc := 39) C0 X (by decide) dX1_isJudged_39
theorem hd_X1_isJudged : yX1_isJudged.cls ≠ "java/lang/invoke/MethodHandle" ∧ yX1_isJudged.cls ≠ "java/lang/invoke/VarHandle" ∧ (parseMethodDescriptor yX1_isJudged.desc).map (fun d => d.parameters.length) = some 1 := by decide +kernel
set_option maxHeartbeats 4000000 in
set_option maxRecDepth 100000 in
theorem ct_X1_isJudged (l : Launch) (G : xG) (a b : Nat → Nat) (S0 : tt_Contest) (S1 : tt_Row) (ro : Int32) (hf : fn_X1_isJudged S0 S1 = some ro) : xM l yX1_isJudged cX1_isJudged 3 (some .boolean) 0 0 G [.ref (a 0), .ref (b 0)] (wd_Contest G a S0 ++ wd_Row G b S1) (wd_Contest G a S0 ++ wd_Row G b S1) (some (.int ro)) := by
  refine xMi (by decide) (Nat.le_of_ble_eq_true rfl) ?_
  intro p e s m below meth c A C0 KN hA X ls hl
  have hx := C0.1
  have hb := C0.2.1
  have C0 : xC p s m meth c cX1_isJudged 3 (some .boolean) RX1 _ := C0
  have hl : lv_has ls 3 [(0, .ref (a 0)), (1, .ref (b 0))] := hl
  unfold fn_X1_isJudged at hf
  refine lv_aload_n (pc := 0) hx hb dX1_isJudged_0 rfl (lv_at hl 0 rfl) ?_
  refine x_get (pc := 1) (ci := 1) C0 KN X 0 rfl rfl inlX1 1 (by decide) kw_5_4 rfl dX1_isJudged_1 ?_
  refine W.eq (g2 := F0 m 4 ls [.int (gf_Contest_length S0)]) rfl ?_
  refine lv_aload_n (pc := 4) hx hb dX1_isJudged_4 rfl (lv_at hl 1 rfl) ?_
  refine x_get (pc := 5) (ci := 3) C0 KN X 2 rfl rfl inlX3 4 (by decide) kw_20_20 rfl dX1_isJudged_5 ?_
  refine W.eq (g2 := F0 m 8 ls [.int (gf_Row_length S1), .int (gf_Contest_length S0)]) rfl ?_
  refine lv_icmp_eq (pc := 8) (tgt := 13) hx hb dX1_isJudged_8 (by decide) (fun c_1 => ?_) (fun c_1 => ?_)
  · have hf := it_p hf c_1
    refine lv_iconst (pc := 13) (v := 0) hx hb dX1_isJudged_13 (by decide) ?_
    refine lv_istore_n (pc := 14) (lv' := [(2, .int (0 : Int32)), (0, .ref (a 0)), (1, .ref (b 0))]) hx hb dX1_isJudged_14 rfl hl (by decide) rfl (fun ls hl => ?_)
    refine lb_X1_isJudged_15 C0 KN hA S0 S1 _  _ _ hf _ _ _ X (lv_sub hl [1, 2, 0] rfl)
  · have hf := it_n hf c_1
    refine lv_iconst (pc := 11) (v := 0) hx hb dX1_isJudged_11 (by decide) ?_
    obtain rfl := so_1 hf
    exact x_zret (pc := 12) C0 X (by decide) dX1_isJudged_12
set_option maxHeartbeats 4000000 in
set_option maxRecDepth 100000 in
theorem lb_X1_judge_71 {l : Launch} {p : Program} {e : Env} {s : State} {m : MethodId} {args : Array Value} {below : List Frame} {meth : Method} {c : Code} {G : xG} {A : Nat → Prop} {a b d : Nat → Nat} (C0 : xC p s m meth c cX1_judge 6 (none) RX1 args) (KN : xKN G s) (hA : ∀ q, s.heap.size ≤ q → A q) (S1 : tt_Row) (So0 : tt_Contest) (So2 : tt_Pasts) (k20 : tt_Contest → tt_Pasts → Int32 → Int32 → Option (tt_Contest × tt_Pasts)) (hk20 : ∀ (S0 : tt_Contest) (S2 : tt_Pasts) (x3 : Int32) (x4 : Int32), k20 S0 S2 x3 x4 = some (So0, So2) → ∀ (H : Heap) (locs : List Loc) (ls : Array Slot), xS G A s.heap (wd_Contest G a S0 ++ wd_Row G b S1 ++ wd_Pasts G d S2) H locs → lv_has ls 6 [(0, .ref (a 0)), (1, .ref (b 0)), (2, .ref (d 0)), (3, .int x3), (4, .int x4)] → W p l e ({ frames := 5, cells := 0, slots := 0, locals := 119 }) s m args below meth c H locs 0 0 (MQ below (xQo G none A (wd_Contest G a So0 ++ wd_Row G b S1 ++ wd_Pasts G d So2)) args s 0 0 A) (F0 m 20 ls [])) : ∀ (S0 : tt_Contest) (S2 : tt_Pasts) (x3 : Int32) (x4 : Int32), fn_X1_judge_71 k20 S1 S0 S2 x3 x4 = some (So0, So2) → ∀ (H : Heap) (locs : List Loc) (ls : Array Slot), xS G A s.heap (wd_Contest G a S0 ++ wd_Row G b S1 ++ wd_Pasts G d S2) H locs → lv_has ls 6 [(0, .ref (a 0)), (1, .ref (b 0)), (2, .ref (d 0)), (3, .int x3), (4, .int x4)] → W p l e ({ frames := 5, cells := 0, slots := 0, locals := 119 }) s m args below meth c H locs 0 0 (MQ below (xQo G none A (wd_Contest G a So0 ++ wd_Row G b S1 ++ wd_Pasts G d So2)) args s 0 0 A) (F0 m 71 ls []) := by
  have hx := C0.1
  have hb := C0.2.1
  intro S0 S2 x3 x4 hf H locs ls X hl
  unfold fn_X1_judge_71 at hf
  obtain ⟨y_11, ey_11⟩ : ∃ y : Int32, y = x4 + (1 : Int32) := ⟨_, rfl⟩
  have hf := lt_sb hf ey_11
  refine lv_iinc (pc := 71) (v := y_11) (lv' := [(4, .int y_11), (0, .ref (a 0)), (1, .ref (b 0)), (2, .ref (d 0)), (3, .int x3)]) hx hb dX1_judge_71 hl (k := 4) rfl (by rw [ey_11]; rfl) (by decide) rfl (fun ls hl => ?_)
  refine lv_goto (pc := 74) (tgt := 20) hx hb dX1_judge_74 (by decide) ?_
  exact hk20 _ _ _ _ hf _ _ _ X (lv_sub hl [1, 2, 3, 4, 0] rfl)
set_option maxHeartbeats 4000000 in
set_option maxRecDepth 100000 in
theorem lb_X1_judge_54 {l : Launch} {p : Program} {e : Env} {s : State} {m : MethodId} {args : Array Value} {below : List Frame} {meth : Method} {c : Code} {G : xG} {A : Nat → Prop} {a b d : Nat → Nat} (C0 : xC p s m meth c cX1_judge 6 (none) RX1 args) (KN : xKN G s) (hA : ∀ q, s.heap.size ≤ q → A q) (S1 : tt_Row) (So0 : tt_Contest) (So2 : tt_Pasts) (k20 : tt_Contest → tt_Pasts → Int32 → Int32 → Option (tt_Contest × tt_Pasts)) (hk20 : ∀ (S0 : tt_Contest) (S2 : tt_Pasts) (x3 : Int32) (x4 : Int32), k20 S0 S2 x3 x4 = some (So0, So2) → ∀ (H : Heap) (locs : List Loc) (ls : Array Slot), xS G A s.heap (wd_Contest G a S0 ++ wd_Row G b S1 ++ wd_Pasts G d S2) H locs → lv_has ls 6 [(0, .ref (a 0)), (1, .ref (b 0)), (2, .ref (d 0)), (3, .int x3), (4, .int x4)] → W p l e ({ frames := 5, cells := 0, slots := 0, locals := 119 }) s m args below meth c H locs 0 0 (MQ below (xQo G none A (wd_Contest G a So0 ++ wd_Row G b S1 ++ wd_Pasts G d So2)) args s 0 0 A) (F0 m 20 ls [])) : ∀ (S0 : tt_Contest) (S2 : tt_Pasts) (x3 : Int32) (x4 : Int32) (x5 : Int32), fn_X1_judge_54 k20 S1 S0 S2 x3 x4 x5 = some (So0, So2) → ∀ (H : Heap) (locs : List Loc) (ls : Array Slot), xS G A s.heap (wd_Contest G a S0 ++ wd_Row G b S1 ++ wd_Pasts G d S2) H locs → lv_has ls 6 [(0, .ref (a 0)), (1, .ref (b 0)), (2, .ref (d 0)), (3, .int x3), (4, .int x4), (5, .int x5)] → W p l e ({ frames := 5, cells := 0, slots := 0, locals := 119 }) s m args below meth c H locs 0 0 (MQ below (xQo G none A (wd_Contest G a So0 ++ wd_Row G b S1 ++ wd_Pasts G d So2)) args s 0 0 A) (F0 m 54 ls []) := by
  have hx := C0.1
  have hb := C0.2.1
  intro S0 S2 x3 x4 x5 hf H locs ls X hl
  unfold fn_X1_judge_54 at hf
  refine lv_aload_n (pc := 54) hx hb dX1_judge_54 rfl (lv_at hl 0 rfl) ?_
  refine lv_iload_n (pc := 55) hx hb dX1_judge_55 rfl (lv_at hl 3 rfl) ?_
  obtain ⟨S_12, eS_12, hf⟩ := lt_e hf
  refine x_put (pc := 56) (ci := 1) (ws' := wd_Contest G a S_12 ++ wd_Row G b S1 ++ wd_Pasts G d S2) C0 KN X 0 rfl rfl inlX1 tyX1_ok nmX1 2 (by decide) kw_5_5 rfl rfl rfl (Nat.le_of_ble_eq_true rfl) (by subst eS_12; rfl) dX1_judge_56 (fun H locs X => ?_)
  refine lv_aload_n (pc := 59) hx hb dX1_judge_59 rfl (lv_at hl 0 rfl) ?_
  refine lv_iload (pc := 60) hx hb dX1_judge_60 (lv_at hl 4 rfl) ?_
  obtain ⟨S_13, eS_13, hf⟩ := lt_e hf
  refine x_put (pc := 62) (ci := 1) (ws' := wd_Contest G a S_13 ++ wd_Row G b S1 ++ wd_Pasts G d S2) C0 KN X 0 rfl rfl inlX1 tyX1_ok nmX1 3 (by decide) kw_5_6 rfl rfl rfl (Nat.le_of_ble_eq_true rfl) (by subst eS_13; rfl) dX1_judge_62 (fun H locs X => ?_)
  refine lv_aload_n (pc := 65) hx hb dX1_judge_65 rfl (lv_at hl 0 rfl) ?_
  refine lv_iload (pc := 66) hx hb dX1_judge_66 (lv_at hl 5 rfl) ?_
  obtain ⟨S_14, eS_14, hf⟩ := lt_e hf
  refine x_put (pc := 68) (ci := 1) (ws' := wd_Contest G a S_14 ++ wd_Row G b S1 ++ wd_Pasts G d S2) C0 KN X 0 rfl rfl inlX1 tyX1_ok nmX1 4 (by decide) kw_5_7 rfl rfl rfl (Nat.le_of_ble_eq_true rfl) (by subst eS_14; rfl) dX1_judge_68 (fun H locs X => ?_)
  exact lb_X1_judge_71 C0 KN hA S1 _ _ k20 hk20 _ _ _ _ hf _ _ _ X (lv_sub hl [0, 1, 2, 3, 4] rfl)
set_option maxHeartbeats 4000000 in
set_option maxRecDepth 100000 in
theorem lb_X1_judge_45 {l : Launch} {p : Program} {e : Env} {s : State} {m : MethodId} {args : Array Value} {below : List Frame} {meth : Method} {c : Code} {G : xG} {A : Nat → Prop} {a b d : Nat → Nat} (C0 : xC p s m meth c cX1_judge 6 (none) RX1 args) (KN : xKN G s) (hA : ∀ q, s.heap.size ≤ q → A q) (S1 : tt_Row) (So0 : tt_Contest) (So2 : tt_Pasts) (k20 : tt_Contest → tt_Pasts → Int32 → Int32 → Option (tt_Contest × tt_Pasts)) (hk20 : ∀ (S0 : tt_Contest) (S2 : tt_Pasts) (x3 : Int32) (x4 : Int32), k20 S0 S2 x3 x4 = some (So0, So2) → ∀ (H : Heap) (locs : List Loc) (ls : Array Slot), xS G A s.heap (wd_Contest G a S0 ++ wd_Row G b S1 ++ wd_Pasts G d S2) H locs → lv_has ls 6 [(0, .ref (a 0)), (1, .ref (b 0)), (2, .ref (d 0)), (3, .int x3), (4, .int x4)] → W p l e ({ frames := 5, cells := 0, slots := 0, locals := 119 }) s m args below meth c H locs 0 0 (MQ below (xQo G none A (wd_Contest G a So0 ++ wd_Row G b S1 ++ wd_Pasts G d So2)) args s 0 0 A) (F0 m 20 ls [])) : ∀ (S0 : tt_Contest) (S2 : tt_Pasts) (x3 : Int32) (x4 : Int32) (x5 : Int32), fn_X1_judge_45 k20 S1 S0 S2 x3 x4 x5 = some (So0, So2) → ∀ (H : Heap) (locs : List Loc) (ls : Array Slot), xS G A s.heap (wd_Contest G a S0 ++ wd_Row G b S1 ++ wd_Pasts G d S2) H locs → lv_has ls 6 [(0, .ref (a 0)), (1, .ref (b 0)), (2, .ref (d 0)), (3, .int x3), (4, .int x4), (5, .int x5)] → W p l e ({ frames := 5, cells := 0, slots := 0, locals := 119 }) s m args below meth c H locs 0 0 (MQ below (xQo G none A (wd_Contest G a So0 ++ wd_Row G b S1 ++ wd_Pasts G d So2)) args s 0 0 A) (F0 m 45 ls []) := by
  have hx := C0.1
  have hb := C0.2.1
  intro S0 S2 x3 x4 x5 hf H locs ls X hl
  unfold fn_X1_judge_45 at hf
  refine lv_iload (pc := 45) hx hb dX1_judge_45 (lv_at hl 5 rfl) ?_
  refine lv_aload_n (pc := 47) hx hb dX1_judge_47 rfl (lv_at hl 0 rfl) ?_
  refine x_get (pc := 48) (ci := 1) C0 KN X 0 rfl rfl inlX1 4 (by decide) kw_5_7 rfl dX1_judge_48 ?_
  refine W.eq (g2 := F0 m 51 ls [.int (gf_Contest_price S0), .int x5]) rfl ?_
  refine lv_icmp_ge (pc := 51) (tgt := 71) hx hb dX1_judge_51 (by decide) (fun c_10 => ?_) (fun c_10 => ?_)
  · have hf := it_p hf c_10
    exact lb_X1_judge_71 C0 KN hA S1 _ _ k20 hk20 _ _ _ _ hf _ _ _ X (lv_sub hl [0, 1, 2, 3, 4] rfl)
  · have hf := it_n hf c_10
    exact lb_X1_judge_54 C0 KN hA S1 _ _ k20 hk20 _ _ _ _ _ hf _ _ _ X (lv_sub hl [0, 1, 2, 3, 4, 5] rfl)
set_option maxHeartbeats 4000000 in
set_option maxRecDepth 100000 in
theorem lb_X1_judge_20 {l : Launch} {p : Program} {e : Env} {s : State} {m : MethodId} {args : Array Value} {below : List Frame} {meth : Method} {c : Code} {G : xG} {A : Nat → Prop} {a b d : Nat → Nat} (C0 : xC p s m meth c cX1_judge 6 (none) RX1 args) (KN : xKN G s) (hA : ∀ q, s.heap.size ≤ q → A q) (S1 : tt_Row) (So0 : tt_Contest) (So2 : tt_Pasts) (k77 : tt_Contest → tt_Pasts → Int32 → Option (tt_Contest × tt_Pasts)) (hk77 : ∀ (S0 : tt_Contest) (S2 : tt_Pasts) (x3 : Int32), k77 S0 S2 x3 = some (So0, So2) → ∀ (H : Heap) (locs : List Loc) (ls : Array Slot), xS G A s.heap (wd_Contest G a S0 ++ wd_Row G b S1 ++ wd_Pasts G d S2) H locs → lv_has ls 6 [(0, .ref (a 0)), (1, .ref (b 0)), (2, .ref (d 0)), (3, .int x3)] → W p l e ({ frames := 5, cells := 0, slots := 0, locals := 119 }) s m args below meth c H locs 0 0 (MQ below (xQo G none A (wd_Contest G a So0 ++ wd_Row G b S1 ++ wd_Pasts G d So2)) args s 0 0 A) (F0 m 77 ls [])) : ∀ (n : Nat) (S0 : tt_Contest) (S2 : tt_Pasts) (x3 : Int32) (x4 : Int32), fl_X1_judge_20 k77 S1 n S0 S2 x3 x4 = some (So0, So2) → ∀ (H : Heap) (locs : List Loc) (ls : Array Slot), xS G A s.heap (wd_Contest G a S0 ++ wd_Row G b S1 ++ wd_Pasts G d S2) H locs → lv_has ls 6 [(0, .ref (a 0)), (1, .ref (b 0)), (2, .ref (d 0)), (3, .int x3), (4, .int x4)] → W p l e ({ frames := 5, cells := 0, slots := 0, locals := 119 }) s m args below meth c H locs 0 0 (MQ below (xQo G none A (wd_Contest G a So0 ++ wd_Row G b S1 ++ wd_Pasts G d So2)) args s 0 0 A) (F0 m 20 ls []) := by
  have hx := C0.1
  have hb := C0.2.1
  intro n
  induction n with
  | zero =>
    intro S0 S2 x3 x4 hf
    have hf : none = some (So0, So2) := hf
    cases hf
  | succ n ih =>
    intro S0 S2 x3 x4 hf H locs ls X hl
    rw [fl_X1_judge_20] at hf
    refine lv_iload (pc := 20) hx hb dX1_judge_20 (lv_at hl 4 rfl) ?_
    refine lv_iconst (pc := 22) (v := 3) hx hb dX1_judge_22 (by decide) ?_
    refine lv_icmp_gt (pc := 23) (tgt := 77) hx hb dX1_judge_23 (by decide) (fun c_5 => ?_) (fun c_5 => ?_)
    · have hf := it_p hf c_5
      exact hk77 _ _ _ hf _ _ _ X (lv_sub hl [0, 1, 2, 3] rfl)
    · have hf := it_n hf c_5
      refine lv_aload_n (pc := 26) hx hb dX1_judge_26 rfl (lv_at hl 1 rfl) ?_
      refine lv_aload_n (pc := 27) hx hb dX1_judge_27 rfl (lv_at hl 2 rfl) ?_
      refine lv_iload_n (pc := 28) hx hb dX1_judge_28 rfl (lv_at hl 3 rfl) ?_
      refine lv_iload (pc := 29) hx hb dX1_judge_29 (lv_at hl 4 rfl) ?_
      obtain ⟨r_6, P_7, h_8, hf⟩ := b2_e hf
      refine x_cv (pc := 31) (ws' := wd_Contest G a S0 ++ wd_Row G b S1 ++ wd_Pasts G d P_7) (As := [.ref (d 0), .int x3, .int x4]) (rest := []) (ci := 3) (qr := 2) C0 KN X hA [2, 3, 4, 5, 6, 7, 8, 9, 10, 11, 12, 13, 14, 15, 16, 17, 18, 19] [0, 1] [0, 1, 2, 3, 4, 5, 6, 7, 8, 9, 10, 11, 12, 13, 14, 15, 16, 17, 18, 19] cu_C8 rfl cu_R8 rfl (by decide) (cu_J8 (S0 := S0) (S1 := S1) (S2 := S2)) rfl (ct_X3_priceBy l G b d S1 S2 x3 x4 r_6 P_7 h_8) rfl rfl rfl kw_20_4 kw_21_2 kw_20_2 kw_20_3 kw_1_15 hd_X3_priceBy ⟨by decide, by decide⟩ hl.1 rfl (Nat.le_of_ble_eq_true rfl) ⟨Nat.zero_le _, Nat.zero_le _⟩ dX1_judge_31 (fun H locs X => ?_)
      refine W.eq (g2 := F0 m 34 ls [.int r_6]) rfl ?_
      refine lv_istore (pc := 34) (lv' := [(5, .int r_6), (0, .ref (a 0)), (1, .ref (b 0)), (2, .ref (d 0)), (3, .int x3), (4, .int x4)]) hx hb dX1_judge_34 hl (by decide) rfl (fun ls hl => ?_)
      refine lv_iload_n (pc := 36) hx hb dX1_judge_36 rfl (lv_at hl 4 rfl) ?_
      refine lv_if_ne (pc := 37) (tgt := 45) hx hb dX1_judge_37 (by decide) (fun c_9 => ?_) (fun c_9 => ?_)
      · have hf := it_n hf c_9
        exact lb_X1_judge_45 C0 KN hA S1 _ _ (fl_X1_judge_20 k77 S1 n) ih _ _ _ _ _ hf _ _ _ X (lv_sub hl [1, 2, 3, 4, 5, 0] rfl)
      · have hf := it_p hf c_9
        refine lv_iload (pc := 40) hx hb dX1_judge_40 (lv_at hl 5 rfl) ?_
        refine lv_if_eq (pc := 42) (tgt := 54) hx hb dX1_judge_42 (by decide) (fun c_15 => ?_) (fun c_15 => ?_)
        · have hf := it_p hf c_15
          exact lb_X1_judge_54 C0 KN hA S1 _ _ (fl_X1_judge_20 k77 S1 n) ih _ _ _ _ _ hf _ _ _ X (lv_sub hl [1, 2, 3, 4, 5, 0] rfl)
        · have hf := it_n hf c_15
          exact lb_X1_judge_45 C0 KN hA S1 _ _ (fl_X1_judge_20 k77 S1 n) ih _ _ _ _ _ hf _ _ _ X (lv_sub hl [1, 2, 3, 4, 5, 0] rfl)
set_option maxHeartbeats 4000000 in
set_option maxRecDepth 100000 in
theorem lb_X1_judge_11 {l : Launch} {p : Program} {e : Env} {s : State} {m : MethodId} {args : Array Value} {below : List Frame} {meth : Method} {c : Code} {G : xG} {A : Nat → Prop} {a b d : Nat → Nat} (C0 : xC p s m meth c cX1_judge 6 (none) RX1 args) (KN : xKN G s) (hA : ∀ q, s.heap.size ≤ q → A q) (S1 : tt_Row) (So0 : tt_Contest) (So2 : tt_Pasts) (k83 : tt_Contest → tt_Pasts → Option (tt_Contest × tt_Pasts)) (hk83 : ∀ (S0 : tt_Contest) (S2 : tt_Pasts), k83 S0 S2 = some (So0, So2) → ∀ (H : Heap) (locs : List Loc) (ls : Array Slot), xS G A s.heap (wd_Contest G a S0 ++ wd_Row G b S1 ++ wd_Pasts G d S2) H locs → lv_has ls 6 [(0, .ref (a 0)), (1, .ref (b 0)), (2, .ref (d 0))] → W p l e ({ frames := 5, cells := 0, slots := 0, locals := 119 }) s m args below meth c H locs 0 0 (MQ below (xQo G none A (wd_Contest G a So0 ++ wd_Row G b S1 ++ wd_Pasts G d So2)) args s 0 0 A) (F0 m 83 ls [])) : ∀ (n : Nat) (S0 : tt_Contest) (S2 : tt_Pasts) (x3 : Int32), fl_X1_judge_11 k83 S1 n S0 S2 x3 = some (So0, So2) → ∀ (H : Heap) (locs : List Loc) (ls : Array Slot), xS G A s.heap (wd_Contest G a S0 ++ wd_Row G b S1 ++ wd_Pasts G d S2) H locs → lv_has ls 6 [(0, .ref (a 0)), (1, .ref (b 0)), (2, .ref (d 0)), (3, .int x3)] → W p l e ({ frames := 5, cells := 0, slots := 0, locals := 119 }) s m args below meth c H locs 0 0 (MQ below (xQo G none A (wd_Contest G a So0 ++ wd_Row G b S1 ++ wd_Pasts G d So2)) args s 0 0 A) (F0 m 11 ls []) := by
  have hx := C0.1
  have hb := C0.2.1
  intro n
  induction n with
  | zero =>
    intro S0 S2 x3 hf
    have hf : none = some (So0, So2) := hf
    cases hf
  | succ n ih =>
    intro S0 S2 x3 hf H locs ls X hl
    rw [fl_X1_judge_11] at hf
    refine lv_iload_n (pc := 11) hx hb dX1_judge_11 rfl (lv_at hl 3 rfl) ?_
    refine lv_bipush (pc := 12) (v := 6) hx hb dX1_judge_12 (by decide) ?_
    refine lv_icmp_gt (pc := 14) (tgt := 83) hx hb dX1_judge_14 (by decide) (fun c_4 => ?_) (fun c_4 => ?_)
    · have hf := it_p hf c_4
      exact hk83 _ _ hf _ _ _ X (lv_sub hl [0, 1, 2] rfl)
    · have hf := it_n hf c_4
      refine lv_iconst (pc := 17) (v := 0) hx hb dX1_judge_17 (by decide) ?_
      refine lv_istore (pc := 18) (lv' := [(4, .int (0 : Int32)), (0, .ref (a 0)), (1, .ref (b 0)), (2, .ref (d 0)), (3, .int x3)]) hx hb dX1_judge_18 hl (by decide) rfl (fun ls hl => ?_)
      refine lb_X1_judge_20 C0 KN hA S1 _ _ _ ?_ _ _ _ _ _ hf _ _ _ X (lv_sub hl [1, 2, 3, 4, 0] rfl)
      · intro S0_e77_16 S2_e77_16 x3_e77_16 hf H locs ls X hl
        obtain ⟨y_17, ey_17⟩ : ∃ y : Int32, y = x3_e77_16 + (1 : Int32) := ⟨_, rfl⟩
        have hf := lt_sb hf ey_17
        refine lv_iinc (pc := 77) (v := y_17) (lv' := [(3, .int y_17), (0, .ref (a 0)), (1, .ref (b 0)), (2, .ref (d 0))]) hx hb dX1_judge_77 hl (k := 3) rfl (by rw [ey_17]; rfl) (by decide) rfl (fun ls hl => ?_)
        refine lv_goto (pc := 80) (tgt := 11) hx hb dX1_judge_80 (by decide) ?_
        exact ih _ _ _ hf _ _ _ X (lv_sub hl [1, 2, 3, 0] rfl)
set_option maxHeartbeats 4000000 in
set_option maxRecDepth 100000 in
theorem lb_X1_judge_93 {l : Launch} {p : Program} {e : Env} {s : State} {m : MethodId} {args : Array Value} {below : List Frame} {meth : Method} {c : Code} {G : xG} {A : Nat → Prop} {a b d : Nat → Nat} (C0 : xC p s m meth c cX1_judge 6 (none) RX1 args) (KN : xKN G s) (hA : ∀ q, s.heap.size ≤ q → A q) (S1 : tt_Row) (So0 : tt_Contest) (So2 : tt_Pasts) (k119 : tt_Contest → tt_Pasts → Option (tt_Contest × tt_Pasts)) (hk119 : ∀ (S0 : tt_Contest) (S2 : tt_Pasts), k119 S0 S2 = some (So0, So2) → ∀ (H : Heap) (locs : List Loc) (ls : Array Slot), xS G A s.heap (wd_Contest G a S0 ++ wd_Row G b S1 ++ wd_Pasts G d S2) H locs → lv_has ls 6 [(0, .ref (a 0)), (1, .ref (b 0)), (2, .ref (d 0))] → W p l e ({ frames := 5, cells := 0, slots := 0, locals := 119 }) s m args below meth c H locs 0 0 (MQ below (xQo G none A (wd_Contest G a So0 ++ wd_Row G b S1 ++ wd_Pasts G d So2)) args s 0 0 A) (F0 m 119 ls [])) : ∀ (n : Nat) (S0 : tt_Contest) (S2 : tt_Pasts) (x3 : Int32), fl_X1_judge_93 k119 S1 n S0 S2 x3 = some (So0, So2) → ∀ (H : Heap) (locs : List Loc) (ls : Array Slot), xS G A s.heap (wd_Contest G a S0 ++ wd_Row G b S1 ++ wd_Pasts G d S2) H locs → lv_has ls 6 [(0, .ref (a 0)), (1, .ref (b 0)), (2, .ref (d 0)), (3, .int x3)] → W p l e ({ frames := 5, cells := 0, slots := 0, locals := 119 }) s m args below meth c H locs 0 0 (MQ below (xQo G none A (wd_Contest G a So0 ++ wd_Row G b S1 ++ wd_Pasts G d So2)) args s 0 0 A) (F0 m 93 ls []) := by
  have hx := C0.1
  have hb := C0.2.1
  intro n
  induction n with
  | zero =>
    intro S0 S2 x3 hf
    have hf : none = some (So0, So2) := hf
    cases hf
  | succ n ih =>
    intro S0 S2 x3 hf H locs ls X hl
    rw [fl_X1_judge_93] at hf
    refine lv_iload_n (pc := 93) hx hb dX1_judge_93 rfl (lv_at hl 3 rfl) ?_
    refine lv_aload_n (pc := 94) hx hb dX1_judge_94 rfl (lv_at hl 0 rfl) ?_
    refine x_get (pc := 95) (ci := 1) C0 KN X 0 rfl rfl inlX1 1 (by decide) kw_5_4 rfl dX1_judge_95 ?_
    refine W.eq (g2 := F0 m 98 ls [.int (gf_Contest_length S0), .int x3]) rfl ?_
    refine lv_icmp_ge (pc := 98) (tgt := 119) hx hb dX1_judge_98 (by decide) (fun c_21 => ?_) (fun c_21 => ?_)
    · have hf := it_p hf c_21
      exact hk119 _ _ hf _ _ _ X (lv_sub hl [0, 1, 2] rfl)
    · have hf := it_n hf c_21
      refine lv_aload_n (pc := 101) hx hb dX1_judge_101 rfl (lv_at hl 0 rfl) ?_
      refine x_get (pc := 102) (ci := 1) C0 KN X 0 rfl rfl inlX1 0 (by decide) kw_5_3 rfl dX1_judge_102 ?_
      refine lv_iload_n (pc := 105) hx hb dX1_judge_105 rfl (lv_at hl 3 rfl) ?_
      refine lv_aload_n (pc := 106) hx hb dX1_judge_106 rfl (lv_at hl 1 rfl) ?_
      refine x_get (pc := 107) (ci := 3) C0 KN X 2 rfl rfl inlX3 0 (by decide) kw_20_21 rfl dX1_judge_107 ?_
      refine lv_iload_n (pc := 110) hx hb dX1_judge_110 rfl (lv_at hl 3 rfl) ?_
      obtain ⟨g_22, hf⟩ := gd_e hf
      refine x_ald (pc := 111) C0 KN X 3 rfl g_22 dX1_judge_111 ?_
      refine W.eq (g2 := F0 m 112 ls [.int ((gf_Row_signs S1) x3.toNatClampNeg), .int x3, .ref (a 1)]) rfl ?_
      refine lv_topi (fun y_23 ey_23 => ?_)
      have hf := lt_sb hf ey_23
      obtain ⟨g_24, hf⟩ := gd_e hf
      obtain ⟨S_25, eS_25, hf⟩ := lt_e hf
      refine x_ast (pc := 112) (ws' := wd_Contest G a S_25 ++ wd_Row G b S1 ++ wd_Pasts G d S2) C0 KN X 1 rfl g_24 (by subst eS_25; rfl) dX1_judge_112 (fun H locs X => ?_)
      obtain ⟨y_26, ey_26⟩ : ∃ y : Int32, y = x3 + (1 : Int32) := ⟨_, rfl⟩
      have hf := lt_sb hf ey_26
      refine lv_iinc (pc := 113) (v := y_26) (lv' := [(3, .int y_26), (0, .ref (a 0)), (1, .ref (b 0)), (2, .ref (d 0))]) hx hb dX1_judge_113 hl (k := 3) rfl (by rw [ey_26]; rfl) (by decide) rfl (fun ls hl => ?_)
      refine lv_goto (pc := 116) (tgt := 93) hx hb dX1_judge_116 (by decide) ?_
      exact ih _ _ _ hf _ _ _ X (lv_sub hl [1, 2, 3, 0] rfl)
theorem hd_X1_judge : yX1_judge.cls ≠ "java/lang/invoke/MethodHandle" ∧ yX1_judge.cls ≠ "java/lang/invoke/VarHandle" ∧ (parseMethodDescriptor yX1_judge.desc).map (fun d => d.parameters.length) = some 2 := by decide +kernel
set_option maxHeartbeats 4000000 in
set_option maxRecDepth 100000 in
theorem ct_X1_judge (l : Launch) (G : xG) (a b d : Nat → Nat) (S0 : tt_Contest) (S1 : tt_Row) (S2 : tt_Pasts) (So0 : tt_Contest) (So2 : tt_Pasts) (hf : fn_X1_judge S0 S1 S2 = some (So0, So2)) : xM l yX1_judge cX1_judge 6 (none) 5 119 G [.ref (a 0), .ref (b 0), .ref (d 0)] (wd_Contest G a S0 ++ wd_Row G b S1 ++ wd_Pasts G d S2) (wd_Contest G a So0 ++ wd_Row G b S1 ++ wd_Pasts G d So2) none := by
  refine xMi (by decide) (Nat.le_of_ble_eq_true rfl) ?_
  intro p e s m below meth c A C0 KN hA X ls hl
  have hx := C0.1
  have hb := C0.2.1
  have C0 : xC p s m meth c cX1_judge 6 (none) RX1 _ := C0
  have hl : lv_has ls 6 [(0, .ref (a 0)), (1, .ref (b 0)), (2, .ref (d 0))] := hl
  unfold fn_X1_judge at hf
  refine lv_aload_n (pc := 0) hx hb dX1_judge_0 rfl (lv_at hl 0 rfl) ?_
  refine lv_aload_n (pc := 1) hx hb dX1_judge_1 rfl (lv_at hl 1 rfl) ?_
  obtain ⟨r_1, h_2, hf⟩ := bd_e hf
  refine x_cv (pc := 2) (ws' := wd_Contest G a S0 ++ wd_Row G b S1 ++ wd_Pasts G d S2) (As := [.ref (b 0)]) (rest := []) (ci := 1) (qr := 0) C0 KN X hA [0, 1, 2, 3, 4, 5, 6, 7, 8, 9, 10, 11, 12] [13, 14, 15, 16, 17, 18, 19] [7, 8, 9, 10, 11, 12, 13, 14, 15, 16, 17, 18, 19, 0, 1, 2, 3, 4, 5, 6] cu_C7 rfl cu_R7 rfl (by decide) (cu_J7 (S0 := S0) (S1 := S1) (S2 := S2)) rfl (ct_X1_isJudged l G a b S0 S1 r_1 h_2) rfl rfl rfl kw_21_1 kw_20_22 kw_20_23 kw_21_0 kw_1_23 hd_X1_isJudged ⟨by decide, by decide⟩ hl.1 rfl (Nat.le_of_ble_eq_true rfl) ⟨Nat.zero_le _, Nat.zero_le _⟩ dX1_judge_2 (fun H locs X => ?_)
  refine W.eq (g2 := F0 m 5 ls [.int r_1]) rfl ?_
  refine lv_if_eq (pc := 5) (tgt := 9) hx hb dX1_judge_5 (by decide) (fun c_3 => ?_) (fun c_3 => ?_)
  · have hf := it_p hf c_3
    refine lv_iconst (pc := 9) (v := 0) hx hb dX1_judge_9 (by decide) ?_
    refine lv_istore_n (pc := 10) (lv' := [(3, .int (0 : Int32)), (0, .ref (a 0)), (1, .ref (b 0)), (2, .ref (d 0))]) hx hb dX1_judge_10 rfl hl (by decide) rfl (fun ls hl => ?_)
    refine lb_X1_judge_11 C0 KN hA S1 _ _ _ ?_ _ _ _ _ hf _ _ _ X (lv_sub hl [1, 2, 3, 0] rfl)
    · intro S0_e83_18 S2_e83_18 hf H locs ls X hl
      refine lv_aload_n (pc := 83) hx hb dX1_judge_83 rfl (lv_at hl 0 rfl) ?_
      refine lv_aload_n (pc := 84) hx hb dX1_judge_84 rfl (lv_at hl 1 rfl) ?_
      refine x_get (pc := 85) (ci := 3) C0 KN X 2 rfl rfl inlX3 4 (by decide) kw_20_20 rfl dX1_judge_85 ?_
      refine W.eq (g2 := F0 m 88 ls [.int (gf_Row_length S1), .ref (a 0)]) rfl ?_
      refine lv_topi (fun y_19 ey_19 => ?_)
      have hf := lt_sb hf ey_19
      obtain ⟨S_20, eS_20, hf⟩ := lt_e hf
      refine x_put (pc := 88) (ci := 1) (ws' := wd_Contest G a S_20 ++ wd_Row G b S1 ++ wd_Pasts G d S2_e83_18) C0 KN X 0 rfl rfl inlX1 tyX1_ok nmX1 1 (by decide) kw_5_4 rfl rfl rfl (Nat.le_of_ble_eq_true rfl) (by subst eS_20; rfl) dX1_judge_88 (fun H locs X => ?_)
      refine lv_iconst (pc := 91) (v := 0) hx hb dX1_judge_91 (by decide) ?_
      refine lv_istore_n (pc := 92) (lv' := [(3, .int (0 : Int32)), (0, .ref (a 0)), (1, .ref (b 0)), (2, .ref (d 0))]) hx hb dX1_judge_92 rfl hl (by decide) rfl (fun ls hl => ?_)
      refine lb_X1_judge_93 C0 KN hA S1 _ _ _ ?_ _ _ _ _ hf _ _ _ X (lv_sub hl [1, 2, 3, 0] rfl)
      · intro S0_e119_27 S2_e119_27 hf H locs ls X hl
        obtain ⟨rfl, rfl⟩ := so_2 hf
        exact x_vret (pc := 119) C0 X dX1_judge_119
  · have hf := it_n hf c_3
    obtain ⟨rfl, rfl⟩ := so_2 hf
    exact x_vret (pc := 8) C0 X dX1_judge_8
