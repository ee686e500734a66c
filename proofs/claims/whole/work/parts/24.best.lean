def fn_X0_price (S0 : tt_BestTree) : Option Int32 :=
  bd_ (fn_X8_nodeOf (0 : Int32) (0 : Int32)) fun r_1 => gd_ (ix_ r_1 128) (some ((gf_BestTree_prices S0) r_1.toNatClampNeg))
def fn_X0_weigh_98 (S1 : tt_Pasts) (S0 : tt_BestTree) (x4 : Int32) : Option tt_BestTree :=
  gd_ (ix_ x4 128) (lt_ (((gf_BestTree_prices S0) x4.toNatClampNeg) + (8 : Int32)) fun y_20 => gd_ (ix_ x4 128) (lt_ (sf_BestTree_prices S0 (upd (gf_BestTree_prices S0) x4.toNatClampNeg y_20)) fun S_22 => some S_22))
def fn_X0_weigh (S0 : tt_BestTree) (S1 : tt_Pasts) (x2 : Int32) (x3 : Int32) : Option tt_BestTree :=
  bd_ (fn_X8_nodeOf x2 x3) fun r_1 => gd_ (ix_ r_1 128) (lt_ ((gf_Pasts_paidAlone S1) r_1.toNatClampNeg) fun y_4 => gd_ (ix_ r_1 128) (lt_ (sf_BestTree_prices S0 (upd (gf_BestTree_prices S0) r_1.toNatClampNeg y_4)) fun S_6 => gd_ (ix_ r_1 128) (lt_ (sf_BestTree_kinds S_6 (upd (gf_BestTree_kinds S_6) r_1.toNatClampNeg (1 : Int32))) fun S_8 => if x2 < (gf_Pasts_depth S1) then bd_ (fn_X8_nodeOf (x2 + (1 : Int32)) x3) fun r_10 => gd_ (ix_ r_10 128) (bd_ (fn_X8_nodeOf (x2 + (1 : Int32)) (x3 ||| ((1 : Int32) <<< (x2 &&& 31)))) fun r_13 => gd_ (ix_ r_13 128) (lt_ (((gf_BestTree_prices S_8) r_10.toNatClampNeg) + ((gf_BestTree_prices S_8) r_13.toNatClampNeg)) fun y_16 => gd_ (ix_ r_1 128) (if ((gf_BestTree_prices S_8) r_1.toNatClampNeg) ≤ y_16 then fn_X0_weigh_98 S1 S_8 r_1 else gd_ (ix_ r_1 128) (lt_ (sf_BestTree_prices S_8 (upd (gf_BestTree_prices S_8) r_1.toNatClampNeg y_16)) fun S_24 => gd_ (ix_ r_1 128) (lt_ (sf_BestTree_kinds S_24 (upd (gf_BestTree_kinds S_24) r_1.toNatClampNeg (2 : Int32))) fun S_26 => fn_X0_weigh_98 S1 S_26 r_1))))) else some S_8)))
def fn_X0_settle_33 (S0 : tt_BestTree) (x1 : Int32) (x3 : Int32) : Option tt_BestTree :=
  gd_ (ix_ x3 128) (if ((gf_BestTree_kinds S0) x3.toNatClampNeg) = (1 : Int32) then lt_ ((gf_BestTree_leaves S0) + (1 : Int32)) fun y_6 => lt_ (sf_BestTree_leaves S0 y_6) fun S_7 => lt_ (sf_BestTree_deepest S_7 x1) fun S_8 => some S_8 else some S0)
def fn_X0_settle (S0 : tt_BestTree) (x1 : Int32) (x2 : Int32) : Option tt_BestTree :=
  bd_ (fn_X8_nodeOf x1 x2) fun r_1 => if x1 ≤ 0 then fn_X0_settle_33 S0 x1 r_1 else bd_ (fn_X8_nodeOf (x1 - (1 : Int32)) x2) fun r_9 => gd_ (ix_ r_9 128) (if ((gf_BestTree_kinds S0) r_9.toNatClampNeg) = (2 : Int32) then fn_X0_settle_33 S0 x1 r_1 else gd_ (ix_ r_1 128) (lt_ (sf_BestTree_kinds S0 (upd (gf_BestTree_kinds S0) r_1.toNatClampNeg (0 : Int32))) fun S_14 => fn_X0_settle_33 S_14 x1 r_1))
def fl_X0_grow_11 (k31 : tt_BestTree → Int32 → Option tt_BestTree) (S1 : tt_Pasts) : Nat → tt_BestTree → Int32 → Int32 → Option tt_BestTree
  | 0, _, _, _ => none
  | n + 1, S0, x2, x3 =>
  if ((1 : Int32) <<< (x2 &&& 31)) ≤ x3 then k31 S0 x2 else bd_ (fn_X0_weigh S0 S1 x2 x3) fun P_4 => lt_ (x3 + (1 : Int32)) fun y_6 => fl_X0_grow_11 k31 S1 n P_4 x2 y_6
def fl_X0_grow_5 (k37 : tt_BestTree → Option tt_BestTree) (S1 : tt_Pasts) : Nat → tt_BestTree → Int32 → Option tt_BestTree
  | 0, _, _ => none
  | n + 1, S0, x2 =>
  if x2 < 0 then k37 S0 else fl_X0_grow_11 (fun (S0_e31_7 : tt_BestTree) (x2_e31_7 : Int32) => lt_ (x2_e31_7 + (-1 : Int32)) fun y_8 => fl_X0_grow_5 k37 S1 n S0_e31_7 y_8) S1 fu_ S0 x2 (0 : Int32)
def fl_X0_grow_59 (k78 : tt_BestTree → Int32 → Option tt_BestTree) (S1 : tt_Pasts) : Nat → tt_BestTree → Int32 → Int32 → Option tt_BestTree
  | 0, _, _, _ => none
  | n + 1, S0, x2, x3 =>
  if ((1 : Int32) <<< (x2 &&& 31)) ≤ x3 then k78 S0 x2 else bd_ (fn_X0_settle S0 x2 x3) fun P_14 => lt_ (x3 + (1 : Int32)) fun y_16 => fl_X0_grow_59 k78 S1 n P_14 x2 y_16
def fl_X0_grow_49 (k84 : tt_BestTree → Option tt_BestTree) (S1 : tt_Pasts) : Nat → tt_BestTree → Int32 → Option tt_BestTree
  | 0, _, _ => none
  | n + 1, S0, x2 =>
  if (gf_Pasts_depth S1) < x2 then k84 S0 else fl_X0_grow_59 (fun (S0_e78_17 : tt_BestTree) (x2_e78_17 : Int32) => lt_ (x2_e78_17 + (1 : Int32)) fun y_18 => fl_X0_grow_49 k84 S1 n S0_e78_17 y_18) S1 fu_ S0 x2 (0 : Int32)
def fn_X0_grow (S0 : tt_BestTree) (S1 : tt_Pasts) : Option tt_BestTree :=
  lt_ (gf_Pasts_depth S1) fun y_1 => fl_X0_grow_5 (fun (S0_e37_9 : tt_BestTree) => lt_ (sf_BestTree_leaves S0_e37_9 (0 : Int32)) fun S_10 => lt_ (sf_BestTree_deepest S_10 (0 : Int32)) fun S_11 => fl_X0_grow_49 (fun (S0_e84_19 : tt_BestTree) => some S0_e84_19) S1 fu_ S_11 (0 : Int32)) S1 fu_ S0 y_1
theorem cu_C9 {G : xG} {a b : Nat → Nat} {S0 : tt_BestTree} {S1 : tt_Pasts} : [0, 1, 2, 3, 4, 5, 6, 7, 8, 9].map (fun i => (wd_BestTree G a S0 ++ wd_Pasts G b S1)[i]?) = (wd_BestTree G a S0 ++ wd_Pasts G b S1 : va_W).map some := rfl
theorem cu_R9 {G : xG} {a b : Nat → Nat} {S0 : tt_BestTree} {S1 : tt_Pasts} : ([] : List Nat).map (fun i => (wd_BestTree G a S0 ++ wd_Pasts G b S1)[i]?) = ([] : va_W).map some := rfl
theorem cu_J9 {G : xG} {a b : Nat → Nat} {S0 : tt_BestTree} {S1 : tt_Pasts} {P0 : tt_BestTree} : [0, 1, 2, 3, 4, 5, 6, 7, 8, 9].map (fun i => (([] : va_W) ++ (wd_BestTree G a P0 ++ wd_Pasts G b S1))[i]?) = (wd_BestTree G a P0 ++ wd_Pasts G b S1 : va_W).map some := rfl
theorem cu_C10 {G : xG} {a b : Nat → Nat} {S0 : tt_BestTree} {S1 : tt_Pasts} : [0, 1, 2].map (fun i => (wd_BestTree G a S0 ++ wd_Pasts G b S1)[i]?) = (wd_BestTree G a S0 : va_W).map some := rfl
theorem cu_R10 {G : xG} {a b : Nat → Nat} {S0 : tt_BestTree} {S1 : tt_Pasts} : ([3, 4, 5, 6, 7, 8, 9] : List Nat).map (fun i => (wd_BestTree G a S0 ++ wd_Pasts G b S1)[i]?) = ([(b 0, .inr (2, [.ref (b 1), .ref (b 2), .ref (b 3), .ref (b 4), .ref (b 5), .ref (b 6), .int (gf_Pasts_depth S1), .int (gf_Pasts_guesser S1), .int (gf_Pasts_past S1)])), (b 1, .inl (G.2.1, 128, .inl (gf_Pasts_zeros S1))), (b 2, .inl (G.2.1, 128, .inl (gf_Pasts_ones S1))), (b 3, .inl (G.2.1, 128, .inl (gf_Pasts_weights S1))), (b 4, .inl (G.2.1, 128, .inl (gf_Pasts_paidAlone S1))), (b 5, .inl (G.2.1, 7, .inl (gf_Pasts_owns S1))), (b 6, .inl (G.2.1, 7, .inl (gf_Pasts_guesses S1)))] : va_W).map some := rfl
theorem cu_J10 {G : xG} {a b : Nat → Nat} {S0 : tt_BestTree} {S1 : tt_Pasts} {P0 : tt_BestTree} : [7, 8, 9, 0, 1, 2, 3, 4, 5, 6].map (fun i => (([(b 0, .inr (2, [.ref (b 1), .ref (b 2), .ref (b 3), .ref (b 4), .ref (b 5), .ref (b 6), .int (gf_Pasts_depth S1), .int (gf_Pasts_guesser S1), .int (gf_Pasts_past S1)])), (b 1, .inl (G.2.1, 128, .inl (gf_Pasts_zeros S1))), (b 2, .inl (G.2.1, 128, .inl (gf_Pasts_ones S1))), (b 3, .inl (G.2.1, 128, .inl (gf_Pasts_weights S1))), (b 4, .inl (G.2.1, 128, .inl (gf_Pasts_paidAlone S1))), (b 5, .inl (G.2.1, 7, .inl (gf_Pasts_owns S1))), (b 6, .inl (G.2.1, 7, .inl (gf_Pasts_guesses S1)))] : va_W) ++ (wd_BestTree G a P0))[i]?) = (wd_BestTree G a P0 ++ wd_Pasts G b S1 : va_W).map some := rfl
theorem hd_X0_price : yX0_price.cls ≠ "java/lang/invoke/MethodHandle" ∧ yX0_price.cls ≠ "java/lang/invoke/VarHandle" ∧ (parseMethodDescriptor yX0_price.desc).map (fun d => d.parameters.length) = some 0 := by decide +kernel
set_option maxHeartbeats 4000000 in
set_option maxRecDepth 100000 in
theorem ct_X0_price (l : Launch) (G : xG) (a : Nat → Nat) (S0 : tt_BestTree) (ro : Int32) (hf : fn_X0_price S0 = some ro) : xM l yX0_price cX0_price 1 (some .int) 2 45 G [.ref (a 0)] (wd_BestTree G a S0) (wd_BestTree G a S0) (some (.int ro)) := by
  refine xMi (by decide) (Nat.le_of_ble_eq_true rfl) ?_
  intro p e s m below meth c A C0 KN hA X ls hl
  have hx := C0.1
  have hb := C0.2.1
  have C0 : xC p s m meth c cX0_price 1 (some .int) RX0 _ := C0
  have hl : lv_has ls 1 [(0, .ref (a 0))] := hl
  unfold fn_X0_price at hf
  refine lv_aload_n (pc := 0) hx hb dX0_price_0 rfl (lv_at hl 0 rfl) ?_
  refine x_get (pc := 1) (ci := 0) C0 KN X 0 rfl rfl inlX0 0 (by decide) kw_5_11 rfl dX0_price_1 ?_
  refine lv_iconst (pc := 4) (v := 0) hx hb dX0_price_4 (by decide) ?_
  refine lv_iconst (pc := 5) (v := 0) hx hb dX0_price_5 (by decide) ?_
  obtain ⟨r_1, h_2, hf⟩ := bd_e hf
  refine x_csN (pc := 6) (As := [.int (0 : Int32), .int (0 : Int32)]) (rest := [.ref (a 1)]) C0 KN (ct_X8_nodeOf l (0 : Int32) (0 : Int32) r_1 h_2) kw_4_4 (List.mem_of_getElem? (i := 17) rfl) kw_4_3 kw_1_2 hd_X8_nodeOf ⟨by decide, by decide⟩ hl.1 rfl (Nat.le_of_ble_eq_true rfl) ⟨Nat.zero_le _, Nat.zero_le _⟩ dX0_price_6 ?_
  refine W.eq (g2 := F0 m 9 ls [.int r_1, .ref (a 1)]) rfl ?_
  obtain ⟨g_3, hf⟩ := gd_e hf
  refine x_ald (pc := 9) C0 KN X 1 rfl g_3 dX0_price_9 ?_
  refine W.eq (g2 := F0 m 10 ls [.int ((gf_BestTree_prices S0) r_1.toNatClampNeg)]) rfl ?_
  obtain rfl := so_1 hf
  exact x_iret (pc := 10) C0 X dX0_price_10
set_option maxHeartbeats 4000000 in
set_option maxRecDepth 100000 in
theorem lb_X0_weigh_98 {l : Launch} {p : Program} {e : Env} {s : State} {m : MethodId} {args : Array Value} {below : List Frame} {meth : Method} {c : Code} {G : xG} {A : Nat → Prop} {a b : Nat → Nat} (C0 : xC p s m meth c cX0_weigh 6 (none) RX0 args) (KN : xKN G s) (hA : ∀ q, s.heap.size ≤ q → A q) (S1 : tt_Pasts) (So0 : tt_BestTree) : ∀ (S0 : tt_BestTree) (x4 : Int32), fn_X0_weigh_98 S1 S0 x4 = some So0 → ∀ (H : Heap) (locs : List Loc) (ls : Array Slot), xS G A s.heap (wd_BestTree G a S0 ++ wd_Pasts G b S1) H locs → lv_has ls 6 [(0, .ref (a 0)), (1, .ref (b 0)), (4, .int x4)] → W p l e ({ frames := 2, cells := 0, slots := 0, locals := 45 }) s m args below meth c H locs 0 0 (MQ below (xQo G none A (wd_BestTree G a So0 ++ wd_Pasts G b S1)) args s 0 0 A) (F0 m 98 ls []) := by
  have hx := C0.1
  have hb := C0.2.1
  intro S0 x4 hf H locs ls X hl
  unfold fn_X0_weigh_98 at hf
  refine lv_aload_n (pc := 98) hx hb dX0_weigh_98 rfl (lv_at hl 0 rfl) ?_
  refine x_get (pc := 99) (ci := 0) C0 KN X 0 rfl rfl inlX0 0 (by decide) kw_5_11 rfl dX0_weigh_99 ?_
  refine lv_iload (pc := 102) hx hb dX0_weigh_102 (lv_at hl 2 rfl) ?_
  refine lv_dup2_11 (pc := 104) hx hb dX0_weigh_104 rfl rfl ?_
  obtain ⟨g_19, hf⟩ := gd_e hf
  refine x_ald (pc := 105) C0 KN X 1 rfl g_19 dX0_weigh_105 ?_
  refine W.eq (g2 := F0 m 106 ls [.int ((gf_BestTree_prices S0) x4.toNatClampNeg), .int x4, .ref (a 1)]) rfl ?_
  refine lv_bipush (pc := 106) (v := 8) hx hb dX0_weigh_106 (by decide) ?_
  refine lv_iadd (pc := 108) hx hb dX0_weigh_108 ?_
  refine lv_topi (fun y_20 ey_20 => ?_)
  have hf := lt_sb hf ey_20
  obtain ⟨g_21, hf⟩ := gd_e hf
  obtain ⟨S_22, eS_22, hf⟩ := lt_e hf
  refine x_ast (pc := 109) (ws' := wd_BestTree G a S_22 ++ wd_Pasts G b S1) C0 KN X 1 rfl g_21 (by subst eS_22; rfl) dX0_weigh_109 (fun H locs X => ?_)
  obtain rfl := so_1 hf
  exact x_vret (pc := 110) C0 X dX0_weigh_110
theorem hd_X0_weigh : yX0_weigh.cls ≠ "java/lang/invoke/MethodHandle" ∧ yX0_weigh.cls ≠ "java/lang/invoke/VarHandle" ∧ (parseMethodDescriptor yX0_weigh.desc).map (fun d => d.parameters.length) = some 3 := by decide +kernel
set_option maxHeartbeats 4000000 in
set_option maxRecDepth 100000 in
theorem ct_X0_weigh (l : Launch) (G : xG) (a b : Nat → Nat) (S0 : tt_BestTree) (S1 : tt_Pasts) (x2 : Int32) (x3 : Int32) (So0 : tt_BestTree) (hf : fn_X0_weigh S0 S1 x2 x3 = some So0) : xM l yX0_weigh cX0_weigh 6 (none) 2 45 G [.ref (a 0), .ref (b 0), .int x2, .int x3] (wd_BestTree G a S0 ++ wd_Pasts G b S1) (wd_BestTree G a So0 ++ wd_Pasts G b S1) none := by
  refine xMi (by decide) (Nat.le_of_ble_eq_true rfl) ?_
  intro p e s m below meth c A C0 KN hA X ls hl
  have hx := C0.1
  have hb := C0.2.1
  have C0 : xC p s m meth c cX0_weigh 6 (none) RX0 _ := C0
  have hl : lv_has ls 6 [(0, .ref (a 0)), (1, .ref (b 0)), (2, .int x2), (3, .int x3)] := hl
  unfold fn_X0_weigh at hf
  refine lv_iload_n (pc := 0) hx hb dX0_weigh_0 rfl (lv_at hl 2 rfl) ?_
  refine lv_iload_n (pc := 1) hx hb dX0_weigh_1 rfl (lv_at hl 3 rfl) ?_
  obtain ⟨r_1, h_2, hf⟩ := bd_e hf
  refine x_csN (pc := 2) (As := [.int x2, .int x3]) (rest := []) C0 KN (ct_X8_nodeOf l x2 x3 r_1 h_2) kw_4_4 (List.mem_of_getElem? (i := 17) rfl) kw_4_3 kw_1_2 hd_X8_nodeOf ⟨by decide, by decide⟩ hl.1 rfl (Nat.le_of_ble_eq_true rfl) ⟨Nat.zero_le _, Nat.zero_le _⟩ dX0_weigh_2 ?_
  refine W.eq (g2 := F0 m 5 ls [.int r_1]) rfl ?_
  refine lv_istore (pc := 5) (lv' := [(4, .int r_1), (0, .ref (a 0)), (1, .ref (b 0)), (2, .int x2), (3, .int x3)]) hx hb dX0_weigh_5 hl (by decide) rfl (fun ls hl => ?_)
  refine lv_aload_n (pc := 7) hx hb dX0_weigh_7 rfl (lv_at hl 1 rfl) ?_
  refine x_get (pc := 8) (ci := 0) C0 KN X 0 rfl rfl inlX0 0 (by decide) kw_5_11 rfl dX0_weigh_8 ?_
  refine lv_iload (pc := 11) hx hb dX0_weigh_11 (lv_at hl 0 rfl) ?_
  refine lv_aload_n (pc := 13) hx hb dX0_weigh_13 rfl (lv_at hl 2 rfl) ?_
  refine x_get (pc := 14) (ci := 2) C0 KN X 3 rfl rfl inlX2 3 (by decide) kw_22_10 rfl dX0_weigh_14 ?_
  refine lv_iload (pc := 17) hx hb dX0_weigh_17 (lv_at hl 0 rfl) ?_
  obtain ⟨g_3, hf⟩ := gd_e hf
  refine x_ald (pc := 19) C0 KN X 7 rfl g_3 dX0_weigh_19 ?_
  refine W.eq (g2 := F0 m 20 ls [.int ((gf_Pasts_paidAlone S1) r_1.toNatClampNeg), .int r_1, .ref (a 1)]) rfl ?_
  refine lv_topi (fun y_4 ey_4 => ?_)
  have hf := lt_sb hf ey_4
  obtain ⟨g_5, hf⟩ := gd_e hf
  obtain ⟨S_6, eS_6, hf⟩ := lt_e hf
  refine x_ast (pc := 20) (ws' := wd_BestTree G a S_6 ++ wd_Pasts G b S1) C0 KN X 1 rfl g_5 (by subst eS_6; rfl) dX0_weigh_20 (fun H locs X => ?_)
  refine lv_aload_n (pc := 21) hx hb dX0_weigh_21 rfl (lv_at hl 1 rfl) ?_
  refine x_get (pc := 22) (ci := 0) C0 KN X 0 rfl rfl inlX0 1 (by decide) kw_5_12 rfl dX0_weigh_22 ?_
  refine lv_iload (pc := 25) hx hb dX0_weigh_25 (lv_at hl 0 rfl) ?_
  refine lv_iconst (pc := 27) (v := 1) hx hb dX0_weigh_27 (by decide) ?_
  obtain ⟨g_7, hf⟩ := gd_e hf
  obtain ⟨S_8, eS_8, hf⟩ := lt_e hf
  refine x_ast (pc := 28) (ws' := wd_BestTree G a S_8 ++ wd_Pasts G b S1) C0 KN X 2 rfl g_7 (by subst eS_8; rfl) dX0_weigh_28 (fun H locs X => ?_)
  refine lv_iload_n (pc := 29) hx hb dX0_weigh_29 rfl (lv_at hl 3 rfl) ?_
  refine lv_aload_n (pc := 30) hx hb dX0_weigh_30 rfl (lv_at hl 2 rfl) ?_
  refine x_get (pc := 31) (ci := 2) C0 KN X 3 rfl rfl inlX2 6 (by decide) kw_22_5 rfl dX0_weigh_31 ?_
  refine W.eq (g2 := F0 m 34 ls [.int (gf_Pasts_depth S1), .int x2]) rfl ?_
  refine lv_icmp_lt (pc := 34) (tgt := 38) hx hb dX0_weigh_34 (by decide) (fun c_9 => ?_) (fun c_9 => ?_)
  · have hf := it_p hf c_9
    refine lv_aload_n (pc := 38) hx hb dX0_weigh_38 rfl (lv_at hl 1 rfl) ?_
    refine x_get (pc := 39) (ci := 0) C0 KN X 0 rfl rfl inlX0 0 (by decide) kw_5_11 rfl dX0_weigh_39 ?_
    refine lv_iload_n (pc := 42) hx hb dX0_weigh_42 rfl (lv_at hl 3 rfl) ?_
    refine lv_iconst (pc := 43) (v := 1) hx hb dX0_weigh_43 (by decide) ?_
    refine lv_iadd (pc := 44) hx hb dX0_weigh_44 ?_
    refine lv_iload_n (pc := 45) hx hb dX0_weigh_45 rfl (lv_at hl 4 rfl) ?_
    obtain ⟨r_10, h_11, hf⟩ := bd_e hf
    refine x_csN (pc := 46) (As := [.int (x2 + (1 : Int32)), .int x3]) (rest := [.ref (a 1)]) C0 KN (ct_X8_nodeOf l (x2 + (1 : Int32)) x3 r_10 h_11) kw_4_4 (List.mem_of_getElem? (i := 17) rfl) kw_4_3 kw_1_2 hd_X8_nodeOf ⟨by decide, by decide⟩ hl.1 rfl (Nat.le_of_ble_eq_true rfl) ⟨Nat.zero_le _, Nat.zero_le _⟩ dX0_weigh_46 ?_
    refine W.eq (g2 := F0 m 49 ls [.int r_10, .ref (a 1)]) rfl ?_
    obtain ⟨g_12, hf⟩ := gd_e hf
    refine x_ald (pc := 49) C0 KN X 1 rfl g_12 dX0_weigh_49 ?_
    refine W.eq (g2 := F0 m 50 ls [.int ((gf_BestTree_prices S_8) r_10.toNatClampNeg)]) rfl ?_
    refine lv_aload_n (pc := 50) hx hb dX0_weigh_50 rfl (lv_at hl 1 rfl) ?_
    refine x_get (pc := 51) (ci := 0) C0 KN X 0 rfl rfl inlX0 0 (by decide) kw_5_11 rfl dX0_weigh_51 ?_
    refine lv_iload_n (pc := 54) hx hb dX0_weigh_54 rfl (lv_at hl 3 rfl) ?_
    refine lv_iconst (pc := 55) (v := 1) hx hb dX0_weigh_55 (by decide) ?_
    refine lv_iadd (pc := 56) hx hb dX0_weigh_56 ?_
    refine lv_iload_n (pc := 57) hx hb dX0_weigh_57 rfl (lv_at hl 4 rfl) ?_
    refine lv_iconst (pc := 58) (v := 1) hx hb dX0_weigh_58 (by decide) ?_
    refine lv_iload_n (pc := 59) hx hb dX0_weigh_59 rfl (lv_at hl 3 rfl) ?_
    refine lv_ishl (pc := 60) hx hb dX0_weigh_60 ?_
    refine lv_ior (pc := 61) hx hb dX0_weigh_61 ?_
    obtain ⟨r_13, h_14, hf⟩ := bd_e hf
    refine x_csN (pc := 62) (As := [.int (x2 + (1 : Int32)), .int (x3 ||| ((1 : Int32) <<< (x2 &&& 31)))]) (rest := [.ref (a 1), .int ((gf_BestTree_prices S_8) r_10.toNatClampNeg)]) C0 KN (ct_X8_nodeOf l (x2 + (1 : Int32)) (x3 ||| ((1 : Int32) <<< (x2 &&& 31))) r_13 h_14) kw_4_4 (List.mem_of_getElem? (i := 17) rfl) kw_4_3 kw_1_2 hd_X8_nodeOf ⟨by decide, by decide⟩ hl.1 rfl (Nat.le_of_ble_eq_true rfl) ⟨Nat.zero_le _, Nat.zero_le _⟩ dX0_weigh_62 ?_
    refine W.eq (g2 := F0 m 65 ls [.int r_13, .ref (a 1), .int ((gf_BestTree_prices S_8) r_10.toNatClampNeg)]) rfl ?_
    obtain ⟨g_15, hf⟩ := gd_e hf
    refine x_ald (pc := 65) C0 KN X 1 rfl g_15 dX0_weigh_65 ?_
    refine W.eq (g2 := F0 m 66 ls [.int ((gf_BestTree_prices S_8) r_13.toNatClampNeg), .int ((gf_BestTree_prices S_8) r_10.toNatClampNeg)]) rfl ?_
    refine lv_iadd (pc := 66) hx hb dX0_weigh_66 ?_
    refine lv_topi (fun y_16 ey_16 => ?_)
    have hf := lt_sb hf ey_16
    refine lv_istore (pc := 67) (lv' := [(5, .int y_16), (4, .int r_1), (0, .ref (a 0)), (1, .ref (b 0)), (2, .int x2), (3, .int x3)]) hx hb dX0_weigh_67 hl (by decide) rfl (fun ls hl => ?_)
    refine lv_iload (pc := 69) hx hb dX0_weigh_69 (lv_at hl 0 rfl) ?_
    refine lv_aload_n (pc := 71) hx hb dX0_weigh_71 rfl (lv_at hl 2 rfl) ?_
    refine x_get (pc := 72) (ci := 0) C0 KN X 0 rfl rfl inlX0 0 (by decide) kw_5_11 rfl dX0_weigh_72 ?_
    refine lv_iload (pc := 75) hx hb dX0_weigh_75 (lv_at hl 1 rfl) ?_
    obtain ⟨g_17, hf⟩ := gd_e hf
    refine x_ald (pc := 77) C0 KN X 1 rfl g_17 dX0_weigh_77 ?_
    refine W.eq (g2 := F0 m 78 ls [.int ((gf_BestTree_prices S_8) r_1.toNatClampNeg), .int y_16]) rfl ?_
    refine lv_icmp_ge (pc := 78) (tgt := 98) hx hb dX0_weigh_78 (by decide) (fun c_18 => ?_) (fun c_18 => ?_)
    · have hf := it_p hf c_18
      exact lb_X0_weigh_98 C0 KN hA S1 _  _ _ hf _ _ _ X (lv_sub hl [2, 3, 1] rfl)
    · have hf := it_n hf c_18
      refine lv_aload_n (pc := 81) hx hb dX0_weigh_81 rfl (lv_at hl 2 rfl) ?_
      refine x_get (pc := 82) (ci := 0) C0 KN X 0 rfl rfl inlX0 0 (by decide) kw_5_11 rfl dX0_weigh_82 ?_
      refine lv_iload (pc := 85) hx hb dX0_weigh_85 (lv_at hl 1 rfl) ?_
      refine lv_iload (pc := 87) hx hb dX0_weigh_87 (lv_at hl 0 rfl) ?_
      obtain ⟨g_23, hf⟩ := gd_e hf
      obtain ⟨S_24, eS_24, hf⟩ := lt_e hf
      refine x_ast (pc := 89) (ws' := wd_BestTree G a S_24 ++ wd_Pasts G b S1) C0 KN X 1 rfl g_23 (by subst eS_24; rfl) dX0_weigh_89 (fun H locs X => ?_)
      refine lv_aload_n (pc := 90) hx hb dX0_weigh_90 rfl (lv_at hl 2 rfl) ?_
      refine x_get (pc := 91) (ci := 0) C0 KN X 0 rfl rfl inlX0 1 (by decide) kw_5_12 rfl dX0_weigh_91 ?_
      refine lv_iload (pc := 94) hx hb dX0_weigh_94 (lv_at hl 1 rfl) ?_
      refine lv_iconst (pc := 96) (v := 2) hx hb dX0_weigh_96 (by decide) ?_
      obtain ⟨g_25, hf⟩ := gd_e hf
      obtain ⟨S_26, eS_26, hf⟩ := lt_e hf
      refine x_ast (pc := 97) (ws' := wd_BestTree G a S_26 ++ wd_Pasts G b S1) C0 KN X 2 rfl g_25 (by subst eS_26; rfl) dX0_weigh_97 (fun H locs X => ?_)
      exact lb_X0_weigh_98 C0 KN hA S1 _  _ _ hf _ _ _ X (lv_sub hl [2, 3, 1] rfl)
  · have hf := it_n hf c_9
    obtain rfl := so_1 hf
    exact x_vret (pc := 37) C0 X dX0_weigh_37
set_option maxHeartbeats 4000000 in
set_option maxRecDepth 100000 in
theorem lb_X0_settle_33 {l : Launch} {p : Program} {e : Env} {s : State} {m : MethodId} {args : Array Value} {below : List Frame} {meth : Method} {c : Code} {G : xG} {A : Nat → Prop} {a : Nat → Nat} (C0 : xC p s m meth c cX0_settle 4 (none) RX0 args) (KN : xKN G s) (hA : ∀ q, s.heap.size ≤ q → A q) (So0 : tt_BestTree) : ∀ (S0 : tt_BestTree) (x1 : Int32) (x3 : Int32), fn_X0_settle_33 S0 x1 x3 = some So0 → ∀ (H : Heap) (locs : List Loc) (ls : Array Slot), xS G A s.heap (wd_BestTree G a S0) H locs → lv_has ls 4 [(0, .ref (a 0)), (1, .int x1), (3, .int x3)] → W p l e ({ frames := 2, cells := 0, slots := 0, locals := 45 }) s m args below meth c H locs 0 0 (MQ below (xQo G none A (wd_BestTree G a So0)) args s 0 0 A) (F0 m 33 ls []) := by
  have hx := C0.1
  have hb := C0.2.1
  intro S0 x1 x3 hf H locs ls X hl
  unfold fn_X0_settle_33 at hf
  refine lv_aload_n (pc := 33) hx hb dX0_settle_33 rfl (lv_at hl 0 rfl) ?_
  refine x_get (pc := 34) (ci := 0) C0 KN X 0 rfl rfl inlX0 1 (by decide) kw_5_12 rfl dX0_settle_34 ?_
  refine lv_iload_n (pc := 37) hx hb dX0_settle_37 rfl (lv_at hl 2 rfl) ?_
  obtain ⟨g_4, hf⟩ := gd_e hf
  refine x_ald (pc := 38) C0 KN X 2 rfl g_4 dX0_settle_38 ?_
  refine W.eq (g2 := F0 m 39 ls [.int ((gf_BestTree_kinds S0) x3.toNatClampNeg)]) rfl ?_
  refine lv_iconst (pc := 39) (v := 1) hx hb dX0_settle_39 (by decide) ?_
  refine lv_icmp_eq (pc := 40) (tgt := 44) hx hb dX0_settle_40 (by decide) (fun c_5 => ?_) (fun c_5 => ?_)
  · have hf := it_p hf c_5
    refine lv_aload_n (pc := 44) hx hb dX0_settle_44 rfl (lv_at hl 0 rfl) ?_
    refine lv_dup (pc := 45) hx hb dX0_settle_45 rfl ?_
    refine x_get (pc := 46) (ci := 0) C0 KN X 0 rfl rfl inlX0 2 (by decide) kw_5_13 rfl dX0_settle_46 ?_
    refine W.eq (g2 := F0 m 49 ls [.int (gf_BestTree_leaves S0), .ref (a 0)]) rfl ?_
    refine lv_iconst (pc := 49) (v := 1) hx hb dX0_settle_49 (by decide) ?_
    refine lv_iadd (pc := 50) hx hb dX0_settle_50 ?_
    refine lv_topi (fun y_6 ey_6 => ?_)
    have hf := lt_sb hf ey_6
    obtain ⟨S_7, eS_7, hf⟩ := lt_e hf
    refine x_put (pc := 51) (ci := 0) (ws' := wd_BestTree G a S_7) C0 KN X 0 rfl rfl inlX0 tyX0_ok nmX0 2 (by decide) kw_5_13 rfl rfl rfl (Nat.le_of_ble_eq_true rfl) (by subst eS_7; rfl) dX0_settle_51 (fun H locs X => ?_)
    refine lv_aload_n (pc := 54) hx hb dX0_settle_54 rfl (lv_at hl 0 rfl) ?_
    refine lv_iload_n (pc := 55) hx hb dX0_settle_55 rfl (lv_at hl 1 rfl) ?_
    obtain ⟨S_8, eS_8, hf⟩ := lt_e hf
    refine x_put (pc := 56) (ci := 0) (ws' := wd_BestTree G a S_8) C0 KN X 0 rfl rfl inlX0 tyX0_ok nmX0 3 (by decide) kw_5_14 rfl rfl rfl (Nat.le_of_ble_eq_true rfl) (by subst eS_8; rfl) dX0_settle_56 (fun H locs X => ?_)
    obtain rfl := so_1 hf
    exact x_vret (pc := 59) C0 X dX0_settle_59
  · have hf := it_n hf c_5
    obtain rfl := so_1 hf
    exact x_vret (pc := 43) C0 X dX0_settle_43
theorem hd_X0_settle : yX0_settle.cls ≠ "java/lang/invoke/MethodHandle" ∧ yX0_settle.cls ≠ "java/lang/invoke/VarHandle" ∧ (parseMethodDescriptor yX0_settle.desc).map (fun d => d.parameters.length) = some 2 := by decide +kernel
set_option maxHeartbeats 4000000 in
set_option maxRecDepth 100000 in
theorem ct_X0_settle (l : Launch) (G : xG) (a : Nat → Nat) (S0 : tt_BestTree) (x1 : Int32) (x2 : Int32) (So0 : tt_BestTree) (hf : fn_X0_settle S0 x1 x2 = some So0) : xM l yX0_settle cX0_settle 4 (none) 2 45 G [.ref (a 0), .int x1, .int x2] (wd_BestTree G a S0) (wd_BestTree G a So0) none := by
  refine xMi (by decide) (Nat.le_of_ble_eq_true rfl) ?_
  intro p e s m below meth c A C0 KN hA X ls hl
  have hx := C0.1
  have hb := C0.2.1
  have C0 : xC p s m meth c cX0_settle 4 (none) RX0 _ := C0
  have hl : lv_has ls 4 [(0, .ref (a 0)), (1, .int x1), (2, .int x2)] := hl
  unfold fn_X0_settle at hf
  refine lv_iload_n (pc := 0) hx hb dX0_settle_0 rfl (lv_at hl 1 rfl) ?_
  refine lv_iload_n (pc := 1) hx hb dX0_settle_1 rfl (lv_at hl 2 rfl) ?_
  obtain ⟨r_1, h_2, hf⟩ := bd_e hf
  refine x_csN (pc := 2) (As := [.int x1, .int x2]) (rest := []) C0 KN (ct_X8_nodeOf l x1 x2 r_1 h_2) kw_4_4 (List.mem_of_getElem? (i := 17) rfl) kw_4_3 kw_1_2 hd_X8_nodeOf ⟨by decide, by decide⟩ hl.1 rfl (Nat.le_of_ble_eq_true rfl) ⟨Nat.zero_le _, Nat.zero_le _⟩ dX0_settle_2 ?_
  refine W.eq (g2 := F0 m 5 ls [.int r_1]) rfl ?_
  refine lv_istore_n (pc := 5) (lv' := [(3, .int r_1), (0, .ref (a 0)), (1, .int x1), (2, .int x2)]) hx hb dX0_settle_5 rfl hl (by decide) rfl (fun ls hl => ?_)
  refine lv_iload_n (pc := 6) hx hb dX0_settle_6 rfl (lv_at hl 2 rfl) ?_
  refine lv_if_le (pc := 7) (tgt := 33) hx hb dX0_settle_7 (by decide) (fun c_3 => ?_) (fun c_3 => ?_)
  · have hf := it_p hf c_3
    exact lb_X0_settle_33 C0 KN hA _  _ _ _ hf _ _ _ X (lv_sub hl [1, 2, 0] rfl)
  · have hf := it_n hf c_3
    refine lv_aload_n (pc := 10) hx hb dX0_settle_10 rfl (lv_at hl 1 rfl) ?_
    refine x_get (pc := 11) (ci := 0) C0 KN X 0 rfl rfl inlX0 1 (by decide) kw_5_12 rfl dX0_settle_11 ?_
    refine lv_iload_n (pc := 14) hx hb dX0_settle_14 rfl (lv_at hl 2 rfl) ?_
    refine lv_iconst (pc := 15) (v := 1) hx hb dX0_settle_15 (by decide) ?_
    refine lv_isub (pc := 16) hx hb dX0_settle_16 ?_
    refine lv_iload_n (pc := 17) hx hb dX0_settle_17 rfl (lv_at hl 3 rfl) ?_
    obtain ⟨r_9, h_10, hf⟩ := bd_e hf
    refine x_csN (pc := 18) (As := [.int (x1 - (1 : Int32)), .int x2]) (rest := [.ref (a 2)]) C0 KN (ct_X8_nodeOf l (x1 - (1 : Int32)) x2 r_9 h_10) kw_4_4 (List.mem_of_getElem? (i := 17) rfl) kw_4_3 kw_1_2 hd_X8_nodeOf ⟨by decide, by decide⟩ hl.1 rfl (Nat.le_of_ble_eq_true rfl) ⟨Nat.zero_le _, Nat.zero_le _⟩ dX0_settle_18 ?_
    refine W.eq (g2 := F0 m 21 ls [.int r_9, .ref (a 2)]) rfl ?_
    obtain ⟨g_11, hf⟩ := gd_e hf
    refine x_ald (pc := 21) C0 KN X 2 rfl g_11 dX0_settle_21 ?_
    refine W.eq (g2 := F0 m 22 ls [.int ((gf_BestTree_kinds S0) r_9.toNatClampNeg)]) rfl ?_
    refine lv_iconst (pc := 22) (v := 2) hx hb dX0_settle_22 (by decide) ?_
    refine lv_icmp_eq (pc := 23) (tgt := 33) hx hb dX0_settle_23 (by decide) (fun c_12 => ?_) (fun c_12 => ?_)
    · have hf := it_p hf c_12
      exact lb_X0_settle_33 C0 KN hA _  _ _ _ hf _ _ _ X (lv_sub hl [1, 2, 0] rfl)
    · have hf := it_n hf c_12
      refine lv_aload_n (pc := 26) hx hb dX0_settle_26 rfl (lv_at hl 1 rfl) ?_
      refine x_get (pc := 27) (ci := 0) C0 KN X 0 rfl rfl inlX0 1 (by decide) kw_5_12 rfl dX0_settle_27 ?_
      refine lv_iload_n (pc := 30) hx hb dX0_settle_30 rfl (lv_at hl 0 rfl) ?_
      refine lv_iconst (pc := 31) (v := 0) hx hb dX0_settle_31 (by decide) ?_
      obtain ⟨g_13, hf⟩ := gd_e hf
      obtain ⟨S_14, eS_14, hf⟩ := lt_e hf
      refine x_ast (pc := 32) (ws' := wd_BestTree G a S_14) C0 KN X 2 rfl g_13 (by subst eS_14; rfl) dX0_settle_32 (fun H locs X => ?_)
      exact lb_X0_settle_33 C0 KN hA _  _ _ _ hf _ _ _ X (lv_sub hl [1, 2, 0] rfl)
set_option maxHeartbeats 4000000 in
set_option maxRecDepth 100000 in
theorem lb_X0_grow_11 {l : Launch} {p : Program} {e : Env} {s : State} {m : MethodId} {args : Array Value} {below : List Frame} {meth : Method} {c : Code} {G : xG} {A : Nat → Prop} {a b : Nat → Nat} (C0 : xC p s m meth c cX0_grow 4 (none) RX0 args) (KN : xKN G s) (hA : ∀ q, s.heap.size ≤ q → A q) (S1 : tt_Pasts) (So0 : tt_BestTree) (k31 : tt_BestTree → Int32 → Option tt_BestTree) (hk31 : ∀ (S0 : tt_BestTree) (x2 : Int32), k31 S0 x2 = some So0 → ∀ (H : Heap) (locs : List Loc) (ls : Array Slot), xS G A s.heap (wd_BestTree G a S0 ++ wd_Pasts G b S1) H locs → lv_has ls 4 [(0, .ref (a 0)), (1, .ref (b 0)), (2, .int x2)] → W p l e ({ frames := 3, cells := 0, slots := 0, locals := 70 }) s m args below meth c H locs 0 0 (MQ below (xQo G none A (wd_BestTree G a So0 ++ wd_Pasts G b S1)) args s 0 0 A) (F0 m 31 ls [])) : ∀ (n : Nat) (S0 : tt_BestTree) (x2 : Int32) (x3 : Int32), fl_X0_grow_11 k31 S1 n S0 x2 x3 = some So0 → ∀ (H : Heap) (locs : List Loc) (ls : Array Slot), xS G A s.heap (wd_BestTree G a S0 ++ wd_Pasts G b S1) H locs → lv_has ls 4 [(0, .ref (a 0)), (1, .ref (b 0)), (2, .int x2), (3, .int x3)] → W p l e ({ frames := 3, cells := 0, slots := 0, locals := 70 }) s m args below meth c H locs 0 0 (MQ below (xQo G none A (wd_BestTree G a So0 ++ wd_Pasts G b S1)) args s 0 0 A) (F0 m 11 ls []) := by
  have hx := C0.1
  have hb := C0.2.1
  intro n
  induction n with
  | zero =>
    intro S0 x2 x3 hf
    have hf : none = some So0 := hf
    cases hf
  | succ n ih =>
    intro S0 x2 x3 hf H locs ls X hl
    rw [fl_X0_grow_11] at hf
    refine lv_iload_n (pc := 11) hx hb dX0_grow_11 rfl (lv_at hl 3 rfl) ?_
    refine lv_iconst (pc := 12) (v := 1) hx hb dX0_grow_12 (by decide) ?_
    refine lv_iload_n (pc := 13) hx hb dX0_grow_13 rfl (lv_at hl 2 rfl) ?_
    refine lv_ishl (pc := 14) hx hb dX0_grow_14 ?_
    refine lv_icmp_ge (pc := 15) (tgt := 31) hx hb dX0_grow_15 (by decide) (fun c_3 => ?_) (fun c_3 => ?_)
    · have hf := it_p hf c_3
      exact hk31 _ _ hf _ _ _ X (lv_sub hl [0, 1, 2] rfl)
    · have hf := it_n hf c_3
      refine lv_aload_n (pc := 18) hx hb dX0_grow_18 rfl (lv_at hl 0 rfl) ?_
      refine lv_aload_n (pc := 19) hx hb dX0_grow_19 rfl (lv_at hl 1 rfl) ?_
      refine lv_iload_n (pc := 20) hx hb dX0_grow_20 rfl (lv_at hl 2 rfl) ?_
      refine lv_iload_n (pc := 21) hx hb dX0_grow_21 rfl (lv_at hl 3 rfl) ?_
      obtain ⟨P_4, h_5, hf⟩ := bd_e hf
      refine x_cv (pc := 22) (ws' := wd_BestTree G a P_4 ++ wd_Pasts G b S1) (As := [.ref (b 0), .int x2, .int x3]) (rest := []) (ci := 0) (qr := 0) C0 KN X hA [0, 1, 2, 3, 4, 5, 6, 7, 8, 9] [] [0, 1, 2, 3, 4, 5, 6, 7, 8, 9] cu_C9 rfl cu_R9 rfl (by decide) (cu_J9 (S0 := S0) (S1 := S1)) rfl (ct_X0_weigh l G a b S0 S1 x2 x3 P_4 h_5) rfl rfl rfl kw_22_9 kw_22_6 kw_22_7 kw_22_8 kw_2_3 hd_X0_weigh ⟨by decide, by decide⟩ hl.1 rfl (Nat.le_of_ble_eq_true rfl) ⟨Nat.zero_le _, Nat.zero_le _⟩ dX0_grow_22 (fun H locs X => ?_)
      refine W.eq (g2 := F0 m 25 ls []) rfl ?_
      obtain ⟨y_6, ey_6⟩ : ∃ y : Int32, y = x3 + (1 : Int32) := ⟨_, rfl⟩
      have hf := lt_sb hf ey_6
      refine lv_iinc (pc := 25) (v := y_6) (lv' := [(3, .int y_6), (0, .ref (a 0)), (1, .ref (b 0)), (2, .int x2)]) hx hb dX0_grow_25 hl (k := 3) rfl (by rw [ey_6]; rfl) (by decide) rfl (fun ls hl => ?_)
      refine lv_goto (pc := 28) (tgt := 11) hx hb dX0_grow_28 (by decide) ?_
      exact ih _ _ _ hf _ _ _ X (lv_sub hl [1, 2, 3, 0] rfl)
set_option maxHeartbeats 4000000 in
set_option maxRecDepth 100000 in
theorem lb_X0_grow_5 {l : Launch} {p : Program} {e : Env} {s : State} {m : MethodId} {args : Array Value} {below : List Frame} {meth : Method} {c : Code} {G : xG} {A : Nat → Prop} {a b : Nat → Nat} (C0 : xC p s m meth c cX0_grow 4 (none) RX0 args) (KN : xKN G s) (hA : ∀ q, s.heap.size ≤ q → A q) (S1 : tt_Pasts) (So0 : tt_BestTree) (k37 : tt_BestTree → Option tt_BestTree) (hk37 : ∀ (S0 : tt_BestTree), k37 S0 = some So0 → ∀ (H : Heap) (locs : List Loc) (ls : Array Slot), xS G A s.heap (wd_BestTree G a S0 ++ wd_Pasts G b S1) H locs → lv_has ls 4 [(0, .ref (a 0)), (1, .ref (b 0))] → W p l e ({ frames := 3, cells := 0, slots := 0, locals := 70 }) s m args below meth c H locs 0 0 (MQ below (xQo G none A (wd_BestTree G a So0 ++ wd_Pasts G b S1)) args s 0 0 A) (F0 m 37 ls [])) : ∀ (n : Nat) (S0 : tt_BestTree) (x2 : Int32), fl_X0_grow_5 k37 S1 n S0 x2 = some So0 → ∀ (H : Heap) (locs : List Loc) (ls : Array Slot), xS G A s.heap (wd_BestTree G a S0 ++ wd_Pasts G b S1) H locs → lv_has ls 4 [(0, .ref (a 0)), (1, .ref (b 0)), (2, .int x2)] → W p l e ({ frames := 3, cells := 0, slots := 0, locals := 70 }) s m args below meth c H locs 0 0 (MQ below (xQo G none A (wd_BestTree G a So0 ++ wd_Pasts G b S1)) args s 0 0 A) (F0 m 5 ls []) := by
  have hx := C0.1
  have hb := C0.2.1
  intro n
  induction n with
  | zero =>
    intro S0 x2 hf
    have hf : none = some So0 := hf
    cases hf
  | succ n ih =>
    intro S0 x2 hf H locs ls X hl
    rw [fl_X0_grow_5] at hf
    refine lv_iload_n (pc := 5) hx hb dX0_grow_5 rfl (lv_at hl 2 rfl) ?_
    refine lv_if_lt (pc := 6) (tgt := 37) hx hb dX0_grow_6 (by decide) (fun c_2 => ?_) (fun c_2 => ?_)
    · have hf := it_p hf c_2
      exact hk37 _ hf _ _ _ X (lv_sub hl [0, 1] rfl)
    · have hf := it_n hf c_2
      refine lv_iconst (pc := 9) (v := 0) hx hb dX0_grow_9 (by decide) ?_
      refine lv_istore_n (pc := 10) (lv' := [(3, .int (0 : Int32)), (0, .ref (a 0)), (1, .ref (b 0)), (2, .int x2)]) hx hb dX0_grow_10 rfl hl (by decide) rfl (fun ls hl => ?_)
      refine lb_X0_grow_11 C0 KN hA S1 _ _ ?_ _ _ _ _ hf _ _ _ X (lv_sub hl [1, 2, 3, 0] rfl)
      · intro S0_e31_7 x2_e31_7 hf H locs ls X hl
        obtain ⟨y_8, ey_8⟩ : ∃ y : Int32, y = x2_e31_7 + (-1 : Int32) := ⟨_, rfl⟩
        have hf := lt_sb hf ey_8
        refine lv_iinc (pc := 31) (v := y_8) (lv' := [(2, .int y_8), (0, .ref (a 0)), (1, .ref (b 0))]) hx hb dX0_grow_31 hl (k := 2) rfl (by rw [ey_8]; rfl) (by decide) rfl (fun ls hl => ?_)
        refine lv_goto (pc := 34) (tgt := 5) hx hb dX0_grow_34 (by decide) ?_
        exact ih _ _ hf _ _ _ X (lv_sub hl [1, 2, 0] rfl)
set_option maxHeartbeats 4000000 in
set_option maxRecDepth 100000 in
theorem lb_X0_grow_59 {l : Launch} {p : Program} {e : Env} {s : State} {m : MethodId} {args : Array Value} {below : List Frame} {meth : Method} {c : Code} {G : xG} {A : Nat → Prop} {a b : Nat → Nat} (C0 : xC p s m meth c cX0_grow 4 (none) RX0 args) (KN : xKN G s) (hA : ∀ q, s.heap.size ≤ q → A q) (S1 : tt_Pasts) (So0 : tt_BestTree) (k78 : tt_BestTree → Int32 → Option tt_BestTree) (hk78 : ∀ (S0 : tt_BestTree) (x2 : Int32), k78 S0 x2 = some So0 → ∀ (H : Heap) (locs : List Loc) (ls : Array Slot), xS G A s.heap (wd_BestTree G a S0 ++ wd_Pasts G b S1) H locs → lv_has ls 4 [(0, .ref (a 0)), (1, .ref (b 0)), (2, .int x2)] → W p l e ({ frames := 3, cells := 0, slots := 0, locals := 70 }) s m args below meth c H locs 0 0 (MQ below (xQo G none A (wd_BestTree G a So0 ++ wd_Pasts G b S1)) args s 0 0 A) (F0 m 78 ls [])) : ∀ (n : Nat) (S0 : tt_BestTree) (x2 : Int32) (x3 : Int32), fl_X0_grow_59 k78 S1 n S0 x2 x3 = some So0 → ∀ (H : Heap) (locs : List Loc) (ls : Array Slot), xS G A s.heap (wd_BestTree G a S0 ++ wd_Pasts G b S1) H locs → lv_has ls 4 [(0, .ref (a 0)), (1, .ref (b 0)), (2, .int x2), (3, .int x3)] → W p l e ({ frames := 3, cells := 0, slots := 0, locals := 70 }) s m args below meth c H locs 0 0 (MQ below (xQo G none A (wd_BestTree G a So0 ++ wd_Pasts G b S1)) args s 0 0 A) (F0 m 59 ls []) := by
  have hx := C0.1
  have hb := C0.2.1
  intro n
  induction n with
  | zero =>
    intro S0 x2 x3 hf
    have hf : none = some So0 := hf
    cases hf
  | succ n ih =>
    intro S0 x2 x3 hf H locs ls X hl
    rw [fl_X0_grow_59] at hf
    refine lv_iload_n (pc := 59) hx hb dX0_grow_59 rfl (lv_at hl 3 rfl) ?_
    refine lv_iconst (pc := 60) (v := 1) hx hb dX0_grow_60 (by decide) ?_
    refine lv_iload_n (pc := 61) hx hb dX0_grow_61 rfl (lv_at hl 2 rfl) ?_
    refine lv_ishl (pc := 62) hx hb dX0_grow_62 ?_
    refine lv_icmp_ge (pc := 63) (tgt := 78) hx hb dX0_grow_63 (by decide) (fun c_13 => ?_) (fun c_13 => ?_)
    · have hf := it_p hf c_13
      exact hk78 _ _ hf _ _ _ X (lv_sub hl [0, 1, 2] rfl)
    · have hf := it_n hf c_13
      refine lv_aload_n (pc := 66) hx hb dX0_grow_66 rfl (lv_at hl 0 rfl) ?_
      refine lv_iload_n (pc := 67) hx hb dX0_grow_67 rfl (lv_at hl 2 rfl) ?_
      refine lv_iload_n (pc := 68) hx hb dX0_grow_68 rfl (lv_at hl 3 rfl) ?_
      obtain ⟨P_14, h_15, hf⟩ := bd_e hf
      refine x_cv (pc := 69) (ws' := wd_BestTree G a P_14 ++ wd_Pasts G b S1) (As := [.int x2, .int x3]) (rest := []) (ci := 0) (qr := 0) C0 KN X hA [0, 1, 2] [3, 4, 5, 6, 7, 8, 9] [7, 8, 9, 0, 1, 2, 3, 4, 5, 6] cu_C10 rfl cu_R10 rfl (by decide) (cu_J10 (S0 := S0) (S1 := S1)) rfl (ct_X0_settle l G a S0 x2 x3 P_14 h_15) rfl rfl rfl kw_22_14 kw_22_11 kw_22_12 kw_22_13 kw_2_3 hd_X0_settle ⟨by decide, by decide⟩ hl.1 rfl (Nat.le_of_ble_eq_true rfl) ⟨Nat.zero_le _, Nat.zero_le _⟩ dX0_grow_69 (fun H locs X => ?_)
      refine W.eq (g2 := F0 m 72 ls []) rfl ?_
      obtain ⟨y_16, ey_16⟩ : ∃ y : Int32, y = x3 + (1 : Int32) := ⟨_, rfl⟩
      have hf := lt_sb hf ey_16
      refine lv_iinc (pc := 72) (v := y_16) (lv' := [(3, .int y_16), (0, .ref (a 0)), (1, .ref (b 0)), (2, .int x2)]) hx hb dX0_grow_72 hl (k := 3) rfl (by rw [ey_16]; rfl) (by decide) rfl (fun ls hl => ?_)
      refine lv_goto (pc := 75) (tgt := 59) hx hb dX0_grow_75 (by decide) ?_
      exact ih _ _ _ hf _ _ _ X (lv_sub hl [1, 2, 3, 0] rfl)
set_option maxHeartbeats 4000000 in
set_option maxRecDepth 100000 in
theorem lb_X0_grow_49 {l : Launch} {p : Program} {e : Env} {s : State} {m : MethodId} {args : Array Value} {below : List Frame} {meth : Method} {c : Code} {G : xG} {A : Nat → Prop} {a b : Nat → Nat} (C0 : xC p s m meth c cX0_grow 4 (none) RX0 args) (KN : xKN G s) (hA : ∀ q, s.heap.size ≤ q → A q) (S1 : tt_Pasts) (So0 : tt_BestTree) (k84 : tt_BestTree → Option tt_BestTree) (hk84 : ∀ (S0 : tt_BestTree), k84 S0 = some So0 → ∀ (H : Heap) (locs : List Loc) (ls : Array Slot), xS G A s.heap (wd_BestTree G a S0 ++ wd_Pasts G b S1) H locs → lv_has ls 4 [(0, .ref (a 0)), (1, .ref (b 0))] → W p l e ({ frames := 3, cells := 0, slots := 0, locals := 70 }) s m args below meth c H locs 0 0 (MQ below (xQo G none A (wd_BestTree G a So0 ++ wd_Pasts G b S1)) args s 0 0 A) (F0 m 84 ls [])) : ∀ (n : Nat) (S0 : tt_BestTree) (x2 : Int32), fl_X0_grow_49 k84 S1 n S0 x2 = some So0 → ∀ (H : Heap) (locs : List Loc) (ls : Array Slot), xS G A s.heap (wd_BestTree G a S0 ++ wd_Pasts G b S1) H locs → lv_has ls 4 [(0, .ref (a 0)), (1, .ref (b 0)), (2, .int x2)] → W p l e ({ frames := 3, cells := 0, slots := 0, locals := 70 }) s m args below meth c H locs 0 0 (MQ below (xQo G none A (wd_BestTree G a So0 ++ wd_Pasts G b S1)) args s 0 0 A) (F0 m 49 ls []) := by
  have hx := C0.1
  have hb := C0.2.1
  intro n
  induction n with
  | zero =>
    intro S0 x2 hf
    have hf : none = some So0 := hf
    cases hf
  | succ n ih =>
    intro S0 x2 hf H locs ls X hl
    rw [fl_X0_grow_49] at hf
    refine lv_iload_n (pc := 49) hx hb dX0_grow_49 rfl (lv_at hl 2 rfl) ?_
    refine lv_aload_n (pc := 50) hx hb dX0_grow_50 rfl (lv_at hl 1 rfl) ?_
    refine x_get (pc := 51) (ci := 2) C0 KN X 3 rfl rfl inlX2 6 (by decide) kw_22_5 rfl dX0_grow_51 ?_
    refine W.eq (g2 := F0 m 54 ls [.int (gf_Pasts_depth S1), .int x2]) rfl ?_
    refine lv_icmp_gt (pc := 54) (tgt := 84) hx hb dX0_grow_54 (by decide) (fun c_12 => ?_) (fun c_12 => ?_)
    · have hf := it_p hf c_12
      exact hk84 _ hf _ _ _ X (lv_sub hl [0, 1] rfl)
    · have hf := it_n hf c_12
      refine lv_iconst (pc := 57) (v := 0) hx hb dX0_grow_57 (by decide) ?_
      refine lv_istore_n (pc := 58) (lv' := [(3, .int (0 : Int32)), (0, .ref (a 0)), (1, .ref (b 0)), (2, .int x2)]) hx hb dX0_grow_58 rfl hl (by decide) rfl (fun ls hl => ?_)
      refine lb_X0_grow_59 C0 KN hA S1 _ _ ?_ _ _ _ _ hf _ _ _ X (lv_sub hl [1, 2, 3, 0] rfl)
      · intro S0_e78_17 x2_e78_17 hf H locs ls X hl
        obtain ⟨y_18, ey_18⟩ : ∃ y : Int32, y = x2_e78_17 + (1 : Int32) := ⟨_, rfl⟩
        have hf := lt_sb hf ey_18
        refine lv_iinc (pc := 78) (v := y_18) (lv' := [(2, .int y_18), (0, .ref (a 0)), (1, .ref (b 0))]) hx hb dX0_grow_78 hl (k := 2) rfl (by rw [ey_18]; rfl) (by decide) rfl (fun ls hl => ?_)
        refine lv_goto (pc := 81) (tgt := 49) hx hb dX0_grow_81 (by decide) ?_
        exact ih _ _ hf _ _ _ X (lv_sub hl [1, 2, 0] rfl)
theorem hd_X0_grow : yX0_grow.cls ≠ "java/lang/invoke/MethodHandle" ∧ yX0_grow.cls ≠ "java/lang/invoke/VarHandle" ∧ (parseMethodDescriptor yX0_grow.desc).map (fun d => d.parameters.length) = some 1 := by decide +kernel
set_option maxHeartbeats 4000000 in
set_option maxRecDepth 100000 in
theorem ct_X0_grow (l : Launch) (G : xG) (a b : Nat → Nat) (S0 : tt_BestTree) (S1 : tt_Pasts) (So0 : tt_BestTree) (hf : fn_X0_grow S0 S1 = some So0) : xM l yX0_grow cX0_grow 4 (none) 3 70 G [.ref (a 0), .ref (b 0)] (wd_BestTree G a S0 ++ wd_Pasts G b S1) (wd_BestTree G a So0 ++ wd_Pasts G b S1) none := by
  refine xMi (by decide) (Nat.le_of_ble_eq_true rfl) ?_
  intro p e s m below meth c A C0 KN hA X ls hl
  have hx := C0.1
  have hb := C0.2.1
  have C0 : xC p s m meth c cX0_grow 4 (none) RX0 _ := C0
  have hl : lv_has ls 4 [(0, .ref (a 0)), (1, .ref (b 0))] := hl
  unfold fn_X0_grow at hf
  refine lv_aload_n (pc := 0) hx hb dX0_grow_0 rfl (lv_at hl 1 rfl) ?_
  refine x_get (pc := 1) (ci := 2) C0 KN X 3 rfl rfl inlX2 6 (by decide) kw_22_5 rfl dX0_grow_1 ?_
  refine W.eq (g2 := F0 m 4 ls [.int (gf_Pasts_depth S1)]) rfl ?_
  refine lv_topi (fun y_1 ey_1 => ?_)
  have hf := lt_sb hf ey_1
  refine lv_istore_n (pc := 4) (lv' := [(2, .int y_1), (0, .ref (a 0)), (1, .ref (b 0))]) hx hb dX0_grow_4 rfl hl (by decide) rfl (fun ls hl => ?_)
  refine lb_X0_grow_5 C0 KN hA S1 _ _ ?_ _ _ _ hf _ _ _ X (lv_sub hl [1, 2, 0] rfl)
  · intro S0_e37_9 hf H locs ls X hl
    refine lv_aload_n (pc := 37) hx hb dX0_grow_37 rfl (lv_at hl 0 rfl) ?_
    refine lv_iconst (pc := 38) (v := 0) hx hb dX0_grow_38 (by decide) ?_
    obtain ⟨S_10, eS_10, hf⟩ := lt_e hf
    refine x_put (pc := 39) (ci := 0) (ws' := wd_BestTree G a S_10 ++ wd_Pasts G b S1) C0 KN X 0 rfl rfl inlX0 tyX0_ok nmX0 2 (by decide) kw_5_13 rfl rfl rfl (Nat.le_of_ble_eq_true rfl) (by subst eS_10; rfl) dX0_grow_39 (fun H locs X => ?_)
    refine lv_aload_n (pc := 42) hx hb dX0_grow_42 rfl (lv_at hl 0 rfl) ?_
    refine lv_iconst (pc := 43) (v := 0) hx hb dX0_grow_43 (by decide) ?_
    obtain ⟨S_11, eS_11, hf⟩ := lt_e hf
    refine x_put (pc := 44) (ci := 0) (ws' := wd_BestTree G a S_11 ++ wd_Pasts G b S1) C0 KN X 0 rfl rfl inlX0 tyX0_ok nmX0 3 (by decide) kw_5_14 rfl rfl rfl (Nat.le_of_ble_eq_true rfl) (by subst eS_11; rfl) dX0_grow_44 (fun H locs X => ?_)
    refine lv_iconst (pc := 47) (v := 0) hx hb dX0_grow_47 (by decide) ?_
    refine lv_istore_n (pc := 48) (lv' := [(2, .int (0 : Int32)), (0, .ref (a 0)), (1, .ref (b 0))]) hx hb dX0_grow_48 rfl hl (by decide) rfl (fun ls hl => ?_)
    refine lb_X0_grow_49 C0 KN hA S1 _ _ ?_ _ _ _ hf _ _ _ X (lv_sub hl [1, 2, 0] rfl)
    · intro S0_e84_19 hf H locs ls X hl
      obtain rfl := so_1 hf
      exact x_vret (pc := 84) C0 X dX0_grow_84
