def fn_X9_in (x0 : Int64) (x2 : Int64) (x4 : Int64) : Option Int32 :=
  if x0 < x2 then some (0 : Int32) else if x4 < x0 then some (0 : Int32) else some (1 : Int32)
def fn_X9_held (x0 : Int64) : Option Int32 :=
  if (1 : Int64) ≤ x0 then if x0 ≤ (65535 : Int64) then some x0.toInt32 else some (65535 : Int32) else some (1 : Int32)
def fn_X9_nodeOf (x0 : Int32) (x1 : Int32) : Option Int32 :=
  some ((((1 : Int32) <<< (x0 &&& 31)) - (1 : Int32)) + x1)
def fn_X9_odds (x0 : Int32) (x1 : Int32) : Option Int32 :=
  if x1 = (1 : Int32) then some x0 else some ((65536 : Int32) - x0)
def fl_X9_bitsOf_3 (k17 : Int32 → Int32 → Option Int32) : Nat → Int32 → Int32 → Option Int32
  | 0, _, _ => none
  | n + 1, x0, x1 =>
  if ((x0 >>> (x1 &&& 31)) &&& (1 : Int32)) = 0 then lt_ (x1 + (-1 : Int32)) fun y_2 => fl_X9_bitsOf_3 k17 n x0 y_2 else k17 x0 x1
def fn_X9_bitsOf_41 (x1 : Int32) (t0 : Int32) : Option Int32 :=
  some (((16 : Int32) * ((16 : Int32) - x1)) - t0)
def fn_X9_bitsOf (x0 : Int32) : Option Int32 :=
  fl_X9_bitsOf_3 (fun (x0_e17_3 : Int32) (x1_e17_3 : Int32) => lt_ (x0_e17_3 - ((1 : Int32) <<< (x1_e17_3 &&& 31))) fun y_4 => if x1_e17_3 < (4 : Int32) then fn_X9_bitsOf_41 x1_e17_3 (y_4 <<< (((4 : Int32) - x1_e17_3) &&& 31)) else fn_X9_bitsOf_41 x1_e17_3 (y_4 >>> ((x1_e17_3 - (4 : Int32)) &&& 31))) fu_ x0 (15 : Int32)
def fn_X9_bad (S0 : tt_Model) (x1 : Int32) : Option (Int32 × tt_Model) :=
  gd_ (ix_ (0 : Int32) 3) (lt_ (((gf_Model_refused S0) (0 : Int32).toNatClampNeg) + (1 : Int32)) fun y_2 => gd_ (ix_ (0 : Int32) 3) (lt_ (sf_Model_refused S0 (upd (gf_Model_refused S0) (0 : Int32).toNatClampNeg y_2)) fun S_4 => some (x1, S_4)))
def fn_X9_no (S0 : tt_Model) : Option (Int32 × tt_Model) :=
  gd_ (ix_ (1 : Int32) 3) (lt_ (((gf_Model_refused S0) (1 : Int32).toNatClampNeg) + (1 : Int32)) fun y_2 => gd_ (ix_ (1 : Int32) 3) (lt_ (sf_Model_refused S0 (upd (gf_Model_refused S0) (1 : Int32).toNatClampNeg y_2)) fun S_4 => some ((-3 : Int32), S_4)))
def fn_X9_full (S0 : tt_Model) : Option (Int32 × tt_Model) :=
  gd_ (ix_ (2 : Int32) 3) (lt_ (((gf_Model_refused S0) (2 : Int32).toNatClampNeg) + (1 : Int32)) fun y_2 => gd_ (ix_ (2 : Int32) 3) (lt_ (sf_Model_refused S0 (upd (gf_Model_refused S0) (2 : Int32).toNatClampNeg y_2)) fun S_4 => some ((-4 : Int32), S_4)))
def fn_X9_many (S0 : tt_Model) : Option Int32 :=
  gd_ (ix_ (100 : Int32) 103) (some ((gf_Model_now S0) (100 : Int32).toNatClampNeg))
def fn_X9_depth (S0 : tt_Model) : Option Int32 :=
  gd_ (ix_ (101 : Int32) 103) (some ((gf_Model_now S0) (101 : Int32).toNatClampNeg))
def fn_X9_guesser (S0 : tt_Model) : Option Int32 :=
  gd_ (ix_ (102 : Int32) 103) (some ((gf_Model_now S0) (102 : Int32).toNatClampNeg))
def fl_X9_keep_51 (k83 : tt_Model → Option tt_Model) : Nat → tt_Model → Int32 → Option tt_Model
  | 0, _, _ => none
  | n + 1, S0, x1 =>
  if (103 : Int32) ≤ x1 then k83 S0 else gd_ (ix_ x1 103) (lt_ ((gf_Model_now S0) x1.toNatClampNeg) fun y_4 => gd_ (ix_ (((103 : Int32) * (gf_Model_states S0)) + x1) 618) (lt_ (sf_Model_past S0 (upd (gf_Model_past S0) (((103 : Int32) * (gf_Model_states S0)) + x1).toNatClampNeg y_4)) fun S_6 => lt_ (x1 + (1 : Int32)) fun y_7 => fl_X9_keep_51 k83 n S_6 y_7))
def fn_X9_keep_49 (S0 : tt_Model) : Option tt_Model :=
  fl_X9_keep_51 (fun (S0_e83_8 : tt_Model) => lt_ ((gf_Model_states S0_e83_8) + (1 : Int32)) fun y_9 => lt_ (sf_Model_states S0_e83_8 y_9) fun S_10 => some S_10) fu_ S0 (0 : Int32)
def fl_X9_keep_11 (k39 : tt_Model → Option tt_Model) : Nat → tt_Model → Int32 → Option tt_Model
  | 0, _, _ => none
  | n + 1, S0, x1 =>
  if (515 : Int32) ≤ x1 then k39 S0 else gd_ (ix_ (x1 + (103 : Int32)) 618) (lt_ ((gf_Model_past S0) (x1 + (103 : Int32)).toNatClampNeg) fun y_13 => gd_ (ix_ x1 618) (lt_ (sf_Model_past S0 (upd (gf_Model_past S0) x1.toNatClampNeg y_13)) fun S_15 => lt_ (x1 + (1 : Int32)) fun y_16 => fl_X9_keep_11 k39 n S_15 y_16))
def fn_X9_keep (S0 : tt_Model) : Option tt_Model :=
  if (gf_Model_states S0) = (6 : Int32) then fl_X9_keep_11 (fun (S0_e39_17 : tt_Model) => lt_ ((gf_Model_states S0_e39_17) - (1 : Int32)) fun y_18 => lt_ (sf_Model_states S0_e39_17 y_18) fun S_19 => fn_X9_keep_49 S_19) fu_ S0 (0 : Int32) else fn_X9_keep_49 S0
def fl_X9_begins_17 (k58 : tt_Model → Option tt_Model) : Nat → tt_Model → Int32 → Option tt_Model
  | 0, _, _ => none
  | n + 1, S0, x3 =>
  if (127 : Int32) ≤ x3 then k58 S0 else gd_ (ix_ x3 127) (lt_ (sf_Model_noughts S0 (upd (gf_Model_noughts S0) x3.toNatClampNeg (0 : Int32))) fun S_6 => gd_ (ix_ x3 127) (lt_ (sf_Model_ones S_6 (upd (gf_Model_ones S_6) x3.toNatClampNeg (0 : Int32))) fun S_8 => gd_ (ix_ x3 127) (lt_ (sf_Model_weights S_8 (upd (gf_Model_weights S_8) x3.toNatClampNeg (32768 : Int32))) fun S_10 => gd_ (ix_ x3 127) (lt_ (sf_Model_ownCost S_10 (upd (gf_Model_ownCost S_10) x3.toNatClampNeg (0 : Int32))) fun S_12 => lt_ (x3 + (1 : Int32)) fun y_13 => fl_X9_begins_17 k58 n S_12 y_13))))
def fn_X9_begins (S0 : tt_Model) (x1 : Int32) (x2 : Int32) : Option tt_Model :=
  lt_ (sf_Model_came S0 (0 : Int32)) fun S_1 => lt_ (sf_Model_byDepth S_1 x1) fun S_2 => lt_ (sf_Model_byGuesser S_2 x2) fun S_3 => fl_X9_begins_17 (fun (S0_e58_14 : tt_Model) => some S0_e58_14) fu_ S_3 (0 : Int32)

theorem hd_X9_in : yX9_in.cls ≠ "java/lang/invoke/MethodHandle" ∧ yX9_in.cls ≠ "java/lang/invoke/VarHandle" ∧ (parseMethodDescriptor yX9_in.desc).map (fun d => d.parameters.length) = some 3 := by decide +kernel
set_option maxHeartbeats 4000000 in
set_option maxRecDepth 100000 in
theorem ct_X9_in (l : Launch) (x0 : Int64) (x2 : Int64) (x4 : Int64) (ro : Int32) (hf : fn_X9_in x0 x2 x4 = some ro) : xMs l yX9_in cX9_in 6 (some .boolean) 0 0 [.long x0, .long x2, .long x4] (some (.int ro)) := by
  refine xMsi (by decide) (Nat.le_of_ble_eq_true rfl) ?_
  intro p e s m below meth c C0 ls hl
  have hx := C0.1
  have hb := C0.2.1
  have C0 : xC p s m meth c cX9_in 6 (some .boolean) RX9 _ := C0
  have hl : lv_has ls 6 [(0, .long x0), (2, .long x2), (4, .long x4)] := hl
  unfold fn_X9_in at hf
  refine lv_lload_n (pc := 0) hx hb dX9_in_0 rfl (lv_at hl 0 rfl) ?_
  refine lv_lload_n (pc := 1) hx hb dX9_in_1 rfl (lv_at hl 1 rfl) ?_
  refine W.lcmp (pc := 2) hx hb dX9_in_2 ?_
  refine lv_if_lt (pc := 3) (tgt := 17) hx hb dX9_in_3 (by decide) (fun c_1 => ?_) (fun c_1 => ?_)
  · have hf := it_p hf ((lg_cmp_lt x0 x2).mp c_1)
    refine lv_iconst (pc := 17) (v := 0) hx hb dX9_in_17 (by decide) ?_
    obtain rfl := so_1 hf
    exact s_zret (pc := 18) C0 (by decide) dX9_in_18
  · have hf := it_n hf (fun z => c_1 ((lg_cmp_lt x0 x2).mpr z))
    refine lv_lload_n (pc := 6) hx hb dX9_in_6 rfl (lv_at hl 0 rfl) ?_
    refine lv_lload (pc := 7) hx hb dX9_in_7 (lv_at hl 2 rfl) ?_
    refine W.lcmp (pc := 9) hx hb dX9_in_9 ?_
    refine lv_if_gt (pc := 10) (tgt := 17) hx hb dX9_in_10 (by decide) (fun c_2 => ?_) (fun c_2 => ?_)
    · have hf := it_p hf ((lg_cmp_gt x0 x4).mp c_2)
      refine lv_iconst (pc := 17) (v := 0) hx hb dX9_in_17 (by decide) ?_
      obtain rfl := so_1 hf
      exact s_zret (pc := 18) C0 (by decide) dX9_in_18
    · have hf := it_n hf (fun z => c_2 ((lg_cmp_gt x0 x4).mpr z))
      refine lv_iconst (pc := 13) (v := 1) hx hb dX9_in_13 (by decide) ?_
      refine lv_goto (pc := 14) (tgt := 18) hx hb dX9_in_14 (by decide) ?_
      obtain rfl := so_1 hf
      exact s_zret (pc := 18) C0 (by decide) dX9_in_18
theorem hd_X9_held : yX9_held.cls ≠ "java/lang/invoke/MethodHandle" ∧ yX9_held.cls ≠ "java/lang/invoke/VarHandle" ∧ (parseMethodDescriptor yX9_held.desc).map (fun d => d.parameters.length) = some 1 := by decide +kernel
set_option maxHeartbeats 4000000 in
set_option maxRecDepth 100000 in
theorem ct_X9_held (l : Launch) (x0 : Int64) (ro : Int32) (hf : fn_X9_held x0 = some ro) : xMs l yX9_held cX9_held 2 (some .int) 0 0 [.long x0] (some (.int ro)) := by
  refine xMsi (by decide) (Nat.le_of_ble_eq_true rfl) ?_
  intro p e s m below meth c C0 ls hl
  have hx := C0.1
  have hb := C0.2.1
  have C0 : xC p s m meth c cX9_held 2 (some .int) RX9 _ := C0
  have hl : lv_has ls 2 [(0, .long x0)] := hl
  unfold fn_X9_held at hf
  refine lv_lload_n (pc := 0) hx hb dX9_held_0 rfl (lv_at hl 0 rfl) ?_
  refine lv_lconst (pc := 1) (v := 1) hx hb dX9_held_1 (by decide) ?_
  refine W.lcmp (pc := 2) hx hb dX9_held_2 ?_
  refine lv_if_ge (pc := 3) (tgt := 10) hx hb dX9_held_3 (by decide) (fun c_1 => ?_) (fun c_1 => ?_)
  · have hf := it_p hf ((lg_cmp_ge x0 (1 : Int64)).mp c_1)
    refine lv_lload_n (pc := 10) hx hb dX9_held_10 rfl (lv_at hl 0 rfl) ?_
    refine x_ldc2 (pc := 11) C0 kw_13_14 dX9_held_11 ?_
    refine W.lcmp (pc := 14) hx hb dX9_held_14 ?_
    refine lv_if_le (pc := 15) (tgt := 23) hx hb dX9_held_15 (by decide) (fun c_2 => ?_) (fun c_2 => ?_)
    · have hf := it_p hf ((lg_cmp_le x0 (65535 : Int64)).mp c_2)
      refine lv_lload_n (pc := 23) hx hb dX9_held_23 rfl (lv_at hl 0 rfl) ?_
      refine lv_l2i (pc := 24) (v := x0.toInt32) hx hb dX9_held_24 rfl ?_
      obtain rfl := so_1 hf
      exact s_iret (pc := 25) C0 dX9_held_25
    · have hf := it_n hf (fun z => c_2 ((lg_cmp_le x0 (65535 : Int64)).mpr z))
      refine x_ldc (pc := 18) C0 kw_13_15 dX9_held_18 ?_
      refine lv_goto (pc := 20) (tgt := 25) hx hb dX9_held_20 (by decide) ?_
      obtain rfl := so_1 hf
      exact s_iret (pc := 25) C0 dX9_held_25
  · have hf := it_n hf (fun z => c_1 ((lg_cmp_ge x0 (1 : Int64)).mpr z))
    refine lv_iconst (pc := 6) (v := 1) hx hb dX9_held_6 (by decide) ?_
    refine lv_goto (pc := 7) (tgt := 25) hx hb dX9_held_7 (by decide) ?_
    obtain rfl := so_1 hf
    exact s_iret (pc := 25) C0 dX9_held_25
theorem hd_X9_nodeOf : yX9_nodeOf.cls ≠ "java/lang/invoke/MethodHandle" ∧ yX9_nodeOf.cls ≠ "java/lang/invoke/VarHandle" ∧ (parseMethodDescriptor yX9_nodeOf.desc).map (fun d => d.parameters.length) = some 2 := by decide +kernel
set_option maxHeartbeats 4000000 in
set_option maxRecDepth 100000 in
theorem ct_X9_nodeOf (l : Launch) (x0 : Int32) (x1 : Int32) (ro : Int32) (hf : fn_X9_nodeOf x0 x1 = some ro) : xMs l yX9_nodeOf cX9_nodeOf 2 (some .int) 0 0 [.int x0, .int x1] (some (.int ro)) := by
  refine xMsi (by decide) (Nat.le_of_ble_eq_true rfl) ?_
  intro p e s m below meth c C0 ls hl
  have hx := C0.1
  have hb := C0.2.1
  have C0 : xC p s m meth c cX9_nodeOf 2 (some .int) RX9 _ := C0
  have hl : lv_has ls 2 [(0, .int x0), (1, .int x1)] := hl
  unfold fn_X9_nodeOf at hf
  refine lv_iconst (pc := 0) (v := 1) hx hb dX9_nodeOf_0 (by decide) ?_
  refine lv_iload_n (pc := 1) hx hb dX9_nodeOf_1 rfl (lv_at hl 0 rfl) ?_
  refine lv_ishl (pc := 2) hx hb dX9_nodeOf_2 ?_
  refine lv_iconst (pc := 3) (v := 1) hx hb dX9_nodeOf_3 (by decide) ?_
  refine lv_isub (pc := 4) hx hb dX9_nodeOf_4 ?_
  refine lv_iload_n (pc := 5) hx hb dX9_nodeOf_5 rfl (lv_at hl 1 rfl) ?_
  refine lv_iadd (pc := 6) hx hb dX9_nodeOf_6 ?_
  obtain rfl := so_1 hf
  exact s_iret (pc := 7) C0 dX9_nodeOf_7
theorem hd_X9_odds : yX9_odds.cls ≠ "java/lang/invoke/MethodHandle" ∧ yX9_odds.cls ≠ "java/lang/invoke/VarHandle" ∧ (parseMethodDescriptor yX9_odds.desc).map (fun d => d.parameters.length) = some 2 := by decide +kernel
set_option maxHeartbeats 4000000 in
set_option maxRecDepth 100000 in
theorem ct_X9_odds (l : Launch) (x0 : Int32) (x1 : Int32) (ro : Int32) (hf : fn_X9_odds x0 x1 = some ro) : xMs l yX9_odds cX9_odds 2 (some .int) 0 0 [.int x0, .int x1] (some (.int ro)) := by
  refine xMsi (by decide) (Nat.le_of_ble_eq_true rfl) ?_
  intro p e s m below meth c C0 ls hl
  have hx := C0.1
  have hb := C0.2.1
  have C0 : xC p s m meth c cX9_odds 2 (some .int) RX9 _ := C0
  have hl : lv_has ls 2 [(0, .int x0), (1, .int x1)] := hl
  unfold fn_X9_odds at hf
  refine lv_iload_n (pc := 0) hx hb dX9_odds_0 rfl (lv_at hl 1 rfl) ?_
  refine lv_iconst (pc := 1) (v := 1) hx hb dX9_odds_1 (by decide) ?_
  refine lv_icmp_ne (pc := 2) (tgt := 9) hx hb dX9_odds_2 (by decide) (fun c_1 => ?_) (fun c_1 => ?_)
  · have hf := it_n hf c_1
    refine x_ldc (pc := 9) C0 kw_13_19 dX9_odds_9 ?_
    refine lv_iload_n (pc := 11) hx hb dX9_odds_11 rfl (lv_at hl 0 rfl) ?_
    refine lv_isub (pc := 12) hx hb dX9_odds_12 ?_
    obtain rfl := so_1 hf
    exact s_iret (pc := 13) C0 dX9_odds_13
  · have hf := it_p hf c_1
    refine lv_iload_n (pc := 5) hx hb dX9_odds_5 rfl (lv_at hl 0 rfl) ?_
    refine lv_goto (pc := 6) (tgt := 13) hx hb dX9_odds_6 (by decide) ?_
    obtain rfl := so_1 hf
    exact s_iret (pc := 13) C0 dX9_odds_13
set_option maxHeartbeats 4000000 in
set_option maxRecDepth 100000 in
theorem lb_X9_bitsOf_3 {l : Launch} {p : Program} {e : Env} {s : State} {m : MethodId} {args : Array Value} {below : List Frame} {meth : Method} {c : Code} (C0 : xC p s m meth c cX9_bitsOf 4 (some .int) RX9 args) (ro : Int32) (k17 : Int32 → Int32 → Option Int32) (hk17 : ∀ (x0 : Int32) (x1 : Int32), k17 x0 x1 = some ro → ∀ (ls : Array Slot), lv_has ls 4 [(0, .int x0), (1, .int x1)] → W p l e ({ frames := 0, cells := 0, slots := 0, locals := 0 }) s m args below meth c s.heap [] 0 0 (MQ below (xQs (some (.int ro))) args s 0 0 (fun _ => False)) (F0 m 17 ls [])) : ∀ (n : Nat) (x0 : Int32) (x1 : Int32), fl_X9_bitsOf_3 k17 n x0 x1 = some ro → ∀ (ls : Array Slot), lv_has ls 4 [(0, .int x0), (1, .int x1)] → W p l e ({ frames := 0, cells := 0, slots := 0, locals := 0 }) s m args below meth c s.heap [] 0 0 (MQ below (xQs (some (.int ro))) args s 0 0 (fun _ => False)) (F0 m 3 ls []) := by
  have hx := C0.1
  have hb := C0.2.1
  intro n
  induction n with
  | zero =>
    intro x0 x1 hf
    have hf : none = some ro := hf
    cases hf
  | succ n ih =>
    intro x0 x1 hf ls hl
    rw [fl_X9_bitsOf_3] at hf
    refine lv_iload_n (pc := 3) hx hb dX9_bitsOf_3 rfl (lv_at hl 0 rfl) ?_
    refine lv_iload_n (pc := 4) hx hb dX9_bitsOf_4 rfl (lv_at hl 1 rfl) ?_
    refine lv_ishr (pc := 5) hx hb dX9_bitsOf_5 ?_
    refine lv_iconst (pc := 6) (v := 1) hx hb dX9_bitsOf_6 (by decide) ?_
    refine lv_iand (pc := 7) hx hb dX9_bitsOf_7 ?_
    refine lv_if_ne (pc := 8) (tgt := 17) hx hb dX9_bitsOf_8 (by decide) (fun c_1 => ?_) (fun c_1 => ?_)
    · have hf := it_n hf c_1
      exact hk17 _ _ hf _ (lv_sub hl [0, 1] rfl)
    · have hf := it_p hf c_1
      obtain ⟨y_2, ey_2⟩ : ∃ y : Int32, y = x1 + (-1 : Int32) := ⟨_, rfl⟩
      have hf := lt_sb hf ey_2
      refine lv_iinc (pc := 11) (v := y_2) (lv' := [(1, .int y_2), (0, .int x0)]) hx hb dX9_bitsOf_11 hl (k := 1) rfl (by rw [ey_2]; rfl) (by decide) rfl (fun ls hl => ?_)
      refine lv_goto (pc := 14) (tgt := 3) hx hb dX9_bitsOf_14 (by decide) ?_
      exact ih _ _ hf _ (lv_sub hl [1, 0] rfl)
set_option maxHeartbeats 4000000 in
set_option maxRecDepth 100000 in
theorem lb_X9_bitsOf_41 {l : Launch} {p : Program} {e : Env} {s : State} {m : MethodId} {args : Array Value} {below : List Frame} {meth : Method} {c : Code} (C0 : xC p s m meth c cX9_bitsOf 4 (some .int) RX9 args) (ro : Int32) : ∀ (x1 : Int32) (t0 : Int32), fn_X9_bitsOf_41 x1 t0 = some ro → ∀ (ls : Array Slot), lv_has ls 4 [(1, .int x1)] → W p l e ({ frames := 0, cells := 0, slots := 0, locals := 0 }) s m args below meth c s.heap [] 0 0 (MQ below (xQs (some (.int ro))) args s 0 0 (fun _ => False)) (F0 m 41 ls [.int t0]) := by
  have hx := C0.1
  have hb := C0.2.1
  intro x1 t0 hf ls hl
  unfold fn_X9_bitsOf_41 at hf
  refine lv_istore_n (pc := 41) (lv' := [(3, .int t0), (1, .int x1)]) hx hb dX9_bitsOf_41 rfl hl (by decide) rfl (fun ls hl => ?_)
  refine lv_bipush (pc := 42) (v := 16) hx hb dX9_bitsOf_42 (by decide) ?_
  refine lv_bipush (pc := 44) (v := 16) hx hb dX9_bitsOf_44 (by decide) ?_
  refine lv_iload_n (pc := 46) hx hb dX9_bitsOf_46 rfl (lv_at hl 1 rfl) ?_
  refine lv_isub (pc := 47) hx hb dX9_bitsOf_47 ?_
  refine lv_imul (pc := 48) hx hb dX9_bitsOf_48 ?_
  refine lv_iload_n (pc := 49) hx hb dX9_bitsOf_49 rfl (lv_at hl 0 rfl) ?_
  refine lv_isub (pc := 50) hx hb dX9_bitsOf_50 ?_
  obtain rfl := so_1 hf
  exact s_iret (pc := 51) C0 dX9_bitsOf_51
theorem hd_X9_bitsOf : yX9_bitsOf.cls ≠ "java/lang/invoke/MethodHandle" ∧ yX9_bitsOf.cls ≠ "java/lang/invoke/VarHandle" ∧ (parseMethodDescriptor yX9_bitsOf.desc).map (fun d => d.parameters.length) = some 1 := by decide +kernel
set_option maxHeartbeats 4000000 in
set_option maxRecDepth 100000 in
theorem ct_X9_bitsOf (l : Launch) (x0 : Int32) (ro : Int32) (hf : fn_X9_bitsOf x0 = some ro) : xMs l yX9_bitsOf cX9_bitsOf 4 (some .int) 0 0 [.int x0] (some (.int ro)) := by
  refine xMsi (by decide) (Nat.le_of_ble_eq_true rfl) ?_
  intro p e s m below meth c C0 ls hl
  have hx := C0.1
  have hb := C0.2.1
  have C0 : xC p s m meth c cX9_bitsOf 4 (some .int) RX9 _ := C0
  have hl : lv_has ls 4 [(0, .int x0)] := hl
  unfold fn_X9_bitsOf at hf
  refine lv_bipush (pc := 0) (v := 15) hx hb dX9_bitsOf_0 (by decide) ?_
  refine lv_istore_n (pc := 2) (lv' := [(1, .int (15 : Int32)), (0, .int x0)]) hx hb dX9_bitsOf_2 rfl hl (by decide) rfl (fun ls hl => ?_)
  refine lb_X9_bitsOf_3 C0 _ _ ?_ _ _ _ hf _ (lv_sub hl [1, 0] rfl)
  · intro x0_e17_3 x1_e17_3 hf ls hl
    refine lv_iload_n (pc := 17) hx hb dX9_bitsOf_17 rfl (lv_at hl 0 rfl) ?_
    refine lv_iconst (pc := 18) (v := 1) hx hb dX9_bitsOf_18 (by decide) ?_
    refine lv_iload_n (pc := 19) hx hb dX9_bitsOf_19 rfl (lv_at hl 1 rfl) ?_
    refine lv_ishl (pc := 20) hx hb dX9_bitsOf_20 ?_
    refine lv_isub (pc := 21) hx hb dX9_bitsOf_21 ?_
    refine lv_topi (fun y_4 ey_4 => ?_)
    have hf := lt_sb hf ey_4
    refine lv_istore_n (pc := 22) (lv' := [(2, .int y_4), (0, .int x0_e17_3), (1, .int x1_e17_3)]) hx hb dX9_bitsOf_22 rfl hl (by decide) rfl (fun ls hl => ?_)
    refine lv_iload_n (pc := 23) hx hb dX9_bitsOf_23 rfl (lv_at hl 2 rfl) ?_
    refine lv_iconst (pc := 24) (v := 4) hx hb dX9_bitsOf_24 (by decide) ?_
    refine lv_icmp_lt (pc := 25) (tgt := 36) hx hb dX9_bitsOf_25 (by decide) (fun c_5 => ?_) (fun c_5 => ?_)
    · have hf := it_p hf c_5
      refine lv_iload_n (pc := 36) hx hb dX9_bitsOf_36 rfl (lv_at hl 0 rfl) ?_
      refine lv_iconst (pc := 37) (v := 4) hx hb dX9_bitsOf_37 (by decide) ?_
      refine lv_iload_n (pc := 38) hx hb dX9_bitsOf_38 rfl (lv_at hl 2 rfl) ?_
      refine lv_isub (pc := 39) hx hb dX9_bitsOf_39 ?_
      refine lv_ishl (pc := 40) hx hb dX9_bitsOf_40 ?_
      exact lb_X9_bitsOf_41 C0 _  _ _ hf _ (lv_sub hl [2] rfl)
    · have hf := it_n hf c_5
      refine lv_iload_n (pc := 28) hx hb dX9_bitsOf_28 rfl (lv_at hl 0 rfl) ?_
      refine lv_iload_n (pc := 29) hx hb dX9_bitsOf_29 rfl (lv_at hl 2 rfl) ?_
      refine lv_iconst (pc := 30) (v := 4) hx hb dX9_bitsOf_30 (by decide) ?_
      refine lv_isub (pc := 31) hx hb dX9_bitsOf_31 ?_
      refine lv_ishr (pc := 32) hx hb dX9_bitsOf_32 ?_
      refine lv_goto (pc := 33) (tgt := 41) hx hb dX9_bitsOf_33 (by decide) ?_
      exact lb_X9_bitsOf_41 C0 _  _ _ hf _ (lv_sub hl [2] rfl)
theorem hd_X9_bad : yX9_bad.cls ≠ "java/lang/invoke/MethodHandle" ∧ yX9_bad.cls ≠ "java/lang/invoke/VarHandle" ∧ (parseMethodDescriptor yX9_bad.desc).map (fun d => d.parameters.length) = some 1 := by decide +kernel
set_option maxHeartbeats 4000000 in
set_option maxRecDepth 100000 in
theorem ct_X9_bad (l : Launch) (G : xG) (a : Nat → Nat) (S0 : tt_Model) (x1 : Int32) (ro : Int32) (So0 : tt_Model) (hf : fn_X9_bad S0 x1 = some (ro, So0)) : xM l yX9_bad cX9_bad 2 (some .int) 0 0 G [.ref (a 0), .int x1] (wd_Model G a S0) (wd_Model G a So0) (some (.int ro)) := by
  refine xMi (by decide) (Nat.le_of_ble_eq_true rfl) ?_
  intro p e s m below meth c A C0 KN hA X ls hl
  have hx := C0.1
  have hb := C0.2.1
  have C0 : xC p s m meth c cX9_bad 2 (some .int) RX9 _ := C0
  have hl : lv_has ls 2 [(0, .ref (a 0)), (1, .int x1)] := hl
  unfold fn_X9_bad at hf
  refine lv_aload_n (pc := 0) hx hb dX9_bad_0 rfl (lv_at hl 0 rfl) ?_
  refine x_get (pc := 1) (ci := 9) C0 KN X 0 rfl rfl inlX9 3 (by decide) kw_7_11 rfl dX9_bad_1 ?_
  refine lv_iconst (pc := 4) (v := 0) hx hb dX9_bad_4 (by decide) ?_
  refine lv_dup2_11 (pc := 5) hx hb dX9_bad_5 rfl rfl ?_
  obtain ⟨g_1, hf⟩ := gd_e hf
  refine x_ald (pc := 6) C0 KN X 3 rfl g_1 dX9_bad_6 ?_
  refine W.eq (g2 := F0 m 7 ls [.int ((gf_Model_refused S0) (0 : Int32).toNatClampNeg), .int (0 : Int32), .ref (a 3)]) rfl ?_
  refine lv_iconst (pc := 7) (v := 1) hx hb dX9_bad_7 (by decide) ?_
  refine lv_iadd (pc := 8) hx hb dX9_bad_8 ?_
  refine lv_topi (fun y_2 ey_2 => ?_)
  have hf := lt_sb hf ey_2
  obtain ⟨g_3, hf⟩ := gd_e hf
  obtain ⟨S_4, eS_4, hf⟩ := lt_e hf
  refine x_ast (pc := 9) (ws' := wd_Model G a S_4) C0 KN X 3 rfl g_3 (by subst eS_4; rfl) dX9_bad_9 (fun H locs X => ?_)
  refine lv_iload_n (pc := 10) hx hb dX9_bad_10 rfl (lv_at hl 1 rfl) ?_
  obtain ⟨rfl, rfl⟩ := so_2 hf
  exact x_iret (pc := 11) C0 X dX9_bad_11
theorem hd_X9_no : yX9_no.cls ≠ "java/lang/invoke/MethodHandle" ∧ yX9_no.cls ≠ "java/lang/invoke/VarHandle" ∧ (parseMethodDescriptor yX9_no.desc).map (fun d => d.parameters.length) = some 0 := by decide +kernel
set_option maxHeartbeats 4000000 in
set_option maxRecDepth 100000 in
theorem ct_X9_no (l : Launch) (G : xG) (a : Nat → Nat) (S0 : tt_Model) (ro : Int32) (So0 : tt_Model) (hf : fn_X9_no S0 = some (ro, So0)) : xM l yX9_no cX9_no 1 (some .int) 0 0 G [.ref (a 0)] (wd_Model G a S0) (wd_Model G a So0) (some (.int ro)) := by
  refine xMi (by decide) (Nat.le_of_ble_eq_true rfl) ?_
  intro p e s m below meth c A C0 KN hA X ls hl
  have hx := C0.1
  have hb := C0.2.1
  have C0 : xC p s m meth c cX9_no 1 (some .int) RX9 _ := C0
  have hl : lv_has ls 1 [(0, .ref (a 0))] := hl
  unfold fn_X9_no at hf
  refine lv_aload_n (pc := 0) hx hb dX9_no_0 rfl (lv_at hl 0 rfl) ?_
  refine x_get (pc := 1) (ci := 9) C0 KN X 0 rfl rfl inlX9 3 (by decide) kw_7_11 rfl dX9_no_1 ?_
  refine lv_iconst (pc := 4) (v := 1) hx hb dX9_no_4 (by decide) ?_
  refine lv_dup2_11 (pc := 5) hx hb dX9_no_5 rfl rfl ?_
  obtain ⟨g_1, hf⟩ := gd_e hf
  refine x_ald (pc := 6) C0 KN X 3 rfl g_1 dX9_no_6 ?_
  refine W.eq (g2 := F0 m 7 ls [.int ((gf_Model_refused S0) (1 : Int32).toNatClampNeg), .int (1 : Int32), .ref (a 3)]) rfl ?_
  refine lv_iconst (pc := 7) (v := 1) hx hb dX9_no_7 (by decide) ?_
  refine lv_iadd (pc := 8) hx hb dX9_no_8 ?_
  refine lv_topi (fun y_2 ey_2 => ?_)
  have hf := lt_sb hf ey_2
  obtain ⟨g_3, hf⟩ := gd_e hf
  obtain ⟨S_4, eS_4, hf⟩ := lt_e hf
  refine x_ast (pc := 9) (ws' := wd_Model G a S_4) C0 KN X 3 rfl g_3 (by subst eS_4; rfl) dX9_no_9 (fun H locs X => ?_)
  refine lv_bipush (pc := 10) (v := (-3)) hx hb dX9_no_10 (by decide) ?_
  obtain ⟨rfl, rfl⟩ := so_2 hf
  exact x_iret (pc := 12) C0 X dX9_no_12
theorem hd_X9_full : yX9_full.cls ≠ "java/lang/invoke/MethodHandle" ∧ yX9_full.cls ≠ "java/lang/invoke/VarHandle" ∧ (parseMethodDescriptor yX9_full.desc).map (fun d => d.parameters.length) = some 0 := by decide +kernel
set_option maxHeartbeats 4000000 in
set_option maxRecDepth 100000 in
theorem ct_X9_full (l : Launch) (G : xG) (a : Nat → Nat) (S0 : tt_Model) (ro : Int32) (So0 : tt_Model) (hf : fn_X9_full S0 = some (ro, So0)) : xM l yX9_full cX9_full 1 (some .int) 0 0 G [.ref (a 0)] (wd_Model G a S0) (wd_Model G a So0) (some (.int ro)) := by
  refine xMi (by decide) (Nat.le_of_ble_eq_true rfl) ?_
  intro p e s m below meth c A C0 KN hA X ls hl
  have hx := C0.1
  have hb := C0.2.1
  have C0 : xC p s m meth c cX9_full 1 (some .int) RX9 _ := C0
  have hl : lv_has ls 1 [(0, .ref (a 0))] := hl
  unfold fn_X9_full at hf
  refine lv_aload_n (pc := 0) hx hb dX9_full_0 rfl (lv_at hl 0 rfl) ?_
  refine x_get (pc := 1) (ci := 9) C0 KN X 0 rfl rfl inlX9 3 (by decide) kw_7_11 rfl dX9_full_1 ?_
  refine lv_iconst (pc := 4) (v := 2) hx hb dX9_full_4 (by decide) ?_
  refine lv_dup2_11 (pc := 5) hx hb dX9_full_5 rfl rfl ?_
  obtain ⟨g_1, hf⟩ := gd_e hf
  refine x_ald (pc := 6) C0 KN X 3 rfl g_1 dX9_full_6 ?_
  refine W.eq (g2 := F0 m 7 ls [.int ((gf_Model_refused S0) (2 : Int32).toNatClampNeg), .int (2 : Int32), .ref (a 3)]) rfl ?_
  refine lv_iconst (pc := 7) (v := 1) hx hb dX9_full_7 (by decide) ?_
  refine lv_iadd (pc := 8) hx hb dX9_full_8 ?_
  refine lv_topi (fun y_2 ey_2 => ?_)
  have hf := lt_sb hf ey_2
  obtain ⟨g_3, hf⟩ := gd_e hf
  obtain ⟨S_4, eS_4, hf⟩ := lt_e hf
  refine x_ast (pc := 9) (ws' := wd_Model G a S_4) C0 KN X 3 rfl g_3 (by subst eS_4; rfl) dX9_full_9 (fun H locs X => ?_)
  refine lv_bipush (pc := 10) (v := (-4)) hx hb dX9_full_10 (by decide) ?_
  obtain ⟨rfl, rfl⟩ := so_2 hf
  exact x_iret (pc := 12) C0 X dX9_full_12
theorem hd_X9_many : yX9_many.cls ≠ "java/lang/invoke/MethodHandle" ∧ yX9_many.cls ≠ "java/lang/invoke/VarHandle" ∧ (parseMethodDescriptor yX9_many.desc).map (fun d => d.parameters.length) = some 0 := by decide +kernel
set_option maxHeartbeats 4000000 in
set_option maxRecDepth 100000 in
theorem ct_X9_many (l : Launch) (G : xG) (a : Nat → Nat) (S0 : tt_Model) (ro : Int32) (hf : fn_X9_many S0 = some ro) : xM l yX9_many cX9_many 1 (some .int) 0 0 G [.ref (a 0)] (wd_Model G a S0) (wd_Model G a S0) (some (.int ro)) := by
  refine xMi (by decide) (Nat.le_of_ble_eq_true rfl) ?_
  intro p e s m below meth c A C0 KN hA X ls hl
  have hx := C0.1
  have hb := C0.2.1
  have C0 : xC p s m meth c cX9_many 1 (some .int) RX9 _ := C0
  have hl : lv_has ls 1 [(0, .ref (a 0))] := hl
  unfold fn_X9_many at hf
  refine lv_aload_n (pc := 0) hx hb dX9_many_0 rfl (lv_at hl 0 rfl) ?_
  refine x_get (pc := 1) (ci := 9) C0 KN X 0 rfl rfl inlX9 0 (by decide) kw_7_9 rfl dX9_many_1 ?_
  refine lv_bipush (pc := 4) (v := 100) hx hb dX9_many_4 (by decide) ?_
  obtain ⟨g_1, hf⟩ := gd_e hf
  refine x_ald (pc := 6) C0 KN X 1 rfl g_1 dX9_many_6 ?_
  refine W.eq (g2 := F0 m 7 ls [.int ((gf_Model_now S0) (100 : Int32).toNatClampNeg)]) rfl ?_
  obtain rfl := so_1 hf
  exact x_iret (pc := 7) C0 X dX9_many_7
theorem hd_X9_depth : yX9_depth.cls ≠ "java/lang/invoke/MethodHandle" ∧ yX9_depth.cls ≠ "java/lang/invoke/VarHandle" ∧ (parseMethodDescriptor yX9_depth.desc).map (fun d => d.parameters.length) = some 0 := by decide +kernel
set_option maxHeartbeats 4000000 in
set_option maxRecDepth 100000 in
theorem ct_X9_depth (l : Launch) (G : xG) (a : Nat → Nat) (S0 : tt_Model) (ro : Int32) (hf : fn_X9_depth S0 = some ro) : xM l yX9_depth cX9_depth 1 (some .int) 0 0 G [.ref (a 0)] (wd_Model G a S0) (wd_Model G a S0) (some (.int ro)) := by
  refine xMi (by decide) (Nat.le_of_ble_eq_true rfl) ?_
  intro p e s m below meth c A C0 KN hA X ls hl
  have hx := C0.1
  have hb := C0.2.1
  have C0 : xC p s m meth c cX9_depth 1 (some .int) RX9 _ := C0
  have hl : lv_has ls 1 [(0, .ref (a 0))] := hl
  unfold fn_X9_depth at hf
  refine lv_aload_n (pc := 0) hx hb dX9_depth_0 rfl (lv_at hl 0 rfl) ?_
  refine x_get (pc := 1) (ci := 9) C0 KN X 0 rfl rfl inlX9 0 (by decide) kw_7_9 rfl dX9_depth_1 ?_
  refine lv_bipush (pc := 4) (v := 101) hx hb dX9_depth_4 (by decide) ?_
  obtain ⟨g_1, hf⟩ := gd_e hf
  refine x_ald (pc := 6) C0 KN X 1 rfl g_1 dX9_depth_6 ?_
  refine W.eq (g2 := F0 m 7 ls [.int ((gf_Model_now S0) (101 : Int32).toNatClampNeg)]) rfl ?_
  obtain rfl := so_1 hf
  exact x_iret (pc := 7) C0 X dX9_depth_7
theorem hd_X9_guesser : yX9_guesser.cls ≠ "java/lang/invoke/MethodHandle" ∧ yX9_guesser.cls ≠ "java/lang/invoke/VarHandle" ∧ (parseMethodDescriptor yX9_guesser.desc).map (fun d => d.parameters.length) = some 0 := by decide +kernel
set_option maxHeartbeats 4000000 in
set_option maxRecDepth 100000 in
theorem ct_X9_guesser (l : Launch) (G : xG) (a : Nat → Nat) (S0 : tt_Model) (ro : Int32) (hf : fn_X9_guesser S0 = some ro) : xM l yX9_guesser cX9_guesser 1 (some .int) 0 0 G [.ref (a 0)] (wd_Model G a S0) (wd_Model G a S0) (some (.int ro)) := by
  refine xMi (by decide) (Nat.le_of_ble_eq_true rfl) ?_
  intro p e s m below meth c A C0 KN hA X ls hl
  have hx := C0.1
  have hb := C0.2.1
  have C0 : xC p s m meth c cX9_guesser 1 (some .int) RX9 _ := C0
  have hl : lv_has ls 1 [(0, .ref (a 0))] := hl
  unfold fn_X9_guesser at hf
  refine lv_aload_n (pc := 0) hx hb dX9_guesser_0 rfl (lv_at hl 0 rfl) ?_
  refine x_get (pc := 1) (ci := 9) C0 KN X 0 rfl rfl inlX9 0 (by decide) kw_7_9 rfl dX9_guesser_1 ?_
  refine lv_bipush (pc := 4) (v := 102) hx hb dX9_guesser_4 (by decide) ?_
  obtain ⟨g_1, hf⟩ := gd_e hf
  refine x_ald (pc := 6) C0 KN X 1 rfl g_1 dX9_guesser_6 ?_
  refine W.eq (g2 := F0 m 7 ls [.int ((gf_Model_now S0) (102 : Int32).toNatClampNeg)]) rfl ?_
  obtain rfl := so_1 hf
  exact x_iret (pc := 7) C0 X dX9_guesser_7
set_option maxHeartbeats 4000000 in
set_option maxRecDepth 100000 in
theorem lb_X9_keep_51 {l : Launch} {p : Program} {e : Env} {s : State} {m : MethodId} {args : Array Value} {below : List Frame} {meth : Method} {c : Code} {G : xG} {A : Nat → Prop} {a : Nat → Nat} (C0 : xC p s m meth c cX9_keep 2 (none) RX9 args) (KN : xKN G s) (hA : ∀ q, s.heap.size ≤ q → A q) (So0 : tt_Model) (k83 : tt_Model → Option tt_Model) (hk83 : ∀ (S0 : tt_Model), k83 S0 = some So0 → ∀ (H : Heap) (locs : List Loc) (ls : Array Slot), xS G A s.heap (wd_Model G a S0) H locs → lv_has ls 2 [(0, .ref (a 0))] → W p l e ({ frames := 0, cells := 0, slots := 0, locals := 0 }) s m args below meth c H locs 0 0 (MQ below (xQo G none A (wd_Model G a So0)) args s 0 0 A) (F0 m 83 ls [])) : ∀ (n : Nat) (S0 : tt_Model) (x1 : Int32), fl_X9_keep_51 k83 n S0 x1 = some So0 → ∀ (H : Heap) (locs : List Loc) (ls : Array Slot), xS G A s.heap (wd_Model G a S0) H locs → lv_has ls 2 [(0, .ref (a 0)), (1, .int x1)] → W p l e ({ frames := 0, cells := 0, slots := 0, locals := 0 }) s m args below meth c H locs 0 0 (MQ below (xQo G none A (wd_Model G a So0)) args s 0 0 A) (F0 m 51 ls []) := by
  have hx := C0.1
  have hb := C0.2.1
  intro n
  induction n with
  | zero =>
    intro S0 x1 hf
    have hf : none = some So0 := hf
    cases hf
  | succ n ih =>
    intro S0 x1 hf H locs ls X hl
    rw [fl_X9_keep_51] at hf
    refine lv_iload_n (pc := 51) hx hb dX9_keep_51 rfl (lv_at hl 1 rfl) ?_
    refine lv_bipush (pc := 52) (v := 103) hx hb dX9_keep_52 (by decide) ?_
    refine lv_icmp_ge (pc := 54) (tgt := 83) hx hb dX9_keep_54 (by decide) (fun c_2 => ?_) (fun c_2 => ?_)
    · have hf := it_p hf c_2
      exact hk83 _ hf _ _ _ X (lv_sub hl [0] rfl)
    · have hf := it_n hf c_2
      refine lv_aload_n (pc := 57) hx hb dX9_keep_57 rfl (lv_at hl 0 rfl) ?_
      refine x_get (pc := 58) (ci := 9) C0 KN X 0 rfl rfl inlX9 1 (by decide) kw_7_10 rfl dX9_keep_58 ?_
      refine lv_bipush (pc := 61) (v := 103) hx hb dX9_keep_61 (by decide) ?_
      refine lv_aload_n (pc := 63) hx hb dX9_keep_63 rfl (lv_at hl 0 rfl) ?_
      refine x_get (pc := 64) (ci := 9) C0 KN X 0 rfl rfl inlX9 2 (by decide) kw_11_14 rfl dX9_keep_64 ?_
      refine W.eq (g2 := F0 m 67 ls [.int (gf_Model_states S0), .int (103 : Int32), .ref (a 2)]) rfl ?_
      refine lv_imul (pc := 67) hx hb dX9_keep_67 ?_
      refine lv_iload_n (pc := 68) hx hb dX9_keep_68 rfl (lv_at hl 1 rfl) ?_
      refine lv_iadd (pc := 69) hx hb dX9_keep_69 ?_
      refine lv_aload_n (pc := 70) hx hb dX9_keep_70 rfl (lv_at hl 0 rfl) ?_
      refine x_get (pc := 71) (ci := 9) C0 KN X 0 rfl rfl inlX9 0 (by decide) kw_7_9 rfl dX9_keep_71 ?_
      refine lv_iload_n (pc := 74) hx hb dX9_keep_74 rfl (lv_at hl 1 rfl) ?_
      obtain ⟨g_3, hf⟩ := gd_e hf
      refine x_ald (pc := 75) C0 KN X 1 rfl g_3 dX9_keep_75 ?_
      refine W.eq (g2 := F0 m 76 ls [.int ((gf_Model_now S0) x1.toNatClampNeg), .int (((103 : Int32) * (gf_Model_states S0)) + x1), .ref (a 2)]) rfl ?_
      refine lv_topi (fun y_4 ey_4 => ?_)
      have hf := lt_sb hf ey_4
      obtain ⟨g_5, hf⟩ := gd_e hf
      obtain ⟨S_6, eS_6, hf⟩ := lt_e hf
      refine x_ast (pc := 76) (ws' := wd_Model G a S_6) C0 KN X 2 rfl g_5 (by subst eS_6; rfl) dX9_keep_76 (fun H locs X => ?_)
      obtain ⟨y_7, ey_7⟩ : ∃ y : Int32, y = x1 + (1 : Int32) := ⟨_, rfl⟩
      have hf := lt_sb hf ey_7
      refine lv_iinc (pc := 77) (v := y_7) (lv' := [(1, .int y_7), (0, .ref (a 0))]) hx hb dX9_keep_77 hl (k := 1) rfl (by rw [ey_7]; rfl) (by decide) rfl (fun ls hl => ?_)
      refine lv_goto (pc := 80) (tgt := 51) hx hb dX9_keep_80 (by decide) ?_
      exact ih _ _ hf _ _ _ X (lv_sub hl [1, 0] rfl)
set_option maxHeartbeats 4000000 in
set_option maxRecDepth 100000 in
theorem lb_X9_keep_49 {l : Launch} {p : Program} {e : Env} {s : State} {m : MethodId} {args : Array Value} {below : List Frame} {meth : Method} {c : Code} {G : xG} {A : Nat → Prop} {a : Nat → Nat} (C0 : xC p s m meth c cX9_keep 2 (none) RX9 args) (KN : xKN G s) (hA : ∀ q, s.heap.size ≤ q → A q) (So0 : tt_Model) : ∀ (S0 : tt_Model), fn_X9_keep_49 S0 = some So0 → ∀ (H : Heap) (locs : List Loc) (ls : Array Slot), xS G A s.heap (wd_Model G a S0) H locs → lv_has ls 2 [(0, .ref (a 0))] → W p l e ({ frames := 0, cells := 0, slots := 0, locals := 0 }) s m args below meth c H locs 0 0 (MQ below (xQo G none A (wd_Model G a So0)) args s 0 0 A) (F0 m 49 ls []) := by
  have hx := C0.1
  have hb := C0.2.1
  intro S0 hf H locs ls X hl
  unfold fn_X9_keep_49 at hf
  refine lv_iconst (pc := 49) (v := 0) hx hb dX9_keep_49 (by decide) ?_
  refine lv_istore_n (pc := 50) (lv' := [(1, .int (0 : Int32)), (0, .ref (a 0))]) hx hb dX9_keep_50 rfl hl (by decide) rfl (fun ls hl => ?_)
  refine lb_X9_keep_51 C0 KN hA _ _ ?_ _ _ _ hf _ _ _ X (lv_sub hl [1, 0] rfl)
  · intro S0_e83_8 hf H locs ls X hl
    refine lv_aload_n (pc := 83) hx hb dX9_keep_83 rfl (lv_at hl 0 rfl) ?_
    refine lv_dup (pc := 84) hx hb dX9_keep_84 rfl ?_
    refine x_get (pc := 85) (ci := 9) C0 KN X 0 rfl rfl inlX9 2 (by decide) kw_11_14 rfl dX9_keep_85 ?_
    refine W.eq (g2 := F0 m 88 ls [.int (gf_Model_states S0_e83_8), .ref (a 0)]) rfl ?_
    refine lv_iconst (pc := 88) (v := 1) hx hb dX9_keep_88 (by decide) ?_
    refine lv_iadd (pc := 89) hx hb dX9_keep_89 ?_
    refine lv_topi (fun y_9 ey_9 => ?_)
    have hf := lt_sb hf ey_9
    obtain ⟨S_10, eS_10, hf⟩ := lt_e hf
    refine x_put (pc := 90) (ci := 9) (ws' := wd_Model G a S_10) C0 KN X 0 rfl rfl inlX9 tyX9_ok nmX9 2 (by decide) kw_11_14 rfl rfl rfl (Nat.le_of_ble_eq_true rfl) (by subst eS_10; rfl) dX9_keep_90 (fun H locs X => ?_)
    obtain rfl := so_1 hf
    exact x_vret (pc := 93) C0 X dX9_keep_93
set_option maxHeartbeats 4000000 in
set_option maxRecDepth 100000 in
theorem lb_X9_keep_11 {l : Launch} {p : Program} {e : Env} {s : State} {m : MethodId} {args : Array Value} {below : List Frame} {meth : Method} {c : Code} {G : xG} {A : Nat → Prop} {a : Nat → Nat} (C0 : xC p s m meth c cX9_keep 2 (none) RX9 args) (KN : xKN G s) (hA : ∀ q, s.heap.size ≤ q → A q) (So0 : tt_Model) (k39 : tt_Model → Option tt_Model) (hk39 : ∀ (S0 : tt_Model), k39 S0 = some So0 → ∀ (H : Heap) (locs : List Loc) (ls : Array Slot), xS G A s.heap (wd_Model G a S0) H locs → lv_has ls 2 [(0, .ref (a 0))] → W p l e ({ frames := 0, cells := 0, slots := 0, locals := 0 }) s m args below meth c H locs 0 0 (MQ below (xQo G none A (wd_Model G a So0)) args s 0 0 A) (F0 m 39 ls [])) : ∀ (n : Nat) (S0 : tt_Model) (x1 : Int32), fl_X9_keep_11 k39 n S0 x1 = some So0 → ∀ (H : Heap) (locs : List Loc) (ls : Array Slot), xS G A s.heap (wd_Model G a S0) H locs → lv_has ls 2 [(0, .ref (a 0)), (1, .int x1)] → W p l e ({ frames := 0, cells := 0, slots := 0, locals := 0 }) s m args below meth c H locs 0 0 (MQ below (xQo G none A (wd_Model G a So0)) args s 0 0 A) (F0 m 11 ls []) := by
  have hx := C0.1
  have hb := C0.2.1
  intro n
  induction n with
  | zero =>
    intro S0 x1 hf
    have hf : none = some So0 := hf
    cases hf
  | succ n ih =>
    intro S0 x1 hf H locs ls X hl
    rw [fl_X9_keep_11] at hf
    refine lv_iload_n (pc := 11) hx hb dX9_keep_11 rfl (lv_at hl 1 rfl) ?_
    refine lv_sipush (pc := 12) (v := 515) hx hb dX9_keep_12 (by decide) ?_
    refine lv_icmp_ge (pc := 15) (tgt := 39) hx hb dX9_keep_15 (by decide) (fun c_11 => ?_) (fun c_11 => ?_)
    · have hf := it_p hf c_11
      exact hk39 _ hf _ _ _ X (lv_sub hl [0] rfl)
    · have hf := it_n hf c_11
      refine lv_aload_n (pc := 18) hx hb dX9_keep_18 rfl (lv_at hl 0 rfl) ?_
      refine x_get (pc := 19) (ci := 9) C0 KN X 0 rfl rfl inlX9 1 (by decide) kw_7_10 rfl dX9_keep_19 ?_
      refine lv_iload_n (pc := 22) hx hb dX9_keep_22 rfl (lv_at hl 1 rfl) ?_
      refine lv_aload_n (pc := 23) hx hb dX9_keep_23 rfl (lv_at hl 0 rfl) ?_
      refine x_get (pc := 24) (ci := 9) C0 KN X 0 rfl rfl inlX9 1 (by decide) kw_7_10 rfl dX9_keep_24 ?_
      refine lv_iload_n (pc := 27) hx hb dX9_keep_27 rfl (lv_at hl 1 rfl) ?_
      refine lv_bipush (pc := 28) (v := 103) hx hb dX9_keep_28 (by decide) ?_
      refine lv_iadd (pc := 30) hx hb dX9_keep_30 ?_
      obtain ⟨g_12, hf⟩ := gd_e hf
      refine x_ald (pc := 31) C0 KN X 2 rfl g_12 dX9_keep_31 ?_
      refine W.eq (g2 := F0 m 32 ls [.int ((gf_Model_past S0) (x1 + (103 : Int32)).toNatClampNeg), .int x1, .ref (a 2)]) rfl ?_
      refine lv_topi (fun y_13 ey_13 => ?_)
      have hf := lt_sb hf ey_13
      obtain ⟨g_14, hf⟩ := gd_e hf
      obtain ⟨S_15, eS_15, hf⟩ := lt_e hf
      refine x_ast (pc := 32) (ws' := wd_Model G a S_15) C0 KN X 2 rfl g_14 (by subst eS_15; rfl) dX9_keep_32 (fun H locs X => ?_)
      obtain ⟨y_16, ey_16⟩ : ∃ y : Int32, y = x1 + (1 : Int32) := ⟨_, rfl⟩
      have hf := lt_sb hf ey_16
      refine lv_iinc (pc := 33) (v := y_16) (lv' := [(1, .int y_16), (0, .ref (a 0))]) hx hb dX9_keep_33 hl (k := 1) rfl (by rw [ey_16]; rfl) (by decide) rfl (fun ls hl => ?_)
      refine lv_goto (pc := 36) (tgt := 11) hx hb dX9_keep_36 (by decide) ?_
      exact ih _ _ hf _ _ _ X (lv_sub hl [1, 0] rfl)
theorem hd_X9_keep : yX9_keep.cls ≠ "java/lang/invoke/MethodHandle" ∧ yX9_keep.cls ≠ "java/lang/invoke/VarHandle" ∧ (parseMethodDescriptor yX9_keep.desc).map (fun d => d.parameters.length) = some 0 := by decide +kernel
set_option maxHeartbeats 4000000 in
set_option maxRecDepth 100000 in
theorem ct_X9_keep (l : Launch) (G : xG) (a : Nat → Nat) (S0 : tt_Model) (So0 : tt_Model) (hf : fn_X9_keep S0 = some So0) : xM l yX9_keep cX9_keep 2 (none) 0 0 G [.ref (a 0)] (wd_Model G a S0) (wd_Model G a So0) none := by
  refine xMi (by decide) (Nat.le_of_ble_eq_true rfl) ?_
  intro p e s m below meth c A C0 KN hA X ls hl
  have hx := C0.1
  have hb := C0.2.1
  have C0 : xC p s m meth c cX9_keep 2 (none) RX9 _ := C0
  have hl : lv_has ls 2 [(0, .ref (a 0))] := hl
  unfold fn_X9_keep at hf
  refine lv_aload_n (pc := 0) hx hb dX9_keep_0 rfl (lv_at hl 0 rfl) ?_
  refine x_get (pc := 1) (ci := 9) C0 KN X 0 rfl rfl inlX9 2 (by decide) kw_11_14 rfl dX9_keep_1 ?_
  refine W.eq (g2 := F0 m 4 ls [.int (gf_Model_states S0)]) rfl ?_
  refine lv_bipush (pc := 4) (v := 6) hx hb dX9_keep_4 (by decide) ?_
  refine lv_icmp_ne (pc := 6) (tgt := 49) hx hb dX9_keep_6 (by decide) (fun c_1 => ?_) (fun c_1 => ?_)
  · have hf := it_n hf c_1
    exact lb_X9_keep_49 C0 KN hA _  _ hf _ _ _ X (lv_sub hl [0] rfl)
  · have hf := it_p hf c_1
    refine lv_iconst (pc := 9) (v := 0) hx hb dX9_keep_9 (by decide) ?_
    refine lv_istore_n (pc := 10) (lv' := [(1, .int (0 : Int32)), (0, .ref (a 0))]) hx hb dX9_keep_10 rfl hl (by decide) rfl (fun ls hl => ?_)
    refine lb_X9_keep_11 C0 KN hA _ _ ?_ _ _ _ hf _ _ _ X (lv_sub hl [1, 0] rfl)
    · intro S0_e39_17 hf H locs ls X hl
      refine lv_aload_n (pc := 39) hx hb dX9_keep_39 rfl (lv_at hl 0 rfl) ?_
      refine lv_dup (pc := 40) hx hb dX9_keep_40 rfl ?_
      refine x_get (pc := 41) (ci := 9) C0 KN X 0 rfl rfl inlX9 2 (by decide) kw_11_14 rfl dX9_keep_41 ?_
      refine W.eq (g2 := F0 m 44 ls [.int (gf_Model_states S0_e39_17), .ref (a 0)]) rfl ?_
      refine lv_iconst (pc := 44) (v := 1) hx hb dX9_keep_44 (by decide) ?_
      refine lv_isub (pc := 45) hx hb dX9_keep_45 ?_
      refine lv_topi (fun y_18 ey_18 => ?_)
      have hf := lt_sb hf ey_18
      obtain ⟨S_19, eS_19, hf⟩ := lt_e hf
      refine x_put (pc := 46) (ci := 9) (ws' := wd_Model G a S_19) C0 KN X 0 rfl rfl inlX9 tyX9_ok nmX9 2 (by decide) kw_11_14 rfl rfl rfl (Nat.le_of_ble_eq_true rfl) (by subst eS_19; rfl) dX9_keep_46 (fun H locs X => ?_)
      exact lb_X9_keep_49 C0 KN hA _  _ hf _ _ _ X (lv_sub hl [0] rfl)
set_option maxHeartbeats 4000000 in
set_option maxRecDepth 100000 in
theorem lb_X9_begins_17 {l : Launch} {p : Program} {e : Env} {s : State} {m : MethodId} {args : Array Value} {below : List Frame} {meth : Method} {c : Code} {G : xG} {A : Nat → Prop} {a : Nat → Nat} (C0 : xC p s m meth c cX9_begins 4 (none) RX9 args) (KN : xKN G s) (hA : ∀ q, s.heap.size ≤ q → A q) (So0 : tt_Model) (k58 : tt_Model → Option tt_Model) (hk58 : ∀ (S0 : tt_Model), k58 S0 = some So0 → ∀ (H : Heap) (locs : List Loc) (ls : Array Slot), xS G A s.heap (wd_Model G a S0) H locs → lv_has ls 4 [(0, .ref (a 0))] → W p l e ({ frames := 0, cells := 0, slots := 0, locals := 0 }) s m args below meth c H locs 0 0 (MQ below (xQo G none A (wd_Model G a So0)) args s 0 0 A) (F0 m 58 ls [])) : ∀ (n : Nat) (S0 : tt_Model) (x3 : Int32), fl_X9_begins_17 k58 n S0 x3 = some So0 → ∀ (H : Heap) (locs : List Loc) (ls : Array Slot), xS G A s.heap (wd_Model G a S0) H locs → lv_has ls 4 [(0, .ref (a 0)), (3, .int x3)] → W p l e ({ frames := 0, cells := 0, slots := 0, locals := 0 }) s m args below meth c H locs 0 0 (MQ below (xQo G none A (wd_Model G a So0)) args s 0 0 A) (F0 m 17 ls []) := by
  have hx := C0.1
  have hb := C0.2.1
  intro n
  induction n with
  | zero =>
    intro S0 x3 hf
    have hf : none = some So0 := hf
    cases hf
  | succ n ih =>
    intro S0 x3 hf H locs ls X hl
    rw [fl_X9_begins_17] at hf
    refine lv_iload_n (pc := 17) hx hb dX9_begins_17 rfl (lv_at hl 1 rfl) ?_
    refine lv_bipush (pc := 18) (v := 127) hx hb dX9_begins_18 (by decide) ?_
    refine lv_icmp_ge (pc := 20) (tgt := 58) hx hb dX9_begins_20 (by decide) (fun c_4 => ?_) (fun c_4 => ?_)
    · have hf := it_p hf c_4
      exact hk58 _ hf _ _ _ X (lv_sub hl [0] rfl)
    · have hf := it_n hf c_4
      refine lv_aload_n (pc := 23) hx hb dX9_begins_23 rfl (lv_at hl 0 rfl) ?_
      refine x_get (pc := 24) (ci := 9) C0 KN X 0 rfl rfl inlX9 8 (by decide) kw_7_13 rfl dX9_begins_24 ?_
      refine lv_iload_n (pc := 27) hx hb dX9_begins_27 rfl (lv_at hl 1 rfl) ?_
      refine lv_iconst (pc := 28) (v := 0) hx hb dX9_begins_28 (by decide) ?_
      obtain ⟨g_5, hf⟩ := gd_e hf
      obtain ⟨S_6, eS_6, hf⟩ := lt_e hf
      refine x_ast (pc := 29) (ws' := wd_Model G a S_6) C0 KN X 5 rfl g_5 (by subst eS_6; rfl) dX9_begins_29 (fun H locs X => ?_)
      refine lv_aload_n (pc := 30) hx hb dX9_begins_30 rfl (lv_at hl 0 rfl) ?_
      refine x_get (pc := 31) (ci := 9) C0 KN X 0 rfl rfl inlX9 9 (by decide) kw_7_14 rfl dX9_begins_31 ?_
      refine lv_iload_n (pc := 34) hx hb dX9_begins_34 rfl (lv_at hl 1 rfl) ?_
      refine lv_iconst (pc := 35) (v := 0) hx hb dX9_begins_35 (by decide) ?_
      obtain ⟨g_7, hf⟩ := gd_e hf
      obtain ⟨S_8, eS_8, hf⟩ := lt_e hf
      refine x_ast (pc := 36) (ws' := wd_Model G a S_8) C0 KN X 6 rfl g_7 (by subst eS_8; rfl) dX9_begins_36 (fun H locs X => ?_)
      refine lv_aload_n (pc := 37) hx hb dX9_begins_37 rfl (lv_at hl 0 rfl) ?_
      refine x_get (pc := 38) (ci := 9) C0 KN X 0 rfl rfl inlX9 10 (by decide) kw_7_15 rfl dX9_begins_38 ?_
      refine lv_iload_n (pc := 41) hx hb dX9_begins_41 rfl (lv_at hl 1 rfl) ?_
      refine x_ldc (pc := 42) C0 kw_12_22 dX9_begins_42 ?_
      obtain ⟨g_9, hf⟩ := gd_e hf
      obtain ⟨S_10, eS_10, hf⟩ := lt_e hf
      refine x_ast (pc := 44) (ws' := wd_Model G a S_10) C0 KN X 7 rfl g_9 (by subst eS_10; rfl) dX9_begins_44 (fun H locs X => ?_)
      refine lv_aload_n (pc := 45) hx hb dX9_begins_45 rfl (lv_at hl 0 rfl) ?_
      refine x_get (pc := 46) (ci := 9) C0 KN X 0 rfl rfl inlX9 11 (by decide) kw_7_16 rfl dX9_begins_46 ?_
      refine lv_iload_n (pc := 49) hx hb dX9_begins_49 rfl (lv_at hl 1 rfl) ?_
      refine lv_iconst (pc := 50) (v := 0) hx hb dX9_begins_50 (by decide) ?_
      obtain ⟨g_11, hf⟩ := gd_e hf
      obtain ⟨S_12, eS_12, hf⟩ := lt_e hf
      refine x_ast (pc := 51) (ws' := wd_Model G a S_12) C0 KN X 8 rfl g_11 (by subst eS_12; rfl) dX9_begins_51 (fun H locs X => ?_)
      obtain ⟨y_13, ey_13⟩ : ∃ y : Int32, y = x3 + (1 : Int32) := ⟨_, rfl⟩
      have hf := lt_sb hf ey_13
      refine lv_iinc (pc := 52) (v := y_13) (lv' := [(3, .int y_13), (0, .ref (a 0))]) hx hb dX9_begins_52 hl (k := 1) rfl (by rw [ey_13]; rfl) (by decide) rfl (fun ls hl => ?_)
      refine lv_goto (pc := 55) (tgt := 17) hx hb dX9_begins_55 (by decide) ?_
      exact ih _ _ hf _ _ _ X (lv_sub hl [1, 0] rfl)
theorem hd_X9_begins : yX9_begins.cls ≠ "java/lang/invoke/MethodHandle" ∧ yX9_begins.cls ≠ "java/lang/invoke/VarHandle" ∧ (parseMethodDescriptor yX9_begins.desc).map (fun d => d.parameters.length) = some 2 := by decide +kernel
set_option maxHeartbeats 4000000 in
set_option maxRecDepth 100000 in
theorem ct_X9_begins (l : Launch) (G : xG) (a : Nat → Nat) (S0 : tt_Model) (x1 : Int32) (x2 : Int32) (So0 : tt_Model) (hf : fn_X9_begins S0 x1 x2 = some So0) : xM l yX9_begins cX9_begins 4 (none) 0 0 G [.ref (a 0), .int x1, .int x2] (wd_Model G a S0) (wd_Model G a So0) none := by
  refine xMi (by decide) (Nat.le_of_ble_eq_true rfl) ?_
  intro p e s m below meth c A C0 KN hA X ls hl
  have hx := C0.1
  have hb := C0.2.1
  have C0 : xC p s m meth c cX9_begins 4 (none) RX9 _ := C0
  have hl : lv_has ls 4 [(0, .ref (a 0)), (1, .int x1), (2, .int x2)] := hl
  unfold fn_X9_begins at hf
  refine lv_aload_n (pc := 0) hx hb dX9_begins_0 rfl (lv_at hl 0 rfl) ?_
  refine lv_iconst (pc := 1) (v := 0) hx hb dX9_begins_1 (by decide) ?_
  obtain ⟨S_1, eS_1, hf⟩ := lt_e hf
  refine x_put (pc := 2) (ci := 9) (ws' := wd_Model G a S_1) C0 KN X 0 rfl rfl inlX9 tyX9_ok nmX9 5 (by decide) kw_12_19 rfl rfl rfl (Nat.le_of_ble_eq_true rfl) (by subst eS_1; rfl) dX9_begins_2 (fun H locs X => ?_)
  refine lv_aload_n (pc := 5) hx hb dX9_begins_5 rfl (lv_at hl 0 rfl) ?_
  refine lv_iload_n (pc := 6) hx hb dX9_begins_6 rfl (lv_at hl 1 rfl) ?_
  obtain ⟨S_2, eS_2, hf⟩ := lt_e hf
  refine x_put (pc := 7) (ci := 9) (ws' := wd_Model G a S_2) C0 KN X 0 rfl rfl inlX9 tyX9_ok nmX9 6 (by decide) kw_12_20 rfl rfl rfl (Nat.le_of_ble_eq_true rfl) (by subst eS_2; rfl) dX9_begins_7 (fun H locs X => ?_)
  refine lv_aload_n (pc := 10) hx hb dX9_begins_10 rfl (lv_at hl 0 rfl) ?_
  refine lv_iload_n (pc := 11) hx hb dX9_begins_11 rfl (lv_at hl 2 rfl) ?_
  obtain ⟨S_3, eS_3, hf⟩ := lt_e hf
  refine x_put (pc := 12) (ci := 9) (ws' := wd_Model G a S_3) C0 KN X 0 rfl rfl inlX9 tyX9_ok nmX9 7 (by decide) kw_12_21 rfl rfl rfl (Nat.le_of_ble_eq_true rfl) (by subst eS_3; rfl) dX9_begins_12 (fun H locs X => ?_)
  refine lv_iconst (pc := 15) (v := 0) hx hb dX9_begins_15 (by decide) ?_
  refine lv_istore_n (pc := 16) (lv' := [(3, .int (0 : Int32)), (0, .ref (a 0)), (1, .int x1), (2, .int x2)]) hx hb dX9_begins_16 rfl hl (by decide) rfl (fun ls hl => ?_)
  refine lb_X9_begins_17 C0 KN hA _ _ ?_ _ _ _ hf _ _ _ X (lv_sub hl [1, 0] rfl)
  · intro S0_e58_14 hf H locs ls X hl
    obtain rfl := so_1 hf
    exact x_vret (pc := 58) C0 X dX9_begins_58
