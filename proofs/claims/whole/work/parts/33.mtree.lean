def fn_X9_plants_153 (k16 : tt_Model → Int32 → Int32 → Option tt_Model) (S0 : tt_Model) (x2 : Int32) (x3 : Int32) (t1 : Int32) (t2 : Int32) (t3 : Int32) : Option tt_Model :=
  lt_ (t2 + t3) fun y_26 => gd_ (ix_ t1 127) (lt_ (sf_Model_treeCost S0 (upd (gf_Model_treeCost S0) t1.toNatClampNeg y_26)) fun S_28 => lt_ (x3 + (1 : Int32)) fun y_29 => k16 S_28 x2 y_29)
def fn_X9_plants_142 (k16 : tt_Model → Int32 → Int32 → Option tt_Model) (S0 : tt_Model) (x2 : Int32) (x3 : Int32) (x5 : Int32) (t1 : Int32) (t2 : Int32) : Option tt_Model :=
  if x5 = 0 then fn_X9_plants_153 k16 S0 x2 x3 t1 t2 (8 : Int32) else fn_X9_plants_153 k16 S0 x2 x3 t1 t2 (0 : Int32)
def fn_X9_plants_113 (k16 : tt_Model → Int32 → Int32 → Option tt_Model) (S0 : tt_Model) (x2 : Int32) (x3 : Int32) (x4 : Int32) (x5 : Int32) (x6 : Int32) (t1 : Int32) (t2 : Int32) : Option tt_Model :=
  gd_ (ix_ t1 127) (lt_ (sf_Model_isLeaf S0 (upd (gf_Model_isLeaf S0) t1.toNatClampNeg (vp_nar .boolean t2))) fun S_22 => gd_ (ix_ x4 127) (if ((gf_Model_isLeaf S_22) x4.toNatClampNeg) = 0 then fn_X9_plants_142 k16 S_22 x2 x3 x5 x4 x6 else gd_ (ix_ x4 127) (fn_X9_plants_142 k16 S_22 x2 x3 x5 x4 ((gf_Model_ownCost S_22) x4.toNatClampNeg))))
def fn_X9_plants_108 (k16 : tt_Model → Int32 → Int32 → Option tt_Model) (S0 : tt_Model) (x2 : Int32) (x3 : Int32) (x4 : Int32) (x5 : Int32) (x6 : Int32) (t1 : Int32) : Option tt_Model :=
  fn_X9_plants_113 k16 S0 x2 x3 x4 x5 x6 t1 (1 : Int32)
def fn_X9_plants_83 (k16 : tt_Model → Int32 → Int32 → Option tt_Model) (S0 : tt_Model) (x2 : Int32) (x3 : Int32) (x4 : Int32) (x5 : Int32) (t0 : Int32) : Option tt_Model :=
  if x5 = 0 then gd_ (ix_ x4 127) (if t0 < ((gf_Model_ownCost S0) x4.toNatClampNeg) then fn_X9_plants_113 k16 S0 x2 x3 x4 x5 t0 x4 (0 : Int32) else fn_X9_plants_108 k16 S0 x2 x3 x4 x5 t0 x4) else fn_X9_plants_108 k16 S0 x2 x3 x4 x5 t0 x4
def fn_X9_plants_43 (k16 : tt_Model → Int32 → Int32 → Option tt_Model) (S0 : tt_Model) (x2 : Int32) (x3 : Int32) (x4 : Int32) (t0 : Int32) : Option tt_Model :=
  if t0 = 0 then bd_ (fn_X9_nodeOf (x2 + (1 : Int32)) x3) fun r_14 => gd_ (ix_ r_14 127) (bd_ (fn_X9_nodeOf (x2 + (1 : Int32)) (x3 + ((1 : Int32) <<< (x2 &&& 31)))) fun r_17 => gd_ (ix_ r_17 127) (fn_X9_plants_83 k16 S0 x2 x3 x4 t0 (((gf_Model_treeCost S0) r_14.toNatClampNeg) + ((gf_Model_treeCost S0) r_17.toNatClampNeg)))) else fn_X9_plants_83 k16 S0 x2 x3 x4 t0 (0 : Int32)
def fl_X9_plants_16 (k161 : tt_Model → Int32 → Option tt_Model) : Nat → tt_Model → Int32 → Int32 → Option tt_Model
  | 0, _, _, _ => none
  | n + 1, S0, x2, x3 =>
  if ((1 : Int32) <<< (x2 &&& 31)) ≤ x3 then k161 S0 x2 else bd_ (fn_X9_nodeOf x2 x3) fun r_8 => bd_ (fn_X9_depth S0) fun r_10 => if x2 = r_10 then fn_X9_plants_43 (fl_X9_plants_16 k161 n) S0 x2 x3 r_8 (1 : Int32) else fn_X9_plants_43 (fl_X9_plants_16 k161 n) S0 x2 x3 r_8 (0 : Int32)
def fl_X9_plants_10 (k167 : tt_Model → Option tt_Model) : Nat → tt_Model → Int32 → Option tt_Model
  | 0, _, _ => none
  | n + 1, S0, x2 =>
  if x2 < 0 then k167 S0 else fl_X9_plants_16 (fun (S0_e161_33 : tt_Model) (x2_e161_33 : Int32) => lt_ (x2_e161_33 + (-1 : Int32)) fun y_34 => fl_X9_plants_10 k167 n S0_e161_33 y_34) fu_ S0 x2 (0 : Int32)
def fn_X9_plants_257 (k179 : tt_Model → Int32 → Int32 → Option tt_Model) (S0 : tt_Model) (x2 : Int32) (x3 : Int32) (t1 : Int32) (t2 : Int32) : Option tt_Model :=
  gd_ (ix_ t1 127) (lt_ (sf_Model_inTree S0 (upd (gf_Model_inTree S0) t1.toNatClampNeg t2)) fun S_49 => lt_ (x3 + (1 : Int32)) fun y_50 => k179 S_49 x2 y_50)
def fn_X9_plants_219 (k179 : tt_Model → Int32 → Int32 → Option tt_Model) (S0 : tt_Model) (x2 : Int32) (x3 : Int32) (t0 : Int32) : Option tt_Model :=
  bd_ (fn_X9_nodeOf x2 x3) fun r_41 => if t0 = 0 then fn_X9_plants_257 k179 S0 x2 x3 r_41 (0 : Int32) else bd_ (fn_X9_nodeOf x2 x3) fun r_44 => gd_ (ix_ r_44 127) (if ((gf_Model_isLeaf S0) r_44.toNatClampNeg) = 0 then fn_X9_plants_257 k179 S0 x2 x3 r_41 (2 : Int32) else fn_X9_plants_257 k179 S0 x2 x3 r_41 (1 : Int32))
def fn_X9_plants_214 (k179 : tt_Model → Int32 → Int32 → Option tt_Model) (S0 : tt_Model) (x2 : Int32) (x3 : Int32) : Option tt_Model :=
  fn_X9_plants_219 k179 S0 x2 x3 (1 : Int32)
def fl_X9_plants_179 (k264 : tt_Model → Int32 → Option tt_Model) : Nat → tt_Model → Int32 → Int32 → Option tt_Model
  | 0, _, _, _ => none
  | n + 1, S0, x2, x3 =>
  if ((1 : Int32) <<< (x2 &&& 31)) ≤ x3 then k264 S0 x2 else if x2 = 0 then fn_X9_plants_214 (fl_X9_plants_179 k264 n) S0 x2 x3 else bd_ (fn_X9_nodeOf (x2 - (1 : Int32)) (x3 &&& (((1 : Int32) <<< ((x2 - (1 : Int32)) &&& 31)) - (1 : Int32)))) fun r_51 => gd_ (ix_ r_51 127) (if ((gf_Model_inTree S0) r_51.toNatClampNeg) = (2 : Int32) then fn_X9_plants_214 (fl_X9_plants_179 k264 n) S0 x2 x3 else fn_X9_plants_219 (fl_X9_plants_179 k264 n) S0 x2 x3 (0 : Int32))
def fl_X9_plants_169 (k270 : tt_Model → Option tt_Model) : Nat → tt_Model → Int32 → Option tt_Model
  | 0, _, _ => none
  | n + 1, S0, x2 =>
  bd_ (fn_X9_depth S0) fun r_36 => if r_36 < x2 then k270 S0 else fl_X9_plants_179 (fun (S0_e264_55 : tt_Model) (x2_e264_55 : Int32) => lt_ (x2_e264_55 + (1 : Int32)) fun y_56 => fl_X9_plants_169 k270 n S0_e264_55 y_56) fu_ S0 x2 (0 : Int32)
def fn_X9_plants (S0 : tt_Model) : Option tt_Model :=
  b2_ (fn_X9_goesNow S0) fun r_1 P_2 => bd_ (fn_X9_depth P_2) fun r_4 => fl_X9_plants_10 (fun (S0_e167_35 : tt_Model) => fl_X9_plants_169 (fun (S0_e270_57 : tt_Model) => some S0_e270_57) fu_ S0_e167_35 (0 : Int32)) fu_ P_2 r_4
def fn_X9_leaves_75 (k19 : Int32 → Int32 → Int32 → Int32 → Int32 → Option Int32) (S0 : tt_Model) (x1 : Int32) (x2 : Int32) (x4 : Int32) (x5 : Int32) (t0 : Int32) : Option Int32 :=
  lt_ (x5 + (1 : Int32)) fun y_12 => k19 x1 x2 t0 x4 y_12
def fn_X9_leaves_62 (k19 : Int32 → Int32 → Int32 → Int32 → Int32 → Option Int32) (S0 : tt_Model) (x1 : Int32) (x3 : Int32) (x4 : Int32) (x5 : Int32) (x6 : Int32) (t0 : Int32) (t1 : Int32) : Option Int32 :=
  lt_ (t0 + t1) fun y_10 => if x6 = 0 then fn_X9_leaves_75 k19 S0 x1 y_10 x4 x5 x3 else fn_X9_leaves_75 k19 S0 x1 y_10 x4 x5 x4
def fn_X9_leaves_49 (k19 : Int32 → Int32 → Int32 → Int32 → Int32 → Option Int32) (S0 : tt_Model) (x1 : Int32) (x2 : Int32) (x3 : Int32) (x4 : Int32) (x5 : Int32) (t0 : Int32) : Option Int32 :=
  if t0 = 0 then fn_X9_leaves_62 k19 S0 x1 x3 x4 x5 t0 x2 (0 : Int32) else fn_X9_leaves_62 k19 S0 x1 x3 x4 x5 t0 x2 (1 : Int32)
def fl_X9_leaves_19 (k82 : Int32 → Int32 → Int32 → Int32 → Option Int32) (S0 : tt_Model) : Nat → Int32 → Int32 → Int32 → Int32 → Int32 → Option Int32
  | 0, _, _, _, _, _ => none
  | n + 1, x1, x2, x3, x4, x5 =>
  if ((1 : Int32) <<< (x4 &&& 31)) ≤ x5 then k82 x1 x2 x3 x4 else bd_ (fn_X9_nodeOf x4 x5) fun r_5 => gd_ (ix_ r_5 127) (if ((gf_Model_inTree S0) r_5.toNatClampNeg) = (1 : Int32) then fn_X9_leaves_49 (fl_X9_leaves_19 k82 S0 n) S0 x1 x2 x3 x4 x5 (1 : Int32) else fn_X9_leaves_49 (fl_X9_leaves_19 k82 S0 n) S0 x1 x2 x3 x4 x5 (0 : Int32))
def fl_X9_leaves_7 (k88 : Int32 → Int32 → Int32 → Option Int32) (S0 : tt_Model) : Nat → Int32 → Int32 → Int32 → Int32 → Option Int32
  | 0, _, _, _, _ => none
  | n + 1, x1, x2, x3, x4 =>
  bd_ (fn_X9_depth S0) fun r_1 => if r_1 < x4 then k88 x1 x2 x3 else fl_X9_leaves_19 (fun (x1_e82_13 : Int32) (x2_e82_13 : Int32) (x3_e82_13 : Int32) (x4_e82_13 : Int32) => lt_ (x4_e82_13 + (1 : Int32)) fun y_14 => fl_X9_leaves_7 k88 S0 n x1_e82_13 x2_e82_13 x3_e82_13 y_14) S0 fu_ x1 x2 x3 x4 (0 : Int32)
def fn_X9_leaves (S0 : tt_Model) (x1 : Int32) : Option Int32 :=
  fl_X9_leaves_7 (fun (x1_e88_15 : Int32) (x2_e88_15 : Int32) (x3_e88_15 : Int32) => if x1_e88_15 = 0 then some x2_e88_15 else some x3_e88_15) S0 fu_ x1 (0 : Int32) (0 : Int32) (0 : Int32)
def fn_X9_treeOf_28 (S0 : tt_Model) (t1 : Int32) : Option (Int32 × tt_Model) :=
  bd_ (fn_X9_leaves S0 t1) fun r_5 => some (r_5, S0)
def fn_X9_treeOf (S0 : tt_Model) (x1 : Int32) : Option (Int32 × tt_Model) :=
  bd_ (fn_X9_plants S0) fun P_1 => if x1 = 0 then gd_ (ix_ (0 : Int32) 127) (some ((gf_Model_treeCost P_1) (0 : Int32).toNatClampNeg, P_1)) else if x1 = (2 : Int32) then fn_X9_treeOf_28 P_1 (1 : Int32) else fn_X9_treeOf_28 P_1 (0 : Int32)
def fn_X9_tree (S0 : tt_Model) (x1 : Int32) : Option (Int32 × tt_Model) :=
  bd_ (fn_X9_in x1.toInt64 (0 : Int64) (2 : Int64)) fun r_1 => if r_1 = 0 then b2_ (fn_X9_bad S0 (-2 : Int32)) fun r_4 P_5 => some (r_4, P_5) else b2_ (fn_X9_treeOf S0 x1) fun r_7 P_8 => some (r_7, P_8)
def fn_X9_leaf (S0 : tt_Model) (x1 : Int32) (x2 : Int32) : Option (Int32 × tt_Model) :=
  bd_ (fn_X9_isNode S0 x1 x2) fun r_1 => if r_1 = 0 then b2_ (fn_X9_bad S0 (-2 : Int32)) fun r_9 P_10 => some (r_9, P_10) else bd_ (fn_X9_plants S0) fun P_4 => bd_ (fn_X9_nodeOf x1 x2) fun r_6 => gd_ (ix_ r_6 127) (some ((gf_Model_inTree P_4) r_6.toNatClampNeg, P_4))

set_option maxHeartbeats 4000000 in
set_option maxRecDepth 100000 in
theorem lb_X9_plants_153 {l : Launch} {p : Program} {e : Env} {s : State} {m : MethodId} {args : Array Value} {below : List Frame} {meth : Method} {c : Code} {G : xG} {A : Nat → Prop} {a : Nat → Nat} (C0 : xC p s m meth c cX9_plants 7 (none) RX9 args) (KN : xKN G s) (hA : ∀ q, s.heap.size ≤ q → A q) (So0 : tt_Model) (k16 : tt_Model → Int32 → Int32 → Option tt_Model) (hk16 : ∀ (S0 : tt_Model) (x2 : Int32) (x3 : Int32), k16 S0 x2 x3 = some So0 → ∀ (H : Heap) (locs : List Loc) (ls : Array Slot), xS G A s.heap (wd_Model G a S0) H locs → lv_has ls 7 [(0, .ref (a 0)), (2, .int x2), (3, .int x3)] → W p l e ({ frames := 5, cells := 0, slots := 0, locals := 114 }) s m args below meth c H locs 0 0 (MQ below (xQo G none A (wd_Model G a So0)) args s 0 0 A) (F0 m 16 ls [])) : ∀ (S0 : tt_Model) (x2 : Int32) (x3 : Int32) (t1 : Int32) (t2 : Int32) (t3 : Int32), fn_X9_plants_153 k16 S0 x2 x3 t1 t2 t3 = some So0 → ∀ (H : Heap) (locs : List Loc) (ls : Array Slot), xS G A s.heap (wd_Model G a S0) H locs → lv_has ls 7 [(0, .ref (a 0)), (2, .int x2), (3, .int x3)] → W p l e ({ frames := 5, cells := 0, slots := 0, locals := 114 }) s m args below meth c H locs 0 0 (MQ below (xQo G none A (wd_Model G a So0)) args s 0 0 A) (F0 m 153 ls [.int t3, .int t2, .int t1, .ref (a 13)]) := by
  have hx := C0.1
  have hb := C0.2.1
  intro S0 x2 x3 t1 t2 t3 hf H locs ls X hl
  unfold fn_X9_plants_153 at hf
  refine lv_iadd (pc := 153) hx hb dX9_plants_153 ?_
  refine lv_topi (fun y_26 ey_26 => ?_)
  have hf := lt_sb hf ey_26
  obtain ⟨g_27, hf⟩ := gd_e hf
  obtain ⟨S_28, eS_28, hf⟩ := lt_e hf
  refine x_ast (pc := 154) (ws' := wd_Model G a S_28) C0 KN X 13 rfl g_27 (by subst eS_28; rfl) dX9_plants_154 (fun H locs X => ?_)
  obtain ⟨y_29, ey_29⟩ : ∃ y : Int32, y = x3 + (1 : Int32) := ⟨_, rfl⟩
  have hf := lt_sb hf ey_29
  refine lv_iinc (pc := 155) (v := y_29) (lv' := [(3, .int y_29), (0, .ref (a 0)), (2, .int x2)]) hx hb dX9_plants_155 hl (k := 2) rfl (by rw [ey_29]; rfl) (by decide) rfl (fun ls hl => ?_)
  refine lv_goto (pc := 158) (tgt := 16) hx hb dX9_plants_158 (by decide) ?_
  exact hk16 _ _ _ hf _ _ _ X (lv_sub hl [1, 2, 0] rfl)
set_option maxHeartbeats 4000000 in
set_option maxRecDepth 100000 in
theorem lb_X9_plants_142 {l : Launch} {p : Program} {e : Env} {s : State} {m : MethodId} {args : Array Value} {below : List Frame} {meth : Method} {c : Code} {G : xG} {A : Nat → Prop} {a : Nat → Nat} (C0 : xC p s m meth c cX9_plants 7 (none) RX9 args) (KN : xKN G s) (hA : ∀ q, s.heap.size ≤ q → A q) (So0 : tt_Model) (k16 : tt_Model → Int32 → Int32 → Option tt_Model) (hk16 : ∀ (S0 : tt_Model) (x2 : Int32) (x3 : Int32), k16 S0 x2 x3 = some So0 → ∀ (H : Heap) (locs : List Loc) (ls : Array Slot), xS G A s.heap (wd_Model G a S0) H locs → lv_has ls 7 [(0, .ref (a 0)), (2, .int x2), (3, .int x3)] → W p l e ({ frames := 5, cells := 0, slots := 0, locals := 114 }) s m args below meth c H locs 0 0 (MQ below (xQo G none A (wd_Model G a So0)) args s 0 0 A) (F0 m 16 ls [])) : ∀ (S0 : tt_Model) (x2 : Int32) (x3 : Int32) (x5 : Int32) (t1 : Int32) (t2 : Int32), fn_X9_plants_142 k16 S0 x2 x3 x5 t1 t2 = some So0 → ∀ (H : Heap) (locs : List Loc) (ls : Array Slot), xS G A s.heap (wd_Model G a S0) H locs → lv_has ls 7 [(0, .ref (a 0)), (2, .int x2), (3, .int x3), (5, .int x5)] → W p l e ({ frames := 5, cells := 0, slots := 0, locals := 114 }) s m args below meth c H locs 0 0 (MQ below (xQo G none A (wd_Model G a So0)) args s 0 0 A) (F0 m 142 ls [.int t2, .int t1, .ref (a 13)]) := by
  have hx := C0.1
  have hb := C0.2.1
  intro S0 x2 x3 x5 t1 t2 hf H locs ls X hl
  unfold fn_X9_plants_142 at hf
  refine lv_iload (pc := 142) hx hb dX9_plants_142 (lv_at hl 3 rfl) ?_
  refine lv_if_eq (pc := 144) (tgt := 151) hx hb dX9_plants_144 (by decide) (fun c_25 => ?_) (fun c_25 => ?_)
  · have hf := it_p hf c_25
    refine lv_bipush (pc := 151) (v := 8) hx hb dX9_plants_151 (by decide) ?_
    exact lb_X9_plants_153 C0 KN hA _ k16 hk16 _ _ _ _ _ _ hf _ _ _ X (lv_sub hl [0, 1, 2] rfl)
  · have hf := it_n hf c_25
    refine lv_iconst (pc := 147) (v := 0) hx hb dX9_plants_147 (by decide) ?_
    refine lv_goto (pc := 148) (tgt := 153) hx hb dX9_plants_148 (by decide) ?_
    exact lb_X9_plants_153 C0 KN hA _ k16 hk16 _ _ _ _ _ _ hf _ _ _ X (lv_sub hl [0, 1, 2] rfl)
set_option maxHeartbeats 4000000 in
set_option maxRecDepth 100000 in
theorem lb_X9_plants_113 {l : Launch} {p : Program} {e : Env} {s : State} {m : MethodId} {args : Array Value} {below : List Frame} {meth : Method} {c : Code} {G : xG} {A : Nat → Prop} {a : Nat → Nat} (C0 : xC p s m meth c cX9_plants 7 (none) RX9 args) (KN : xKN G s) (hA : ∀ q, s.heap.size ≤ q → A q) (So0 : tt_Model) (k16 : tt_Model → Int32 → Int32 → Option tt_Model) (hk16 : ∀ (S0 : tt_Model) (x2 : Int32) (x3 : Int32), k16 S0 x2 x3 = some So0 → ∀ (H : Heap) (locs : List Loc) (ls : Array Slot), xS G A s.heap (wd_Model G a S0) H locs → lv_has ls 7 [(0, .ref (a 0)), (2, .int x2), (3, .int x3)] → W p l e ({ frames := 5, cells := 0, slots := 0, locals := 114 }) s m args below meth c H locs 0 0 (MQ below (xQo G none A (wd_Model G a So0)) args s 0 0 A) (F0 m 16 ls [])) : ∀ (S0 : tt_Model) (x2 : Int32) (x3 : Int32) (x4 : Int32) (x5 : Int32) (x6 : Int32) (t1 : Int32) (t2 : Int32), fn_X9_plants_113 k16 S0 x2 x3 x4 x5 x6 t1 t2 = some So0 → ∀ (H : Heap) (locs : List Loc) (ls : Array Slot), xS G A s.heap (wd_Model G a S0) H locs → lv_has ls 7 [(0, .ref (a 0)), (2, .int x2), (3, .int x3), (4, .int x4), (5, .int x5), (6, .int x6)] → W p l e ({ frames := 5, cells := 0, slots := 0, locals := 114 }) s m args below meth c H locs 0 0 (MQ below (xQo G none A (wd_Model G a So0)) args s 0 0 A) (F0 m 113 ls [.int t2, .int t1, .ref (a 14)]) := by
  have hx := C0.1
  have hb := C0.2.1
  intro S0 x2 x3 x4 x5 x6 t1 t2 hf H locs ls X hl
  unfold fn_X9_plants_113 at hf
  obtain ⟨g_21, hf⟩ := gd_e hf
  obtain ⟨S_22, eS_22, hf⟩ := lt_e hf
  refine x_zst (pc := 113) (ws' := wd_Model G a S_22) C0 KN X 14 rfl g_21 (by subst eS_22; rfl) dX9_plants_113 (fun H locs X => ?_)
  refine lv_aload_n (pc := 114) hx hb dX9_plants_114 rfl (lv_at hl 0 rfl) ?_
  refine x_get (pc := 115) (ci := 9) C0 KN X 0 rfl rfl inlX9 16 (by decide) kw_7_21 rfl dX9_plants_115 ?_
  refine lv_iload (pc := 118) hx hb dX9_plants_118 (lv_at hl 3 rfl) ?_
  refine lv_aload_n (pc := 120) hx hb dX9_plants_120 rfl (lv_at hl 0 rfl) ?_
  refine x_get (pc := 121) (ci := 9) C0 KN X 0 rfl rfl inlX9 17 (by decide) kw_7_23 rfl dX9_plants_121 ?_
  refine lv_iload (pc := 124) hx hb dX9_plants_124 (lv_at hl 3 rfl) ?_
  obtain ⟨g_23, hf⟩ := gd_e hf
  refine x_zld (pc := 126) C0 KN X 14 rfl g_23 dX9_plants_126 ?_
  refine W.eq (g2 := F0 m 127 ls [.int ((gf_Model_isLeaf S_22) x4.toNatClampNeg), .int x4, .ref (a 13)]) rfl ?_
  refine lv_if_eq (pc := 127) (tgt := 140) hx hb dX9_plants_127 (by decide) (fun c_24 => ?_) (fun c_24 => ?_)
  · have hf := it_p hf c_24
    refine lv_iload (pc := 140) hx hb dX9_plants_140 (lv_at hl 5 rfl) ?_
    exact lb_X9_plants_142 C0 KN hA _ k16 hk16 _ _ _ _ _ _ hf _ _ _ X (lv_sub hl [0, 1, 2, 4] rfl)
  · have hf := it_n hf c_24
    refine lv_aload_n (pc := 130) hx hb dX9_plants_130 rfl (lv_at hl 0 rfl) ?_
    refine x_get (pc := 131) (ci := 9) C0 KN X 0 rfl rfl inlX9 11 (by decide) kw_7_16 rfl dX9_plants_131 ?_
    refine lv_iload (pc := 134) hx hb dX9_plants_134 (lv_at hl 3 rfl) ?_
    obtain ⟨g_30, hf⟩ := gd_e hf
    refine x_ald (pc := 136) C0 KN X 8 rfl g_30 dX9_plants_136 ?_
    refine W.eq (g2 := F0 m 137 ls [.int ((gf_Model_ownCost S_22) x4.toNatClampNeg), .int x4, .ref (a 13)]) rfl ?_
    refine lv_goto (pc := 137) (tgt := 142) hx hb dX9_plants_137 (by decide) ?_
    exact lb_X9_plants_142 C0 KN hA _ k16 hk16 _ _ _ _ _ _ hf _ _ _ X (lv_sub hl [0, 1, 2, 4] rfl)
set_option maxHeartbeats 4000000 in
set_option maxRecDepth 100000 in
theorem lb_X9_plants_108 {l : Launch} {p : Program} {e : Env} {s : State} {m : MethodId} {args : Array Value} {below : List Frame} {meth : Method} {c : Code} {G : xG} {A : Nat → Prop} {a : Nat → Nat} (C0 : xC p s m meth c cX9_plants 7 (none) RX9 args) (KN : xKN G s) (hA : ∀ q, s.heap.size ≤ q → A q) (So0 : tt_Model) (k16 : tt_Model → Int32 → Int32 → Option tt_Model) (hk16 : ∀ (S0 : tt_Model) (x2 : Int32) (x3 : Int32), k16 S0 x2 x3 = some So0 → ∀ (H : Heap) (locs : List Loc) (ls : Array Slot), xS G A s.heap (wd_Model G a S0) H locs → lv_has ls 7 [(0, .ref (a 0)), (2, .int x2), (3, .int x3)] → W p l e ({ frames := 5, cells := 0, slots := 0, locals := 114 }) s m args below meth c H locs 0 0 (MQ below (xQo G none A (wd_Model G a So0)) args s 0 0 A) (F0 m 16 ls [])) : ∀ (S0 : tt_Model) (x2 : Int32) (x3 : Int32) (x4 : Int32) (x5 : Int32) (x6 : Int32) (t1 : Int32), fn_X9_plants_108 k16 S0 x2 x3 x4 x5 x6 t1 = some So0 → ∀ (H : Heap) (locs : List Loc) (ls : Array Slot), xS G A s.heap (wd_Model G a S0) H locs → lv_has ls 7 [(0, .ref (a 0)), (2, .int x2), (3, .int x3), (4, .int x4), (5, .int x5), (6, .int x6)] → W p l e ({ frames := 5, cells := 0, slots := 0, locals := 114 }) s m args below meth c H locs 0 0 (MQ below (xQo G none A (wd_Model G a So0)) args s 0 0 A) (F0 m 108 ls [.int t1, .ref (a 14)]) := by
  have hx := C0.1
  have hb := C0.2.1
  intro S0 x2 x3 x4 x5 x6 t1 hf H locs ls X hl
  unfold fn_X9_plants_108 at hf
  refine lv_iconst (pc := 108) (v := 1) hx hb dX9_plants_108 (by decide) ?_
  refine lv_goto (pc := 109) (tgt := 113) hx hb dX9_plants_109 (by decide) ?_
  exact lb_X9_plants_113 C0 KN hA _ k16 hk16 _ _ _ _ _ _ _ _ hf _ _ _ X (lv_sub hl [0, 1, 2, 3, 4, 5] rfl)
set_option maxHeartbeats 4000000 in
set_option maxRecDepth 100000 in
theorem lb_X9_plants_83 {l : Launch} {p : Program} {e : Env} {s : State} {m : MethodId} {args : Array Value} {below : List Frame} {meth : Method} {c : Code} {G : xG} {A : Nat → Prop} {a : Nat → Nat} (C0 : xC p s m meth c cX9_plants 7 (none) RX9 args) (KN : xKN G s) (hA : ∀ q, s.heap.size ≤ q → A q) (So0 : tt_Model) (k16 : tt_Model → Int32 → Int32 → Option tt_Model) (hk16 : ∀ (S0 : tt_Model) (x2 : Int32) (x3 : Int32), k16 S0 x2 x3 = some So0 → ∀ (H : Heap) (locs : List Loc) (ls : Array Slot), xS G A s.heap (wd_Model G a S0) H locs → lv_has ls 7 [(0, .ref (a 0)), (2, .int x2), (3, .int x3)] → W p l e ({ frames := 5, cells := 0, slots := 0, locals := 114 }) s m args below meth c H locs 0 0 (MQ below (xQo G none A (wd_Model G a So0)) args s 0 0 A) (F0 m 16 ls [])) : ∀ (S0 : tt_Model) (x2 : Int32) (x3 : Int32) (x4 : Int32) (x5 : Int32) (t0 : Int32), fn_X9_plants_83 k16 S0 x2 x3 x4 x5 t0 = some So0 → ∀ (H : Heap) (locs : List Loc) (ls : Array Slot), xS G A s.heap (wd_Model G a S0) H locs → lv_has ls 7 [(0, .ref (a 0)), (2, .int x2), (3, .int x3), (4, .int x4), (5, .int x5)] → W p l e ({ frames := 5, cells := 0, slots := 0, locals := 114 }) s m args below meth c H locs 0 0 (MQ below (xQo G none A (wd_Model G a So0)) args s 0 0 A) (F0 m 83 ls [.int t0]) := by
  have hx := C0.1
  have hb := C0.2.1
  intro S0 x2 x3 x4 x5 t0 hf H locs ls X hl
  unfold fn_X9_plants_83 at hf
  refine lv_istore (pc := 83) (lv' := [(6, .int t0), (0, .ref (a 0)), (2, .int x2), (3, .int x3), (4, .int x4), (5, .int x5)]) hx hb dX9_plants_83 hl (by decide) rfl (fun ls hl => ?_)
  refine lv_aload_n (pc := 85) hx hb dX9_plants_85 rfl (lv_at hl 1 rfl) ?_
  refine x_get (pc := 86) (ci := 9) C0 KN X 0 rfl rfl inlX9 17 (by decide) kw_7_23 rfl dX9_plants_86 ?_
  refine lv_iload (pc := 89) hx hb dX9_plants_89 (lv_at hl 4 rfl) ?_
  refine lv_iload (pc := 91) hx hb dX9_plants_91 (lv_at hl 5 rfl) ?_
  refine lv_if_ne (pc := 93) (tgt := 108) hx hb dX9_plants_93 (by decide) (fun c_20 => ?_) (fun c_20 => ?_)
  · have hf := it_n hf c_20
    exact lb_X9_plants_108 C0 KN hA _ k16 hk16 _ _ _ _ _ _ _ hf _ _ _ X (lv_sub hl [1, 2, 3, 4, 5, 0] rfl)
  · have hf := it_p hf c_20
    refine lv_aload_n (pc := 96) hx hb dX9_plants_96 rfl (lv_at hl 1 rfl) ?_
    refine x_get (pc := 97) (ci := 9) C0 KN X 0 rfl rfl inlX9 11 (by decide) kw_7_16 rfl dX9_plants_97 ?_
    refine lv_iload (pc := 100) hx hb dX9_plants_100 (lv_at hl 4 rfl) ?_
    obtain ⟨g_31, hf⟩ := gd_e hf
    refine x_ald (pc := 102) C0 KN X 8 rfl g_31 dX9_plants_102 ?_
    refine W.eq (g2 := F0 m 103 ls [.int ((gf_Model_ownCost S0) x4.toNatClampNeg), .int x4, .ref (a 14)]) rfl ?_
    refine lv_iload (pc := 103) hx hb dX9_plants_103 (lv_at hl 0 rfl) ?_
    refine lv_icmp_gt (pc := 105) (tgt := 112) hx hb dX9_plants_105 (by decide) (fun c_32 => ?_) (fun c_32 => ?_)
    · have hf := it_p hf c_32
      refine lv_iconst (pc := 112) (v := 0) hx hb dX9_plants_112 (by decide) ?_
      exact lb_X9_plants_113 C0 KN hA _ k16 hk16 _ _ _ _ _ _ _ _ hf _ _ _ X (lv_sub hl [1, 2, 3, 4, 5, 0] rfl)
    · have hf := it_n hf c_32
      exact lb_X9_plants_108 C0 KN hA _ k16 hk16 _ _ _ _ _ _ _ hf _ _ _ X (lv_sub hl [1, 2, 3, 4, 5, 0] rfl)
set_option maxHeartbeats 4000000 in
set_option maxRecDepth 100000 in
theorem lb_X9_plants_43 {l : Launch} {p : Program} {e : Env} {s : State} {m : MethodId} {args : Array Value} {below : List Frame} {meth : Method} {c : Code} {G : xG} {A : Nat → Prop} {a : Nat → Nat} (C0 : xC p s m meth c cX9_plants 7 (none) RX9 args) (KN : xKN G s) (hA : ∀ q, s.heap.size ≤ q → A q) (So0 : tt_Model) (k16 : tt_Model → Int32 → Int32 → Option tt_Model) (hk16 : ∀ (S0 : tt_Model) (x2 : Int32) (x3 : Int32), k16 S0 x2 x3 = some So0 → ∀ (H : Heap) (locs : List Loc) (ls : Array Slot), xS G A s.heap (wd_Model G a S0) H locs → lv_has ls 7 [(0, .ref (a 0)), (2, .int x2), (3, .int x3)] → W p l e ({ frames := 5, cells := 0, slots := 0, locals := 114 }) s m args below meth c H locs 0 0 (MQ below (xQo G none A (wd_Model G a So0)) args s 0 0 A) (F0 m 16 ls [])) : ∀ (S0 : tt_Model) (x2 : Int32) (x3 : Int32) (x4 : Int32) (t0 : Int32), fn_X9_plants_43 k16 S0 x2 x3 x4 t0 = some So0 → ∀ (H : Heap) (locs : List Loc) (ls : Array Slot), xS G A s.heap (wd_Model G a S0) H locs → lv_has ls 7 [(0, .ref (a 0)), (2, .int x2), (3, .int x3), (4, .int x4)] → W p l e ({ frames := 5, cells := 0, slots := 0, locals := 114 }) s m args below meth c H locs 0 0 (MQ below (xQo G none A (wd_Model G a So0)) args s 0 0 A) (F0 m 43 ls [.int t0]) := by
  have hx := C0.1
  have hb := C0.2.1
  intro S0 x2 x3 x4 t0 hf H locs ls X hl
  unfold fn_X9_plants_43 at hf
  refine lv_istore (pc := 43) (lv' := [(5, .int t0), (0, .ref (a 0)), (2, .int x2), (3, .int x3), (4, .int x4)]) hx hb dX9_plants_43 hl (by decide) rfl (fun ls hl => ?_)
  refine lv_iload (pc := 45) hx hb dX9_plants_45 (lv_at hl 0 rfl) ?_
  refine lv_if_eq (pc := 47) (tgt := 54) hx hb dX9_plants_47 (by decide) (fun c_13 => ?_) (fun c_13 => ?_)
  · have hf := it_p hf c_13
    refine lv_aload_n (pc := 54) hx hb dX9_plants_54 rfl (lv_at hl 1 rfl) ?_
    refine x_get (pc := 55) (ci := 9) C0 KN X 0 rfl rfl inlX9 16 (by decide) kw_7_21 rfl dX9_plants_55 ?_
    refine lv_iload_n (pc := 58) hx hb dX9_plants_58 rfl (lv_at hl 2 rfl) ?_
    refine lv_iconst (pc := 59) (v := 1) hx hb dX9_plants_59 (by decide) ?_
    refine lv_iadd (pc := 60) hx hb dX9_plants_60 ?_
    refine lv_iload_n (pc := 61) hx hb dX9_plants_61 rfl (lv_at hl 3 rfl) ?_
    obtain ⟨r_14, h_15, hf⟩ := bd_e hf
    refine x_cs (pc := 62) (As := [.int (x2 + (1 : Int32)), .int x3]) (rest := [.ref (a 13)]) C0 (ct_X9_nodeOf l (x2 + (1 : Int32)) x3 r_14 h_15) kw_13_6 kw_13_4 kw_13_5 kw_1_5 hd_X9_nodeOf ⟨by decide, by decide⟩ hl.1 rfl (Nat.le_of_ble_eq_true rfl) ⟨Nat.zero_le _, Nat.zero_le _⟩ dX9_plants_62 ?_
    refine W.eq (g2 := F0 m 65 ls [.int r_14, .ref (a 13)]) rfl ?_
    obtain ⟨g_16, hf⟩ := gd_e hf
    refine x_ald (pc := 65) C0 KN X 13 rfl g_16 dX9_plants_65 ?_
    refine W.eq (g2 := F0 m 66 ls [.int ((gf_Model_treeCost S0) r_14.toNatClampNeg)]) rfl ?_
    refine lv_aload_n (pc := 66) hx hb dX9_plants_66 rfl (lv_at hl 1 rfl) ?_
    refine x_get (pc := 67) (ci := 9) C0 KN X 0 rfl rfl inlX9 16 (by decide) kw_7_21 rfl dX9_plants_67 ?_
    refine lv_iload_n (pc := 70) hx hb dX9_plants_70 rfl (lv_at hl 2 rfl) ?_
    refine lv_iconst (pc := 71) (v := 1) hx hb dX9_plants_71 (by decide) ?_
    refine lv_iadd (pc := 72) hx hb dX9_plants_72 ?_
    refine lv_iload_n (pc := 73) hx hb dX9_plants_73 rfl (lv_at hl 3 rfl) ?_
    refine lv_iconst (pc := 74) (v := 1) hx hb dX9_plants_74 (by decide) ?_
    refine lv_iload_n (pc := 75) hx hb dX9_plants_75 rfl (lv_at hl 2 rfl) ?_
    refine lv_ishl (pc := 76) hx hb dX9_plants_76 ?_
    refine lv_iadd (pc := 77) hx hb dX9_plants_77 ?_
    obtain ⟨r_17, h_18, hf⟩ := bd_e hf
    refine x_cs (pc := 78) (As := [.int (x2 + (1 : Int32)), .int (x3 + ((1 : Int32) <<< (x2 &&& 31)))]) (rest := [.ref (a 13), .int ((gf_Model_treeCost S0) r_14.toNatClampNeg)]) C0 (ct_X9_nodeOf l (x2 + (1 : Int32)) (x3 + ((1 : Int32) <<< (x2 &&& 31))) r_17 h_18) kw_13_6 kw_13_4 kw_13_5 kw_1_5 hd_X9_nodeOf ⟨by decide, by decide⟩ hl.1 rfl (Nat.le_of_ble_eq_true rfl) ⟨Nat.zero_le _, Nat.zero_le _⟩ dX9_plants_78 ?_
    refine W.eq (g2 := F0 m 81 ls [.int r_17, .ref (a 13), .int ((gf_Model_treeCost S0) r_14.toNatClampNeg)]) rfl ?_
    obtain ⟨g_19, hf⟩ := gd_e hf
    refine x_ald (pc := 81) C0 KN X 13 rfl g_19 dX9_plants_81 ?_
    refine W.eq (g2 := F0 m 82 ls [.int ((gf_Model_treeCost S0) r_17.toNatClampNeg), .int ((gf_Model_treeCost S0) r_14.toNatClampNeg)]) rfl ?_
    refine lv_iadd (pc := 82) hx hb dX9_plants_82 ?_
    exact lb_X9_plants_83 C0 KN hA _ k16 hk16 _ _ _ _ _ _ hf _ _ _ X (lv_sub hl [1, 2, 3, 4, 0] rfl)
  · have hf := it_n hf c_13
    refine lv_iconst (pc := 50) (v := 0) hx hb dX9_plants_50 (by decide) ?_
    refine lv_goto (pc := 51) (tgt := 83) hx hb dX9_plants_51 (by decide) ?_
    exact lb_X9_plants_83 C0 KN hA _ k16 hk16 _ _ _ _ _ _ hf _ _ _ X (lv_sub hl [1, 2, 3, 4, 0] rfl)
set_option maxHeartbeats 4000000 in
set_option maxRecDepth 100000 in
theorem lb_X9_plants_16 {l : Launch} {p : Program} {e : Env} {s : State} {m : MethodId} {args : Array Value} {below : List Frame} {meth : Method} {c : Code} {G : xG} {A : Nat → Prop} {a : Nat → Nat} (C0 : xC p s m meth c cX9_plants 7 (none) RX9 args) (KN : xKN G s) (hA : ∀ q, s.heap.size ≤ q → A q) (So0 : tt_Model) (k161 : tt_Model → Int32 → Option tt_Model) (hk161 : ∀ (S0 : tt_Model) (x2 : Int32), k161 S0 x2 = some So0 → ∀ (H : Heap) (locs : List Loc) (ls : Array Slot), xS G A s.heap (wd_Model G a S0) H locs → lv_has ls 7 [(0, .ref (a 0)), (2, .int x2)] → W p l e ({ frames := 5, cells := 0, slots := 0, locals := 114 }) s m args below meth c H locs 0 0 (MQ below (xQo G none A (wd_Model G a So0)) args s 0 0 A) (F0 m 161 ls [])) : ∀ (n : Nat) (S0 : tt_Model) (x2 : Int32) (x3 : Int32), fl_X9_plants_16 k161 n S0 x2 x3 = some So0 → ∀ (H : Heap) (locs : List Loc) (ls : Array Slot), xS G A s.heap (wd_Model G a S0) H locs → lv_has ls 7 [(0, .ref (a 0)), (2, .int x2), (3, .int x3)] → W p l e ({ frames := 5, cells := 0, slots := 0, locals := 114 }) s m args below meth c H locs 0 0 (MQ below (xQo G none A (wd_Model G a So0)) args s 0 0 A) (F0 m 16 ls []) := by
  have hx := C0.1
  have hb := C0.2.1
  intro n
  induction n with
  | zero =>
    intro S0 x2 x3 hf
    have hf : none = some So0 := hf
    cases hf
  | succ n ih =>
    intro S0 x2 x3 hf H locs ls X hl
    rw [fl_X9_plants_16] at hf
    refine lv_iload_n (pc := 16) hx hb dX9_plants_16 rfl (lv_at hl 2 rfl) ?_
    refine lv_iconst (pc := 17) (v := 1) hx hb dX9_plants_17 (by decide) ?_
    refine lv_iload_n (pc := 18) hx hb dX9_plants_18 rfl (lv_at hl 1 rfl) ?_
    refine lv_ishl (pc := 19) hx hb dX9_plants_19 ?_
    refine lv_icmp_ge (pc := 20) (tgt := 161) hx hb dX9_plants_20 (by decide) (fun c_7 => ?_) (fun c_7 => ?_)
    · have hf := it_p hf c_7
      exact hk161 _ _ hf _ _ _ X (lv_sub hl [0, 1] rfl)
    · have hf := it_n hf c_7
      refine lv_iload_n (pc := 23) hx hb dX9_plants_23 rfl (lv_at hl 1 rfl) ?_
      refine lv_iload_n (pc := 24) hx hb dX9_plants_24 rfl (lv_at hl 2 rfl) ?_
      obtain ⟨r_8, h_9, hf⟩ := bd_e hf
      refine x_cs (pc := 25) (As := [.int x2, .int x3]) (rest := []) C0 (ct_X9_nodeOf l x2 x3 r_8 h_9) kw_13_6 kw_13_4 kw_13_5 kw_1_5 hd_X9_nodeOf ⟨by decide, by decide⟩ hl.1 rfl (Nat.le_of_ble_eq_true rfl) ⟨Nat.zero_le _, Nat.zero_le _⟩ dX9_plants_25 ?_
      refine W.eq (g2 := F0 m 28 ls [.int r_8]) rfl ?_
      refine lv_istore (pc := 28) (lv' := [(4, .int r_8), (0, .ref (a 0)), (2, .int x2), (3, .int x3)]) hx hb dX9_plants_28 hl (by decide) rfl (fun ls hl => ?_)
      refine lv_iload_n (pc := 30) hx hb dX9_plants_30 rfl (lv_at hl 2 rfl) ?_
      refine lv_aload_n (pc := 31) hx hb dX9_plants_31 rfl (lv_at hl 1 rfl) ?_
      obtain ⟨r_10, h_11, hf⟩ := bd_e hf
      refine x_cv (pc := 32) (ws' := wd_Model G a S0) (As := []) (rest := [.int x2]) (ci := 9) (qr := 0) C0 KN X hA [0, 1, 2, 3, 4, 5, 6, 7, 8, 9, 10, 11, 12, 13, 14, 15, 16, 17, 18] [] [0, 1, 2, 3, 4, 5, 6, 7, 8, 9, 10, 11, 12, 13, 14, 15, 16, 17, 18] cu_C49 rfl cu_R49 rfl (by decide) (cu_J49 (S0 := S0)) rfl (ct_X9_depth l G a S0 r_10 h_11) rfl rfl rfl kw_12_6 kw_12_3 kw_12_4 kw_12_5 kw_1_5 hd_X9_depth ⟨by decide, by decide⟩ hl.1 rfl (Nat.le_of_ble_eq_true rfl) ⟨Nat.zero_le _, Nat.zero_le _⟩ dX9_plants_32 (fun H locs X => ?_)
      refine W.eq (g2 := F0 m 35 ls [.int r_10, .int x2]) rfl ?_
      refine lv_icmp_ne (pc := 35) (tgt := 42) hx hb dX9_plants_35 (by decide) (fun c_12 => ?_) (fun c_12 => ?_)
      · have hf := it_n hf c_12
        refine lv_iconst (pc := 42) (v := 0) hx hb dX9_plants_42 (by decide) ?_
        exact lb_X9_plants_43 C0 KN hA _ (fl_X9_plants_16 k161 n) ih _ _ _ _ _ hf _ _ _ X (lv_sub hl [1, 2, 3, 0] rfl)
      · have hf := it_p hf c_12
        refine lv_iconst (pc := 38) (v := 1) hx hb dX9_plants_38 (by decide) ?_
        refine lv_goto (pc := 39) (tgt := 43) hx hb dX9_plants_39 (by decide) ?_
        exact lb_X9_plants_43 C0 KN hA _ (fl_X9_plants_16 k161 n) ih _ _ _ _ _ hf _ _ _ X (lv_sub hl [1, 2, 3, 0] rfl)
set_option maxHeartbeats 4000000 in
set_option maxRecDepth 100000 in
theorem lb_X9_plants_10 {l : Launch} {p : Program} {e : Env} {s : State} {m : MethodId} {args : Array Value} {below : List Frame} {meth : Method} {c : Code} {G : xG} {A : Nat → Prop} {a : Nat → Nat} (C0 : xC p s m meth c cX9_plants 7 (none) RX9 args) (KN : xKN G s) (hA : ∀ q, s.heap.size ≤ q → A q) (So0 : tt_Model) (k167 : tt_Model → Option tt_Model) (hk167 : ∀ (S0 : tt_Model), k167 S0 = some So0 → ∀ (H : Heap) (locs : List Loc) (ls : Array Slot), xS G A s.heap (wd_Model G a S0) H locs → lv_has ls 7 [(0, .ref (a 0))] → W p l e ({ frames := 5, cells := 0, slots := 0, locals := 114 }) s m args below meth c H locs 0 0 (MQ below (xQo G none A (wd_Model G a So0)) args s 0 0 A) (F0 m 167 ls [])) : ∀ (n : Nat) (S0 : tt_Model) (x2 : Int32), fl_X9_plants_10 k167 n S0 x2 = some So0 → ∀ (H : Heap) (locs : List Loc) (ls : Array Slot), xS G A s.heap (wd_Model G a S0) H locs → lv_has ls 7 [(0, .ref (a 0)), (2, .int x2)] → W p l e ({ frames := 5, cells := 0, slots := 0, locals := 114 }) s m args below meth c H locs 0 0 (MQ below (xQo G none A (wd_Model G a So0)) args s 0 0 A) (F0 m 10 ls []) := by
  have hx := C0.1
  have hb := C0.2.1
  intro n
  induction n with
  | zero =>
    intro S0 x2 hf
    have hf : none = some So0 := hf
    cases hf
  | succ n ih =>
    intro S0 x2 hf H locs ls X hl
    rw [fl_X9_plants_10] at hf
    refine lv_iload_n (pc := 10) hx hb dX9_plants_10 rfl (lv_at hl 1 rfl) ?_
    refine lv_if_lt (pc := 11) (tgt := 167) hx hb dX9_plants_11 (by decide) (fun c_6 => ?_) (fun c_6 => ?_)
    · have hf := it_p hf c_6
      exact hk167 _ hf _ _ _ X (lv_sub hl [0] rfl)
    · have hf := it_n hf c_6
      refine lv_iconst (pc := 14) (v := 0) hx hb dX9_plants_14 (by decide) ?_
      refine lv_istore_n (pc := 15) (lv' := [(3, .int (0 : Int32)), (0, .ref (a 0)), (2, .int x2)]) hx hb dX9_plants_15 rfl hl (by decide) rfl (fun ls hl => ?_)
      refine lb_X9_plants_16 C0 KN hA _ _ ?_ _ _ _ _ hf _ _ _ X (lv_sub hl [1, 2, 0] rfl)
      · intro S0_e161_33 x2_e161_33 hf H locs ls X hl
        obtain ⟨y_34, ey_34⟩ : ∃ y : Int32, y = x2_e161_33 + (-1 : Int32) := ⟨_, rfl⟩
        have hf := lt_sb hf ey_34
        refine lv_iinc (pc := 161) (v := y_34) (lv' := [(2, .int y_34), (0, .ref (a 0))]) hx hb dX9_plants_161 hl (k := 1) rfl (by rw [ey_34]; rfl) (by decide) rfl (fun ls hl => ?_)
        refine lv_goto (pc := 164) (tgt := 10) hx hb dX9_plants_164 (by decide) ?_
        exact ih _ _ hf _ _ _ X (lv_sub hl [1, 0] rfl)
set_option maxHeartbeats 4000000 in
set_option maxRecDepth 100000 in
theorem lb_X9_plants_257 {l : Launch} {p : Program} {e : Env} {s : State} {m : MethodId} {args : Array Value} {below : List Frame} {meth : Method} {c : Code} {G : xG} {A : Nat → Prop} {a : Nat → Nat} (C0 : xC p s m meth c cX9_plants 7 (none) RX9 args) (KN : xKN G s) (hA : ∀ q, s.heap.size ≤ q → A q) (So0 : tt_Model) (k179 : tt_Model → Int32 → Int32 → Option tt_Model) (hk179 : ∀ (S0 : tt_Model) (x2 : Int32) (x3 : Int32), k179 S0 x2 x3 = some So0 → ∀ (H : Heap) (locs : List Loc) (ls : Array Slot), xS G A s.heap (wd_Model G a S0) H locs → lv_has ls 7 [(0, .ref (a 0)), (2, .int x2), (3, .int x3)] → W p l e ({ frames := 5, cells := 0, slots := 0, locals := 114 }) s m args below meth c H locs 0 0 (MQ below (xQo G none A (wd_Model G a So0)) args s 0 0 A) (F0 m 179 ls [])) : ∀ (S0 : tt_Model) (x2 : Int32) (x3 : Int32) (t1 : Int32) (t2 : Int32), fn_X9_plants_257 k179 S0 x2 x3 t1 t2 = some So0 → ∀ (H : Heap) (locs : List Loc) (ls : Array Slot), xS G A s.heap (wd_Model G a S0) H locs → lv_has ls 7 [(0, .ref (a 0)), (2, .int x2), (3, .int x3)] → W p l e ({ frames := 5, cells := 0, slots := 0, locals := 114 }) s m args below meth c H locs 0 0 (MQ below (xQo G none A (wd_Model G a So0)) args s 0 0 A) (F0 m 257 ls [.int t2, .int t1, .ref (a 15)]) := by
  have hx := C0.1
  have hb := C0.2.1
  intro S0 x2 x3 t1 t2 hf H locs ls X hl
  unfold fn_X9_plants_257 at hf
  obtain ⟨g_48, hf⟩ := gd_e hf
  obtain ⟨S_49, eS_49, hf⟩ := lt_e hf
  refine x_ast (pc := 257) (ws' := wd_Model G a S_49) C0 KN X 15 rfl g_48 (by subst eS_49; rfl) dX9_plants_257 (fun H locs X => ?_)
  obtain ⟨y_50, ey_50⟩ : ∃ y : Int32, y = x3 + (1 : Int32) := ⟨_, rfl⟩
  have hf := lt_sb hf ey_50
  refine lv_iinc (pc := 258) (v := y_50) (lv' := [(3, .int y_50), (0, .ref (a 0)), (2, .int x2)]) hx hb dX9_plants_258 hl (k := 2) rfl (by rw [ey_50]; rfl) (by decide) rfl (fun ls hl => ?_)
  refine lv_goto (pc := 261) (tgt := 179) hx hb dX9_plants_261 (by decide) ?_
  exact hk179 _ _ _ hf _ _ _ X (lv_sub hl [1, 2, 0] rfl)
set_option maxHeartbeats 4000000 in
set_option maxRecDepth 100000 in
theorem lb_X9_plants_219 {l : Launch} {p : Program} {e : Env} {s : State} {m : MethodId} {args : Array Value} {below : List Frame} {meth : Method} {c : Code} {G : xG} {A : Nat → Prop} {a : Nat → Nat} (C0 : xC p s m meth c cX9_plants 7 (none) RX9 args) (KN : xKN G s) (hA : ∀ q, s.heap.size ≤ q → A q) (So0 : tt_Model) (k179 : tt_Model → Int32 → Int32 → Option tt_Model) (hk179 : ∀ (S0 : tt_Model) (x2 : Int32) (x3 : Int32), k179 S0 x2 x3 = some So0 → ∀ (H : Heap) (locs : List Loc) (ls : Array Slot), xS G A s.heap (wd_Model G a S0) H locs → lv_has ls 7 [(0, .ref (a 0)), (2, .int x2), (3, .int x3)] → W p l e ({ frames := 5, cells := 0, slots := 0, locals := 114 }) s m args below meth c H locs 0 0 (MQ below (xQo G none A (wd_Model G a So0)) args s 0 0 A) (F0 m 179 ls [])) : ∀ (S0 : tt_Model) (x2 : Int32) (x3 : Int32) (t0 : Int32), fn_X9_plants_219 k179 S0 x2 x3 t0 = some So0 → ∀ (H : Heap) (locs : List Loc) (ls : Array Slot), xS G A s.heap (wd_Model G a S0) H locs → lv_has ls 7 [(0, .ref (a 0)), (2, .int x2), (3, .int x3)] → W p l e ({ frames := 5, cells := 0, slots := 0, locals := 114 }) s m args below meth c H locs 0 0 (MQ below (xQo G none A (wd_Model G a So0)) args s 0 0 A) (F0 m 219 ls [.int t0]) := by
  have hx := C0.1
  have hb := C0.2.1
  intro S0 x2 x3 t0 hf H locs ls X hl
  unfold fn_X9_plants_219 at hf
  refine lv_istore (pc := 219) (lv' := [(4, .int t0), (0, .ref (a 0)), (2, .int x2), (3, .int x3)]) hx hb dX9_plants_219 hl (by decide) rfl (fun ls hl => ?_)
  refine lv_aload_n (pc := 221) hx hb dX9_plants_221 rfl (lv_at hl 1 rfl) ?_
  refine x_get (pc := 222) (ci := 9) C0 KN X 0 rfl rfl inlX9 18 (by decide) kw_8_0 rfl dX9_plants_222 ?_
  refine lv_iload_n (pc := 225) hx hb dX9_plants_225 rfl (lv_at hl 2 rfl) ?_
  refine lv_iload_n (pc := 226) hx hb dX9_plants_226 rfl (lv_at hl 3 rfl) ?_
  obtain ⟨r_41, h_42, hf⟩ := bd_e hf
  refine x_cs (pc := 227) (As := [.int x2, .int x3]) (rest := [.ref (a 15)]) C0 (ct_X9_nodeOf l x2 x3 r_41 h_42) kw_13_6 kw_13_4 kw_13_5 kw_1_5 hd_X9_nodeOf ⟨by decide, by decide⟩ hl.1 rfl (Nat.le_of_ble_eq_true rfl) ⟨Nat.zero_le _, Nat.zero_le _⟩ dX9_plants_227 ?_
  refine W.eq (g2 := F0 m 230 ls [.int r_41, .ref (a 15)]) rfl ?_
  refine lv_iload (pc := 230) hx hb dX9_plants_230 (lv_at hl 0 rfl) ?_
  refine lv_if_ne (pc := 232) (tgt := 239) hx hb dX9_plants_232 (by decide) (fun c_43 => ?_) (fun c_43 => ?_)
  · have hf := it_n hf c_43
    refine lv_aload_n (pc := 239) hx hb dX9_plants_239 rfl (lv_at hl 1 rfl) ?_
    refine x_get (pc := 240) (ci := 9) C0 KN X 0 rfl rfl inlX9 17 (by decide) kw_7_23 rfl dX9_plants_240 ?_
    refine lv_iload_n (pc := 243) hx hb dX9_plants_243 rfl (lv_at hl 2 rfl) ?_
    refine lv_iload_n (pc := 244) hx hb dX9_plants_244 rfl (lv_at hl 3 rfl) ?_
    obtain ⟨r_44, h_45, hf⟩ := bd_e hf
    refine x_cs (pc := 245) (As := [.int x2, .int x3]) (rest := [.ref (a 14), .int r_41, .ref (a 15)]) C0 (ct_X9_nodeOf l x2 x3 r_44 h_45) kw_13_6 kw_13_4 kw_13_5 kw_1_5 hd_X9_nodeOf ⟨by decide, by decide⟩ hl.1 rfl (Nat.le_of_ble_eq_true rfl) ⟨Nat.zero_le _, Nat.zero_le _⟩ dX9_plants_245 ?_
    refine W.eq (g2 := F0 m 248 ls [.int r_44, .ref (a 14), .int r_41, .ref (a 15)]) rfl ?_
    obtain ⟨g_46, hf⟩ := gd_e hf
    refine x_zld (pc := 248) C0 KN X 14 rfl g_46 dX9_plants_248 ?_
    refine W.eq (g2 := F0 m 249 ls [.int ((gf_Model_isLeaf S0) r_44.toNatClampNeg), .int r_41, .ref (a 15)]) rfl ?_
    refine lv_if_eq (pc := 249) (tgt := 256) hx hb dX9_plants_249 (by decide) (fun c_47 => ?_) (fun c_47 => ?_)
    · have hf := it_p hf c_47
      refine lv_iconst (pc := 256) (v := 2) hx hb dX9_plants_256 (by decide) ?_
      exact lb_X9_plants_257 C0 KN hA _ k179 hk179 _ _ _ _ _ hf _ _ _ X (lv_sub hl [1, 2, 3] rfl)
    · have hf := it_n hf c_47
      refine lv_iconst (pc := 252) (v := 1) hx hb dX9_plants_252 (by decide) ?_
      refine lv_goto (pc := 253) (tgt := 257) hx hb dX9_plants_253 (by decide) ?_
      exact lb_X9_plants_257 C0 KN hA _ k179 hk179 _ _ _ _ _ hf _ _ _ X (lv_sub hl [1, 2, 3] rfl)
  · have hf := it_p hf c_43
    refine lv_iconst (pc := 235) (v := 0) hx hb dX9_plants_235 (by decide) ?_
    refine lv_goto (pc := 236) (tgt := 257) hx hb dX9_plants_236 (by decide) ?_
    exact lb_X9_plants_257 C0 KN hA _ k179 hk179 _ _ _ _ _ hf _ _ _ X (lv_sub hl [1, 2, 3] rfl)
set_option maxHeartbeats 4000000 in
set_option maxRecDepth 100000 in
theorem lb_X9_plants_214 {l : Launch} {p : Program} {e : Env} {s : State} {m : MethodId} {args : Array Value} {below : List Frame} {meth : Method} {c : Code} {G : xG} {A : Nat → Prop} {a : Nat → Nat} (C0 : xC p s m meth c cX9_plants 7 (none) RX9 args) (KN : xKN G s) (hA : ∀ q, s.heap.size ≤ q → A q) (So0 : tt_Model) (k179 : tt_Model → Int32 → Int32 → Option tt_Model) (hk179 : ∀ (S0 : tt_Model) (x2 : Int32) (x3 : Int32), k179 S0 x2 x3 = some So0 → ∀ (H : Heap) (locs : List Loc) (ls : Array Slot), xS G A s.heap (wd_Model G a S0) H locs → lv_has ls 7 [(0, .ref (a 0)), (2, .int x2), (3, .int x3)] → W p l e ({ frames := 5, cells := 0, slots := 0, locals := 114 }) s m args below meth c H locs 0 0 (MQ below (xQo G none A (wd_Model G a So0)) args s 0 0 A) (F0 m 179 ls [])) : ∀ (S0 : tt_Model) (x2 : Int32) (x3 : Int32), fn_X9_plants_214 k179 S0 x2 x3 = some So0 → ∀ (H : Heap) (locs : List Loc) (ls : Array Slot), xS G A s.heap (wd_Model G a S0) H locs → lv_has ls 7 [(0, .ref (a 0)), (2, .int x2), (3, .int x3)] → W p l e ({ frames := 5, cells := 0, slots := 0, locals := 114 }) s m args below meth c H locs 0 0 (MQ below (xQo G none A (wd_Model G a So0)) args s 0 0 A) (F0 m 214 ls []) := by
  have hx := C0.1
  have hb := C0.2.1
  intro S0 x2 x3 hf H locs ls X hl
  unfold fn_X9_plants_214 at hf
  refine lv_iconst (pc := 214) (v := 1) hx hb dX9_plants_214 (by decide) ?_
  refine lv_goto (pc := 215) (tgt := 219) hx hb dX9_plants_215 (by decide) ?_
  exact lb_X9_plants_219 C0 KN hA _ k179 hk179 _ _ _ _ hf _ _ _ X (lv_sub hl [0, 1, 2] rfl)
set_option maxHeartbeats 4000000 in
set_option maxRecDepth 100000 in
theorem lb_X9_plants_179 {l : Launch} {p : Program} {e : Env} {s : State} {m : MethodId} {args : Array Value} {below : List Frame} {meth : Method} {c : Code} {G : xG} {A : Nat → Prop} {a : Nat → Nat} (C0 : xC p s m meth c cX9_plants 7 (none) RX9 args) (KN : xKN G s) (hA : ∀ q, s.heap.size ≤ q → A q) (So0 : tt_Model) (k264 : tt_Model → Int32 → Option tt_Model) (hk264 : ∀ (S0 : tt_Model) (x2 : Int32), k264 S0 x2 = some So0 → ∀ (H : Heap) (locs : List Loc) (ls : Array Slot), xS G A s.heap (wd_Model G a S0) H locs → lv_has ls 7 [(0, .ref (a 0)), (2, .int x2)] → W p l e ({ frames := 5, cells := 0, slots := 0, locals := 114 }) s m args below meth c H locs 0 0 (MQ below (xQo G none A (wd_Model G a So0)) args s 0 0 A) (F0 m 264 ls [])) : ∀ (n : Nat) (S0 : tt_Model) (x2 : Int32) (x3 : Int32), fl_X9_plants_179 k264 n S0 x2 x3 = some So0 → ∀ (H : Heap) (locs : List Loc) (ls : Array Slot), xS G A s.heap (wd_Model G a S0) H locs → lv_has ls 7 [(0, .ref (a 0)), (2, .int x2), (3, .int x3)] → W p l e ({ frames := 5, cells := 0, slots := 0, locals := 114 }) s m args below meth c H locs 0 0 (MQ below (xQo G none A (wd_Model G a So0)) args s 0 0 A) (F0 m 179 ls []) := by
  have hx := C0.1
  have hb := C0.2.1
  intro n
  induction n with
  | zero =>
    intro S0 x2 x3 hf
    have hf : none = some So0 := hf
    cases hf
  | succ n ih =>
    intro S0 x2 x3 hf H locs ls X hl
    rw [fl_X9_plants_179] at hf
    refine lv_iload_n (pc := 179) hx hb dX9_plants_179 rfl (lv_at hl 2 rfl) ?_
    refine lv_iconst (pc := 180) (v := 1) hx hb dX9_plants_180 (by decide) ?_
    refine lv_iload_n (pc := 181) hx hb dX9_plants_181 rfl (lv_at hl 1 rfl) ?_
    refine lv_ishl (pc := 182) hx hb dX9_plants_182 ?_
    refine lv_icmp_ge (pc := 183) (tgt := 264) hx hb dX9_plants_183 (by decide) (fun c_39 => ?_) (fun c_39 => ?_)
    · have hf := it_p hf c_39
      exact hk264 _ _ hf _ _ _ X (lv_sub hl [0, 1] rfl)
    · have hf := it_n hf c_39
      refine lv_iload_n (pc := 186) hx hb dX9_plants_186 rfl (lv_at hl 1 rfl) ?_
      refine lv_if_eq (pc := 187) (tgt := 214) hx hb dX9_plants_187 (by decide) (fun c_40 => ?_) (fun c_40 => ?_)
      · have hf := it_p hf c_40
        exact lb_X9_plants_214 C0 KN hA _ (fl_X9_plants_179 k264 n) ih _ _ _ hf _ _ _ X (lv_sub hl [0, 1, 2] rfl)
      · have hf := it_n hf c_40
        refine lv_aload_n (pc := 190) hx hb dX9_plants_190 rfl (lv_at hl 0 rfl) ?_
        refine x_get (pc := 191) (ci := 9) C0 KN X 0 rfl rfl inlX9 18 (by decide) kw_8_0 rfl dX9_plants_191 ?_
        refine lv_iload_n (pc := 194) hx hb dX9_plants_194 rfl (lv_at hl 1 rfl) ?_
        refine lv_iconst (pc := 195) (v := 1) hx hb dX9_plants_195 (by decide) ?_
        refine lv_isub (pc := 196) hx hb dX9_plants_196 ?_
        refine lv_iload_n (pc := 197) hx hb dX9_plants_197 rfl (lv_at hl 2 rfl) ?_
        refine lv_iconst (pc := 198) (v := 1) hx hb dX9_plants_198 (by decide) ?_
        refine lv_iload_n (pc := 199) hx hb dX9_plants_199 rfl (lv_at hl 1 rfl) ?_
        refine lv_iconst (pc := 200) (v := 1) hx hb dX9_plants_200 (by decide) ?_
        refine lv_isub (pc := 201) hx hb dX9_plants_201 ?_
        refine lv_ishl (pc := 202) hx hb dX9_plants_202 ?_
        refine lv_iconst (pc := 203) (v := 1) hx hb dX9_plants_203 (by decide) ?_
        refine lv_isub (pc := 204) hx hb dX9_plants_204 ?_
        refine lv_iand (pc := 205) hx hb dX9_plants_205 ?_
        obtain ⟨r_51, h_52, hf⟩ := bd_e hf
        refine x_cs (pc := 206) (As := [.int (x2 - (1 : Int32)), .int (x3 &&& (((1 : Int32) <<< ((x2 - (1 : Int32)) &&& 31)) - (1 : Int32)))]) (rest := [.ref (a 15)]) C0 (ct_X9_nodeOf l (x2 - (1 : Int32)) (x3 &&& (((1 : Int32) <<< ((x2 - (1 : Int32)) &&& 31)) - (1 : Int32))) r_51 h_52) kw_13_6 kw_13_4 kw_13_5 kw_1_5 hd_X9_nodeOf ⟨by decide, by decide⟩ hl.1 rfl (Nat.le_of_ble_eq_true rfl) ⟨Nat.zero_le _, Nat.zero_le _⟩ dX9_plants_206 ?_
        refine W.eq (g2 := F0 m 209 ls [.int r_51, .ref (a 15)]) rfl ?_
        obtain ⟨g_53, hf⟩ := gd_e hf
        refine x_ald (pc := 209) C0 KN X 15 rfl g_53 dX9_plants_209 ?_
        refine W.eq (g2 := F0 m 210 ls [.int ((gf_Model_inTree S0) r_51.toNatClampNeg)]) rfl ?_
        refine lv_iconst (pc := 210) (v := 2) hx hb dX9_plants_210 (by decide) ?_
        refine lv_icmp_ne (pc := 211) (tgt := 218) hx hb dX9_plants_211 (by decide) (fun c_54 => ?_) (fun c_54 => ?_)
        · have hf := it_n hf c_54
          refine lv_iconst (pc := 218) (v := 0) hx hb dX9_plants_218 (by decide) ?_
          exact lb_X9_plants_219 C0 KN hA _ (fl_X9_plants_179 k264 n) ih _ _ _ _ hf _ _ _ X (lv_sub hl [0, 1, 2] rfl)
        · have hf := it_p hf c_54
          exact lb_X9_plants_214 C0 KN hA _ (fl_X9_plants_179 k264 n) ih _ _ _ hf _ _ _ X (lv_sub hl [0, 1, 2] rfl)
set_option maxHeartbeats 4000000 in
set_option maxRecDepth 100000 in
theorem lb_X9_plants_169 {l : Launch} {p : Program} {e : Env} {s : State} {m : MethodId} {args : Array Value} {below : List Frame} {meth : Method} {c : Code} {G : xG} {A : Nat → Prop} {a : Nat → Nat} (C0 : xC p s m meth c cX9_plants 7 (none) RX9 args) (KN : xKN G s) (hA : ∀ q, s.heap.size ≤ q → A q) (So0 : tt_Model) (k270 : tt_Model → Option tt_Model) (hk270 : ∀ (S0 : tt_Model), k270 S0 = some So0 → ∀ (H : Heap) (locs : List Loc) (ls : Array Slot), xS G A s.heap (wd_Model G a S0) H locs → lv_has ls 7 [(0, .ref (a 0))] → W p l e ({ frames := 5, cells := 0, slots := 0, locals := 114 }) s m args below meth c H locs 0 0 (MQ below (xQo G none A (wd_Model G a So0)) args s 0 0 A) (F0 m 270 ls [])) : ∀ (n : Nat) (S0 : tt_Model) (x2 : Int32), fl_X9_plants_169 k270 n S0 x2 = some So0 → ∀ (H : Heap) (locs : List Loc) (ls : Array Slot), xS G A s.heap (wd_Model G a S0) H locs → lv_has ls 7 [(0, .ref (a 0)), (2, .int x2)] → W p l e ({ frames := 5, cells := 0, slots := 0, locals := 114 }) s m args below meth c H locs 0 0 (MQ below (xQo G none A (wd_Model G a So0)) args s 0 0 A) (F0 m 169 ls []) := by
  have hx := C0.1
  have hb := C0.2.1
  intro n
  induction n with
  | zero =>
    intro S0 x2 hf
    have hf : none = some So0 := hf
    cases hf
  | succ n ih =>
    intro S0 x2 hf H locs ls X hl
    rw [fl_X9_plants_169] at hf
    refine lv_iload_n (pc := 169) hx hb dX9_plants_169 rfl (lv_at hl 1 rfl) ?_
    refine lv_aload_n (pc := 170) hx hb dX9_plants_170 rfl (lv_at hl 0 rfl) ?_
    obtain ⟨r_36, h_37, hf⟩ := bd_e hf
    refine x_cv (pc := 171) (ws' := wd_Model G a S0) (As := []) (rest := [.int x2]) (ci := 9) (qr := 0) C0 KN X hA [0, 1, 2, 3, 4, 5, 6, 7, 8, 9, 10, 11, 12, 13, 14, 15, 16, 17, 18] [] [0, 1, 2, 3, 4, 5, 6, 7, 8, 9, 10, 11, 12, 13, 14, 15, 16, 17, 18] cu_C49 rfl cu_R49 rfl (by decide) (cu_J49 (S0 := S0)) rfl (ct_X9_depth l G a S0 r_36 h_37) rfl rfl rfl kw_12_6 kw_12_3 kw_12_4 kw_12_5 kw_1_5 hd_X9_depth ⟨by decide, by decide⟩ hl.1 rfl (Nat.le_of_ble_eq_true rfl) ⟨Nat.zero_le _, Nat.zero_le _⟩ dX9_plants_171 (fun H locs X => ?_)
    refine W.eq (g2 := F0 m 174 ls [.int r_36, .int x2]) rfl ?_
    refine lv_icmp_gt (pc := 174) (tgt := 270) hx hb dX9_plants_174 (by decide) (fun c_38 => ?_) (fun c_38 => ?_)
    · have hf := it_p hf c_38
      exact hk270 _ hf _ _ _ X (lv_sub hl [0] rfl)
    · have hf := it_n hf c_38
      refine lv_iconst (pc := 177) (v := 0) hx hb dX9_plants_177 (by decide) ?_
      refine lv_istore_n (pc := 178) (lv' := [(3, .int (0 : Int32)), (0, .ref (a 0)), (2, .int x2)]) hx hb dX9_plants_178 rfl hl (by decide) rfl (fun ls hl => ?_)
      refine lb_X9_plants_179 C0 KN hA _ _ ?_ _ _ _ _ hf _ _ _ X (lv_sub hl [1, 2, 0] rfl)
      · intro S0_e264_55 x2_e264_55 hf H locs ls X hl
        obtain ⟨y_56, ey_56⟩ : ∃ y : Int32, y = x2_e264_55 + (1 : Int32) := ⟨_, rfl⟩
        have hf := lt_sb hf ey_56
        refine lv_iinc (pc := 264) (v := y_56) (lv' := [(2, .int y_56), (0, .ref (a 0))]) hx hb dX9_plants_264 hl (k := 1) rfl (by rw [ey_56]; rfl) (by decide) rfl (fun ls hl => ?_)
        refine lv_goto (pc := 267) (tgt := 169) hx hb dX9_plants_267 (by decide) ?_
        exact ih _ _ hf _ _ _ X (lv_sub hl [1, 0] rfl)
theorem hd_X9_plants : yX9_plants.cls ≠ "java/lang/invoke/MethodHandle" ∧ yX9_plants.cls ≠ "java/lang/invoke/VarHandle" ∧ (parseMethodDescriptor yX9_plants.desc).map (fun d => d.parameters.length) = some 0 := by decide +kernel
set_option maxHeartbeats 4000000 in
set_option maxRecDepth 100000 in
theorem ct_X9_plants (l : Launch) (G : xG) (a : Nat → Nat) (S0 : tt_Model) (So0 : tt_Model) (hf : fn_X9_plants S0 = some So0) : xM l yX9_plants cX9_plants 7 (none) 5 114 G [.ref (a 0)] (wd_Model G a S0) (wd_Model G a So0) none := by
  refine xMi (by decide) (Nat.le_of_ble_eq_true rfl) ?_
  intro p e s m below meth c A C0 KN hA X ls hl
  have hx := C0.1
  have hb := C0.2.1
  have C0 : xC p s m meth c cX9_plants 7 (none) RX9 _ := C0
  have hl : lv_has ls 7 [(0, .ref (a 0))] := hl
  unfold fn_X9_plants at hf
  refine lv_aload_n (pc := 0) hx hb dX9_plants_0 rfl (lv_at hl 0 rfl) ?_
  obtain ⟨r_1, P_2, h_3, hf⟩ := b2_e hf
  refine x_cv (pc := 1) (ws' := wd_Model G a P_2) (As := []) (rest := []) (ci := 9) (qr := 0) C0 KN X hA [0, 1, 2, 3, 4, 5, 6, 7, 8, 9, 10, 11, 12, 13, 14, 15, 16, 17, 18] [] [0, 1, 2, 3, 4, 5, 6, 7, 8, 9, 10, 11, 12, 13, 14, 15, 16, 17, 18] cu_C50 rfl cu_R50 rfl (by decide) (cu_J50 (S0 := S0)) rfl (ct_X9_goesNow l G a S0 r_1 P_2 h_3) rfl rfl rfl kw_12_2 kw_11_23 kw_12_0 kw_12_1 kw_1_5 hd_X9_goesNow ⟨by decide, by decide⟩ hl.1 rfl (Nat.le_of_ble_eq_true rfl) ⟨Nat.zero_le _, Nat.zero_le _⟩ dX9_plants_1 (fun H locs X => ?_)
  refine W.eq (g2 := F0 m 4 ls [.int r_1]) rfl ?_
  refine lv_istore_n (pc := 4) (lv' := [(1, .int r_1), (0, .ref (a 0))]) hx hb dX9_plants_4 rfl hl (by decide) rfl (fun ls hl => ?_)
  refine lv_aload_n (pc := 5) hx hb dX9_plants_5 rfl (lv_at hl 1 rfl) ?_
  obtain ⟨r_4, h_5, hf⟩ := bd_e hf
  refine x_cv (pc := 6) (ws' := wd_Model G a P_2) (As := []) (rest := []) (ci := 9) (qr := 0) C0 KN X hA [0, 1, 2, 3, 4, 5, 6, 7, 8, 9, 10, 11, 12, 13, 14, 15, 16, 17, 18] [] [0, 1, 2, 3, 4, 5, 6, 7, 8, 9, 10, 11, 12, 13, 14, 15, 16, 17, 18] cu_C49 rfl cu_R49 rfl (by decide) (cu_J49 (S0 := P_2)) rfl (ct_X9_depth l G a P_2 r_4 h_5) rfl rfl rfl kw_12_6 kw_12_3 kw_12_4 kw_12_5 kw_1_5 hd_X9_depth ⟨by decide, by decide⟩ hl.1 rfl (Nat.le_of_ble_eq_true rfl) ⟨Nat.zero_le _, Nat.zero_le _⟩ dX9_plants_6 (fun H locs X => ?_)
  refine W.eq (g2 := F0 m 9 ls [.int r_4]) rfl ?_
  refine lv_istore_n (pc := 9) (lv' := [(2, .int r_4), (1, .int r_1), (0, .ref (a 0))]) hx hb dX9_plants_9 rfl hl (by decide) rfl (fun ls hl => ?_)
  refine lb_X9_plants_10 C0 KN hA _ _ ?_ _ _ _ hf _ _ _ X (lv_sub hl [2, 0] rfl)
  · intro S0_e167_35 hf H locs ls X hl
    refine lv_iconst (pc := 167) (v := 0) hx hb dX9_plants_167 (by decide) ?_
    refine lv_istore_n (pc := 168) (lv' := [(2, .int (0 : Int32)), (0, .ref (a 0))]) hx hb dX9_plants_168 rfl hl (by decide) rfl (fun ls hl => ?_)
    refine lb_X9_plants_169 C0 KN hA _ _ ?_ _ _ _ hf _ _ _ X (lv_sub hl [1, 0] rfl)
    · intro S0_e270_57 hf H locs ls X hl
      obtain rfl := so_1 hf
      exact x_vret (pc := 270) C0 X dX9_plants_270
set_option maxHeartbeats 4000000 in
set_option maxRecDepth 100000 in
theorem lb_X9_leaves_75 {l : Launch} {p : Program} {e : Env} {s : State} {m : MethodId} {args : Array Value} {below : List Frame} {meth : Method} {c : Code} {G : xG} {A : Nat → Prop} {a : Nat → Nat} (C0 : xC p s m meth c cX9_leaves 7 (some .int) RX9 args) (KN : xKN G s) (hA : ∀ q, s.heap.size ≤ q → A q) (S0 : tt_Model) (ro : Int32) (k19 : Int32 → Int32 → Int32 → Int32 → Int32 → Option Int32) (hk19 : ∀ (x1 : Int32) (x2 : Int32) (x3 : Int32) (x4 : Int32) (x5 : Int32), k19 x1 x2 x3 x4 x5 = some ro → ∀ (H : Heap) (locs : List Loc) (ls : Array Slot), xS G A s.heap (wd_Model G a S0) H locs → lv_has ls 7 [(0, .ref (a 0)), (1, .int x1), (2, .int x2), (3, .int x3), (4, .int x4), (5, .int x5)] → W p l e ({ frames := 1, cells := 0, slots := 0, locals := 21 }) s m args below meth c H locs 0 0 (MQ below (xQo G (some (.int ro)) A (wd_Model G a S0)) args s 0 0 A) (F0 m 19 ls [])) : ∀ (x1 : Int32) (x2 : Int32) (x4 : Int32) (x5 : Int32) (t0 : Int32), fn_X9_leaves_75 k19 S0 x1 x2 x4 x5 t0 = some ro → ∀ (H : Heap) (locs : List Loc) (ls : Array Slot), xS G A s.heap (wd_Model G a S0) H locs → lv_has ls 7 [(0, .ref (a 0)), (1, .int x1), (2, .int x2), (4, .int x4), (5, .int x5)] → W p l e ({ frames := 1, cells := 0, slots := 0, locals := 21 }) s m args below meth c H locs 0 0 (MQ below (xQo G (some (.int ro)) A (wd_Model G a S0)) args s 0 0 A) (F0 m 75 ls [.int t0]) := by
  have hx := C0.1
  have hb := C0.2.1
  intro x1 x2 x4 x5 t0 hf H locs ls X hl
  unfold fn_X9_leaves_75 at hf
  refine lv_istore_n (pc := 75) (lv' := [(3, .int t0), (0, .ref (a 0)), (1, .int x1), (2, .int x2), (4, .int x4), (5, .int x5)]) hx hb dX9_leaves_75 rfl hl (by decide) rfl (fun ls hl => ?_)
  obtain ⟨y_12, ey_12⟩ : ∃ y : Int32, y = x5 + (1 : Int32) := ⟨_, rfl⟩
  have hf := lt_sb hf ey_12
  refine lv_iinc (pc := 76) (v := y_12) (lv' := [(5, .int y_12), (3, .int t0), (0, .ref (a 0)), (1, .int x1), (2, .int x2), (4, .int x4)]) hx hb dX9_leaves_76 hl (k := 5) rfl (by rw [ey_12]; rfl) (by decide) rfl (fun ls hl => ?_)
  refine lv_goto (pc := 79) (tgt := 19) hx hb dX9_leaves_79 (by decide) ?_
  exact hk19 _ _ _ _ _ hf _ _ _ X (lv_sub hl [2, 3, 4, 1, 5, 0] rfl)
set_option maxHeartbeats 4000000 in
set_option maxRecDepth 100000 in
theorem lb_X9_leaves_62 {l : Launch} {p : Program} {e : Env} {s : State} {m : MethodId} {args : Array Value} {below : List Frame} {meth : Method} {c : Code} {G : xG} {A : Nat → Prop} {a : Nat → Nat} (C0 : xC p s m meth c cX9_leaves 7 (some .int) RX9 args) (KN : xKN G s) (hA : ∀ q, s.heap.size ≤ q → A q) (S0 : tt_Model) (ro : Int32) (k19 : Int32 → Int32 → Int32 → Int32 → Int32 → Option Int32) (hk19 : ∀ (x1 : Int32) (x2 : Int32) (x3 : Int32) (x4 : Int32) (x5 : Int32), k19 x1 x2 x3 x4 x5 = some ro → ∀ (H : Heap) (locs : List Loc) (ls : Array Slot), xS G A s.heap (wd_Model G a S0) H locs → lv_has ls 7 [(0, .ref (a 0)), (1, .int x1), (2, .int x2), (3, .int x3), (4, .int x4), (5, .int x5)] → W p l e ({ frames := 1, cells := 0, slots := 0, locals := 21 }) s m args below meth c H locs 0 0 (MQ below (xQo G (some (.int ro)) A (wd_Model G a S0)) args s 0 0 A) (F0 m 19 ls [])) : ∀ (x1 : Int32) (x3 : Int32) (x4 : Int32) (x5 : Int32) (x6 : Int32) (t0 : Int32) (t1 : Int32), fn_X9_leaves_62 k19 S0 x1 x3 x4 x5 x6 t0 t1 = some ro → ∀ (H : Heap) (locs : List Loc) (ls : Array Slot), xS G A s.heap (wd_Model G a S0) H locs → lv_has ls 7 [(0, .ref (a 0)), (1, .int x1), (3, .int x3), (4, .int x4), (5, .int x5), (6, .int x6)] → W p l e ({ frames := 1, cells := 0, slots := 0, locals := 21 }) s m args below meth c H locs 0 0 (MQ below (xQo G (some (.int ro)) A (wd_Model G a S0)) args s 0 0 A) (F0 m 62 ls [.int t1, .int t0]) := by
  have hx := C0.1
  have hb := C0.2.1
  intro x1 x3 x4 x5 x6 t0 t1 hf H locs ls X hl
  unfold fn_X9_leaves_62 at hf
  refine lv_iadd (pc := 62) hx hb dX9_leaves_62 ?_
  refine lv_topi (fun y_10 ey_10 => ?_)
  have hf := lt_sb hf ey_10
  refine lv_istore_n (pc := 63) (lv' := [(2, .int y_10), (0, .ref (a 0)), (1, .int x1), (3, .int x3), (4, .int x4), (5, .int x5), (6, .int x6)]) hx hb dX9_leaves_63 rfl hl (by decide) rfl (fun ls hl => ?_)
  refine lv_iload (pc := 64) hx hb dX9_leaves_64 (lv_at hl 6 rfl) ?_
  refine lv_if_eq (pc := 66) (tgt := 74) hx hb dX9_leaves_66 (by decide) (fun c_11 => ?_) (fun c_11 => ?_)
  · have hf := it_p hf c_11
    refine lv_iload_n (pc := 74) hx hb dX9_leaves_74 rfl (lv_at hl 3 rfl) ?_
    exact lb_X9_leaves_75 C0 KN hA S0 _ k19 hk19 _ _ _ _ _ hf _ _ _ X (lv_sub hl [1, 2, 0, 4, 5] rfl)
  · have hf := it_n hf c_11
    refine lv_iload (pc := 69) hx hb dX9_leaves_69 (lv_at hl 4 rfl) ?_
    refine lv_goto (pc := 71) (tgt := 75) hx hb dX9_leaves_71 (by decide) ?_
    exact lb_X9_leaves_75 C0 KN hA S0 _ k19 hk19 _ _ _ _ _ hf _ _ _ X (lv_sub hl [1, 2, 0, 4, 5] rfl)
set_option maxHeartbeats 4000000 in
set_option maxRecDepth 100000 in
theorem lb_X9_leaves_49 {l : Launch} {p : Program} {e : Env} {s : State} {m : MethodId} {args : Array Value} {below : List Frame} {meth : Method} {c : Code} {G : xG} {A : Nat → Prop} {a : Nat → Nat} (C0 : xC p s m meth c cX9_leaves 7 (some .int) RX9 args) (KN : xKN G s) (hA : ∀ q, s.heap.size ≤ q → A q) (S0 : tt_Model) (ro : Int32) (k19 : Int32 → Int32 → Int32 → Int32 → Int32 → Option Int32) (hk19 : ∀ (x1 : Int32) (x2 : Int32) (x3 : Int32) (x4 : Int32) (x5 : Int32), k19 x1 x2 x3 x4 x5 = some ro → ∀ (H : Heap) (locs : List Loc) (ls : Array Slot), xS G A s.heap (wd_Model G a S0) H locs → lv_has ls 7 [(0, .ref (a 0)), (1, .int x1), (2, .int x2), (3, .int x3), (4, .int x4), (5, .int x5)] → W p l e ({ frames := 1, cells := 0, slots := 0, locals := 21 }) s m args below meth c H locs 0 0 (MQ below (xQo G (some (.int ro)) A (wd_Model G a S0)) args s 0 0 A) (F0 m 19 ls [])) : ∀ (x1 : Int32) (x2 : Int32) (x3 : Int32) (x4 : Int32) (x5 : Int32) (t0 : Int32), fn_X9_leaves_49 k19 S0 x1 x2 x3 x4 x5 t0 = some ro → ∀ (H : Heap) (locs : List Loc) (ls : Array Slot), xS G A s.heap (wd_Model G a S0) H locs → lv_has ls 7 [(0, .ref (a 0)), (1, .int x1), (2, .int x2), (3, .int x3), (4, .int x4), (5, .int x5)] → W p l e ({ frames := 1, cells := 0, slots := 0, locals := 21 }) s m args below meth c H locs 0 0 (MQ below (xQo G (some (.int ro)) A (wd_Model G a S0)) args s 0 0 A) (F0 m 49 ls [.int t0]) := by
  have hx := C0.1
  have hb := C0.2.1
  intro x1 x2 x3 x4 x5 t0 hf H locs ls X hl
  unfold fn_X9_leaves_49 at hf
  refine lv_istore (pc := 49) (lv' := [(6, .int t0), (0, .ref (a 0)), (1, .int x1), (2, .int x2), (3, .int x3), (4, .int x4), (5, .int x5)]) hx hb dX9_leaves_49 hl (by decide) rfl (fun ls hl => ?_)
  refine lv_iload_n (pc := 51) hx hb dX9_leaves_51 rfl (lv_at hl 3 rfl) ?_
  refine lv_iload (pc := 52) hx hb dX9_leaves_52 (lv_at hl 0 rfl) ?_
  refine lv_if_eq (pc := 54) (tgt := 61) hx hb dX9_leaves_54 (by decide) (fun c_9 => ?_) (fun c_9 => ?_)
  · have hf := it_p hf c_9
    refine lv_iconst (pc := 61) (v := 0) hx hb dX9_leaves_61 (by decide) ?_
    exact lb_X9_leaves_62 C0 KN hA S0 _ k19 hk19 _ _ _ _ _ _ _ hf _ _ _ X (lv_sub hl [1, 2, 4, 5, 6, 0] rfl)
  · have hf := it_n hf c_9
    refine lv_iconst (pc := 57) (v := 1) hx hb dX9_leaves_57 (by decide) ?_
    refine lv_goto (pc := 58) (tgt := 62) hx hb dX9_leaves_58 (by decide) ?_
    exact lb_X9_leaves_62 C0 KN hA S0 _ k19 hk19 _ _ _ _ _ _ _ hf _ _ _ X (lv_sub hl [1, 2, 4, 5, 6, 0] rfl)
set_option maxHeartbeats 4000000 in
set_option maxRecDepth 100000 in
theorem lb_X9_leaves_19 {l : Launch} {p : Program} {e : Env} {s : State} {m : MethodId} {args : Array Value} {below : List Frame} {meth : Method} {c : Code} {G : xG} {A : Nat → Prop} {a : Nat → Nat} (C0 : xC p s m meth c cX9_leaves 7 (some .int) RX9 args) (KN : xKN G s) (hA : ∀ q, s.heap.size ≤ q → A q) (S0 : tt_Model) (ro : Int32) (k82 : Int32 → Int32 → Int32 → Int32 → Option Int32) (hk82 : ∀ (x1 : Int32) (x2 : Int32) (x3 : Int32) (x4 : Int32), k82 x1 x2 x3 x4 = some ro → ∀ (H : Heap) (locs : List Loc) (ls : Array Slot), xS G A s.heap (wd_Model G a S0) H locs → lv_has ls 7 [(0, .ref (a 0)), (1, .int x1), (2, .int x2), (3, .int x3), (4, .int x4)] → W p l e ({ frames := 1, cells := 0, slots := 0, locals := 21 }) s m args below meth c H locs 0 0 (MQ below (xQo G (some (.int ro)) A (wd_Model G a S0)) args s 0 0 A) (F0 m 82 ls [])) : ∀ (n : Nat) (x1 : Int32) (x2 : Int32) (x3 : Int32) (x4 : Int32) (x5 : Int32), fl_X9_leaves_19 k82 S0 n x1 x2 x3 x4 x5 = some ro → ∀ (H : Heap) (locs : List Loc) (ls : Array Slot), xS G A s.heap (wd_Model G a S0) H locs → lv_has ls 7 [(0, .ref (a 0)), (1, .int x1), (2, .int x2), (3, .int x3), (4, .int x4), (5, .int x5)] → W p l e ({ frames := 1, cells := 0, slots := 0, locals := 21 }) s m args below meth c H locs 0 0 (MQ below (xQo G (some (.int ro)) A (wd_Model G a S0)) args s 0 0 A) (F0 m 19 ls []) := by
  have hx := C0.1
  have hb := C0.2.1
  intro n
  induction n with
  | zero =>
    intro x1 x2 x3 x4 x5 hf
    have hf : none = some ro := hf
    cases hf
  | succ n ih =>
    intro x1 x2 x3 x4 x5 hf H locs ls X hl
    rw [fl_X9_leaves_19] at hf
    refine lv_iload (pc := 19) hx hb dX9_leaves_19 (lv_at hl 5 rfl) ?_
    refine lv_iconst (pc := 21) (v := 1) hx hb dX9_leaves_21 (by decide) ?_
    refine lv_iload (pc := 22) hx hb dX9_leaves_22 (lv_at hl 4 rfl) ?_
    refine lv_ishl (pc := 24) hx hb dX9_leaves_24 ?_
    refine lv_icmp_ge (pc := 25) (tgt := 82) hx hb dX9_leaves_25 (by decide) (fun c_4 => ?_) (fun c_4 => ?_)
    · have hf := it_p hf c_4
      exact hk82 _ _ _ _ hf _ _ _ X (lv_sub hl [0, 1, 2, 3, 4] rfl)
    · have hf := it_n hf c_4
      refine lv_aload_n (pc := 28) hx hb dX9_leaves_28 rfl (lv_at hl 0 rfl) ?_
      refine x_get (pc := 29) (ci := 9) C0 KN X 0 rfl rfl inlX9 18 (by decide) kw_8_0 rfl dX9_leaves_29 ?_
      refine lv_iload (pc := 32) hx hb dX9_leaves_32 (lv_at hl 4 rfl) ?_
      refine lv_iload (pc := 34) hx hb dX9_leaves_34 (lv_at hl 5 rfl) ?_
      obtain ⟨r_5, h_6, hf⟩ := bd_e hf
      refine x_cs (pc := 36) (As := [.int x4, .int x5]) (rest := [.ref (a 15)]) C0 (ct_X9_nodeOf l x4 x5 r_5 h_6) kw_13_6 kw_13_4 kw_13_5 kw_1_5 hd_X9_nodeOf ⟨by decide, by decide⟩ hl.1 rfl (Nat.le_of_ble_eq_true rfl) ⟨Nat.zero_le _, Nat.zero_le _⟩ dX9_leaves_36 ?_
      refine W.eq (g2 := F0 m 39 ls [.int r_5, .ref (a 15)]) rfl ?_
      obtain ⟨g_7, hf⟩ := gd_e hf
      refine x_ald (pc := 39) C0 KN X 15 rfl g_7 dX9_leaves_39 ?_
      refine W.eq (g2 := F0 m 40 ls [.int ((gf_Model_inTree S0) r_5.toNatClampNeg)]) rfl ?_
      refine lv_iconst (pc := 40) (v := 1) hx hb dX9_leaves_40 (by decide) ?_
      refine lv_icmp_ne (pc := 41) (tgt := 48) hx hb dX9_leaves_41 (by decide) (fun c_8 => ?_) (fun c_8 => ?_)
      · have hf := it_n hf c_8
        refine lv_iconst (pc := 48) (v := 0) hx hb dX9_leaves_48 (by decide) ?_
        exact lb_X9_leaves_49 C0 KN hA S0 _ (fl_X9_leaves_19 k82 S0 n) ih _ _ _ _ _ _ hf _ _ _ X (lv_sub hl [0, 1, 2, 3, 4, 5] rfl)
      · have hf := it_p hf c_8
        refine lv_iconst (pc := 44) (v := 1) hx hb dX9_leaves_44 (by decide) ?_
        refine lv_goto (pc := 45) (tgt := 49) hx hb dX9_leaves_45 (by decide) ?_
        exact lb_X9_leaves_49 C0 KN hA S0 _ (fl_X9_leaves_19 k82 S0 n) ih _ _ _ _ _ _ hf _ _ _ X (lv_sub hl [0, 1, 2, 3, 4, 5] rfl)
set_option maxHeartbeats 4000000 in
set_option maxRecDepth 100000 in
theorem lb_X9_leaves_7 {l : Launch} {p : Program} {e : Env} {s : State} {m : MethodId} {args : Array Value} {below : List Frame} {meth : Method} {c : Code} {G : xG} {A : Nat → Prop} {a : Nat → Nat} (C0 : xC p s m meth c cX9_leaves 7 (some .int) RX9 args) (KN : xKN G s) (hA : ∀ q, s.heap.size ≤ q → A q) (S0 : tt_Model) (ro : Int32) (k88 : Int32 → Int32 → Int32 → Option Int32) (hk88 : ∀ (x1 : Int32) (x2 : Int32) (x3 : Int32), k88 x1 x2 x3 = some ro → ∀ (H : Heap) (locs : List Loc) (ls : Array Slot), xS G A s.heap (wd_Model G a S0) H locs → lv_has ls 7 [(0, .ref (a 0)), (1, .int x1), (2, .int x2), (3, .int x3)] → W p l e ({ frames := 1, cells := 0, slots := 0, locals := 21 }) s m args below meth c H locs 0 0 (MQ below (xQo G (some (.int ro)) A (wd_Model G a S0)) args s 0 0 A) (F0 m 88 ls [])) : ∀ (n : Nat) (x1 : Int32) (x2 : Int32) (x3 : Int32) (x4 : Int32), fl_X9_leaves_7 k88 S0 n x1 x2 x3 x4 = some ro → ∀ (H : Heap) (locs : List Loc) (ls : Array Slot), xS G A s.heap (wd_Model G a S0) H locs → lv_has ls 7 [(0, .ref (a 0)), (1, .int x1), (2, .int x2), (3, .int x3), (4, .int x4)] → W p l e ({ frames := 1, cells := 0, slots := 0, locals := 21 }) s m args below meth c H locs 0 0 (MQ below (xQo G (some (.int ro)) A (wd_Model G a S0)) args s 0 0 A) (F0 m 7 ls []) := by
  have hx := C0.1
  have hb := C0.2.1
  intro n
  induction n with
  | zero =>
    intro x1 x2 x3 x4 hf
    have hf : none = some ro := hf
    cases hf
  | succ n ih =>
    intro x1 x2 x3 x4 hf H locs ls X hl
    rw [fl_X9_leaves_7] at hf
    refine lv_iload (pc := 7) hx hb dX9_leaves_7 (lv_at hl 4 rfl) ?_
    refine lv_aload_n (pc := 9) hx hb dX9_leaves_9 rfl (lv_at hl 0 rfl) ?_
    obtain ⟨r_1, h_2, hf⟩ := bd_e hf
    refine x_cv (pc := 10) (ws' := wd_Model G a S0) (As := []) (rest := [.int x4]) (ci := 9) (qr := 0) C0 KN X hA [0, 1, 2, 3, 4, 5, 6, 7, 8, 9, 10, 11, 12, 13, 14, 15, 16, 17, 18] [] [0, 1, 2, 3, 4, 5, 6, 7, 8, 9, 10, 11, 12, 13, 14, 15, 16, 17, 18] cu_C49 rfl cu_R49 rfl (by decide) (cu_J49 (S0 := S0)) rfl (ct_X9_depth l G a S0 r_1 h_2) rfl rfl rfl kw_12_6 kw_12_3 kw_12_4 kw_12_5 kw_1_5 hd_X9_depth ⟨by decide, by decide⟩ hl.1 rfl (Nat.le_of_ble_eq_true rfl) ⟨Nat.zero_le _, Nat.zero_le _⟩ dX9_leaves_10 (fun H locs X => ?_)
    refine W.eq (g2 := F0 m 13 ls [.int r_1, .int x4]) rfl ?_
    refine lv_icmp_gt (pc := 13) (tgt := 88) hx hb dX9_leaves_13 (by decide) (fun c_3 => ?_) (fun c_3 => ?_)
    · have hf := it_p hf c_3
      exact hk88 _ _ _ hf _ _ _ X (lv_sub hl [0, 1, 2, 3] rfl)
    · have hf := it_n hf c_3
      refine lv_iconst (pc := 16) (v := 0) hx hb dX9_leaves_16 (by decide) ?_
      refine lv_istore (pc := 17) (lv' := [(5, .int (0 : Int32)), (0, .ref (a 0)), (1, .int x1), (2, .int x2), (3, .int x3), (4, .int x4)]) hx hb dX9_leaves_17 hl (by decide) rfl (fun ls hl => ?_)
      refine lb_X9_leaves_19 C0 KN hA S0 _ _ ?_ _ _ _ _ _ _ hf _ _ _ X (lv_sub hl [1, 2, 3, 4, 5, 0] rfl)
      · intro x1_e82_13 x2_e82_13 x3_e82_13 x4_e82_13 hf H locs ls X hl
        obtain ⟨y_14, ey_14⟩ : ∃ y : Int32, y = x4_e82_13 + (1 : Int32) := ⟨_, rfl⟩
        have hf := lt_sb hf ey_14
        refine lv_iinc (pc := 82) (v := y_14) (lv' := [(4, .int y_14), (0, .ref (a 0)), (1, .int x1_e82_13), (2, .int x2_e82_13), (3, .int x3_e82_13)]) hx hb dX9_leaves_82 hl (k := 4) rfl (by rw [ey_14]; rfl) (by decide) rfl (fun ls hl => ?_)
        refine lv_goto (pc := 85) (tgt := 7) hx hb dX9_leaves_85 (by decide) ?_
        exact ih _ _ _ _ hf _ _ _ X (lv_sub hl [1, 2, 3, 4, 0] rfl)
theorem hd_X9_leaves : yX9_leaves.cls ≠ "java/lang/invoke/MethodHandle" ∧ yX9_leaves.cls ≠ "java/lang/invoke/VarHandle" ∧ (parseMethodDescriptor yX9_leaves.desc).map (fun d => d.parameters.length) = some 1 := by decide +kernel
set_option maxHeartbeats 4000000 in
set_option maxRecDepth 100000 in
theorem ct_X9_leaves (l : Launch) (G : xG) (a : Nat → Nat) (S0 : tt_Model) (x1 : Int32) (ro : Int32) (hf : fn_X9_leaves S0 x1 = some ro) : xM l yX9_leaves cX9_leaves 7 (some .int) 1 21 G [.ref (a 0), .int x1] (wd_Model G a S0) (wd_Model G a S0) (some (.int ro)) := by
  refine xMi (by decide) (Nat.le_of_ble_eq_true rfl) ?_
  intro p e s m below meth c A C0 KN hA X ls hl
  have hx := C0.1
  have hb := C0.2.1
  have C0 : xC p s m meth c cX9_leaves 7 (some .int) RX9 _ := C0
  have hl : lv_has ls 7 [(0, .ref (a 0)), (1, .int x1)] := hl
  unfold fn_X9_leaves at hf
  refine lv_iconst (pc := 0) (v := 0) hx hb dX9_leaves_0 (by decide) ?_
  refine lv_istore_n (pc := 1) (lv' := [(2, .int (0 : Int32)), (0, .ref (a 0)), (1, .int x1)]) hx hb dX9_leaves_1 rfl hl (by decide) rfl (fun ls hl => ?_)
  refine lv_iconst (pc := 2) (v := 0) hx hb dX9_leaves_2 (by decide) ?_
  refine lv_istore_n (pc := 3) (lv' := [(3, .int (0 : Int32)), (2, .int (0 : Int32)), (0, .ref (a 0)), (1, .int x1)]) hx hb dX9_leaves_3 rfl hl (by decide) rfl (fun ls hl => ?_)
  refine lv_iconst (pc := 4) (v := 0) hx hb dX9_leaves_4 (by decide) ?_
  refine lv_istore (pc := 5) (lv' := [(4, .int (0 : Int32)), (3, .int (0 : Int32)), (2, .int (0 : Int32)), (0, .ref (a 0)), (1, .int x1)]) hx hb dX9_leaves_5 hl (by decide) rfl (fun ls hl => ?_)
  refine lb_X9_leaves_7 C0 KN hA S0 _ _ ?_ _ _ _ _ _ hf _ _ _ X (lv_sub hl [3, 4, 2, 1, 0] rfl)
  · intro x1_e88_15 x2_e88_15 x3_e88_15 hf H locs ls X hl
    refine lv_iload_n (pc := 88) hx hb dX9_leaves_88 rfl (lv_at hl 1 rfl) ?_
    refine lv_if_eq (pc := 89) (tgt := 96) hx hb dX9_leaves_89 (by decide) (fun c_16 => ?_) (fun c_16 => ?_)
    · have hf := it_p hf c_16
      refine lv_iload_n (pc := 96) hx hb dX9_leaves_96 rfl (lv_at hl 2 rfl) ?_
      obtain rfl := so_1 hf
      exact x_iret (pc := 97) C0 X dX9_leaves_97
    · have hf := it_n hf c_16
      refine lv_iload_n (pc := 92) hx hb dX9_leaves_92 rfl (lv_at hl 3 rfl) ?_
      refine lv_goto (pc := 93) (tgt := 97) hx hb dX9_leaves_93 (by decide) ?_
      obtain rfl := so_1 hf
      exact x_iret (pc := 97) C0 X dX9_leaves_97
set_option maxHeartbeats 4000000 in
set_option maxRecDepth 100000 in
theorem lb_X9_treeOf_28 {l : Launch} {p : Program} {e : Env} {s : State} {m : MethodId} {args : Array Value} {below : List Frame} {meth : Method} {c : Code} {G : xG} {A : Nat → Prop} {a : Nat → Nat} (C0 : xC p s m meth c cX9_treeOf 2 (some .int) RX9 args) (KN : xKN G s) (hA : ∀ q, s.heap.size ≤ q → A q) (ro : Int32) (So0 : tt_Model) : ∀ (S0 : tt_Model) (t1 : Int32), fn_X9_treeOf_28 S0 t1 = some (ro, So0) → ∀ (H : Heap) (locs : List Loc) (ls : Array Slot), xS G A s.heap (wd_Model G a S0) H locs → lv_has ls 2 [(0, .ref (a 0))] → W p l e ({ frames := 6, cells := 0, slots := 0, locals := 140 }) s m args below meth c H locs 0 0 (MQ below (xQo G (some (.int ro)) A (wd_Model G a So0)) args s 0 0 A) (F0 m 28 ls [.int t1, .ref (a 0)]) := by
  have hx := C0.1
  have hb := C0.2.1
  intro S0 t1 hf H locs ls X hl
  unfold fn_X9_treeOf_28 at hf
  obtain ⟨r_5, h_6, hf⟩ := bd_e hf
  refine x_cv (pc := 28) (ws' := wd_Model G a S0) (As := [.int t1]) (rest := []) (ci := 9) (qr := 0) C0 KN X hA [0, 1, 2, 3, 4, 5, 6, 7, 8, 9, 10, 11, 12, 13, 14, 15, 16, 17, 18] [] [0, 1, 2, 3, 4, 5, 6, 7, 8, 9, 10, 11, 12, 13, 14, 15, 16, 17, 18] cu_C49 rfl cu_R49 rfl (by decide) (cu_J49 (S0 := S0)) rfl (ct_X9_leaves l G a S0 t1 r_5 h_6) rfl rfl rfl kw_23_10 kw_23_7 kw_23_8 kw_23_9 kw_1_5 hd_X9_leaves ⟨by decide, by decide⟩ hl.1 rfl (Nat.le_of_ble_eq_true rfl) ⟨Nat.zero_le _, Nat.zero_le _⟩ dX9_treeOf_28 (fun H locs X => ?_)
  refine W.eq (g2 := F0 m 31 ls [.int r_5]) rfl ?_
  obtain ⟨rfl, rfl⟩ := so_2 hf
  exact x_iret (pc := 31) C0 X dX9_treeOf_31
theorem hd_X9_treeOf : yX9_treeOf.cls ≠ "java/lang/invoke/MethodHandle" ∧ yX9_treeOf.cls ≠ "java/lang/invoke/VarHandle" ∧ (parseMethodDescriptor yX9_treeOf.desc).map (fun d => d.parameters.length) = some 1 := by decide +kernel
set_option maxHeartbeats 4000000 in
set_option maxRecDepth 100000 in
theorem ct_X9_treeOf (l : Launch) (G : xG) (a : Nat → Nat) (S0 : tt_Model) (x1 : Int32) (ro : Int32) (So0 : tt_Model) (hf : fn_X9_treeOf S0 x1 = some (ro, So0)) : xM l yX9_treeOf cX9_treeOf 2 (some .int) 6 140 G [.ref (a 0), .int x1] (wd_Model G a S0) (wd_Model G a So0) (some (.int ro)) := by
  refine xMi (by decide) (Nat.le_of_ble_eq_true rfl) ?_
  intro p e s m below meth c A C0 KN hA X ls hl
  have hx := C0.1
  have hb := C0.2.1
  have C0 : xC p s m meth c cX9_treeOf 2 (some .int) RX9 _ := C0
  have hl : lv_has ls 2 [(0, .ref (a 0)), (1, .int x1)] := hl
  unfold fn_X9_treeOf at hf
  refine lv_aload_n (pc := 0) hx hb dX9_treeOf_0 rfl (lv_at hl 0 rfl) ?_
  obtain ⟨P_1, h_2, hf⟩ := bd_e hf
  refine x_cv (pc := 1) (ws' := wd_Model G a P_1) (As := []) (rest := []) (ci := 9) (qr := 0) C0 KN X hA [0, 1, 2, 3, 4, 5, 6, 7, 8, 9, 10, 11, 12, 13, 14, 15, 16, 17, 18] [] [0, 1, 2, 3, 4, 5, 6, 7, 8, 9, 10, 11, 12, 13, 14, 15, 16, 17, 18] cu_C50 rfl cu_R50 rfl (by decide) (cu_J50 (S0 := S0)) rfl (ct_X9_plants l G a S0 P_1 h_2) rfl rfl rfl kw_23_6 kw_23_3 kw_23_4 kw_23_5 kw_1_5 hd_X9_plants ⟨by decide, by decide⟩ hl.1 rfl (Nat.le_of_ble_eq_true rfl) ⟨Nat.zero_le _, Nat.zero_le _⟩ dX9_treeOf_1 (fun H locs X => ?_)
  refine W.eq (g2 := F0 m 4 ls []) rfl ?_
  refine lv_iload_n (pc := 4) hx hb dX9_treeOf_4 rfl (lv_at hl 1 rfl) ?_
  refine lv_if_ne (pc := 5) (tgt := 17) hx hb dX9_treeOf_5 (by decide) (fun c_3 => ?_) (fun c_3 => ?_)
  · have hf := it_n hf c_3
    refine lv_aload_n (pc := 17) hx hb dX9_treeOf_17 rfl (lv_at hl 0 rfl) ?_
    refine lv_iload_n (pc := 18) hx hb dX9_treeOf_18 rfl (lv_at hl 1 rfl) ?_
    refine lv_iconst (pc := 19) (v := 2) hx hb dX9_treeOf_19 (by decide) ?_
    refine lv_icmp_ne (pc := 20) (tgt := 27) hx hb dX9_treeOf_20 (by decide) (fun c_4 => ?_) (fun c_4 => ?_)
    · have hf := it_n hf c_4
      refine lv_iconst (pc := 27) (v := 0) hx hb dX9_treeOf_27 (by decide) ?_
      exact lb_X9_treeOf_28 C0 KN hA _ _  _ _ hf _ _ _ X (lv_sub hl [0] rfl)
    · have hf := it_p hf c_4
      refine lv_iconst (pc := 23) (v := 1) hx hb dX9_treeOf_23 (by decide) ?_
      refine lv_goto (pc := 24) (tgt := 28) hx hb dX9_treeOf_24 (by decide) ?_
      exact lb_X9_treeOf_28 C0 KN hA _ _  _ _ hf _ _ _ X (lv_sub hl [0] rfl)
  · have hf := it_p hf c_3
    refine lv_aload_n (pc := 8) hx hb dX9_treeOf_8 rfl (lv_at hl 0 rfl) ?_
    refine x_get (pc := 9) (ci := 9) C0 KN X 0 rfl rfl inlX9 16 (by decide) kw_7_21 rfl dX9_treeOf_9 ?_
    refine lv_iconst (pc := 12) (v := 0) hx hb dX9_treeOf_12 (by decide) ?_
    obtain ⟨g_7, hf⟩ := gd_e hf
    refine x_ald (pc := 13) C0 KN X 13 rfl g_7 dX9_treeOf_13 ?_
    refine W.eq (g2 := F0 m 14 ls [.int ((gf_Model_treeCost P_1) (0 : Int32).toNatClampNeg)]) rfl ?_
    refine lv_goto (pc := 14) (tgt := 31) hx hb dX9_treeOf_14 (by decide) ?_
    obtain ⟨rfl, rfl⟩ := so_2 hf
    exact x_iret (pc := 31) C0 X dX9_treeOf_31
theorem hd_X9_tree : yX9_tree.cls ≠ "java/lang/invoke/MethodHandle" ∧ yX9_tree.cls ≠ "java/lang/invoke/VarHandle" ∧ (parseMethodDescriptor yX9_tree.desc).map (fun d => d.parameters.length) = some 1 := by decide +kernel
set_option maxHeartbeats 4000000 in
set_option maxRecDepth 100000 in
theorem ct_X9_tree (l : Launch) (G : xG) (a : Nat → Nat) (S0 : tt_Model) (x1 : Int32) (ro : Int32) (So0 : tt_Model) (hf : fn_X9_tree S0 x1 = some (ro, So0)) : xM l yX9_tree cX9_tree 2 (some .int) 7 161 G [.ref (a 0), .int x1] (wd_Model G a S0) (wd_Model G a So0) (some (.int ro)) := by
  refine xMi (by decide) (Nat.le_of_ble_eq_true rfl) ?_
  intro p e s m below meth c A C0 KN hA X ls hl
  have hx := C0.1
  have hb := C0.2.1
  have C0 : xC p s m meth c cX9_tree 2 (some .int) RX9 _ := C0
  have hl : lv_has ls 2 [(0, .ref (a 0)), (1, .int x1)] := hl
  unfold fn_X9_tree at hf
  refine lv_iload_n (pc := 0) hx hb dX9_tree_0 rfl (lv_at hl 1 rfl) ?_
  refine lv_i2l (pc := 1) (v := x1.toInt64) hx hb dX9_tree_1 rfl ?_
  refine lv_lconst (pc := 2) (v := 0) hx hb dX9_tree_2 (by decide) ?_
  refine x_ldc2 (pc := 3) C0 kw_21_7 dX9_tree_3 ?_
  obtain ⟨r_1, h_2, hf⟩ := bd_e hf
  refine x_cs (pc := 6) (As := [.long x1.toInt64, .long (0 : Int64), .long (2 : Int64)]) (rest := []) C0 (ct_X9_in l x1.toInt64 (0 : Int64) (2 : Int64) r_1 h_2) kw_10_21 kw_10_19 kw_10_20 kw_1_5 hd_X9_in ⟨by decide, by decide⟩ hl.1 rfl (Nat.le_of_ble_eq_true rfl) ⟨Nat.zero_le _, Nat.zero_le _⟩ dX9_tree_6 ?_
  refine W.eq (g2 := F0 m 9 ls [.int r_1]) rfl ?_
  refine lv_if_eq (pc := 9) (tgt := 20) hx hb dX9_tree_9 (by decide) (fun c_3 => ?_) (fun c_3 => ?_)
  · have hf := it_p hf c_3
    refine lv_aload_n (pc := 20) hx hb dX9_tree_20 rfl (lv_at hl 0 rfl) ?_
    refine lv_bipush (pc := 21) (v := (-2)) hx hb dX9_tree_21 (by decide) ?_
    obtain ⟨r_4, P_5, h_6, hf⟩ := b2_e hf
    refine x_cv (pc := 23) (ws' := wd_Model G a P_5) (As := [.int (-2 : Int32)]) (rest := []) (ci := 9) (qr := 0) C0 KN X hA [0, 1, 2, 3, 4, 5, 6, 7, 8, 9, 10, 11, 12, 13, 14, 15, 16, 17, 18] [] [0, 1, 2, 3, 4, 5, 6, 7, 8, 9, 10, 11, 12, 13, 14, 15, 16, 17, 18] cu_C50 rfl cu_R50 rfl (by decide) (cu_J50 (S0 := S0)) rfl (ct_X9_bad l G a S0 (-2 : Int32) r_4 P_5 h_6) rfl rfl rfl kw_11_1 kw_10_22 kw_10_23 kw_11_0 kw_1_5 hd_X9_bad ⟨by decide, by decide⟩ hl.1 rfl (Nat.le_of_ble_eq_true rfl) ⟨Nat.zero_le _, Nat.zero_le _⟩ dX9_tree_23 (fun H locs X => ?_)
    refine W.eq (g2 := F0 m 26 ls [.int r_4]) rfl ?_
    obtain ⟨rfl, rfl⟩ := so_2 hf
    exact x_iret (pc := 26) C0 X dX9_tree_26
  · have hf := it_n hf c_3
    refine lv_aload_n (pc := 12) hx hb dX9_tree_12 rfl (lv_at hl 0 rfl) ?_
    refine lv_iload_n (pc := 13) hx hb dX9_tree_13 rfl (lv_at hl 1 rfl) ?_
    obtain ⟨r_7, P_8, h_9, hf⟩ := b2_e hf
    refine x_cv (pc := 14) (ws' := wd_Model G a P_8) (As := [.int x1]) (rest := []) (ci := 9) (qr := 0) C0 KN X hA [0, 1, 2, 3, 4, 5, 6, 7, 8, 9, 10, 11, 12, 13, 14, 15, 16, 17, 18] [] [0, 1, 2, 3, 4, 5, 6, 7, 8, 9, 10, 11, 12, 13, 14, 15, 16, 17, 18] cu_C50 rfl cu_R50 rfl (by decide) (cu_J50 (S0 := S0)) rfl (ct_X9_treeOf l G a S0 x1 r_7 P_8 h_9) rfl rfl rfl kw_23_2 kw_22_23 kw_23_0 kw_23_1 kw_1_5 hd_X9_treeOf ⟨by decide, by decide⟩ hl.1 rfl (Nat.le_of_ble_eq_true rfl) ⟨Nat.zero_le _, Nat.zero_le _⟩ dX9_tree_14 (fun H locs X => ?_)
    refine W.eq (g2 := F0 m 17 ls [.int r_7]) rfl ?_
    refine lv_goto (pc := 17) (tgt := 26) hx hb dX9_tree_17 (by decide) ?_
    obtain ⟨rfl, rfl⟩ := so_2 hf
    exact x_iret (pc := 26) C0 X dX9_tree_26
theorem hd_X9_leaf : yX9_leaf.cls ≠ "java/lang/invoke/MethodHandle" ∧ yX9_leaf.cls ≠ "java/lang/invoke/VarHandle" ∧ (parseMethodDescriptor yX9_leaf.desc).map (fun d => d.parameters.length) = some 2 := by decide +kernel
set_option maxHeartbeats 4000000 in
set_option maxRecDepth 100000 in
theorem ct_X9_leaf (l : Launch) (G : xG) (a : Nat → Nat) (S0 : tt_Model) (x1 : Int32) (x2 : Int32) (ro : Int32) (So0 : tt_Model) (hf : fn_X9_leaf S0 x1 x2 = some (ro, So0)) : xM l yX9_leaf cX9_leaf 3 (some .int) 6 140 G [.ref (a 0), .int x1, .int x2] (wd_Model G a S0) (wd_Model G a So0) (some (.int ro)) := by
  refine xMi (by decide) (Nat.le_of_ble_eq_true rfl) ?_
  intro p e s m below meth c A C0 KN hA X ls hl
  have hx := C0.1
  have hb := C0.2.1
  have C0 : xC p s m meth c cX9_leaf 3 (some .int) RX9 _ := C0
  have hl : lv_has ls 3 [(0, .ref (a 0)), (1, .int x1), (2, .int x2)] := hl
  unfold fn_X9_leaf at hf
  refine lv_aload_n (pc := 0) hx hb dX9_leaf_0 rfl (lv_at hl 0 rfl) ?_
  refine lv_iload_n (pc := 1) hx hb dX9_leaf_1 rfl (lv_at hl 1 rfl) ?_
  refine lv_iload_n (pc := 2) hx hb dX9_leaf_2 rfl (lv_at hl 2 rfl) ?_
  obtain ⟨r_1, h_2, hf⟩ := bd_e hf
  refine x_cv (pc := 3) (ws' := wd_Model G a S0) (As := [.int x1, .int x2]) (rest := []) (ci := 9) (qr := 0) C0 KN X hA [0, 1, 2, 3, 4, 5, 6, 7, 8, 9, 10, 11, 12, 13, 14, 15, 16, 17, 18] [] [0, 1, 2, 3, 4, 5, 6, 7, 8, 9, 10, 11, 12, 13, 14, 15, 16, 17, 18] cu_C49 rfl cu_R49 rfl (by decide) (cu_J49 (S0 := S0)) rfl (ct_X9_isNode l G a S0 x1 x2 r_1 h_2) rfl rfl rfl kw_19_11 kw_19_8 kw_19_9 kw_19_10 kw_1_5 hd_X9_isNode ⟨by decide, by decide⟩ hl.1 rfl (Nat.le_of_ble_eq_true rfl) ⟨Nat.zero_le _, Nat.zero_le _⟩ dX9_leaf_3 (fun H locs X => ?_)
  refine W.eq (g2 := F0 m 6 ls [.int r_1]) rfl ?_
  refine lv_if_ne (pc := 6) (tgt := 16) hx hb dX9_leaf_6 (by decide) (fun c_3 => ?_) (fun c_3 => ?_)
  · have hf := it_n hf c_3
    refine lv_aload_n (pc := 16) hx hb dX9_leaf_16 rfl (lv_at hl 0 rfl) ?_
    obtain ⟨P_4, h_5, hf⟩ := bd_e hf
    refine x_cv (pc := 17) (ws' := wd_Model G a P_4) (As := []) (rest := []) (ci := 9) (qr := 0) C0 KN X hA [0, 1, 2, 3, 4, 5, 6, 7, 8, 9, 10, 11, 12, 13, 14, 15, 16, 17, 18] [] [0, 1, 2, 3, 4, 5, 6, 7, 8, 9, 10, 11, 12, 13, 14, 15, 16, 17, 18] cu_C50 rfl cu_R50 rfl (by decide) (cu_J50 (S0 := S0)) rfl (ct_X9_plants l G a S0 P_4 h_5) rfl rfl rfl kw_23_6 kw_23_3 kw_23_4 kw_23_5 kw_1_5 hd_X9_plants ⟨by decide, by decide⟩ hl.1 rfl (Nat.le_of_ble_eq_true rfl) ⟨Nat.zero_le _, Nat.zero_le _⟩ dX9_leaf_17 (fun H locs X => ?_)
    refine W.eq (g2 := F0 m 20 ls []) rfl ?_
    refine lv_aload_n (pc := 20) hx hb dX9_leaf_20 rfl (lv_at hl 0 rfl) ?_
    refine x_get (pc := 21) (ci := 9) C0 KN X 0 rfl rfl inlX9 18 (by decide) kw_8_0 rfl dX9_leaf_21 ?_
    refine lv_iload_n (pc := 24) hx hb dX9_leaf_24 rfl (lv_at hl 1 rfl) ?_
    refine lv_iload_n (pc := 25) hx hb dX9_leaf_25 rfl (lv_at hl 2 rfl) ?_
    obtain ⟨r_6, h_7, hf⟩ := bd_e hf
    refine x_cs (pc := 26) (As := [.int x1, .int x2]) (rest := [.ref (a 15)]) C0 (ct_X9_nodeOf l x1 x2 r_6 h_7) kw_13_6 kw_13_4 kw_13_5 kw_1_5 hd_X9_nodeOf ⟨by decide, by decide⟩ hl.1 rfl (Nat.le_of_ble_eq_true rfl) ⟨Nat.zero_le _, Nat.zero_le _⟩ dX9_leaf_26 ?_
    refine W.eq (g2 := F0 m 29 ls [.int r_6, .ref (a 15)]) rfl ?_
    obtain ⟨g_8, hf⟩ := gd_e hf
    refine x_ald (pc := 29) C0 KN X 15 rfl g_8 dX9_leaf_29 ?_
    refine W.eq (g2 := F0 m 30 ls [.int ((gf_Model_inTree P_4) r_6.toNatClampNeg)]) rfl ?_
    obtain ⟨rfl, rfl⟩ := so_2 hf
    exact x_iret (pc := 30) C0 X dX9_leaf_30
  · have hf := it_p hf c_3
    refine lv_aload_n (pc := 9) hx hb dX9_leaf_9 rfl (lv_at hl 0 rfl) ?_
    refine lv_bipush (pc := 10) (v := (-2)) hx hb dX9_leaf_10 (by decide) ?_
    obtain ⟨r_9, P_10, h_11, hf⟩ := b2_e hf
    refine x_cv (pc := 12) (ws' := wd_Model G a P_10) (As := [.int (-2 : Int32)]) (rest := []) (ci := 9) (qr := 0) C0 KN X hA [0, 1, 2, 3, 4, 5, 6, 7, 8, 9, 10, 11, 12, 13, 14, 15, 16, 17, 18] [] [0, 1, 2, 3, 4, 5, 6, 7, 8, 9, 10, 11, 12, 13, 14, 15, 16, 17, 18] cu_C50 rfl cu_R50 rfl (by decide) (cu_J50 (S0 := S0)) rfl (ct_X9_bad l G a S0 (-2 : Int32) r_9 P_10 h_11) rfl rfl rfl kw_11_1 kw_10_22 kw_10_23 kw_11_0 kw_1_5 hd_X9_bad ⟨by decide, by decide⟩ hl.1 rfl (Nat.le_of_ble_eq_true rfl) ⟨Nat.zero_le _, Nat.zero_le _⟩ dX9_leaf_12 (fun H locs X => ?_)
    refine W.eq (g2 := F0 m 15 ls [.int r_9]) rfl ?_
    obtain ⟨rfl, rfl⟩ := so_2 hf
    exact x_iret (pc := 15) C0 X dX9_leaf_15
