def fn_X8_within (x0 : Int32) (x1 : Int32) (x2 : Int32) : Option Int32 :=
  if x0 < x1 then some (0 : Int32) else if x2 < x0 then some (0 : Int32) else some (1 : Int32)
def fn_X8_kept (x0 : Int64) (x2 : Int32) (x3 : Int32) : Option Int32 :=
  if x2.toInt64 ≤ x0 then if x0 ≤ x3.toInt64 then some x0.toInt32 else some x3 else some x2
def fn_X8_nodeOf (x0 : Int32) (x1 : Int32) : Option Int32 :=
  bd_ (fn_X8_kept x0.toInt64 (0 : Int32) (6 : Int32)) fun r_1 => lt_ ((1 : Int32) <<< (r_1 &&& 31)) fun y_3 => some (y_3 ||| (x1 &&& (y_3 - (1 : Int32))))
def fn_X8_quotient (x0 : Int64) (x2 : Int64) : Option Int64 :=
  if (1 : Int64) ≤ x2 then gd_ (¬ x2 = 0) (some (x0 / x2)) else some (0 : Int64)
def fn_X8_opinion_97 (x3 : Int64) (x5 : Int64) : Option Int32 :=
  bd_ (fn_X8_quotient ((65536 : Int64) * x3) x5) fun r_6 => bd_ (fn_X8_kept r_6 (1 : Int32) (65535 : Int32)) fun r_8 => some r_8
def fn_X8_opinion (x0 : Int32) (x1 : Int32) (x2 : Int32) : Option Int32 :=
  lt_ ((((2 : Int32) * x2) + (1 : Int32)).toInt64) fun y_1 => lt_ (((((2 : Int32) * x1) + ((2 : Int32) * x2)) + (2 : Int32)).toInt64) fun y_2 => if x0 = (1 : Int32) then lt_ ((x2 + (1 : Int32)).toInt64) fun y_14 => lt_ (((x1 + x2) + (2 : Int32)).toInt64) fun y_15 => fn_X8_opinion_97 y_14 y_15 else if x0 = (2 : Int32) then lt_ ((((4 : Int32) * x2) + (1 : Int32)).toInt64) fun y_12 => lt_ (((((4 : Int32) * x1) + ((4 : Int32) * x2)) + (2 : Int32)).toInt64) fun y_13 => fn_X8_opinion_97 y_12 y_13 else if x0 = (3 : Int32) then lt_ ((((2 : Int32) * (x2 / (2 : Int32))) + (1 : Int32)).toInt64) fun y_10 => lt_ (((((2 : Int32) * (x1 / (2 : Int32))) + ((2 : Int32) * (x2 / (2 : Int32)))) + (2 : Int32)).toInt64) fun y_11 => fn_X8_opinion_97 y_10 y_11 else fn_X8_opinion_97 y_1 y_2
def fn_X8_ofSign (x0 : Int32) (x1 : Int32) : Option Int32 :=
  if x0 = (1 : Int32) then some x1 else some ((65536 : Int32) - x1)
def fl_X8_bitsOf_6 (k26 : Int32 → Int32 → Option Int32) : Nat → Int32 → Int32 → Int32 → Option Int32
  | 0, _, _, _ => none
  | n + 1, x0, x1, x2 =>
  if x2 ≤ 0 then k26 x0 x1 else if (x0 >>> (x2 &&& 31)) = 0 then lt_ (x2 - (1 : Int32)) fun y_3 => lt_ (x2 + (-1 : Int32)) fun y_4 => fl_X8_bitsOf_6 k26 n x0 y_3 y_4 else k26 x0 x1
def fn_X8_bitsOf_44 (x1 : Int32) (t0 : Int32) : Option Int32 :=
  some (((16 : Int32) * ((16 : Int32) - x1)) - (t0 &&& (15 : Int32)))
def fn_X8_bitsOf_26 (x0 : Int32) (x1 : Int32) : Option Int32 :=
  if x1 < (4 : Int32) then fn_X8_bitsOf_44 x1 (x0 <<< (((4 : Int32) - x1) &&& 31)) else fn_X8_bitsOf_44 x1 (x0 >>> ((x1 - (4 : Int32)) &&& 31))
def fn_X8_bitsOf (x0 : Int32) : Option Int32 :=
  fl_X8_bitsOf_6 (fun (x0_e26_5 : Int32) (x1_e26_5 : Int32) => fn_X8_bitsOf_26 x0_e26_5 x1_e26_5) fu_ x0 (15 : Int32) (15 : Int32)

theorem hd_X8_within : yX8_within.cls ≠ "java/lang/invoke/MethodHandle" ∧ yX8_within.cls ≠ "java/lang/invoke/VarHandle" ∧ (parseMethodDescriptor yX8_within.desc).map (fun d => d.parameters.length) = some 3 := by decide +kernel
set_option maxHeartbeats 4000000 in
set_option maxRecDepth 100000 in
theorem ct_X8_within (l : Launch) (x0 : Int32) (x1 : Int32) (x2 : Int32) (ro : Int32) (hf : fn_X8_within x0 x1 x2 = some ro) : xMs l yX8_within cX8_within 3 (some .boolean) 0 0 [.int x0, .int x1, .int x2] (some (.int ro)) := by
  refine xMsi (by decide) (Nat.le_of_ble_eq_true rfl) ?_
  intro p e s m below meth c C0 ls hl
  have hx := C0.1
  have hb := C0.2.1
  have C0 : xC p s m meth c cX8_within 3 (some .boolean) RX8 _ := C0
  have hl : lv_has ls 3 [(0, .int x0), (1, .int x1), (2, .int x2)] := hl
  unfold fn_X8_within at hf
  refine lv_iload_n (pc := 0) hx hb dX8_within_0 rfl (lv_at hl 0 rfl) ?_
  refine lv_iload_n (pc := 1) hx hb dX8_within_1 rfl (lv_at hl 1 rfl) ?_
  refine lv_icmp_lt (pc := 2) (tgt := 14) hx hb dX8_within_2 (by decide) (fun c_1 => ?_) (fun c_1 => ?_)
  · have hf := it_p hf c_1
    refine lv_iconst (pc := 14) (v := 0) hx hb dX8_within_14 (by decide) ?_
    obtain rfl := so_1 hf
    exact s_zret (pc := 15) C0 (by decide) dX8_within_15
  · have hf := it_n hf c_1
    refine lv_iload_n (pc := 5) hx hb dX8_within_5 rfl (lv_at hl 0 rfl) ?_
    refine lv_iload_n (pc := 6) hx hb dX8_within_6 rfl (lv_at hl 2 rfl) ?_
    refine lv_icmp_gt (pc := 7) (tgt := 14) hx hb dX8_within_7 (by decide) (fun c_2 => ?_) (fun c_2 => ?_)
    · have hf := it_p hf c_2
      refine lv_iconst (pc := 14) (v := 0) hx hb dX8_within_14 (by decide) ?_
      obtain rfl := so_1 hf
      exact s_zret (pc := 15) C0 (by decide) dX8_within_15
    · have hf := it_n hf c_2
      refine lv_iconst (pc := 10) (v := 1) hx hb dX8_within_10 (by decide) ?_
      refine lv_goto (pc := 11) (tgt := 15) hx hb dX8_within_11 (by decide) ?_
      obtain rfl := so_1 hf
      exact s_zret (pc := 15) C0 (by decide) dX8_within_15
theorem hd_X8_kept : yX8_kept.cls ≠ "java/lang/invoke/MethodHandle" ∧ yX8_kept.cls ≠ "java/lang/invoke/VarHandle" ∧ (parseMethodDescriptor yX8_kept.desc).map (fun d => d.parameters.length) = some 3 := by decide +kernel
set_option maxHeartbeats 4000000 in
set_option maxRecDepth 100000 in
theorem ct_X8_kept (l : Launch) (x0 : Int64) (x2 : Int32) (x3 : Int32) (ro : Int32) (hf : fn_X8_kept x0 x2 x3 = some ro) : xMs l yX8_kept cX8_kept 4 (some .int) 0 0 [.long x0, .int x2, .int x3] (some (.int ro)) := by
  refine xMsi (by decide) (Nat.le_of_ble_eq_true rfl) ?_
  intro p e s m below meth c C0 ls hl
  have hx := C0.1
  have hb := C0.2.1
  have C0 : xC p s m meth c cX8_kept 4 (some .int) RX8 _ := C0
  have hl : lv_has ls 4 [(0, .long x0), (2, .int x2), (3, .int x3)] := hl
  unfold fn_X8_kept at hf
  refine lv_lload_n (pc := 0) hx hb dX8_kept_0 rfl (lv_at hl 0 rfl) ?_
  refine lv_iload_n (pc := 1) hx hb dX8_kept_1 rfl (lv_at hl 1 rfl) ?_
  refine lv_i2l (pc := 2) (v := x2.toInt64) hx hb dX8_kept_2 rfl ?_
  refine W.lcmp (pc := 3) hx hb dX8_kept_3 ?_
  refine lv_if_ge (pc := 4) (tgt := 11) hx hb dX8_kept_4 (by decide) (fun c_1 => ?_) (fun c_1 => ?_)
  · have hf := it_p hf ((lg_cmp_ge x0 x2.toInt64).mp c_1)
    refine lv_lload_n (pc := 11) hx hb dX8_kept_11 rfl (lv_at hl 0 rfl) ?_
    refine lv_iload_n (pc := 12) hx hb dX8_kept_12 rfl (lv_at hl 2 rfl) ?_
    refine lv_i2l (pc := 13) (v := x3.toInt64) hx hb dX8_kept_13 rfl ?_
    refine W.lcmp (pc := 14) hx hb dX8_kept_14 ?_
    refine lv_if_le (pc := 15) (tgt := 22) hx hb dX8_kept_15 (by decide) (fun c_2 => ?_) (fun c_2 => ?_)
    · have hf := it_p hf ((lg_cmp_le x0 x3.toInt64).mp c_2)
      refine lv_lload_n (pc := 22) hx hb dX8_kept_22 rfl (lv_at hl 0 rfl) ?_
      refine lv_l2i (pc := 23) (v := x0.toInt32) hx hb dX8_kept_23 rfl ?_
      obtain rfl := so_1 hf
      exact s_iret (pc := 24) C0 dX8_kept_24
    · have hf := it_n hf (fun z => c_2 ((lg_cmp_le x0 x3.toInt64).mpr z))
      refine lv_iload_n (pc := 18) hx hb dX8_kept_18 rfl (lv_at hl 2 rfl) ?_
      refine lv_goto (pc := 19) (tgt := 24) hx hb dX8_kept_19 (by decide) ?_
      obtain rfl := so_1 hf
      exact s_iret (pc := 24) C0 dX8_kept_24
  · have hf := it_n hf (fun z => c_1 ((lg_cmp_ge x0 x2.toInt64).mpr z))
    refine lv_iload_n (pc := 7) hx hb dX8_kept_7 rfl (lv_at hl 1 rfl) ?_
    refine lv_goto (pc := 8) (tgt := 24) hx hb dX8_kept_8 (by decide) ?_
    obtain rfl := so_1 hf
    exact s_iret (pc := 24) C0 dX8_kept_24
theorem hd_X8_nodeOf : yX8_nodeOf.cls ≠ "java/lang/invoke/MethodHandle" ∧ yX8_nodeOf.cls ≠ "java/lang/invoke/VarHandle" ∧ (parseMethodDescriptor yX8_nodeOf.desc).map (fun d => d.parameters.length) = some 2 := by decide +kernel
set_option maxHeartbeats 4000000 in
set_option maxRecDepth 100000 in
theorem ct_X8_nodeOf (l : Launch) (x0 : Int32) (x1 : Int32) (ro : Int32) (hf : fn_X8_nodeOf x0 x1 = some ro) : xMs l yX8_nodeOf cX8_nodeOf 3 (some .int) 1 23 [.int x0, .int x1] (some (.int ro)) := by
  refine xMsi (by decide) (Nat.le_of_ble_eq_true rfl) ?_
  intro p e s m below meth c C0 ls hl
  have hx := C0.1
  have hb := C0.2.1
  have C0 : xC p s m meth c cX8_nodeOf 3 (some .int) RX8 _ := C0
  have hl : lv_has ls 3 [(0, .int x0), (1, .int x1)] := hl
  unfold fn_X8_nodeOf at hf
  refine lv_iconst (pc := 0) (v := 1) hx hb dX8_nodeOf_0 (by decide) ?_
  refine lv_iload_n (pc := 1) hx hb dX8_nodeOf_1 rfl (lv_at hl 0 rfl) ?_
  refine lv_i2l (pc := 2) (v := x0.toInt64) hx hb dX8_nodeOf_2 rfl ?_
  refine lv_iconst (pc := 3) (v := 0) hx hb dX8_nodeOf_3 (by decide) ?_
  refine lv_bipush (pc := 4) (v := 6) hx hb dX8_nodeOf_4 (by decide) ?_
  obtain ⟨r_1, h_2, hf⟩ := bd_e hf
  refine x_cs (pc := 6) (As := [.long x0.toInt64, .int (0 : Int32), .int (6 : Int32)]) (rest := [.int (1 : Int32)]) C0 (ct_X8_kept l x0.toInt64 (0 : Int32) (6 : Int32) r_1 h_2) kw_4_2 kw_4_5 kw_4_1 kw_1_2 hd_X8_kept ⟨by decide, by decide⟩ hl.1 rfl (Nat.le_of_ble_eq_true rfl) ⟨Nat.zero_le _, Nat.zero_le _⟩ dX8_nodeOf_6 ?_
  refine W.eq (g2 := F0 m 9 ls [.int r_1, .int (1 : Int32)]) rfl ?_
  refine lv_ishl (pc := 9) hx hb dX8_nodeOf_9 ?_
  refine lv_topi (fun y_3 ey_3 => ?_)
  have hf := lt_sb hf ey_3
  refine lv_istore_n (pc := 10) (lv' := [(2, .int y_3), (0, .int x0), (1, .int x1)]) hx hb dX8_nodeOf_10 rfl hl (by decide) rfl (fun ls hl => ?_)
  refine lv_iload_n (pc := 11) hx hb dX8_nodeOf_11 rfl (lv_at hl 0 rfl) ?_
  refine lv_iload_n (pc := 12) hx hb dX8_nodeOf_12 rfl (lv_at hl 2 rfl) ?_
  refine lv_iload_n (pc := 13) hx hb dX8_nodeOf_13 rfl (lv_at hl 0 rfl) ?_
  refine lv_iconst (pc := 14) (v := 1) hx hb dX8_nodeOf_14 (by decide) ?_
  refine lv_isub (pc := 15) hx hb dX8_nodeOf_15 ?_
  refine lv_iand (pc := 16) hx hb dX8_nodeOf_16 ?_
  refine lv_ior (pc := 17) hx hb dX8_nodeOf_17 ?_
  obtain rfl := so_1 hf
  exact s_iret (pc := 18) C0 dX8_nodeOf_18
theorem hd_X8_quotient : yX8_quotient.cls ≠ "java/lang/invoke/MethodHandle" ∧ yX8_quotient.cls ≠ "java/lang/invoke/VarHandle" ∧ (parseMethodDescriptor yX8_quotient.desc).map (fun d => d.parameters.length) = some 2 := by decide +kernel
set_option maxHeartbeats 4000000 in
set_option maxRecDepth 100000 in
theorem ct_X8_quotient (l : Launch) (x0 : Int64) (x2 : Int64) (ro : Int64) (hf : fn_X8_quotient x0 x2 = some ro) : xMs l yX8_quotient cX8_quotient 4 (some .long) 0 0 [.long x0, .long x2] (some (.long ro)) := by
  refine xMsi (by decide) (Nat.le_of_ble_eq_true rfl) ?_
  intro p e s m below meth c C0 ls hl
  have hx := C0.1
  have hb := C0.2.1
  have C0 : xC p s m meth c cX8_quotient 4 (some .long) RX8 _ := C0
  have hl : lv_has ls 4 [(0, .long x0), (2, .long x2)] := hl
  unfold fn_X8_quotient at hf
  refine lv_lload_n (pc := 0) hx hb dX8_quotient_0 rfl (lv_at hl 1 rfl) ?_
  refine lv_lconst (pc := 1) (v := 1) hx hb dX8_quotient_1 (by decide) ?_
  refine W.lcmp (pc := 2) hx hb dX8_quotient_2 ?_
  refine lv_if_ge (pc := 3) (tgt := 10) hx hb dX8_quotient_3 (by decide) (fun c_1 => ?_) (fun c_1 => ?_)
  · have hf := it_p hf ((lg_cmp_ge x2 (1 : Int64)).mp c_1)
    refine lv_lload_n (pc := 10) hx hb dX8_quotient_10 rfl (lv_at hl 0 rfl) ?_
    refine lv_lload_n (pc := 11) hx hb dX8_quotient_11 rfl (lv_at hl 1 rfl) ?_
    obtain ⟨g_2, hf⟩ := gd_e hf
    refine lv_ldiv (pc := 12) hx hb dX8_quotient_12 g_2 ?_
    obtain rfl := so_1 hf
    exact s_lret (pc := 13) C0 dX8_quotient_13
  · have hf := it_n hf (fun z => c_1 ((lg_cmp_ge x2 (1 : Int64)).mpr z))
    refine lv_lconst (pc := 6) (v := 0) hx hb dX8_quotient_6 (by decide) ?_
    refine lv_goto (pc := 7) (tgt := 13) hx hb dX8_quotient_7 (by decide) ?_
    obtain rfl := so_1 hf
    exact s_lret (pc := 13) C0 dX8_quotient_13
set_option maxHeartbeats 4000000 in
set_option maxRecDepth 100000 in
theorem lb_X8_opinion_97 {l : Launch} {p : Program} {e : Env} {s : State} {m : MethodId} {args : Array Value} {below : List Frame} {meth : Method} {c : Code} (C0 : xC p s m meth c cX8_opinion 7 (some .int) RX8 args) (ro : Int32) : ∀ (x3 : Int64) (x5 : Int64), fn_X8_opinion_97 x3 x5 = some ro → ∀ (ls : Array Slot), lv_has ls 7 [(3, .long x3), (5, .long x5)] → W p l e ({ frames := 1, cells := 0, slots := 0, locals := 23 }) s m args below meth c s.heap [] 0 0 (MQ below (xQs (some (.int ro))) args s 0 0 (fun _ => False)) (F0 m 97 ls []) := by
  have hx := C0.1
  have hb := C0.2.1
  intro x3 x5 hf ls hl
  unfold fn_X8_opinion_97 at hf
  refine x_ldc2 (pc := 97) C0 kw_4_12 dX8_opinion_97 ?_
  refine lv_lload_n (pc := 100) hx hb dX8_opinion_100 rfl (lv_at hl 0 rfl) ?_
  refine lv_lmul (pc := 101) hx hb dX8_opinion_101 ?_
  refine lv_lload (pc := 102) hx hb dX8_opinion_102 (lv_at hl 1 rfl) ?_
  obtain ⟨r_6, h_7, hf⟩ := bd_e hf
  refine x_cs (pc := 104) (As := [.long ((65536 : Int64) * x3), .long x5]) (rest := []) C0 (ct_X8_quotient l ((65536 : Int64) * x3) x5 r_6 h_7) kw_4_16 kw_4_14 kw_4_15 kw_1_2 hd_X8_quotient ⟨by decide, by decide⟩ hl.1 rfl (Nat.le_of_ble_eq_true rfl) ⟨Nat.zero_le _, Nat.zero_le _⟩ dX8_opinion_104 ?_
  refine W.eq (g2 := F0 m 107 ls [.long r_6]) rfl ?_
  refine lv_iconst (pc := 107) (v := 1) hx hb dX8_opinion_107 (by decide) ?_
  refine x_ldcw (pc := 108) C0 kw_4_13 dX8_opinion_108 ?_
  obtain ⟨r_8, h_9, hf⟩ := bd_e hf
  refine x_cs (pc := 111) (As := [.long r_6, .int (1 : Int32), .int (65535 : Int32)]) (rest := []) C0 (ct_X8_kept l r_6 (1 : Int32) (65535 : Int32) r_8 h_9) kw_4_2 kw_4_5 kw_4_1 kw_1_2 hd_X8_kept ⟨by decide, by decide⟩ hl.1 rfl (Nat.le_of_ble_eq_true rfl) ⟨Nat.zero_le _, Nat.zero_le _⟩ dX8_opinion_111 ?_
  refine W.eq (g2 := F0 m 114 ls [.int r_8]) rfl ?_
  obtain rfl := so_1 hf
  exact s_iret (pc := 114) C0 dX8_opinion_114
theorem hd_X8_opinion : yX8_opinion.cls ≠ "java/lang/invoke/MethodHandle" ∧ yX8_opinion.cls ≠ "java/lang/invoke/VarHandle" ∧ (parseMethodDescriptor yX8_opinion.desc).map (fun d => d.parameters.length) = some 3 := by decide +kernel
set_option maxHeartbeats 4000000 in
set_option maxRecDepth 100000 in
theorem ct_X8_opinion (l : Launch) (x0 : Int32) (x1 : Int32) (x2 : Int32) (ro : Int32) (hf : fn_X8_opinion x0 x1 x2 = some ro) : xMs l yX8_opinion cX8_opinion 7 (some .int) 1 23 [.int x0, .int x1, .int x2] (some (.int ro)) := by
  refine xMsi (by decide) (Nat.le_of_ble_eq_true rfl) ?_
  intro p e s m below meth c C0 ls hl
  have hx := C0.1
  have hb := C0.2.1
  have C0 : xC p s m meth c cX8_opinion 7 (some .int) RX8 _ := C0
  have hl : lv_has ls 7 [(0, .int x0), (1, .int x1), (2, .int x2)] := hl
  unfold fn_X8_opinion at hf
  refine lv_iconst (pc := 0) (v := 2) hx hb dX8_opinion_0 (by decide) ?_
  refine lv_iload_n (pc := 1) hx hb dX8_opinion_1 rfl (lv_at hl 2 rfl) ?_
  refine lv_imul (pc := 2) hx hb dX8_opinion_2 ?_
  refine lv_iconst (pc := 3) (v := 1) hx hb dX8_opinion_3 (by decide) ?_
  refine lv_iadd (pc := 4) hx hb dX8_opinion_4 ?_
  refine lv_i2l (pc := 5) (v := (((2 : Int32) * x2) + (1 : Int32)).toInt64) hx hb dX8_opinion_5 rfl ?_
  refine lv_topl (fun y_1 ey_1 => ?_)
  have hf := lt_sb hf ey_1
  refine lv_lstore_n (pc := 6) (lv' := [(3, .long y_1), (0, .int x0), (1, .int x1), (2, .int x2)]) hx hb dX8_opinion_6 rfl hl (by decide) rfl (fun ls hl => ?_)
  refine lv_iconst (pc := 7) (v := 2) hx hb dX8_opinion_7 (by decide) ?_
  refine lv_iload_n (pc := 8) hx hb dX8_opinion_8 rfl (lv_at hl 2 rfl) ?_
  refine lv_imul (pc := 9) hx hb dX8_opinion_9 ?_
  refine lv_iconst (pc := 10) (v := 2) hx hb dX8_opinion_10 (by decide) ?_
  refine lv_iload_n (pc := 11) hx hb dX8_opinion_11 rfl (lv_at hl 3 rfl) ?_
  refine lv_imul (pc := 12) hx hb dX8_opinion_12 ?_
  refine lv_iadd (pc := 13) hx hb dX8_opinion_13 ?_
  refine lv_iconst (pc := 14) (v := 2) hx hb dX8_opinion_14 (by decide) ?_
  refine lv_iadd (pc := 15) hx hb dX8_opinion_15 ?_
  refine lv_i2l (pc := 16) (v := ((((2 : Int32) * x1) + ((2 : Int32) * x2)) + (2 : Int32)).toInt64) hx hb dX8_opinion_16 rfl ?_
  refine lv_topl (fun y_2 ey_2 => ?_)
  have hf := lt_sb hf ey_2
  refine lv_lstore (pc := 17) (lv' := [(5, .long y_2), (3, .long y_1), (0, .int x0), (1, .int x1), (2, .int x2)]) hx hb dX8_opinion_17 hl (by decide) rfl (fun ls hl => ?_)
  refine lv_iload_n (pc := 19) hx hb dX8_opinion_19 rfl (lv_at hl 2 rfl) ?_
  refine lv_iconst (pc := 20) (v := 1) hx hb dX8_opinion_20 (by decide) ?_
  refine lv_icmp_ne (pc := 21) (tgt := 40) hx hb dX8_opinion_21 (by decide) (fun c_3 => ?_) (fun c_3 => ?_)
  · have hf := it_n hf c_3
    refine lv_iload_n (pc := 40) hx hb dX8_opinion_40 rfl (lv_at hl 2 rfl) ?_
    refine lv_iconst (pc := 41) (v := 2) hx hb dX8_opinion_41 (by decide) ?_
    refine lv_icmp_ne (pc := 42) (tgt := 67) hx hb dX8_opinion_42 (by decide) (fun c_4 => ?_) (fun c_4 => ?_)
    · have hf := it_n hf c_4
      refine lv_iload_n (pc := 67) hx hb dX8_opinion_67 rfl (lv_at hl 2 rfl) ?_
      refine lv_iconst (pc := 68) (v := 3) hx hb dX8_opinion_68 (by decide) ?_
      refine lv_icmp_ne (pc := 69) (tgt := 97) hx hb dX8_opinion_69 (by decide) (fun c_5 => ?_) (fun c_5 => ?_)
      · have hf := it_n hf c_5
        exact lb_X8_opinion_97 C0 _  _ _ hf _ (lv_sub hl [1, 0] rfl)
      · have hf := it_p hf c_5
        refine lv_iconst (pc := 72) (v := 2) hx hb dX8_opinion_72 (by decide) ?_
        refine lv_iload_n (pc := 73) hx hb dX8_opinion_73 rfl (lv_at hl 4 rfl) ?_
        refine lv_iconst (pc := 74) (v := 2) hx hb dX8_opinion_74 (by decide) ?_
        refine lv_idiv (pc := 75) hx hb dX8_opinion_75 (by decide) ?_
        refine lv_imul (pc := 76) hx hb dX8_opinion_76 ?_
        refine lv_iconst (pc := 77) (v := 1) hx hb dX8_opinion_77 (by decide) ?_
        refine lv_iadd (pc := 78) hx hb dX8_opinion_78 ?_
        refine lv_i2l (pc := 79) (v := (((2 : Int32) * (x2 / (2 : Int32))) + (1 : Int32)).toInt64) hx hb dX8_opinion_79 rfl ?_
        refine lv_topl (fun y_10 ey_10 => ?_)
        have hf := lt_sb hf ey_10
        refine lv_lstore_n (pc := 80) (lv' := [(3, .long y_10), (5, .long y_2), (0, .int x0), (1, .int x1), (2, .int x2)]) hx hb dX8_opinion_80 rfl hl (by decide) rfl (fun ls hl => ?_)
        refine lv_iconst (pc := 81) (v := 2) hx hb dX8_opinion_81 (by decide) ?_
        refine lv_iload_n (pc := 82) hx hb dX8_opinion_82 rfl (lv_at hl 3 rfl) ?_
        refine lv_iconst (pc := 83) (v := 2) hx hb dX8_opinion_83 (by decide) ?_
        refine lv_idiv (pc := 84) hx hb dX8_opinion_84 (by decide) ?_
        refine lv_imul (pc := 85) hx hb dX8_opinion_85 ?_
        refine lv_iconst (pc := 86) (v := 2) hx hb dX8_opinion_86 (by decide) ?_
        refine lv_iload_n (pc := 87) hx hb dX8_opinion_87 rfl (lv_at hl 4 rfl) ?_
        refine lv_iconst (pc := 88) (v := 2) hx hb dX8_opinion_88 (by decide) ?_
        refine lv_idiv (pc := 89) hx hb dX8_opinion_89 (by decide) ?_
        refine lv_imul (pc := 90) hx hb dX8_opinion_90 ?_
        refine lv_iadd (pc := 91) hx hb dX8_opinion_91 ?_
        refine lv_iconst (pc := 92) (v := 2) hx hb dX8_opinion_92 (by decide) ?_
        refine lv_iadd (pc := 93) hx hb dX8_opinion_93 ?_
        refine lv_i2l (pc := 94) (v := ((((2 : Int32) * (x1 / (2 : Int32))) + ((2 : Int32) * (x2 / (2 : Int32)))) + (2 : Int32)).toInt64) hx hb dX8_opinion_94 rfl ?_
        refine lv_topl (fun y_11 ey_11 => ?_)
        have hf := lt_sb hf ey_11
        refine lv_lstore (pc := 95) (lv' := [(5, .long y_11), (3, .long y_10), (0, .int x0), (1, .int x1), (2, .int x2)]) hx hb dX8_opinion_95 hl (by decide) rfl (fun ls hl => ?_)
        exact lb_X8_opinion_97 C0 _  _ _ hf _ (lv_sub hl [1, 0] rfl)
    · have hf := it_p hf c_4
      refine lv_iconst (pc := 45) (v := 4) hx hb dX8_opinion_45 (by decide) ?_
      refine lv_iload_n (pc := 46) hx hb dX8_opinion_46 rfl (lv_at hl 4 rfl) ?_
      refine lv_imul (pc := 47) hx hb dX8_opinion_47 ?_
      refine lv_iconst (pc := 48) (v := 1) hx hb dX8_opinion_48 (by decide) ?_
      refine lv_iadd (pc := 49) hx hb dX8_opinion_49 ?_
      refine lv_i2l (pc := 50) (v := (((4 : Int32) * x2) + (1 : Int32)).toInt64) hx hb dX8_opinion_50 rfl ?_
      refine lv_topl (fun y_12 ey_12 => ?_)
      have hf := lt_sb hf ey_12
      refine lv_lstore_n (pc := 51) (lv' := [(3, .long y_12), (5, .long y_2), (0, .int x0), (1, .int x1), (2, .int x2)]) hx hb dX8_opinion_51 rfl hl (by decide) rfl (fun ls hl => ?_)
      refine lv_iconst (pc := 52) (v := 4) hx hb dX8_opinion_52 (by decide) ?_
      refine lv_iload_n (pc := 53) hx hb dX8_opinion_53 rfl (lv_at hl 3 rfl) ?_
      refine lv_imul (pc := 54) hx hb dX8_opinion_54 ?_
      refine lv_iconst (pc := 55) (v := 4) hx hb dX8_opinion_55 (by decide) ?_
      refine lv_iload_n (pc := 56) hx hb dX8_opinion_56 rfl (lv_at hl 4 rfl) ?_
      refine lv_imul (pc := 57) hx hb dX8_opinion_57 ?_
      refine lv_iadd (pc := 58) hx hb dX8_opinion_58 ?_
      refine lv_iconst (pc := 59) (v := 2) hx hb dX8_opinion_59 (by decide) ?_
      refine lv_iadd (pc := 60) hx hb dX8_opinion_60 ?_
      refine lv_i2l (pc := 61) (v := ((((4 : Int32) * x1) + ((4 : Int32) * x2)) + (2 : Int32)).toInt64) hx hb dX8_opinion_61 rfl ?_
      refine lv_topl (fun y_13 ey_13 => ?_)
      have hf := lt_sb hf ey_13
      refine lv_lstore (pc := 62) (lv' := [(5, .long y_13), (3, .long y_12), (0, .int x0), (1, .int x1), (2, .int x2)]) hx hb dX8_opinion_62 hl (by decide) rfl (fun ls hl => ?_)
      refine lv_goto (pc := 64) (tgt := 97) hx hb dX8_opinion_64 (by decide) ?_
      exact lb_X8_opinion_97 C0 _  _ _ hf _ (lv_sub hl [1, 0] rfl)
  · have hf := it_p hf c_3
    refine lv_iload_n (pc := 24) hx hb dX8_opinion_24 rfl (lv_at hl 4 rfl) ?_
    refine lv_iconst (pc := 25) (v := 1) hx hb dX8_opinion_25 (by decide) ?_
    refine lv_iadd (pc := 26) hx hb dX8_opinion_26 ?_
    refine lv_i2l (pc := 27) (v := (x2 + (1 : Int32)).toInt64) hx hb dX8_opinion_27 rfl ?_
    refine lv_topl (fun y_14 ey_14 => ?_)
    have hf := lt_sb hf ey_14
    refine lv_lstore_n (pc := 28) (lv' := [(3, .long y_14), (5, .long y_2), (0, .int x0), (1, .int x1), (2, .int x2)]) hx hb dX8_opinion_28 rfl hl (by decide) rfl (fun ls hl => ?_)
    refine lv_iload_n (pc := 29) hx hb dX8_opinion_29 rfl (lv_at hl 3 rfl) ?_
    refine lv_iload_n (pc := 30) hx hb dX8_opinion_30 rfl (lv_at hl 4 rfl) ?_
    refine lv_iadd (pc := 31) hx hb dX8_opinion_31 ?_
    refine lv_iconst (pc := 32) (v := 2) hx hb dX8_opinion_32 (by decide) ?_
    refine lv_iadd (pc := 33) hx hb dX8_opinion_33 ?_
    refine lv_i2l (pc := 34) (v := ((x1 + x2) + (2 : Int32)).toInt64) hx hb dX8_opinion_34 rfl ?_
    refine lv_topl (fun y_15 ey_15 => ?_)
    have hf := lt_sb hf ey_15
    refine lv_lstore (pc := 35) (lv' := [(5, .long y_15), (3, .long y_14), (0, .int x0), (1, .int x1), (2, .int x2)]) hx hb dX8_opinion_35 hl (by decide) rfl (fun ls hl => ?_)
    refine lv_goto (pc := 37) (tgt := 97) hx hb dX8_opinion_37 (by decide) ?_
    exact lb_X8_opinion_97 C0 _  _ _ hf _ (lv_sub hl [1, 0] rfl)
theorem hd_X8_ofSign : yX8_ofSign.cls ≠ "java/lang/invoke/MethodHandle" ∧ yX8_ofSign.cls ≠ "java/lang/invoke/VarHandle" ∧ (parseMethodDescriptor yX8_ofSign.desc).map (fun d => d.parameters.length) = some 2 := by decide +kernel
set_option maxHeartbeats 4000000 in
set_option maxRecDepth 100000 in
theorem ct_X8_ofSign (l : Launch) (x0 : Int32) (x1 : Int32) (ro : Int32) (hf : fn_X8_ofSign x0 x1 = some ro) : xMs l yX8_ofSign cX8_ofSign 2 (some .int) 0 0 [.int x0, .int x1] (some (.int ro)) := by
  refine xMsi (by decide) (Nat.le_of_ble_eq_true rfl) ?_
  intro p e s m below meth c C0 ls hl
  have hx := C0.1
  have hb := C0.2.1
  have C0 : xC p s m meth c cX8_ofSign 2 (some .int) RX8 _ := C0
  have hl : lv_has ls 2 [(0, .int x0), (1, .int x1)] := hl
  unfold fn_X8_ofSign at hf
  refine lv_iload_n (pc := 0) hx hb dX8_ofSign_0 rfl (lv_at hl 0 rfl) ?_
  refine lv_iconst (pc := 1) (v := 1) hx hb dX8_ofSign_1 (by decide) ?_
  refine lv_icmp_ne (pc := 2) (tgt := 9) hx hb dX8_ofSign_2 (by decide) (fun c_1 => ?_) (fun c_1 => ?_)
  · have hf := it_n hf c_1
    refine x_ldc (pc := 9) C0 kw_9_23 dX8_ofSign_9 ?_
    refine lv_iload_n (pc := 11) hx hb dX8_ofSign_11 rfl (lv_at hl 1 rfl) ?_
    refine lv_isub (pc := 12) hx hb dX8_ofSign_12 ?_
    obtain rfl := so_1 hf
    exact s_iret (pc := 13) C0 dX8_ofSign_13
  · have hf := it_p hf c_1
    refine lv_iload_n (pc := 5) hx hb dX8_ofSign_5 rfl (lv_at hl 1 rfl) ?_
    refine lv_goto (pc := 6) (tgt := 13) hx hb dX8_ofSign_6 (by decide) ?_
    obtain rfl := so_1 hf
    exact s_iret (pc := 13) C0 dX8_ofSign_13
set_option maxHeartbeats 4000000 in
set_option maxRecDepth 100000 in
theorem lb_X8_bitsOf_6 {l : Launch} {p : Program} {e : Env} {s : State} {m : MethodId} {args : Array Value} {below : List Frame} {meth : Method} {c : Code} (C0 : xC p s m meth c cX8_bitsOf 3 (some .int) RX8 args) (ro : Int32) (k26 : Int32 → Int32 → Option Int32) (hk26 : ∀ (x0 : Int32) (x1 : Int32), k26 x0 x1 = some ro → ∀ (ls : Array Slot), lv_has ls 3 [(0, .int x0), (1, .int x1)] → W p l e ({ frames := 0, cells := 0, slots := 0, locals := 0 }) s m args below meth c s.heap [] 0 0 (MQ below (xQs (some (.int ro))) args s 0 0 (fun _ => False)) (F0 m 26 ls [])) : ∀ (n : Nat) (x0 : Int32) (x1 : Int32) (x2 : Int32), fl_X8_bitsOf_6 k26 n x0 x1 x2 = some ro → ∀ (ls : Array Slot), lv_has ls 3 [(0, .int x0), (1, .int x1), (2, .int x2)] → W p l e ({ frames := 0, cells := 0, slots := 0, locals := 0 }) s m args below meth c s.heap [] 0 0 (MQ below (xQs (some (.int ro))) args s 0 0 (fun _ => False)) (F0 m 6 ls []) := by
  have hx := C0.1
  have hb := C0.2.1
  intro n
  induction n with
  | zero =>
    intro x0 x1 x2 hf
    have hf : none = some ro := hf
    cases hf
  | succ n ih =>
    intro x0 x1 x2 hf ls hl
    rw [fl_X8_bitsOf_6] at hf
    refine lv_iload_n (pc := 6) hx hb dX8_bitsOf_6 rfl (lv_at hl 2 rfl) ?_
    refine lv_if_le (pc := 7) (tgt := 26) hx hb dX8_bitsOf_7 (by decide) (fun c_1 => ?_) (fun c_1 => ?_)
    · have hf := it_p hf c_1
      exact hk26 _ _ hf _ (lv_sub hl [0, 1] rfl)
    · have hf := it_n hf c_1
      refine lv_iload_n (pc := 10) hx hb dX8_bitsOf_10 rfl (lv_at hl 0 rfl) ?_
      refine lv_iload_n (pc := 11) hx hb dX8_bitsOf_11 rfl (lv_at hl 2 rfl) ?_
      refine lv_ishr (pc := 12) hx hb dX8_bitsOf_12 ?_
      refine lv_if_ne (pc := 13) (tgt := 26) hx hb dX8_bitsOf_13 (by decide) (fun c_2 => ?_) (fun c_2 => ?_)
      · have hf := it_n hf c_2
        exact hk26 _ _ hf _ (lv_sub hl [0, 1] rfl)
      · have hf := it_p hf c_2
        refine lv_iload_n (pc := 16) hx hb dX8_bitsOf_16 rfl (lv_at hl 2 rfl) ?_
        refine lv_iconst (pc := 17) (v := 1) hx hb dX8_bitsOf_17 (by decide) ?_
        refine lv_isub (pc := 18) hx hb dX8_bitsOf_18 ?_
        refine lv_topi (fun y_3 ey_3 => ?_)
        have hf := lt_sb hf ey_3
        refine lv_istore_n (pc := 19) (lv' := [(1, .int y_3), (0, .int x0), (2, .int x2)]) hx hb dX8_bitsOf_19 rfl hl (by decide) rfl (fun ls hl => ?_)
        obtain ⟨y_4, ey_4⟩ : ∃ y : Int32, y = x2 + (-1 : Int32) := ⟨_, rfl⟩
        have hf := lt_sb hf ey_4
        refine lv_iinc (pc := 20) (v := y_4) (lv' := [(2, .int y_4), (1, .int y_3), (0, .int x0)]) hx hb dX8_bitsOf_20 hl (k := 2) rfl (by rw [ey_4]; rfl) (by decide) rfl (fun ls hl => ?_)
        refine lv_goto (pc := 23) (tgt := 6) hx hb dX8_bitsOf_23 (by decide) ?_
        exact ih _ _ _ hf _ (lv_sub hl [2, 1, 0] rfl)
set_option maxHeartbeats 4000000 in
set_option maxRecDepth 100000 in
theorem lb_X8_bitsOf_44 {l : Launch} {p : Program} {e : Env} {s : State} {m : MethodId} {args : Array Value} {below : List Frame} {meth : Method} {c : Code} (C0 : xC p s m meth c cX8_bitsOf 3 (some .int) RX8 args) (ro : Int32) : ∀ (x1 : Int32) (t0 : Int32), fn_X8_bitsOf_44 x1 t0 = some ro → ∀ (ls : Array Slot), lv_has ls 3 [(1, .int x1)] → W p l e ({ frames := 0, cells := 0, slots := 0, locals := 0 }) s m args below meth c s.heap [] 0 0 (MQ below (xQs (some (.int ro))) args s 0 0 (fun _ => False)) (F0 m 44 ls [.int t0]) := by
  have hx := C0.1
  have hb := C0.2.1
  intro x1 t0 hf ls hl
  unfold fn_X8_bitsOf_44 at hf
  refine lv_istore_n (pc := 44) (lv' := [(2, .int t0), (1, .int x1)]) hx hb dX8_bitsOf_44 rfl hl (by decide) rfl (fun ls hl => ?_)
  refine lv_bipush (pc := 45) (v := 16) hx hb dX8_bitsOf_45 (by decide) ?_
  refine lv_bipush (pc := 47) (v := 16) hx hb dX8_bitsOf_47 (by decide) ?_
  refine lv_iload_n (pc := 49) hx hb dX8_bitsOf_49 rfl (lv_at hl 1 rfl) ?_
  refine lv_isub (pc := 50) hx hb dX8_bitsOf_50 ?_
  refine lv_imul (pc := 51) hx hb dX8_bitsOf_51 ?_
  refine lv_iload_n (pc := 52) hx hb dX8_bitsOf_52 rfl (lv_at hl 0 rfl) ?_
  refine lv_bipush (pc := 53) (v := 15) hx hb dX8_bitsOf_53 (by decide) ?_
  refine lv_iand (pc := 55) hx hb dX8_bitsOf_55 ?_
  refine lv_isub (pc := 56) hx hb dX8_bitsOf_56 ?_
  obtain rfl := so_1 hf
  exact s_iret (pc := 57) C0 dX8_bitsOf_57
set_option maxHeartbeats 4000000 in
set_option maxRecDepth 100000 in
theorem lb_X8_bitsOf_26 {l : Launch} {p : Program} {e : Env} {s : State} {m : MethodId} {args : Array Value} {below : List Frame} {meth : Method} {c : Code} (C0 : xC p s m meth c cX8_bitsOf 3 (some .int) RX8 args) (ro : Int32) : ∀ (x0 : Int32) (x1 : Int32), fn_X8_bitsOf_26 x0 x1 = some ro → ∀ (ls : Array Slot), lv_has ls 3 [(0, .int x0), (1, .int x1)] → W p l e ({ frames := 0, cells := 0, slots := 0, locals := 0 }) s m args below meth c s.heap [] 0 0 (MQ below (xQs (some (.int ro))) args s 0 0 (fun _ => False)) (F0 m 26 ls []) := by
  have hx := C0.1
  have hb := C0.2.1
  intro x0 x1 hf ls hl
  unfold fn_X8_bitsOf_26 at hf
  refine lv_iload_n (pc := 26) hx hb dX8_bitsOf_26 rfl (lv_at hl 1 rfl) ?_
  refine lv_iconst (pc := 27) (v := 4) hx hb dX8_bitsOf_27 (by decide) ?_
  refine lv_icmp_lt (pc := 28) (tgt := 39) hx hb dX8_bitsOf_28 (by decide) (fun c_6 => ?_) (fun c_6 => ?_)
  · have hf := it_p hf c_6
    refine lv_iload_n (pc := 39) hx hb dX8_bitsOf_39 rfl (lv_at hl 0 rfl) ?_
    refine lv_iconst (pc := 40) (v := 4) hx hb dX8_bitsOf_40 (by decide) ?_
    refine lv_iload_n (pc := 41) hx hb dX8_bitsOf_41 rfl (lv_at hl 1 rfl) ?_
    refine lv_isub (pc := 42) hx hb dX8_bitsOf_42 ?_
    refine lv_ishl (pc := 43) hx hb dX8_bitsOf_43 ?_
    exact lb_X8_bitsOf_44 C0 _  _ _ hf _ (lv_sub hl [1] rfl)
  · have hf := it_n hf c_6
    refine lv_iload_n (pc := 31) hx hb dX8_bitsOf_31 rfl (lv_at hl 0 rfl) ?_
    refine lv_iload_n (pc := 32) hx hb dX8_bitsOf_32 rfl (lv_at hl 1 rfl) ?_
    refine lv_iconst (pc := 33) (v := 4) hx hb dX8_bitsOf_33 (by decide) ?_
    refine lv_isub (pc := 34) hx hb dX8_bitsOf_34 ?_
    refine lv_ishr (pc := 35) hx hb dX8_bitsOf_35 ?_
    refine lv_goto (pc := 36) (tgt := 44) hx hb dX8_bitsOf_36 (by decide) ?_
    exact lb_X8_bitsOf_44 C0 _  _ _ hf _ (lv_sub hl [1] rfl)
theorem hd_X8_bitsOf : yX8_bitsOf.cls ≠ "java/lang/invoke/MethodHandle" ∧ yX8_bitsOf.cls ≠ "java/lang/invoke/VarHandle" ∧ (parseMethodDescriptor yX8_bitsOf.desc).map (fun d => d.parameters.length) = some 1 := by decide +kernel
set_option maxHeartbeats 4000000 in
set_option maxRecDepth 100000 in
theorem ct_X8_bitsOf (l : Launch) (x0 : Int32) (ro : Int32) (hf : fn_X8_bitsOf x0 = some ro) : xMs l yX8_bitsOf cX8_bitsOf 3 (some .int) 0 0 [.int x0] (some (.int ro)) := by
  refine xMsi (by decide) (Nat.le_of_ble_eq_true rfl) ?_
  intro p e s m below meth c C0 ls hl
  have hx := C0.1
  have hb := C0.2.1
  have C0 : xC p s m meth c cX8_bitsOf 3 (some .int) RX8 _ := C0
  have hl : lv_has ls 3 [(0, .int x0)] := hl
  unfold fn_X8_bitsOf at hf
  refine lv_bipush (pc := 0) (v := 15) hx hb dX8_bitsOf_0 (by decide) ?_
  refine lv_istore_n (pc := 2) (lv' := [(1, .int (15 : Int32)), (0, .int x0)]) hx hb dX8_bitsOf_2 rfl hl (by decide) rfl (fun ls hl => ?_)
  refine lv_bipush (pc := 3) (v := 15) hx hb dX8_bitsOf_3 (by decide) ?_
  refine lv_istore_n (pc := 5) (lv' := [(2, .int (15 : Int32)), (1, .int (15 : Int32)), (0, .int x0)]) hx hb dX8_bitsOf_5 rfl hl (by decide) rfl (fun ls hl => ?_)
  refine lb_X8_bitsOf_6 C0 _ _ ?_ _ _ _ _ hf _ (lv_sub hl [2, 1, 0] rfl)
  · intro x0_e26_5 x1_e26_5 hf ls hl
    exact lb_X8_bitsOf_26 C0 _  _ _ hf _ (lv_sub hl [0, 1] rfl)
