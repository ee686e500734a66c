def fn_X6_here (S0 : tt_Text) : Option Int32 :=
  if (gf_Text_cursor S0) < 0 then some (-1 : Int32) else if (gf_Text_length S0) ≤ (gf_Text_cursor S0) then some (-1 : Int32) else if (120 : Int32) ≤ (gf_Text_cursor S0) then some (-1 : Int32) else gd_ (ix_ (gf_Text_cursor S0) 120) (some ((gf_Text_bytes S0) (gf_Text_cursor S0).toNatClampNeg))
def fl_X6_skipBlanks_2 (k33 : tt_Text → Option tt_Text) : Nat → tt_Text → Int32 → Option tt_Text
  | 0, _, _ => none
  | n + 1, S0, x1 =>
  if (120 : Int32) ≤ x1 then k33 S0 else bd_ (fn_X6_here S0) fun r_2 => if r_2 = (32 : Int32) then lt_ ((gf_Text_cursor S0) + (1 : Int32)) fun y_5 => lt_ (sf_Text_cursor S0 y_5) fun S_6 => lt_ (x1 + (1 : Int32)) fun y_7 => fl_X6_skipBlanks_2 k33 n S_6 y_7 else k33 S0
def fn_X6_skipBlanks (S0 : tt_Text) : Option tt_Text :=
  fl_X6_skipBlanks_2 (fun (S0_e33_8 : tt_Text) => some S0_e33_8) fu_ S0 (0 : Int32)
def fn_X6_append (S0 : tt_Text) (x1 : Int32) : Option (Int32 × tt_Text) :=
  bd_ (fn_X8_within (gf_Text_length S0) (0 : Int32) (119 : Int32)) fun r_1 => if r_1 = 0 then some (gf_Text_length S0, S0) else gd_ (ix_ (gf_Text_length S0) 120) (lt_ (sf_Text_bytes S0 (upd (gf_Text_bytes S0) (gf_Text_length S0).toNatClampNeg x1)) fun S_5 => lt_ ((gf_Text_length S_5) + (1 : Int32)) fun y_6 => lt_ (sf_Text_length S_5 y_6) fun S_7 => some (gf_Text_length S_7, S_7))
def fn_X6_signAt (S0 : tt_Text) (x1 : Int32) : Option Int32 :=
  bd_ (fn_X8_within x1 (0 : Int32) ((gf_Text_found S0) - (1 : Int32))) fun r_1 => if r_1 = 0 then some (0 : Int32) else gd_ (ix_ x1 100) (some ((gf_Text_signs S0) x1.toNatClampNeg))
def fn_X6_addSign (S0 : tt_Text) (x1 : Int32) : Option tt_Text :=
  bd_ (fn_X8_within (gf_Text_found S0) (0 : Int32) (99 : Int32)) fun r_1 => if r_1 = 0 then some S0 else gd_ (ix_ (gf_Text_found S0) 100) (lt_ (sf_Text_signs S0 (upd (gf_Text_signs S0) (gf_Text_found S0).toNatClampNeg x1)) fun S_5 => lt_ ((gf_Text_found S_5) + (1 : Int32)) fun y_6 => lt_ (sf_Text_found S_5 y_6) fun S_7 => some S_7)
def fl_X6_readTimes_23 (k78 : tt_Text → Int32 → Int32 → Option (Int32 × tt_Text)) : Nat → tt_Text → Int32 → Int32 → Int32 → Option (Int32 × tt_Text)
  | 0, _, _, _, _ => none
  | n + 1, S0, x1, x2, x3 =>
  if (120 : Int32) ≤ x3 then k78 S0 x1 x2 else bd_ (fn_X6_here S0) fun r_7 => bd_ (fn_X8_within r_7 (48 : Int32) (57 : Int32)) fun r_9 => if r_9 = 0 then k78 S0 x1 x2 else bd_ (fn_X6_here S0) fun r_12 => lt_ (if (((x2 * (10 : Int32)) + r_12) - (48 : Int32)) < (1000 : Int32) then (((x2 * (10 : Int32)) + r_12) - (48 : Int32)) else (1000 : Int32)) fun y_14 => lt_ ((gf_Text_cursor S0) + (1 : Int32)) fun y_15 => lt_ (sf_Text_cursor S0 y_15) fun S_16 => lt_ (x3 + (1 : Int32)) fun y_17 => fl_X6_readTimes_23 k78 n S_16 x1 y_14 y_17
def fn_X6_readTimes_97 (S0 : tt_Text) (x1 : Int32) (x2 : Int32) : Option (Int32 × tt_Text) :=
  lt_ (sf_Text_fault S0 x1) fun S_22 => some (x2, S_22)
def fn_X6_readTimes_78 (S0 : tt_Text) (x1 : Int32) (x2 : Int32) : Option (Int32 × tt_Text) :=
  bd_ (fn_X8_within ((gf_Text_cursor S0) - x1) (1 : Int32) (2 : Int32)) fun r_19 => if r_19 = 0 then fn_X6_readTimes_97 S0 x1 x2 else if (1 : Int32) ≤ x2 then some (x2, S0) else fn_X6_readTimes_97 S0 x1 x2
def fn_X6_readTimes (S0 : tt_Text) : Option (Int32 × tt_Text) :=
  lt_ ((gf_Text_cursor S0) + (1 : Int32)) fun y_1 => lt_ (sf_Text_cursor S0 y_1) fun S_2 => bd_ (fn_X6_skipBlanks S_2) fun P_3 => lt_ (gf_Text_cursor P_3) fun y_5 => fl_X6_readTimes_23 (fun (S0_e78_18 : tt_Text) (x1_e78_18 : Int32) (x2_e78_18 : Int32) => fn_X6_readTimes_78 S0_e78_18 x1_e78_18 x2_e78_18) fu_ P_3 y_5 (0 : Int32) (0 : Int32)
def fl_X6_readSigns_85 (k102 : tt_Text → Option tt_Text) : Nat → tt_Text → Int32 → Int32 → Int32 → Option tt_Text
  | 0, _, _, _, _ => none
  | n + 1, S0, x1, x3, x4 =>
  if x3 ≤ x4 then k102 S0 else bd_ (fn_X6_addSign S0 x1) fun P_13 => lt_ (x4 + (1 : Int32)) fun y_15 => fl_X6_readSigns_85 k102 n P_13 x1 x3 y_15
def fn_X6_readSigns_53 (S0 : tt_Text) (x1 : Int32) (x2 : Int32) (t0 : Int32) : Option tt_Text :=
  if (gf_Text_fault S0) = (-1 : Int32) then if ((gf_Text_found S0) + t0) ≤ (gf_Text_room S0) then fl_X6_readSigns_85 (fun (S0_e102_16 : tt_Text) => some S0_e102_16) fu_ S0 x1 t0 (0 : Int32) else lt_ (sf_Text_fault S0 x2) fun S_17 => some S_17 else some S0
def fn_X6_readSigns (S0 : tt_Text) (x1 : Int32) : Option tt_Text :=
  lt_ (gf_Text_cursor S0) fun y_1 => if (gf_Text_found S0) < (gf_Text_room S0) then lt_ ((gf_Text_cursor S0) + (1 : Int32)) fun y_3 => lt_ (sf_Text_cursor S0 y_3) fun S_4 => bd_ (fn_X6_skipBlanks S_4) fun P_5 => bd_ (fn_X6_here P_5) fun r_7 => if r_7 = (120 : Int32) then b2_ (fn_X6_readTimes P_5) fun r_18 P_19 => fn_X6_readSigns_53 P_19 x1 y_1 r_18 else fn_X6_readSigns_53 P_5 x1 y_1 (1 : Int32) else lt_ (sf_Text_fault S0 y_1) fun S_21 => some S_21
def fl_X6_readGroupEnd_90 (k119 : tt_Text → Option tt_Text) : Nat → tt_Text → Int32 → Int32 → Int32 → Int32 → Option tt_Text
  | 0, _, _, _, _, _ => none
  | n + 1, S0, x2, x3, x4, x5 =>
  if (x4 * (x2 - (1 : Int32))) ≤ x5 then k119 S0 else bd_ (fn_X6_signAt S0 (x3 + x5)) fun r_17 => bd_ (fn_X6_addSign S0 r_17) fun P_19 => lt_ (x5 + (1 : Int32)) fun y_21 => fl_X6_readGroupEnd_90 k119 n P_19 x2 x3 x4 y_21
def fn_X6_readGroupEnd (S0 : tt_Text) : Option tt_Text :=
  lt_ (gf_Text_cursor S0) fun y_1 => lt_ ((gf_Text_cursor S0) + (1 : Int32)) fun y_2 => lt_ (sf_Text_cursor S0 y_2) fun S_3 => bd_ (fn_X6_skipBlanks S_3) fun P_4 => bd_ (fn_X6_here P_4) fun r_6 => if r_6 = (120 : Int32) then b2_ (fn_X6_readTimes P_4) fun r_9 P_10 => if (gf_Text_fault P_10) = (-1 : Int32) then lt_ (if (0 : Int32) < (gf_Text_groupStart P_10) then (gf_Text_groupStart P_10) else (0 : Int32)) fun y_13 => lt_ ((gf_Text_found P_10) - y_13) fun y_14 => if (y_13 + (y_14 * r_9)) ≤ (gf_Text_room P_10) then fl_X6_readGroupEnd_90 (fun (S0_e119_22 : tt_Text) => lt_ (sf_Text_groupStart S0_e119_22 (-1 : Int32)) fun S_23 => some S_23) fu_ P_10 r_9 y_13 y_14 (0 : Int32) else lt_ (sf_Text_fault P_10 y_1) fun S_24 => some S_24 else some P_10 else lt_ (gf_Text_cursor P_4) fun y_25 => lt_ (sf_Text_fault P_4 y_25) fun S_26 => some S_26
def fn_X6_readPiece_17 (S0 : tt_Text) (x1 : Int32) : Option tt_Text :=
  bd_ (fn_X6_readSigns S0 (x1 - (48 : Int32))) fun P_4 => some P_4
def fn_X6_readPiece_95 (S0 : tt_Text) : Option tt_Text :=
  lt_ (gf_Text_cursor S0) fun y_9 => lt_ (sf_Text_fault S0 y_9) fun S_10 => some S_10
def fn_X6_readPiece_63 (S0 : tt_Text) (x1 : Int32) : Option tt_Text :=
  if x1 = (41 : Int32) then if (gf_Text_groupStart S0) = (-1 : Int32) then fn_X6_readPiece_95 S0 else if (gf_Text_found S0) ≤ (gf_Text_groupStart S0) then fn_X6_readPiece_95 S0 else bd_ (fn_X6_readGroupEnd S0) fun P_13 => some P_13 else fn_X6_readPiece_95 S0
def fn_X6_readPiece (S0 : tt_Text) : Option tt_Text :=
  bd_ (fn_X6_here S0) fun r_1 => if r_1 = (48 : Int32) then fn_X6_readPiece_17 S0 r_1 else if r_1 = (49 : Int32) then fn_X6_readPiece_17 S0 r_1 else if r_1 = (40 : Int32) then if (gf_Text_groupStart S0) = (-1 : Int32) then lt_ (gf_Text_found S0) fun y_16 => lt_ (sf_Text_groupStart S0 y_16) fun S_17 => lt_ ((gf_Text_cursor S_17) + (1 : Int32)) fun y_18 => lt_ (sf_Text_cursor S_17 y_18) fun S_19 => some S_19 else fn_X6_readPiece_63 S0 r_1 else fn_X6_readPiece_63 S0 r_1
def fl_X6_read_34 (k63 : tt_Text → Option tt_Text) (k76 : tt_Text → Option tt_Text) : Nat → tt_Text → Int32 → Option tt_Text
  | 0, _, _ => none
  | n + 1, S0, x2 =>
  if (120 : Int32) ≤ x2 then k76 S0 else if (gf_Text_fault S0) = (-1 : Int32) then bd_ (fn_X6_skipBlanks S0) fun P_10 => if (gf_Text_cursor P_10) < (gf_Text_length P_10) then bd_ (fn_X6_readPiece P_10) fun P_13 => lt_ (x2 + (1 : Int32)) fun y_15 => fl_X6_read_34 k63 k76 n P_13 y_15 else k63 P_10 else k76 S0
def fn_X6_read_76 (S0 : tt_Text) : Option tt_Text :=
  if (gf_Text_fault S0) = (-1 : Int32) then if (gf_Text_groupStart S0) = (-1 : Int32) then some S0 else lt_ (gf_Text_length S0) fun y_19 => lt_ (sf_Text_fault S0 y_19) fun S_20 => some S_20 else some S0
def fn_X6_read (S0 : tt_Text) (x1 : Int32) : Option tt_Text :=
  bd_ (fn_X8_kept x1.toInt64 (0 : Int32) (100 : Int32)) fun r_1 => lt_ (sf_Text_room S0 r_1) fun S_3 => lt_ (sf_Text_found S_3 (0 : Int32)) fun S_4 => lt_ (sf_Text_fault S_4 (-1 : Int32)) fun S_5 => lt_ (sf_Text_cursor S_5 (0 : Int32)) fun S_6 => lt_ (sf_Text_groupStart S_6 (-1 : Int32)) fun S_7 => fl_X6_read_34 (fun (S0_e63_16 : tt_Text) => fn_X6_read_76 S0_e63_16) (fun (S0_e76_21 : tt_Text) => fn_X6_read_76 S0_e76_21) fu_ S_7 (0 : Int32)
theorem cu_C17 {G : xG} {a : Nat → Nat} {S0 : tt_Text} : [0, 1, 2].map (fun i => (wd_Text G a S0)[i]?) = (wd_Text G a S0 : va_W).map some := rfl
theorem cu_R17 {G : xG} {a : Nat → Nat} {S0 : tt_Text} : ([] : List Nat).map (fun i => (wd_Text G a S0)[i]?) = ([] : va_W).map some := rfl
theorem cu_J17 {G : xG} {a : Nat → Nat} {S0 : tt_Text}  : [0, 1, 2].map (fun i => (([] : va_W) ++ (wd_Text G a S0))[i]?) = (wd_Text G a S0 : va_W).map some := rfl
theorem cu_C18 {G : xG} {a : Nat → Nat} {S0 : tt_Text} : [0, 1, 2].map (fun i => (wd_Text G a S0)[i]?) = (wd_Text G a S0 : va_W).map some := rfl
theorem cu_R18 {G : xG} {a : Nat → Nat} {S0 : tt_Text} : ([] : List Nat).map (fun i => (wd_Text G a S0)[i]?) = ([] : va_W).map some := rfl
theorem cu_J18 {G : xG} {a : Nat → Nat} {S0 : tt_Text} {P0 : tt_Text} : [0, 1, 2].map (fun i => (([] : va_W) ++ (wd_Text G a P0))[i]?) = (wd_Text G a P0 : va_W).map some := rfl
theorem hd_X6_here : yX6_here.cls ≠ "java/lang/invoke/MethodHandle" ∧ yX6_here.cls ≠ "java/lang/invoke/VarHandle" ∧ (parseMethodDescriptor yX6_here.desc).map (fun d => d.parameters.length) = some 0 := by decide +kernel
set_option maxHeartbeats 4000000 in
set_option maxRecDepth 100000 in
theorem ct_X6_here (l : Launch) (G : xG) (a : Nat → Nat) (S0 : tt_Text) (ro : Int32) (hf : fn_X6_here S0 = some ro) : xM l yX6_here cX6_here 1 (some .int) 0 0 G [.ref (a 0)] (wd_Text G a S0) (wd_Text G a S0) (some (.int ro)) := by
  refine xMi (by decide) (Nat.le_of_ble_eq_true rfl) ?_
  intro p e s m below meth c A C0 KN hA X ls hl
  have hx := C0.1
  have hb := C0.2.1
  have C0 : xC p s m meth c cX6_here 1 (some .int) RX6 _ := C0
  have hl : lv_has ls 1 [(0, .ref (a 0))] := hl
  unfold fn_X6_here at hf
  refine lv_aload_n (pc := 0) hx hb dX6_here_0 rfl (lv_at hl 0 rfl) ?_
  refine x_get (pc := 1) (ci := 6) C0 KN X 0 rfl rfl inlX6 6 (by decide) kw_6_10 rfl dX6_here_1 ?_
  refine W.eq (g2 := F0 m 4 ls [.int (gf_Text_cursor S0)]) rfl ?_
  refine lv_if_lt (pc := 4) (tgt := 39) hx hb dX6_here_4 (by decide) (fun c_1 => ?_) (fun c_1 => ?_)
  · have hf := it_p hf c_1
    refine lv_iconst (pc := 39) (v := (-1)) hx hb dX6_here_39 (by decide) ?_
    obtain rfl := so_1 hf
    exact x_iret (pc := 40) C0 X dX6_here_40
  · have hf := it_n hf c_1
    refine lv_aload_n (pc := 7) hx hb dX6_here_7 rfl (lv_at hl 0 rfl) ?_
    refine x_get (pc := 8) (ci := 6) C0 KN X 0 rfl rfl inlX6 6 (by decide) kw_6_10 rfl dX6_here_8 ?_
    refine W.eq (g2 := F0 m 11 ls [.int (gf_Text_cursor S0)]) rfl ?_
    refine lv_aload_n (pc := 11) hx hb dX6_here_11 rfl (lv_at hl 0 rfl) ?_
    refine x_get (pc := 12) (ci := 6) C0 KN X 0 rfl rfl inlX6 2 (by decide) kw_6_6 rfl dX6_here_12 ?_
    refine W.eq (g2 := F0 m 15 ls [.int (gf_Text_length S0), .int (gf_Text_cursor S0)]) rfl ?_
    refine lv_icmp_ge (pc := 15) (tgt := 39) hx hb dX6_here_15 (by decide) (fun c_2 => ?_) (fun c_2 => ?_)
    · have hf := it_p hf c_2
      refine lv_iconst (pc := 39) (v := (-1)) hx hb dX6_here_39 (by decide) ?_
      obtain rfl := so_1 hf
      exact x_iret (pc := 40) C0 X dX6_here_40
    · have hf := it_n hf c_2
      refine lv_aload_n (pc := 18) hx hb dX6_here_18 rfl (lv_at hl 0 rfl) ?_
      refine x_get (pc := 19) (ci := 6) C0 KN X 0 rfl rfl inlX6 6 (by decide) kw_6_10 rfl dX6_here_19 ?_
      refine W.eq (g2 := F0 m 22 ls [.int (gf_Text_cursor S0)]) rfl ?_
      refine lv_bipush (pc := 22) (v := 120) hx hb dX6_here_22 (by decide) ?_
      refine lv_icmp_ge (pc := 24) (tgt := 39) hx hb dX6_here_24 (by decide) (fun c_3 => ?_) (fun c_3 => ?_)
      · have hf := it_p hf c_3
        refine lv_iconst (pc := 39) (v := (-1)) hx hb dX6_here_39 (by decide) ?_
        obtain rfl := so_1 hf
        exact x_iret (pc := 40) C0 X dX6_here_40
      · have hf := it_n hf c_3
        refine lv_aload_n (pc := 27) hx hb dX6_here_27 rfl (lv_at hl 0 rfl) ?_
        refine x_get (pc := 28) (ci := 6) C0 KN X 0 rfl rfl inlX6 0 (by decide) kw_6_4 rfl dX6_here_28 ?_
        refine lv_aload_n (pc := 31) hx hb dX6_here_31 rfl (lv_at hl 0 rfl) ?_
        refine x_get (pc := 32) (ci := 6) C0 KN X 0 rfl rfl inlX6 6 (by decide) kw_6_10 rfl dX6_here_32 ?_
        refine W.eq (g2 := F0 m 35 ls [.int (gf_Text_cursor S0), .ref (a 1)]) rfl ?_
        obtain ⟨g_4, hf⟩ := gd_e hf
        refine x_ald (pc := 35) C0 KN X 1 rfl g_4 dX6_here_35 ?_
        refine W.eq (g2 := F0 m 36 ls [.int ((gf_Text_bytes S0) (gf_Text_cursor S0).toNatClampNeg)]) rfl ?_
        refine lv_goto (pc := 36) (tgt := 40) hx hb dX6_here_36 (by decide) ?_
        obtain rfl := so_1 hf
        exact x_iret (pc := 40) C0 X dX6_here_40
set_option maxHeartbeats 4000000 in
set_option maxRecDepth 100000 in
theorem lb_X6_skipBlanks_2 {l : Launch} {p : Program} {e : Env} {s : State} {m : MethodId} {args : Array Value} {below : List Frame} {meth : Method} {c : Code} {G : xG} {A : Nat → Prop} {a : Nat → Nat} (C0 : xC p s m meth c cX6_skipBlanks 2 (none) RX6 args) (KN : xKN G s) (hA : ∀ q, s.heap.size ≤ q → A q) (So0 : tt_Text) (k33 : tt_Text → Option tt_Text) (hk33 : ∀ (S0 : tt_Text), k33 S0 = some So0 → ∀ (H : Heap) (locs : List Loc) (ls : Array Slot), xS G A s.heap (wd_Text G a S0) H locs → lv_has ls 2 [(0, .ref (a 0))] → W p l e ({ frames := 1, cells := 0, slots := 0, locals := 20 }) s m args below meth c H locs 0 0 (MQ below (xQo G none A (wd_Text G a So0)) args s 0 0 A) (F0 m 33 ls [])) : ∀ (n : Nat) (S0 : tt_Text) (x1 : Int32), fl_X6_skipBlanks_2 k33 n S0 x1 = some So0 → ∀ (H : Heap) (locs : List Loc) (ls : Array Slot), xS G A s.heap (wd_Text G a S0) H locs → lv_has ls 2 [(0, .ref (a 0)), (1, .int x1)] → W p l e ({ frames := 1, cells := 0, slots := 0, locals := 20 }) s m args below meth c H locs 0 0 (MQ below (xQo G none A (wd_Text G a So0)) args s 0 0 A) (F0 m 2 ls []) := by
  have hx := C0.1
  have hb := C0.2.1
  intro n
  induction n with
  | zero =>
    intro S0 x1 hf
    have hf : none = some So0 := hf
    cases hf
  | succ n ih =>
    intro S0 x1 hf H locs ls X hl
    rw [fl_X6_skipBlanks_2] at hf
    refine lv_iload_n (pc := 2) hx hb dX6_skipBlanks_2 rfl (lv_at hl 1 rfl) ?_
    refine lv_bipush (pc := 3) (v := 120) hx hb dX6_skipBlanks_3 (by decide) ?_
    refine lv_icmp_ge (pc := 5) (tgt := 33) hx hb dX6_skipBlanks_5 (by decide) (fun c_1 => ?_) (fun c_1 => ?_)
    · have hf := it_p hf c_1
      exact hk33 _ hf _ _ _ X (lv_sub hl [0] rfl)
    · have hf := it_n hf c_1
      refine lv_aload_n (pc := 8) hx hb dX6_skipBlanks_8 rfl (lv_at hl 0 rfl) ?_
      obtain ⟨r_2, h_3, hf⟩ := bd_e hf
      refine x_cv (pc := 9) (ws' := wd_Text G a S0) (As := []) (rest := []) (ci := 6) (qr := 0) C0 KN X hA [0, 1, 2] [] [0, 1, 2] cu_C17 rfl cu_R17 rfl (by decide) (cu_J17 (S0 := S0)) rfl (ct_X6_here l G a S0 r_2 h_3) rfl rfl rfl kw_29_7 kw_29_4 kw_29_5 kw_29_6 kw_2_11 hd_X6_here ⟨by decide, by decide⟩ hl.1 rfl (Nat.le_of_ble_eq_true rfl) ⟨Nat.zero_le _, Nat.zero_le _⟩ dX6_skipBlanks_9 (fun H locs X => ?_)
      refine W.eq (g2 := F0 m 12 ls [.int r_2]) rfl ?_
      refine lv_bipush (pc := 12) (v := 32) hx hb dX6_skipBlanks_12 (by decide) ?_
      refine lv_icmp_ne (pc := 14) (tgt := 33) hx hb dX6_skipBlanks_14 (by decide) (fun c_4 => ?_) (fun c_4 => ?_)
      · have hf := it_n hf c_4
        exact hk33 _ hf _ _ _ X (lv_sub hl [0] rfl)
      · have hf := it_p hf c_4
        refine lv_aload_n (pc := 17) hx hb dX6_skipBlanks_17 rfl (lv_at hl 0 rfl) ?_
        refine lv_dup (pc := 18) hx hb dX6_skipBlanks_18 rfl ?_
        refine x_get (pc := 19) (ci := 6) C0 KN X 0 rfl rfl inlX6 6 (by decide) kw_6_10 rfl dX6_skipBlanks_19 ?_
        refine W.eq (g2 := F0 m 22 ls [.int (gf_Text_cursor S0), .ref (a 0)]) rfl ?_
        refine lv_iconst (pc := 22) (v := 1) hx hb dX6_skipBlanks_22 (by decide) ?_
        refine lv_iadd (pc := 23) hx hb dX6_skipBlanks_23 ?_
        refine lv_topi (fun y_5 ey_5 => ?_)
        have hf := lt_sb hf ey_5
        obtain ⟨S_6, eS_6, hf⟩ := lt_e hf
        refine x_put (pc := 24) (ci := 6) (ws' := wd_Text G a S_6) C0 KN X 0 rfl rfl inlX6 tyX6_ok nmX6 6 (by decide) kw_6_10 rfl rfl rfl (Nat.le_of_ble_eq_true rfl) (by subst eS_6; rfl) dX6_skipBlanks_24 (fun H locs X => ?_)
        obtain ⟨y_7, ey_7⟩ : ∃ y : Int32, y = x1 + (1 : Int32) := ⟨_, rfl⟩
        have hf := lt_sb hf ey_7
        refine lv_iinc (pc := 27) (v := y_7) (lv' := [(1, .int y_7), (0, .ref (a 0))]) hx hb dX6_skipBlanks_27 hl (k := 1) rfl (by rw [ey_7]; rfl) (by decide) rfl (fun ls hl => ?_)
        refine lv_goto (pc := 30) (tgt := 2) hx hb dX6_skipBlanks_30 (by decide) ?_
        exact ih _ _ hf _ _ _ X (lv_sub hl [1, 0] rfl)
theorem hd_X6_skipBlanks : yX6_skipBlanks.cls ≠ "java/lang/invoke/MethodHandle" ∧ yX6_skipBlanks.cls ≠ "java/lang/invoke/VarHandle" ∧ (parseMethodDescriptor yX6_skipBlanks.desc).map (fun d => d.parameters.length) = some 0 := by decide +kernel
set_option maxHeartbeats 4000000 in
set_option maxRecDepth 100000 in
theorem ct_X6_skipBlanks (l : Launch) (G : xG) (a : Nat → Nat) (S0 : tt_Text) (So0 : tt_Text) (hf : fn_X6_skipBlanks S0 = some So0) : xM l yX6_skipBlanks cX6_skipBlanks 2 (none) 1 20 G [.ref (a 0)] (wd_Text G a S0) (wd_Text G a So0) none := by
  refine xMi (by decide) (Nat.le_of_ble_eq_true rfl) ?_
  intro p e s m below meth c A C0 KN hA X ls hl
  have hx := C0.1
  have hb := C0.2.1
  have C0 : xC p s m meth c cX6_skipBlanks 2 (none) RX6 _ := C0
  have hl : lv_has ls 2 [(0, .ref (a 0))] := hl
  unfold fn_X6_skipBlanks at hf
  refine lv_iconst (pc := 0) (v := 0) hx hb dX6_skipBlanks_0 (by decide) ?_
  refine lv_istore_n (pc := 1) (lv' := [(1, .int (0 : Int32)), (0, .ref (a 0))]) hx hb dX6_skipBlanks_1 rfl hl (by decide) rfl (fun ls hl => ?_)
  refine lb_X6_skipBlanks_2 C0 KN hA _ _ ?_ _ _ _ hf _ _ _ X (lv_sub hl [1, 0] rfl)
  · intro S0_e33_8 hf H locs ls X hl
    obtain rfl := so_1 hf
    exact x_vret (pc := 33) C0 X dX6_skipBlanks_33
theorem hd_X6_append : yX6_append.cls ≠ "java/lang/invoke/MethodHandle" ∧ yX6_append.cls ≠ "java/lang/invoke/VarHandle" ∧ (parseMethodDescriptor yX6_append.desc).map (fun d => d.parameters.length) = some 1 := by decide +kernel
set_option maxHeartbeats 4000000 in
set_option maxRecDepth 100000 in
theorem ct_X6_append (l : Launch) (G : xG) (a : Nat → Nat) (S0 : tt_Text) (x1 : Int32) (ro : Int32) (So0 : tt_Text) (hf : fn_X6_append S0 x1 = some (ro, So0)) : xM l yX6_append cX6_append 2 (some .int) 1 22 G [.ref (a 0), .int x1] (wd_Text G a S0) (wd_Text G a So0) (some (.int ro)) := by
  refine xMi (by decide) (Nat.le_of_ble_eq_true rfl) ?_
  intro p e s m below meth c A C0 KN hA X ls hl
  have hx := C0.1
  have hb := C0.2.1
  have C0 : xC p s m meth c cX6_append 2 (some .int) RX6 _ := C0
  have hl : lv_has ls 2 [(0, .ref (a 0)), (1, .int x1)] := hl
  unfold fn_X6_append at hf
  refine lv_aload_n (pc := 0) hx hb dX6_append_0 rfl (lv_at hl 0 rfl) ?_
  refine x_get (pc := 1) (ci := 6) C0 KN X 0 rfl rfl inlX6 2 (by decide) kw_6_6 rfl dX6_append_1 ?_
  refine W.eq (g2 := F0 m 4 ls [.int (gf_Text_length S0)]) rfl ?_
  refine lv_iconst (pc := 4) (v := 0) hx hb dX6_append_4 (by decide) ?_
  refine lv_bipush (pc := 5) (v := 119) hx hb dX6_append_5 (by decide) ?_
  obtain ⟨r_1, h_2, hf⟩ := bd_e hf
  refine x_csN (pc := 7) (As := [.int (gf_Text_length S0), .int (0 : Int32), .int (119 : Int32)]) (rest := []) C0 KN (ct_X8_within l (gf_Text_length S0) (0 : Int32) (119 : Int32) r_1 h_2) kw_8_10 (List.mem_of_getElem? (i := 19) rfl) kw_8_9 kw_1_2 hd_X8_within ⟨by decide, by decide⟩ hl.1 rfl (Nat.le_of_ble_eq_true rfl) ⟨Nat.zero_le _, Nat.zero_le _⟩ dX6_append_7 ?_
  refine W.eq (g2 := F0 m 10 ls [.int r_1]) rfl ?_
  refine lv_if_eq (pc := 10) (tgt := 33) hx hb dX6_append_10 (by decide) (fun c_3 => ?_) (fun c_3 => ?_)
  · have hf := it_p hf c_3
    refine lv_aload_n (pc := 33) hx hb dX6_append_33 rfl (lv_at hl 0 rfl) ?_
    refine x_get (pc := 34) (ci := 6) C0 KN X 0 rfl rfl inlX6 2 (by decide) kw_6_6 rfl dX6_append_34 ?_
    refine W.eq (g2 := F0 m 37 ls [.int (gf_Text_length S0)]) rfl ?_
    obtain ⟨rfl, rfl⟩ := so_2 hf
    exact x_iret (pc := 37) C0 X dX6_append_37
  · have hf := it_n hf c_3
    refine lv_aload_n (pc := 13) hx hb dX6_append_13 rfl (lv_at hl 0 rfl) ?_
    refine x_get (pc := 14) (ci := 6) C0 KN X 0 rfl rfl inlX6 0 (by decide) kw_6_4 rfl dX6_append_14 ?_
    refine lv_aload_n (pc := 17) hx hb dX6_append_17 rfl (lv_at hl 0 rfl) ?_
    refine x_get (pc := 18) (ci := 6) C0 KN X 0 rfl rfl inlX6 2 (by decide) kw_6_6 rfl dX6_append_18 ?_
    refine W.eq (g2 := F0 m 21 ls [.int (gf_Text_length S0), .ref (a 1)]) rfl ?_
    refine lv_iload_n (pc := 21) hx hb dX6_append_21 rfl (lv_at hl 1 rfl) ?_
    obtain ⟨g_4, hf⟩ := gd_e hf
    obtain ⟨S_5, eS_5, hf⟩ := lt_e hf
    refine x_ast (pc := 22) (ws' := wd_Text G a S_5) C0 KN X 1 rfl g_4 (by subst eS_5; rfl) dX6_append_22 (fun H locs X => ?_)
    refine lv_aload_n (pc := 23) hx hb dX6_append_23 rfl (lv_at hl 0 rfl) ?_
    refine lv_dup (pc := 24) hx hb dX6_append_24 rfl ?_
    refine x_get (pc := 25) (ci := 6) C0 KN X 0 rfl rfl inlX6 2 (by decide) kw_6_6 rfl dX6_append_25 ?_
    refine W.eq (g2 := F0 m 28 ls [.int (gf_Text_length S_5), .ref (a 0)]) rfl ?_
    refine lv_iconst (pc := 28) (v := 1) hx hb dX6_append_28 (by decide) ?_
    refine lv_iadd (pc := 29) hx hb dX6_append_29 ?_
    refine lv_topi (fun y_6 ey_6 => ?_)
    have hf := lt_sb hf ey_6
    obtain ⟨S_7, eS_7, hf⟩ := lt_e hf
    refine x_put (pc := 30) (ci := 6) (ws' := wd_Text G a S_7) C0 KN X 0 rfl rfl inlX6 tyX6_ok nmX6 2 (by decide) kw_6_6 rfl rfl rfl (Nat.le_of_ble_eq_true rfl) (by subst eS_7; rfl) dX6_append_30 (fun H locs X => ?_)
    refine lv_aload_n (pc := 33) hx hb dX6_append_33 rfl (lv_at hl 0 rfl) ?_
    refine x_get (pc := 34) (ci := 6) C0 KN X 0 rfl rfl inlX6 2 (by decide) kw_6_6 rfl dX6_append_34 ?_
    refine W.eq (g2 := F0 m 37 ls [.int (gf_Text_length S_7)]) rfl ?_
    obtain ⟨rfl, rfl⟩ := so_2 hf
    exact x_iret (pc := 37) C0 X dX6_append_37
theorem hd_X6_signAt : yX6_signAt.cls ≠ "java/lang/invoke/MethodHandle" ∧ yX6_signAt.cls ≠ "java/lang/invoke/VarHandle" ∧ (parseMethodDescriptor yX6_signAt.desc).map (fun d => d.parameters.length) = some 1 := by decide +kernel
set_option maxHeartbeats 4000000 in
set_option maxRecDepth 100000 in
theorem ct_X6_signAt (l : Launch) (G : xG) (a : Nat → Nat) (S0 : tt_Text) (x1 : Int32) (ro : Int32) (hf : fn_X6_signAt S0 x1 = some ro) : xM l yX6_signAt cX6_signAt 2 (some .int) 1 22 G [.ref (a 0), .int x1] (wd_Text G a S0) (wd_Text G a S0) (some (.int ro)) := by
  refine xMi (by decide) (Nat.le_of_ble_eq_true rfl) ?_
  intro p e s m below meth c A C0 KN hA X ls hl
  have hx := C0.1
  have hb := C0.2.1
  have C0 : xC p s m meth c cX6_signAt 2 (some .int) RX6 _ := C0
  have hl : lv_has ls 2 [(0, .ref (a 0)), (1, .int x1)] := hl
  unfold fn_X6_signAt at hf
  refine lv_iload_n (pc := 0) hx hb dX6_signAt_0 rfl (lv_at hl 1 rfl) ?_
  refine lv_iconst (pc := 1) (v := 0) hx hb dX6_signAt_1 (by decide) ?_
  refine lv_aload_n (pc := 2) hx hb dX6_signAt_2 rfl (lv_at hl 0 rfl) ?_
  refine x_get (pc := 3) (ci := 6) C0 KN X 0 rfl rfl inlX6 3 (by decide) kw_6_7 rfl dX6_signAt_3 ?_
  refine W.eq (g2 := F0 m 6 ls [.int (gf_Text_found S0), .int (0 : Int32), .int x1]) rfl ?_
  refine lv_iconst (pc := 6) (v := 1) hx hb dX6_signAt_6 (by decide) ?_
  refine lv_isub (pc := 7) hx hb dX6_signAt_7 ?_
  obtain ⟨r_1, h_2, hf⟩ := bd_e hf
  refine x_csN (pc := 8) (As := [.int x1, .int (0 : Int32), .int ((gf_Text_found S0) - (1 : Int32))]) (rest := []) C0 KN (ct_X8_within l x1 (0 : Int32) ((gf_Text_found S0) - (1 : Int32)) r_1 h_2) kw_8_10 (List.mem_of_getElem? (i := 19) rfl) kw_8_9 kw_1_2 hd_X8_within ⟨by decide, by decide⟩ hl.1 rfl (Nat.le_of_ble_eq_true rfl) ⟨Nat.zero_le _, Nat.zero_le _⟩ dX6_signAt_8 ?_
  refine W.eq (g2 := F0 m 11 ls [.int r_1]) rfl ?_
  refine lv_if_eq (pc := 11) (tgt := 23) hx hb dX6_signAt_11 (by decide) (fun c_3 => ?_) (fun c_3 => ?_)
  · have hf := it_p hf c_3
    refine lv_iconst (pc := 23) (v := 0) hx hb dX6_signAt_23 (by decide) ?_
    obtain rfl := so_1 hf
    exact x_iret (pc := 24) C0 X dX6_signAt_24
  · have hf := it_n hf c_3
    refine lv_aload_n (pc := 14) hx hb dX6_signAt_14 rfl (lv_at hl 0 rfl) ?_
    refine x_get (pc := 15) (ci := 6) C0 KN X 0 rfl rfl inlX6 1 (by decide) kw_6_5 rfl dX6_signAt_15 ?_
    refine lv_iload_n (pc := 18) hx hb dX6_signAt_18 rfl (lv_at hl 1 rfl) ?_
    obtain ⟨g_4, hf⟩ := gd_e hf
    refine x_ald (pc := 19) C0 KN X 2 rfl g_4 dX6_signAt_19 ?_
    refine W.eq (g2 := F0 m 20 ls [.int ((gf_Text_signs S0) x1.toNatClampNeg)]) rfl ?_
    refine lv_goto (pc := 20) (tgt := 24) hx hb dX6_signAt_20 (by decide) ?_
    obtain rfl := so_1 hf
    exact x_iret (pc := 24) C0 X dX6_signAt_24
theorem hd_X6_addSign : yX6_addSign.cls ≠ "java/lang/invoke/MethodHandle" ∧ yX6_addSign.cls ≠ "java/lang/invoke/VarHandle" ∧ (parseMethodDescriptor yX6_addSign.desc).map (fun d => d.parameters.length) = some 1 := by decide +kernel
set_option maxHeartbeats 4000000 in
set_option maxRecDepth 100000 in
theorem ct_X6_addSign (l : Launch) (G : xG) (a : Nat → Nat) (S0 : tt_Text) (x1 : Int32) (So0 : tt_Text) (hf : fn_X6_addSign S0 x1 = some So0) : xM l yX6_addSign cX6_addSign 2 (none) 1 22 G [.ref (a 0), .int x1] (wd_Text G a S0) (wd_Text G a So0) none := by
  refine xMi (by decide) (Nat.le_of_ble_eq_true rfl) ?_
  intro p e s m below meth c A C0 KN hA X ls hl
  have hx := C0.1
  have hb := C0.2.1
  have C0 : xC p s m meth c cX6_addSign 2 (none) RX6 _ := C0
  have hl : lv_has ls 2 [(0, .ref (a 0)), (1, .int x1)] := hl
  unfold fn_X6_addSign at hf
  refine lv_aload_n (pc := 0) hx hb dX6_addSign_0 rfl (lv_at hl 0 rfl) ?_
  refine x_get (pc := 1) (ci := 6) C0 KN X 0 rfl rfl inlX6 3 (by decide) kw_6_7 rfl dX6_addSign_1 ?_
  refine W.eq (g2 := F0 m 4 ls [.int (gf_Text_found S0)]) rfl ?_
  refine lv_iconst (pc := 4) (v := 0) hx hb dX6_addSign_4 (by decide) ?_
  refine lv_bipush (pc := 5) (v := 99) hx hb dX6_addSign_5 (by decide) ?_
  obtain ⟨r_1, h_2, hf⟩ := bd_e hf
  refine x_csN (pc := 7) (As := [.int (gf_Text_found S0), .int (0 : Int32), .int (99 : Int32)]) (rest := []) C0 KN (ct_X8_within l (gf_Text_found S0) (0 : Int32) (99 : Int32) r_1 h_2) kw_8_10 (List.mem_of_getElem? (i := 19) rfl) kw_8_9 kw_1_2 hd_X8_within ⟨by decide, by decide⟩ hl.1 rfl (Nat.le_of_ble_eq_true rfl) ⟨Nat.zero_le _, Nat.zero_le _⟩ dX6_addSign_7 ?_
  refine W.eq (g2 := F0 m 10 ls [.int r_1]) rfl ?_
  refine lv_if_ne (pc := 10) (tgt := 14) hx hb dX6_addSign_10 (by decide) (fun c_3 => ?_) (fun c_3 => ?_)
  · have hf := it_n hf c_3
    refine lv_aload_n (pc := 14) hx hb dX6_addSign_14 rfl (lv_at hl 0 rfl) ?_
    refine x_get (pc := 15) (ci := 6) C0 KN X 0 rfl rfl inlX6 1 (by decide) kw_6_5 rfl dX6_addSign_15 ?_
    refine lv_aload_n (pc := 18) hx hb dX6_addSign_18 rfl (lv_at hl 0 rfl) ?_
    refine x_get (pc := 19) (ci := 6) C0 KN X 0 rfl rfl inlX6 3 (by decide) kw_6_7 rfl dX6_addSign_19 ?_
    refine W.eq (g2 := F0 m 22 ls [.int (gf_Text_found S0), .ref (a 2)]) rfl ?_
    refine lv_iload_n (pc := 22) hx hb dX6_addSign_22 rfl (lv_at hl 1 rfl) ?_
    obtain ⟨g_4, hf⟩ := gd_e hf
    obtain ⟨S_5, eS_5, hf⟩ := lt_e hf
    refine x_ast (pc := 23) (ws' := wd_Text G a S_5) C0 KN X 2 rfl g_4 (by subst eS_5; rfl) dX6_addSign_23 (fun H locs X => ?_)
    refine lv_aload_n (pc := 24) hx hb dX6_addSign_24 rfl (lv_at hl 0 rfl) ?_
    refine lv_dup (pc := 25) hx hb dX6_addSign_25 rfl ?_
    refine x_get (pc := 26) (ci := 6) C0 KN X 0 rfl rfl inlX6 3 (by decide) kw_6_7 rfl dX6_addSign_26 ?_
    refine W.eq (g2 := F0 m 29 ls [.int (gf_Text_found S_5), .ref (a 0)]) rfl ?_
    refine lv_iconst (pc := 29) (v := 1) hx hb dX6_addSign_29 (by decide) ?_
    refine lv_iadd (pc := 30) hx hb dX6_addSign_30 ?_
    refine lv_topi (fun y_6 ey_6 => ?_)
    have hf := lt_sb hf ey_6
    obtain ⟨S_7, eS_7, hf⟩ := lt_e hf
    refine x_put (pc := 31) (ci := 6) (ws' := wd_Text G a S_7) C0 KN X 0 rfl rfl inlX6 tyX6_ok nmX6 3 (by decide) kw_6_7 rfl rfl rfl (Nat.le_of_ble_eq_true rfl) (by subst eS_7; rfl) dX6_addSign_31 (fun H locs X => ?_)
    obtain rfl := so_1 hf
    exact x_vret (pc := 34) C0 X dX6_addSign_34
  · have hf := it_p hf c_3
    obtain rfl := so_1 hf
    exact x_vret (pc := 13) C0 X dX6_addSign_13
set_option maxHeartbeats 4000000 in
set_option maxRecDepth 100000 in
theorem lb_X6_readTimes_23 {l : Launch} {p : Program} {e : Env} {s : State} {m : MethodId} {args : Array Value} {below : List Frame} {meth : Method} {c : Code} {G : xG} {A : Nat → Prop} {a : Nat → Nat} (C0 : xC p s m meth c cX6_readTimes 4 (some .int) RX6 args) (KN : xKN G s) (hA : ∀ q, s.heap.size ≤ q → A q) (ro : Int32) (So0 : tt_Text) (k78 : tt_Text → Int32 → Int32 → Option (Int32 × tt_Text)) (hk78 : ∀ (S0 : tt_Text) (x1 : Int32) (x2 : Int32), k78 S0 x1 x2 = some (ro, So0) → ∀ (H : Heap) (locs : List Loc) (ls : Array Slot), xS G A s.heap (wd_Text G a S0) H locs → lv_has ls 4 [(0, .ref (a 0)), (1, .int x1), (2, .int x2)] → W p l e ({ frames := 2, cells := 0, slots := 0, locals := 41 }) s m args below meth c H locs 0 0 (MQ below (xQo G (some (.int ro)) A (wd_Text G a So0)) args s 0 0 A) (F0 m 78 ls [])) : ∀ (n : Nat) (S0 : tt_Text) (x1 : Int32) (x2 : Int32) (x3 : Int32), fl_X6_readTimes_23 k78 n S0 x1 x2 x3 = some (ro, So0) → ∀ (H : Heap) (locs : List Loc) (ls : Array Slot), xS G A s.heap (wd_Text G a S0) H locs → lv_has ls 4 [(0, .ref (a 0)), (1, .int x1), (2, .int x2), (3, .int x3)] → W p l e ({ frames := 2, cells := 0, slots := 0, locals := 41 }) s m args below meth c H locs 0 0 (MQ below (xQo G (some (.int ro)) A (wd_Text G a So0)) args s 0 0 A) (F0 m 23 ls []) := by
  have hx := C0.1
  have hb := C0.2.1
  intro n
  induction n with
  | zero =>
    intro S0 x1 x2 x3 hf
    have hf : none = some (ro, So0) := hf
    cases hf
  | succ n ih =>
    intro S0 x1 x2 x3 hf H locs ls X hl
    rw [fl_X6_readTimes_23] at hf
    refine lv_iload_n (pc := 23) hx hb dX6_readTimes_23 rfl (lv_at hl 3 rfl) ?_
    refine lv_bipush (pc := 24) (v := 120) hx hb dX6_readTimes_24 (by decide) ?_
    refine lv_icmp_ge (pc := 26) (tgt := 78) hx hb dX6_readTimes_26 (by decide) (fun c_6 => ?_) (fun c_6 => ?_)
    · have hf := it_p hf c_6
      exact hk78 _ _ _ hf _ _ _ X (lv_sub hl [0, 1, 2] rfl)
    · have hf := it_n hf c_6
      refine lv_aload_n (pc := 29) hx hb dX6_readTimes_29 rfl (lv_at hl 0 rfl) ?_
      obtain ⟨r_7, h_8, hf⟩ := bd_e hf
      refine x_cv (pc := 30) (ws' := wd_Text G a S0) (As := []) (rest := []) (ci := 6) (qr := 0) C0 KN X hA [0, 1, 2] [] [0, 1, 2] cu_C17 rfl cu_R17 rfl (by decide) (cu_J17 (S0 := S0)) rfl (ct_X6_here l G a S0 r_7 h_8) rfl rfl rfl kw_29_7 kw_29_4 kw_29_5 kw_29_6 kw_2_11 hd_X6_here ⟨by decide, by decide⟩ hl.1 rfl (Nat.le_of_ble_eq_true rfl) ⟨Nat.zero_le _, Nat.zero_le _⟩ dX6_readTimes_30 (fun H locs X => ?_)
      refine W.eq (g2 := F0 m 33 ls [.int r_7]) rfl ?_
      refine lv_bipush (pc := 33) (v := 48) hx hb dX6_readTimes_33 (by decide) ?_
      refine lv_bipush (pc := 35) (v := 57) hx hb dX6_readTimes_35 (by decide) ?_
      obtain ⟨r_9, h_10, hf⟩ := bd_e hf
      refine x_csN (pc := 37) (As := [.int r_7, .int (48 : Int32), .int (57 : Int32)]) (rest := []) C0 KN (ct_X8_within l r_7 (48 : Int32) (57 : Int32) r_9 h_10) kw_8_10 (List.mem_of_getElem? (i := 19) rfl) kw_8_9 kw_1_2 hd_X8_within ⟨by decide, by decide⟩ hl.1 rfl (Nat.le_of_ble_eq_true rfl) ⟨Nat.zero_le _, Nat.zero_le _⟩ dX6_readTimes_37 ?_
      refine W.eq (g2 := F0 m 40 ls [.int r_9]) rfl ?_
      refine lv_if_eq (pc := 40) (tgt := 78) hx hb dX6_readTimes_40 (by decide) (fun c_11 => ?_) (fun c_11 => ?_)
      · have hf := it_p hf c_11
        exact hk78 _ _ _ hf _ _ _ X (lv_sub hl [0, 1, 2] rfl)
      · have hf := it_n hf c_11
        refine lv_sipush (pc := 43) (v := 1000) hx hb dX6_readTimes_43 (by decide) ?_
        refine lv_iload_n (pc := 46) hx hb dX6_readTimes_46 rfl (lv_at hl 2 rfl) ?_
        refine lv_bipush (pc := 47) (v := 10) hx hb dX6_readTimes_47 (by decide) ?_
        refine lv_imul (pc := 49) hx hb dX6_readTimes_49 ?_
        refine lv_aload_n (pc := 50) hx hb dX6_readTimes_50 rfl (lv_at hl 0 rfl) ?_
        obtain ⟨r_12, h_13, hf⟩ := bd_e hf
        refine x_cv (pc := 51) (ws' := wd_Text G a S0) (As := []) (rest := [.int (x2 * (10 : Int32)), .int (1000 : Int32)]) (ci := 6) (qr := 0) C0 KN X hA [0, 1, 2] [] [0, 1, 2] cu_C17 rfl cu_R17 rfl (by decide) (cu_J17 (S0 := S0)) rfl (ct_X6_here l G a S0 r_12 h_13) rfl rfl rfl kw_29_7 kw_29_4 kw_29_5 kw_29_6 kw_2_11 hd_X6_here ⟨by decide, by decide⟩ hl.1 rfl (Nat.le_of_ble_eq_true rfl) ⟨Nat.zero_le _, Nat.zero_le _⟩ dX6_readTimes_51 (fun H locs X => ?_)
        refine W.eq (g2 := F0 m 54 ls [.int r_12, .int (x2 * (10 : Int32)), .int (1000 : Int32)]) rfl ?_
        refine lv_iadd (pc := 54) hx hb dX6_readTimes_54 ?_
        refine lv_bipush (pc := 55) (v := 48) hx hb dX6_readTimes_55 (by decide) ?_
        refine lv_isub (pc := 57) hx hb dX6_readTimes_57 ?_
        refine x_mmin (pc := 58) C0 hl.1 kw_29_20 kw_9_1 kw_9_2 kw_9_3 (by decide) (Nat.le_of_ble_eq_true rfl) ⟨Nat.zero_le _, Nat.zero_le _⟩ dX6_readTimes_58 ?_
        refine lv_topi (fun y_14 ey_14 => ?_)
        have hf := lt_sb hf ey_14
        refine lv_istore_n (pc := 61) (lv' := [(2, .int y_14), (0, .ref (a 0)), (1, .int x1), (3, .int x3)]) hx hb dX6_readTimes_61 rfl hl (by decide) rfl (fun ls hl => ?_)
        refine lv_aload_n (pc := 62) hx hb dX6_readTimes_62 rfl (lv_at hl 1 rfl) ?_
        refine lv_dup (pc := 63) hx hb dX6_readTimes_63 rfl ?_
        refine x_get (pc := 64) (ci := 6) C0 KN X 0 rfl rfl inlX6 6 (by decide) kw_6_10 rfl dX6_readTimes_64 ?_
        refine W.eq (g2 := F0 m 67 ls [.int (gf_Text_cursor S0), .ref (a 0)]) rfl ?_
        refine lv_iconst (pc := 67) (v := 1) hx hb dX6_readTimes_67 (by decide) ?_
        refine lv_iadd (pc := 68) hx hb dX6_readTimes_68 ?_
        refine lv_topi (fun y_15 ey_15 => ?_)
        have hf := lt_sb hf ey_15
        obtain ⟨S_16, eS_16, hf⟩ := lt_e hf
        refine x_put (pc := 69) (ci := 6) (ws' := wd_Text G a S_16) C0 KN X 0 rfl rfl inlX6 tyX6_ok nmX6 6 (by decide) kw_6_10 rfl rfl rfl (Nat.le_of_ble_eq_true rfl) (by subst eS_16; rfl) dX6_readTimes_69 (fun H locs X => ?_)
        obtain ⟨y_17, ey_17⟩ : ∃ y : Int32, y = x3 + (1 : Int32) := ⟨_, rfl⟩
        have hf := lt_sb hf ey_17
        refine lv_iinc (pc := 72) (v := y_17) (lv' := [(3, .int y_17), (2, .int y_14), (0, .ref (a 0)), (1, .int x1)]) hx hb dX6_readTimes_72 hl (k := 3) rfl (by rw [ey_17]; rfl) (by decide) rfl (fun ls hl => ?_)
        refine lv_goto (pc := 75) (tgt := 23) hx hb dX6_readTimes_75 (by decide) ?_
        exact ih _ _ _ _ hf _ _ _ X (lv_sub hl [2, 3, 1, 0] rfl)
set_option maxHeartbeats 4000000 in
set_option maxRecDepth 100000 in
theorem lb_X6_readTimes_97 {l : Launch} {p : Program} {e : Env} {s : State} {m : MethodId} {args : Array Value} {below : List Frame} {meth : Method} {c : Code} {G : xG} {A : Nat → Prop} {a : Nat → Nat} (C0 : xC p s m meth c cX6_readTimes 4 (some .int) RX6 args) (KN : xKN G s) (hA : ∀ q, s.heap.size ≤ q → A q) (ro : Int32) (So0 : tt_Text) : ∀ (S0 : tt_Text) (x1 : Int32) (x2 : Int32), fn_X6_readTimes_97 S0 x1 x2 = some (ro, So0) → ∀ (H : Heap) (locs : List Loc) (ls : Array Slot), xS G A s.heap (wd_Text G a S0) H locs → lv_has ls 4 [(0, .ref (a 0)), (1, .int x1), (2, .int x2)] → W p l e ({ frames := 2, cells := 0, slots := 0, locals := 41 }) s m args below meth c H locs 0 0 (MQ below (xQo G (some (.int ro)) A (wd_Text G a So0)) args s 0 0 A) (F0 m 97 ls []) := by
  have hx := C0.1
  have hb := C0.2.1
  intro S0 x1 x2 hf H locs ls X hl
  unfold fn_X6_readTimes_97 at hf
  refine lv_aload_n (pc := 97) hx hb dX6_readTimes_97 rfl (lv_at hl 0 rfl) ?_
  refine lv_iload_n (pc := 98) hx hb dX6_readTimes_98 rfl (lv_at hl 1 rfl) ?_
  obtain ⟨S_22, eS_22, hf⟩ := lt_e hf
  refine x_put (pc := 99) (ci := 6) (ws' := wd_Text G a S_22) C0 KN X 0 rfl rfl inlX6 tyX6_ok nmX6 4 (by decide) kw_6_8 rfl rfl rfl (Nat.le_of_ble_eq_true rfl) (by subst eS_22; rfl) dX6_readTimes_99 (fun H locs X => ?_)
  refine lv_iload_n (pc := 102) hx hb dX6_readTimes_102 rfl (lv_at hl 2 rfl) ?_
  obtain ⟨rfl, rfl⟩ := so_2 hf
  exact x_iret (pc := 103) C0 X dX6_readTimes_103
set_option maxHeartbeats 4000000 in
set_option maxRecDepth 100000 in
theorem lb_X6_readTimes_78 {l : Launch} {p : Program} {e : Env} {s : State} {m : MethodId} {args : Array Value} {below : List Frame} {meth : Method} {c : Code} {G : xG} {A : Nat → Prop} {a : Nat → Nat} (C0 : xC p s m meth c cX6_readTimes 4 (some .int) RX6 args) (KN : xKN G s) (hA : ∀ q, s.heap.size ≤ q → A q) (ro : Int32) (So0 : tt_Text) : ∀ (S0 : tt_Text) (x1 : Int32) (x2 : Int32), fn_X6_readTimes_78 S0 x1 x2 = some (ro, So0) → ∀ (H : Heap) (locs : List Loc) (ls : Array Slot), xS G A s.heap (wd_Text G a S0) H locs → lv_has ls 4 [(0, .ref (a 0)), (1, .int x1), (2, .int x2)] → W p l e ({ frames := 2, cells := 0, slots := 0, locals := 41 }) s m args below meth c H locs 0 0 (MQ below (xQo G (some (.int ro)) A (wd_Text G a So0)) args s 0 0 A) (F0 m 78 ls []) := by
  have hx := C0.1
  have hb := C0.2.1
  intro S0 x1 x2 hf H locs ls X hl
  unfold fn_X6_readTimes_78 at hf
  refine lv_aload_n (pc := 78) hx hb dX6_readTimes_78 rfl (lv_at hl 0 rfl) ?_
  refine x_get (pc := 79) (ci := 6) C0 KN X 0 rfl rfl inlX6 6 (by decide) kw_6_10 rfl dX6_readTimes_79 ?_
  refine W.eq (g2 := F0 m 82 ls [.int (gf_Text_cursor S0)]) rfl ?_
  refine lv_iload_n (pc := 82) hx hb dX6_readTimes_82 rfl (lv_at hl 1 rfl) ?_
  refine lv_isub (pc := 83) hx hb dX6_readTimes_83 ?_
  refine lv_iconst (pc := 84) (v := 1) hx hb dX6_readTimes_84 (by decide) ?_
  refine lv_iconst (pc := 85) (v := 2) hx hb dX6_readTimes_85 (by decide) ?_
  obtain ⟨r_19, h_20, hf⟩ := bd_e hf
  refine x_csN (pc := 86) (As := [.int ((gf_Text_cursor S0) - x1), .int (1 : Int32), .int (2 : Int32)]) (rest := []) C0 KN (ct_X8_within l ((gf_Text_cursor S0) - x1) (1 : Int32) (2 : Int32) r_19 h_20) kw_8_10 (List.mem_of_getElem? (i := 19) rfl) kw_8_9 kw_1_2 hd_X8_within ⟨by decide, by decide⟩ hl.1 rfl (Nat.le_of_ble_eq_true rfl) ⟨Nat.zero_le _, Nat.zero_le _⟩ dX6_readTimes_86 ?_
  refine W.eq (g2 := F0 m 89 ls [.int r_19]) rfl ?_
  refine lv_if_eq (pc := 89) (tgt := 97) hx hb dX6_readTimes_89 (by decide) (fun c_21 => ?_) (fun c_21 => ?_)
  · have hf := it_p hf c_21
    exact lb_X6_readTimes_97 C0 KN hA _ _  _ _ _ hf _ _ _ X (lv_sub hl [0, 1, 2] rfl)
  · have hf := it_n hf c_21
    refine lv_iload_n (pc := 92) hx hb dX6_readTimes_92 rfl (lv_at hl 2 rfl) ?_
    refine lv_iconst (pc := 93) (v := 1) hx hb dX6_readTimes_93 (by decide) ?_
    refine lv_icmp_ge (pc := 94) (tgt := 102) hx hb dX6_readTimes_94 (by decide) (fun c_23 => ?_) (fun c_23 => ?_)
    · have hf := it_p hf c_23
      refine lv_iload_n (pc := 102) hx hb dX6_readTimes_102 rfl (lv_at hl 2 rfl) ?_
      obtain ⟨rfl, rfl⟩ := so_2 hf
      exact x_iret (pc := 103) C0 X dX6_readTimes_103
    · have hf := it_n hf c_23
      exact lb_X6_readTimes_97 C0 KN hA _ _  _ _ _ hf _ _ _ X (lv_sub hl [0, 1, 2] rfl)
theorem hd_X6_readTimes : yX6_readTimes.cls ≠ "java/lang/invoke/MethodHandle" ∧ yX6_readTimes.cls ≠ "java/lang/invoke/VarHandle" ∧ (parseMethodDescriptor yX6_readTimes.desc).map (fun d => d.parameters.length) = some 0 := by decide +kernel
set_option maxHeartbeats 4000000 in
set_option maxRecDepth 100000 in
theorem ct_X6_readTimes (l : Launch) (G : xG) (a : Nat → Nat) (S0 : tt_Text) (ro : Int32) (So0 : tt_Text) (hf : fn_X6_readTimes S0 = some (ro, So0)) : xM l yX6_readTimes cX6_readTimes 4 (some .int) 2 41 G [.ref (a 0)] (wd_Text G a S0) (wd_Text G a So0) (some (.int ro)) := by
  refine xMi (by decide) (Nat.le_of_ble_eq_true rfl) ?_
  intro p e s m below meth c A C0 KN hA X ls hl
  have hx := C0.1
  have hb := C0.2.1
  have C0 : xC p s m meth c cX6_readTimes 4 (some .int) RX6 _ := C0
  have hl : lv_has ls 4 [(0, .ref (a 0))] := hl
  unfold fn_X6_readTimes at hf
  refine lv_aload_n (pc := 0) hx hb dX6_readTimes_0 rfl (lv_at hl 0 rfl) ?_
  refine lv_dup (pc := 1) hx hb dX6_readTimes_1 rfl ?_
  refine x_get (pc := 2) (ci := 6) C0 KN X 0 rfl rfl inlX6 6 (by decide) kw_6_10 rfl dX6_readTimes_2 ?_
  refine W.eq (g2 := F0 m 5 ls [.int (gf_Text_cursor S0), .ref (a 0)]) rfl ?_
  refine lv_iconst (pc := 5) (v := 1) hx hb dX6_readTimes_5 (by decide) ?_
  refine lv_iadd (pc := 6) hx hb dX6_readTimes_6 ?_
  refine lv_topi (fun y_1 ey_1 => ?_)
  have hf := lt_sb hf ey_1
  obtain ⟨S_2, eS_2, hf⟩ := lt_e hf
  refine x_put (pc := 7) (ci := 6) (ws' := wd_Text G a S_2) C0 KN X 0 rfl rfl inlX6 tyX6_ok nmX6 6 (by decide) kw_6_10 rfl rfl rfl (Nat.le_of_ble_eq_true rfl) (by subst eS_2; rfl) dX6_readTimes_7 (fun H locs X => ?_)
  refine lv_aload_n (pc := 10) hx hb dX6_readTimes_10 rfl (lv_at hl 0 rfl) ?_
  obtain ⟨P_3, h_4, hf⟩ := bd_e hf
  refine x_cv (pc := 11) (ws' := wd_Text G a P_3) (As := []) (rest := []) (ci := 6) (qr := 0) C0 KN X hA [0, 1, 2] [] [0, 1, 2] cu_C18 rfl cu_R18 rfl (by decide) (cu_J18 (S0 := S_2)) rfl (ct_X6_skipBlanks l G a S_2 P_3 h_4) rfl rfl rfl kw_29_3 kw_29_0 kw_29_1 kw_29_2 kw_2_11 hd_X6_skipBlanks ⟨by decide, by decide⟩ hl.1 rfl (Nat.le_of_ble_eq_true rfl) ⟨Nat.zero_le _, Nat.zero_le _⟩ dX6_readTimes_11 (fun H locs X => ?_)
  refine W.eq (g2 := F0 m 14 ls []) rfl ?_
  refine lv_aload_n (pc := 14) hx hb dX6_readTimes_14 rfl (lv_at hl 0 rfl) ?_
  refine x_get (pc := 15) (ci := 6) C0 KN X 0 rfl rfl inlX6 6 (by decide) kw_6_10 rfl dX6_readTimes_15 ?_
  refine W.eq (g2 := F0 m 18 ls [.int (gf_Text_cursor P_3)]) rfl ?_
  refine lv_topi (fun y_5 ey_5 => ?_)
  have hf := lt_sb hf ey_5
  refine lv_istore_n (pc := 18) (lv' := [(1, .int y_5), (0, .ref (a 0))]) hx hb dX6_readTimes_18 rfl hl (by decide) rfl (fun ls hl => ?_)
  refine lv_iconst (pc := 19) (v := 0) hx hb dX6_readTimes_19 (by decide) ?_
  refine lv_istore_n (pc := 20) (lv' := [(2, .int (0 : Int32)), (1, .int y_5), (0, .ref (a 0))]) hx hb dX6_readTimes_20 rfl hl (by decide) rfl (fun ls hl => ?_)
  refine lv_iconst (pc := 21) (v := 0) hx hb dX6_readTimes_21 (by decide) ?_
  refine lv_istore_n (pc := 22) (lv' := [(3, .int (0 : Int32)), (2, .int (0 : Int32)), (1, .int y_5), (0, .ref (a 0))]) hx hb dX6_readTimes_22 rfl hl (by decide) rfl (fun ls hl => ?_)
  refine lb_X6_readTimes_23 C0 KN hA _ _ _ ?_ _ _ _ _ _ hf _ _ _ X (lv_sub hl [3, 2, 1, 0] rfl)
  · intro S0_e78_18 x1_e78_18 x2_e78_18 hf H locs ls X hl
    exact lb_X6_readTimes_78 C0 KN hA _ _  _ _ _ hf _ _ _ X (lv_sub hl [0, 1, 2] rfl)
set_option maxHeartbeats 4000000 in
set_option maxRecDepth 100000 in
theorem lb_X6_readSigns_85 {l : Launch} {p : Program} {e : Env} {s : State} {m : MethodId} {args : Array Value} {below : List Frame} {meth : Method} {c : Code} {G : xG} {A : Nat → Prop} {a : Nat → Nat} (C0 : xC p s m meth c cX6_readSigns 5 (none) RX6 args) (KN : xKN G s) (hA : ∀ q, s.heap.size ≤ q → A q) (So0 : tt_Text) (k102 : tt_Text → Option tt_Text) (hk102 : ∀ (S0 : tt_Text), k102 S0 = some So0 → ∀ (H : Heap) (locs : List Loc) (ls : Array Slot), xS G A s.heap (wd_Text G a S0) H locs → lv_has ls 5 [(0, .ref (a 0))] → W p l e ({ frames := 3, cells := 0, slots := 0, locals := 64 }) s m args below meth c H locs 0 0 (MQ below (xQo G none A (wd_Text G a So0)) args s 0 0 A) (F0 m 102 ls [])) : ∀ (n : Nat) (S0 : tt_Text) (x1 : Int32) (x3 : Int32) (x4 : Int32), fl_X6_readSigns_85 k102 n S0 x1 x3 x4 = some So0 → ∀ (H : Heap) (locs : List Loc) (ls : Array Slot), xS G A s.heap (wd_Text G a S0) H locs → lv_has ls 5 [(0, .ref (a 0)), (1, .int x1), (3, .int x3), (4, .int x4)] → W p l e ({ frames := 3, cells := 0, slots := 0, locals := 64 }) s m args below meth c H locs 0 0 (MQ below (xQo G none A (wd_Text G a So0)) args s 0 0 A) (F0 m 85 ls []) := by
  have hx := C0.1
  have hb := C0.2.1
  intro n
  induction n with
  | zero =>
    intro S0 x1 x3 x4 hf
    have hf : none = some So0 := hf
    cases hf
  | succ n ih =>
    intro S0 x1 x3 x4 hf H locs ls X hl
    rw [fl_X6_readSigns_85] at hf
    refine lv_iload (pc := 85) hx hb dX6_readSigns_85 (lv_at hl 3 rfl) ?_
    refine lv_iload_n (pc := 87) hx hb dX6_readSigns_87 rfl (lv_at hl 2 rfl) ?_
    refine lv_icmp_ge (pc := 88) (tgt := 102) hx hb dX6_readSigns_88 (by decide) (fun c_12 => ?_) (fun c_12 => ?_)
    · have hf := it_p hf c_12
      exact hk102 _ hf _ _ _ X (lv_sub hl [0] rfl)
    · have hf := it_n hf c_12
      refine lv_aload_n (pc := 91) hx hb dX6_readSigns_91 rfl (lv_at hl 0 rfl) ?_
      refine lv_iload_n (pc := 92) hx hb dX6_readSigns_92 rfl (lv_at hl 1 rfl) ?_
      obtain ⟨P_13, h_14, hf⟩ := bd_e hf
      refine x_cv (pc := 93) (ws' := wd_Text G a P_13) (As := [.int x1]) (rest := []) (ci := 6) (qr := 0) C0 KN X hA [0, 1, 2] [] [0, 1, 2] cu_C18 rfl cu_R18 rfl (by decide) (cu_J18 (S0 := S0)) rfl (ct_X6_addSign l G a S0 x1 P_13 h_14) rfl rfl rfl kw_30_0 kw_29_21 kw_29_22 kw_29_23 kw_2_11 hd_X6_addSign ⟨by decide, by decide⟩ hl.1 rfl (Nat.le_of_ble_eq_true rfl) ⟨Nat.zero_le _, Nat.zero_le _⟩ dX6_readSigns_93 (fun H locs X => ?_)
      refine W.eq (g2 := F0 m 96 ls []) rfl ?_
      obtain ⟨y_15, ey_15⟩ : ∃ y : Int32, y = x4 + (1 : Int32) := ⟨_, rfl⟩
      have hf := lt_sb hf ey_15
      refine lv_iinc (pc := 96) (v := y_15) (lv' := [(4, .int y_15), (0, .ref (a 0)), (1, .int x1), (3, .int x3)]) hx hb dX6_readSigns_96 hl (k := 3) rfl (by rw [ey_15]; rfl) (by decide) rfl (fun ls hl => ?_)
      refine lv_goto (pc := 99) (tgt := 85) hx hb dX6_readSigns_99 (by decide) ?_
      exact ih _ _ _ _ hf _ _ _ X (lv_sub hl [1, 2, 3, 0] rfl)
set_option maxHeartbeats 4000000 in
set_option maxRecDepth 100000 in
theorem lb_X6_readSigns_53 {l : Launch} {p : Program} {e : Env} {s : State} {m : MethodId} {args : Array Value} {below : List Frame} {meth : Method} {c : Code} {G : xG} {A : Nat → Prop} {a : Nat → Nat} (C0 : xC p s m meth c cX6_readSigns 5 (none) RX6 args) (KN : xKN G s) (hA : ∀ q, s.heap.size ≤ q → A q) (So0 : tt_Text) : ∀ (S0 : tt_Text) (x1 : Int32) (x2 : Int32) (t0 : Int32), fn_X6_readSigns_53 S0 x1 x2 t0 = some So0 → ∀ (H : Heap) (locs : List Loc) (ls : Array Slot), xS G A s.heap (wd_Text G a S0) H locs → lv_has ls 5 [(0, .ref (a 0)), (1, .int x1), (2, .int x2)] → W p l e ({ frames := 3, cells := 0, slots := 0, locals := 64 }) s m args below meth c H locs 0 0 (MQ below (xQo G none A (wd_Text G a So0)) args s 0 0 A) (F0 m 53 ls [.int t0]) := by
  have hx := C0.1
  have hb := C0.2.1
  intro S0 x1 x2 t0 hf H locs ls X hl
  unfold fn_X6_readSigns_53 at hf
  refine lv_istore_n (pc := 53) (lv' := [(3, .int t0), (0, .ref (a 0)), (1, .int x1), (2, .int x2)]) hx hb dX6_readSigns_53 rfl hl (by decide) rfl (fun ls hl => ?_)
  refine lv_aload_n (pc := 54) hx hb dX6_readSigns_54 rfl (lv_at hl 1 rfl) ?_
  refine x_get (pc := 55) (ci := 6) C0 KN X 0 rfl rfl inlX6 4 (by decide) kw_6_8 rfl dX6_readSigns_55 ?_
  refine W.eq (g2 := F0 m 58 ls [.int (gf_Text_fault S0)]) rfl ?_
  refine lv_iconst (pc := 58) (v := (-1)) hx hb dX6_readSigns_58 (by decide) ?_
  refine lv_icmp_eq (pc := 59) (tgt := 63) hx hb dX6_readSigns_59 (by decide) (fun c_10 => ?_) (fun c_10 => ?_)
  · have hf := it_p hf c_10
    refine lv_aload_n (pc := 63) hx hb dX6_readSigns_63 rfl (lv_at hl 1 rfl) ?_
    refine x_get (pc := 64) (ci := 6) C0 KN X 0 rfl rfl inlX6 3 (by decide) kw_6_7 rfl dX6_readSigns_64 ?_
    refine W.eq (g2 := F0 m 67 ls [.int (gf_Text_found S0)]) rfl ?_
    refine lv_iload_n (pc := 67) hx hb dX6_readSigns_67 rfl (lv_at hl 0 rfl) ?_
    refine lv_iadd (pc := 68) hx hb dX6_readSigns_68 ?_
    refine lv_aload_n (pc := 69) hx hb dX6_readSigns_69 rfl (lv_at hl 1 rfl) ?_
    refine x_get (pc := 70) (ci := 6) C0 KN X 0 rfl rfl inlX6 5 (by decide) kw_6_9 rfl dX6_readSigns_70 ?_
    refine W.eq (g2 := F0 m 73 ls [.int (gf_Text_room S0), .int ((gf_Text_found S0) + t0)]) rfl ?_
    refine lv_icmp_le (pc := 73) (tgt := 82) hx hb dX6_readSigns_73 (by decide) (fun c_11 => ?_) (fun c_11 => ?_)
    · have hf := it_p hf c_11
      refine lv_iconst (pc := 82) (v := 0) hx hb dX6_readSigns_82 (by decide) ?_
      refine lv_istore (pc := 83) (lv' := [(4, .int (0 : Int32)), (3, .int t0), (0, .ref (a 0)), (1, .int x1), (2, .int x2)]) hx hb dX6_readSigns_83 hl (by decide) rfl (fun ls hl => ?_)
      refine lb_X6_readSigns_85 C0 KN hA _ _ ?_ _ _ _ _ _ hf _ _ _ X (lv_sub hl [2, 3, 1, 0] rfl)
      · intro S0_e102_16 hf H locs ls X hl
        obtain rfl := so_1 hf
        exact x_vret (pc := 102) C0 X dX6_readSigns_102
    · have hf := it_n hf c_11
      refine lv_aload_n (pc := 76) hx hb dX6_readSigns_76 rfl (lv_at hl 1 rfl) ?_
      refine lv_iload_n (pc := 77) hx hb dX6_readSigns_77 rfl (lv_at hl 3 rfl) ?_
      obtain ⟨S_17, eS_17, hf⟩ := lt_e hf
      refine x_put (pc := 78) (ci := 6) (ws' := wd_Text G a S_17) C0 KN X 0 rfl rfl inlX6 tyX6_ok nmX6 4 (by decide) kw_6_8 rfl rfl rfl (Nat.le_of_ble_eq_true rfl) (by subst eS_17; rfl) dX6_readSigns_78 (fun H locs X => ?_)
      obtain rfl := so_1 hf
      exact x_vret (pc := 81) C0 X dX6_readSigns_81
  · have hf := it_n hf c_10
    obtain rfl := so_1 hf
    exact x_vret (pc := 62) C0 X dX6_readSigns_62
theorem hd_X6_readSigns : yX6_readSigns.cls ≠ "java/lang/invoke/MethodHandle" ∧ yX6_readSigns.cls ≠ "java/lang/invoke/VarHandle" ∧ (parseMethodDescriptor yX6_readSigns.desc).map (fun d => d.parameters.length) = some 1 := by decide +kernel
set_option maxHeartbeats 4000000 in
set_option maxRecDepth 100000 in
theorem ct_X6_readSigns (l : Launch) (G : xG) (a : Nat → Nat) (S0 : tt_Text) (x1 : Int32) (So0 : tt_Text) (hf : fn_X6_readSigns S0 x1 = some So0) : xM l yX6_readSigns cX6_readSigns 5 (none) 3 64 G [.ref (a 0), .int x1] (wd_Text G a S0) (wd_Text G a So0) none := by
  refine xMi (by decide) (Nat.le_of_ble_eq_true rfl) ?_
  intro p e s m below meth c A C0 KN hA X ls hl
  have hx := C0.1
  have hb := C0.2.1
  have C0 : xC p s m meth c cX6_readSigns 5 (none) RX6 _ := C0
  have hl : lv_has ls 5 [(0, .ref (a 0)), (1, .int x1)] := hl
  unfold fn_X6_readSigns at hf
  refine lv_aload_n (pc := 0) hx hb dX6_readSigns_0 rfl (lv_at hl 0 rfl) ?_
  refine x_get (pc := 1) (ci := 6) C0 KN X 0 rfl rfl inlX6 6 (by decide) kw_6_10 rfl dX6_readSigns_1 ?_
  refine W.eq (g2 := F0 m 4 ls [.int (gf_Text_cursor S0)]) rfl ?_
  refine lv_topi (fun y_1 ey_1 => ?_)
  have hf := lt_sb hf ey_1
  refine lv_istore_n (pc := 4) (lv' := [(2, .int y_1), (0, .ref (a 0)), (1, .int x1)]) hx hb dX6_readSigns_4 rfl hl (by decide) rfl (fun ls hl => ?_)
  refine lv_aload_n (pc := 5) hx hb dX6_readSigns_5 rfl (lv_at hl 1 rfl) ?_
  refine x_get (pc := 6) (ci := 6) C0 KN X 0 rfl rfl inlX6 3 (by decide) kw_6_7 rfl dX6_readSigns_6 ?_
  refine W.eq (g2 := F0 m 9 ls [.int (gf_Text_found S0)]) rfl ?_
  refine lv_aload_n (pc := 9) hx hb dX6_readSigns_9 rfl (lv_at hl 1 rfl) ?_
  refine x_get (pc := 10) (ci := 6) C0 KN X 0 rfl rfl inlX6 5 (by decide) kw_6_9 rfl dX6_readSigns_10 ?_
  refine W.eq (g2 := F0 m 13 ls [.int (gf_Text_room S0), .int (gf_Text_found S0)]) rfl ?_
  refine lv_icmp_lt (pc := 13) (tgt := 22) hx hb dX6_readSigns_13 (by decide) (fun c_2 => ?_) (fun c_2 => ?_)
  · have hf := it_p hf c_2
    refine lv_aload_n (pc := 22) hx hb dX6_readSigns_22 rfl (lv_at hl 1 rfl) ?_
    refine lv_dup (pc := 23) hx hb dX6_readSigns_23 rfl ?_
    refine x_get (pc := 24) (ci := 6) C0 KN X 0 rfl rfl inlX6 6 (by decide) kw_6_10 rfl dX6_readSigns_24 ?_
    refine W.eq (g2 := F0 m 27 ls [.int (gf_Text_cursor S0), .ref (a 0)]) rfl ?_
    refine lv_iconst (pc := 27) (v := 1) hx hb dX6_readSigns_27 (by decide) ?_
    refine lv_iadd (pc := 28) hx hb dX6_readSigns_28 ?_
    refine lv_topi (fun y_3 ey_3 => ?_)
    have hf := lt_sb hf ey_3
    obtain ⟨S_4, eS_4, hf⟩ := lt_e hf
    refine x_put (pc := 29) (ci := 6) (ws' := wd_Text G a S_4) C0 KN X 0 rfl rfl inlX6 tyX6_ok nmX6 6 (by decide) kw_6_10 rfl rfl rfl (Nat.le_of_ble_eq_true rfl) (by subst eS_4; rfl) dX6_readSigns_29 (fun H locs X => ?_)
    refine lv_aload_n (pc := 32) hx hb dX6_readSigns_32 rfl (lv_at hl 1 rfl) ?_
    obtain ⟨P_5, h_6, hf⟩ := bd_e hf
    refine x_cv (pc := 33) (ws' := wd_Text G a P_5) (As := []) (rest := []) (ci := 6) (qr := 0) C0 KN X hA [0, 1, 2] [] [0, 1, 2] cu_C18 rfl cu_R18 rfl (by decide) (cu_J18 (S0 := S_4)) rfl (ct_X6_skipBlanks l G a S_4 P_5 h_6) rfl rfl rfl kw_29_3 kw_29_0 kw_29_1 kw_29_2 kw_2_11 hd_X6_skipBlanks ⟨by decide, by decide⟩ hl.1 rfl (Nat.le_of_ble_eq_true rfl) ⟨Nat.zero_le _, Nat.zero_le _⟩ dX6_readSigns_33 (fun H locs X => ?_)
    refine W.eq (g2 := F0 m 36 ls []) rfl ?_
    refine lv_aload_n (pc := 36) hx hb dX6_readSigns_36 rfl (lv_at hl 1 rfl) ?_
    obtain ⟨r_7, h_8, hf⟩ := bd_e hf
    refine x_cv (pc := 37) (ws' := wd_Text G a P_5) (As := []) (rest := []) (ci := 6) (qr := 0) C0 KN X hA [0, 1, 2] [] [0, 1, 2] cu_C17 rfl cu_R17 rfl (by decide) (cu_J17 (S0 := P_5)) rfl (ct_X6_here l G a P_5 r_7 h_8) rfl rfl rfl kw_29_7 kw_29_4 kw_29_5 kw_29_6 kw_2_11 hd_X6_here ⟨by decide, by decide⟩ hl.1 rfl (Nat.le_of_ble_eq_true rfl) ⟨Nat.zero_le _, Nat.zero_le _⟩ dX6_readSigns_37 (fun H locs X => ?_)
    refine W.eq (g2 := F0 m 40 ls [.int r_7]) rfl ?_
    refine lv_bipush (pc := 40) (v := 120) hx hb dX6_readSigns_40 (by decide) ?_
    refine lv_icmp_ne (pc := 42) (tgt := 52) hx hb dX6_readSigns_42 (by decide) (fun c_9 => ?_) (fun c_9 => ?_)
    · have hf := it_n hf c_9
      refine lv_iconst (pc := 52) (v := 1) hx hb dX6_readSigns_52 (by decide) ?_
      exact lb_X6_readSigns_53 C0 KN hA _  _ _ _ _ hf _ _ _ X (lv_sub hl [1, 2, 0] rfl)
    · have hf := it_p hf c_9
      refine lv_aload_n (pc := 45) hx hb dX6_readSigns_45 rfl (lv_at hl 1 rfl) ?_
      obtain ⟨r_18, P_19, h_20, hf⟩ := b2_e hf
      refine x_cv (pc := 46) (ws' := wd_Text G a P_19) (As := []) (rest := []) (ci := 6) (qr := 0) C0 KN X hA [0, 1, 2] [] [0, 1, 2] cu_C18 rfl cu_R18 rfl (by decide) (cu_J18 (S0 := P_5)) rfl (ct_X6_readTimes l G a P_5 r_18 P_19 h_20) rfl rfl rfl kw_29_19 kw_29_16 kw_29_17 kw_29_18 kw_2_11 hd_X6_readTimes ⟨by decide, by decide⟩ hl.1 rfl (Nat.le_of_ble_eq_true rfl) ⟨Nat.zero_le _, Nat.zero_le _⟩ dX6_readSigns_46 (fun H locs X => ?_)
      refine W.eq (g2 := F0 m 49 ls [.int r_18]) rfl ?_
      refine lv_goto (pc := 49) (tgt := 53) hx hb dX6_readSigns_49 (by decide) ?_
      exact lb_X6_readSigns_53 C0 KN hA _  _ _ _ _ hf _ _ _ X (lv_sub hl [1, 2, 0] rfl)
  · have hf := it_n hf c_2
    refine lv_aload_n (pc := 16) hx hb dX6_readSigns_16 rfl (lv_at hl 1 rfl) ?_
    refine lv_iload_n (pc := 17) hx hb dX6_readSigns_17 rfl (lv_at hl 0 rfl) ?_
    obtain ⟨S_21, eS_21, hf⟩ := lt_e hf
    refine x_put (pc := 18) (ci := 6) (ws' := wd_Text G a S_21) C0 KN X 0 rfl rfl inlX6 tyX6_ok nmX6 4 (by decide) kw_6_8 rfl rfl rfl (Nat.le_of_ble_eq_true rfl) (by subst eS_21; rfl) dX6_readSigns_18 (fun H locs X => ?_)
    obtain rfl := so_1 hf
    exact x_vret (pc := 21) C0 X dX6_readSigns_21
set_option maxHeartbeats 4000000 in
set_option maxRecDepth 100000 in
theorem lb_X6_readGroupEnd_90 {l : Launch} {p : Program} {e : Env} {s : State} {m : MethodId} {args : Array Value} {below : List Frame} {meth : Method} {c : Code} {G : xG} {A : Nat → Prop} {a : Nat → Nat} (C0 : xC p s m meth c cX6_readGroupEnd 6 (none) RX6 args) (KN : xKN G s) (hA : ∀ q, s.heap.size ≤ q → A q) (So0 : tt_Text) (k119 : tt_Text → Option tt_Text) (hk119 : ∀ (S0 : tt_Text), k119 S0 = some So0 → ∀ (H : Heap) (locs : List Loc) (ls : Array Slot), xS G A s.heap (wd_Text G a S0) H locs → lv_has ls 6 [(0, .ref (a 0))] → W p l e ({ frames := 3, cells := 0, slots := 0, locals := 64 }) s m args below meth c H locs 0 0 (MQ below (xQo G none A (wd_Text G a So0)) args s 0 0 A) (F0 m 119 ls [])) : ∀ (n : Nat) (S0 : tt_Text) (x2 : Int32) (x3 : Int32) (x4 : Int32) (x5 : Int32), fl_X6_readGroupEnd_90 k119 n S0 x2 x3 x4 x5 = some So0 → ∀ (H : Heap) (locs : List Loc) (ls : Array Slot), xS G A s.heap (wd_Text G a S0) H locs → lv_has ls 6 [(0, .ref (a 0)), (2, .int x2), (3, .int x3), (4, .int x4), (5, .int x5)] → W p l e ({ frames := 3, cells := 0, slots := 0, locals := 64 }) s m args below meth c H locs 0 0 (MQ below (xQo G none A (wd_Text G a So0)) args s 0 0 A) (F0 m 90 ls []) := by
  have hx := C0.1
  have hb := C0.2.1
  intro n
  induction n with
  | zero =>
    intro S0 x2 x3 x4 x5 hf
    have hf : none = some So0 := hf
    cases hf
  | succ n ih =>
    intro S0 x2 x3 x4 x5 hf H locs ls X hl
    rw [fl_X6_readGroupEnd_90] at hf
    refine lv_iload (pc := 90) hx hb dX6_readGroupEnd_90 (lv_at hl 4 rfl) ?_
    refine lv_iload (pc := 92) hx hb dX6_readGroupEnd_92 (lv_at hl 3 rfl) ?_
    refine lv_iload_n (pc := 94) hx hb dX6_readGroupEnd_94 rfl (lv_at hl 1 rfl) ?_
    refine lv_iconst (pc := 95) (v := 1) hx hb dX6_readGroupEnd_95 (by decide) ?_
    refine lv_isub (pc := 96) hx hb dX6_readGroupEnd_96 ?_
    refine lv_imul (pc := 97) hx hb dX6_readGroupEnd_97 ?_
    refine lv_icmp_ge (pc := 98) (tgt := 119) hx hb dX6_readGroupEnd_98 (by decide) (fun c_16 => ?_) (fun c_16 => ?_)
    · have hf := it_p hf c_16
      exact hk119 _ hf _ _ _ X (lv_sub hl [0] rfl)
    · have hf := it_n hf c_16
      refine lv_aload_n (pc := 101) hx hb dX6_readGroupEnd_101 rfl (lv_at hl 0 rfl) ?_
      refine lv_aload_n (pc := 102) hx hb dX6_readGroupEnd_102 rfl (lv_at hl 0 rfl) ?_
      refine lv_iload_n (pc := 103) hx hb dX6_readGroupEnd_103 rfl (lv_at hl 2 rfl) ?_
      refine lv_iload (pc := 104) hx hb dX6_readGroupEnd_104 (lv_at hl 4 rfl) ?_
      refine lv_iadd (pc := 106) hx hb dX6_readGroupEnd_106 ?_
      obtain ⟨r_17, h_18, hf⟩ := bd_e hf
      refine x_cv (pc := 107) (ws' := wd_Text G a S0) (As := [.int (x3 + x5)]) (rest := [.ref (a 0)]) (ci := 6) (qr := 0) C0 KN X hA [0, 1, 2] [] [0, 1, 2] cu_C17 rfl cu_R17 rfl (by decide) (cu_J17 (S0 := S0)) rfl (ct_X6_signAt l G a S0 (x3 + x5) r_17 h_18) rfl rfl rfl kw_30_11 kw_30_8 kw_30_9 kw_30_10 kw_2_11 hd_X6_signAt ⟨by decide, by decide⟩ hl.1 rfl (Nat.le_of_ble_eq_true rfl) ⟨Nat.zero_le _, Nat.zero_le _⟩ dX6_readGroupEnd_107 (fun H locs X => ?_)
      refine W.eq (g2 := F0 m 110 ls [.int r_17, .ref (a 0)]) rfl ?_
      obtain ⟨P_19, h_20, hf⟩ := bd_e hf
      refine x_cv (pc := 110) (ws' := wd_Text G a P_19) (As := [.int r_17]) (rest := []) (ci := 6) (qr := 0) C0 KN X hA [0, 1, 2] [] [0, 1, 2] cu_C18 rfl cu_R18 rfl (by decide) (cu_J18 (S0 := S0)) rfl (ct_X6_addSign l G a S0 r_17 P_19 h_20) rfl rfl rfl kw_30_0 kw_29_21 kw_29_22 kw_29_23 kw_2_11 hd_X6_addSign ⟨by decide, by decide⟩ hl.1 rfl (Nat.le_of_ble_eq_true rfl) ⟨Nat.zero_le _, Nat.zero_le _⟩ dX6_readGroupEnd_110 (fun H locs X => ?_)
      refine W.eq (g2 := F0 m 113 ls []) rfl ?_
      obtain ⟨y_21, ey_21⟩ : ∃ y : Int32, y = x5 + (1 : Int32) := ⟨_, rfl⟩
      have hf := lt_sb hf ey_21
      refine lv_iinc (pc := 113) (v := y_21) (lv' := [(5, .int y_21), (0, .ref (a 0)), (2, .int x2), (3, .int x3), (4, .int x4)]) hx hb dX6_readGroupEnd_113 hl (k := 4) rfl (by rw [ey_21]; rfl) (by decide) rfl (fun ls hl => ?_)
      refine lv_goto (pc := 116) (tgt := 90) hx hb dX6_readGroupEnd_116 (by decide) ?_
      exact ih _ _ _ _ _ hf _ _ _ X (lv_sub hl [1, 2, 3, 4, 0] rfl)
theorem hd_X6_readGroupEnd : yX6_readGroupEnd.cls ≠ "java/lang/invoke/MethodHandle" ∧ yX6_readGroupEnd.cls ≠ "java/lang/invoke/VarHandle" ∧ (parseMethodDescriptor yX6_readGroupEnd.desc).map (fun d => d.parameters.length) = some 0 := by decide +kernel
set_option maxHeartbeats 4000000 in
set_option maxRecDepth 100000 in
theorem ct_X6_readGroupEnd (l : Launch) (G : xG) (a : Nat → Nat) (S0 : tt_Text) (So0 : tt_Text) (hf : fn_X6_readGroupEnd S0 = some So0) : xM l yX6_readGroupEnd cX6_readGroupEnd 6 (none) 3 64 G [.ref (a 0)] (wd_Text G a S0) (wd_Text G a So0) none := by
  refine xMi (by decide) (Nat.le_of_ble_eq_true rfl) ?_
  intro p e s m below meth c A C0 KN hA X ls hl
  have hx := C0.1
  have hb := C0.2.1
  have C0 : xC p s m meth c cX6_readGroupEnd 6 (none) RX6 _ := C0
  have hl : lv_has ls 6 [(0, .ref (a 0))] := hl
  unfold fn_X6_readGroupEnd at hf
  refine lv_aload_n (pc := 0) hx hb dX6_readGroupEnd_0 rfl (lv_at hl 0 rfl) ?_
  refine x_get (pc := 1) (ci := 6) C0 KN X 0 rfl rfl inlX6 6 (by decide) kw_6_10 rfl dX6_readGroupEnd_1 ?_
  refine W.eq (g2 := F0 m 4 ls [.int (gf_Text_cursor S0)]) rfl ?_
  refine lv_topi (fun y_1 ey_1 => ?_)
  have hf := lt_sb hf ey_1
  refine lv_istore_n (pc := 4) (lv' := [(1, .int y_1), (0, .ref (a 0))]) hx hb dX6_readGroupEnd_4 rfl hl (by decide) rfl (fun ls hl => ?_)
  refine lv_aload_n (pc := 5) hx hb dX6_readGroupEnd_5 rfl (lv_at hl 1 rfl) ?_
  refine lv_dup (pc := 6) hx hb dX6_readGroupEnd_6 rfl ?_
  refine x_get (pc := 7) (ci := 6) C0 KN X 0 rfl rfl inlX6 6 (by decide) kw_6_10 rfl dX6_readGroupEnd_7 ?_
  refine W.eq (g2 := F0 m 10 ls [.int (gf_Text_cursor S0), .ref (a 0)]) rfl ?_
  refine lv_iconst (pc := 10) (v := 1) hx hb dX6_readGroupEnd_10 (by decide) ?_
  refine lv_iadd (pc := 11) hx hb dX6_readGroupEnd_11 ?_
  refine lv_topi (fun y_2 ey_2 => ?_)
  have hf := lt_sb hf ey_2
  obtain ⟨S_3, eS_3, hf⟩ := lt_e hf
  refine x_put (pc := 12) (ci := 6) (ws' := wd_Text G a S_3) C0 KN X 0 rfl rfl inlX6 tyX6_ok nmX6 6 (by decide) kw_6_10 rfl rfl rfl (Nat.le_of_ble_eq_true rfl) (by subst eS_3; rfl) dX6_readGroupEnd_12 (fun H locs X => ?_)
  refine lv_aload_n (pc := 15) hx hb dX6_readGroupEnd_15 rfl (lv_at hl 1 rfl) ?_
  obtain ⟨P_4, h_5, hf⟩ := bd_e hf
  refine x_cv (pc := 16) (ws' := wd_Text G a P_4) (As := []) (rest := []) (ci := 6) (qr := 0) C0 KN X hA [0, 1, 2] [] [0, 1, 2] cu_C18 rfl cu_R18 rfl (by decide) (cu_J18 (S0 := S_3)) rfl (ct_X6_skipBlanks l G a S_3 P_4 h_5) rfl rfl rfl kw_29_3 kw_29_0 kw_29_1 kw_29_2 kw_2_11 hd_X6_skipBlanks ⟨by decide, by decide⟩ hl.1 rfl (Nat.le_of_ble_eq_true rfl) ⟨Nat.zero_le _, Nat.zero_le _⟩ dX6_readGroupEnd_16 (fun H locs X => ?_)
  refine W.eq (g2 := F0 m 19 ls []) rfl ?_
  refine lv_aload_n (pc := 19) hx hb dX6_readGroupEnd_19 rfl (lv_at hl 1 rfl) ?_
  obtain ⟨r_6, h_7, hf⟩ := bd_e hf
  refine x_cv (pc := 20) (ws' := wd_Text G a P_4) (As := []) (rest := []) (ci := 6) (qr := 0) C0 KN X hA [0, 1, 2] [] [0, 1, 2] cu_C17 rfl cu_R17 rfl (by decide) (cu_J17 (S0 := P_4)) rfl (ct_X6_here l G a P_4 r_6 h_7) rfl rfl rfl kw_29_7 kw_29_4 kw_29_5 kw_29_6 kw_2_11 hd_X6_here ⟨by decide, by decide⟩ hl.1 rfl (Nat.le_of_ble_eq_true rfl) ⟨Nat.zero_le _, Nat.zero_le _⟩ dX6_readGroupEnd_20 (fun H locs X => ?_)
  refine W.eq (g2 := F0 m 23 ls [.int r_6]) rfl ?_
  refine lv_bipush (pc := 23) (v := 120) hx hb dX6_readGroupEnd_23 (by decide) ?_
  refine lv_icmp_eq (pc := 25) (tgt := 37) hx hb dX6_readGroupEnd_25 (by decide) (fun c_8 => ?_) (fun c_8 => ?_)
  · have hf := it_p hf c_8
    refine lv_aload_n (pc := 37) hx hb dX6_readGroupEnd_37 rfl (lv_at hl 1 rfl) ?_
    obtain ⟨r_9, P_10, h_11, hf⟩ := b2_e hf
    refine x_cv (pc := 38) (ws' := wd_Text G a P_10) (As := []) (rest := []) (ci := 6) (qr := 0) C0 KN X hA [0, 1, 2] [] [0, 1, 2] cu_C18 rfl cu_R18 rfl (by decide) (cu_J18 (S0 := P_4)) rfl (ct_X6_readTimes l G a P_4 r_9 P_10 h_11) rfl rfl rfl kw_29_19 kw_29_16 kw_29_17 kw_29_18 kw_2_11 hd_X6_readTimes ⟨by decide, by decide⟩ hl.1 rfl (Nat.le_of_ble_eq_true rfl) ⟨Nat.zero_le _, Nat.zero_le _⟩ dX6_readGroupEnd_38 (fun H locs X => ?_)
    refine W.eq (g2 := F0 m 41 ls [.int r_9]) rfl ?_
    refine lv_istore_n (pc := 41) (lv' := [(2, .int r_9), (1, .int y_1), (0, .ref (a 0))]) hx hb dX6_readGroupEnd_41 rfl hl (by decide) rfl (fun ls hl => ?_)
    refine lv_aload_n (pc := 42) hx hb dX6_readGroupEnd_42 rfl (lv_at hl 2 rfl) ?_
    refine x_get (pc := 43) (ci := 6) C0 KN X 0 rfl rfl inlX6 4 (by decide) kw_6_8 rfl dX6_readGroupEnd_43 ?_
    refine W.eq (g2 := F0 m 46 ls [.int (gf_Text_fault P_10)]) rfl ?_
    refine lv_iconst (pc := 46) (v := (-1)) hx hb dX6_readGroupEnd_46 (by decide) ?_
    refine lv_icmp_eq (pc := 47) (tgt := 51) hx hb dX6_readGroupEnd_47 (by decide) (fun c_12 => ?_) (fun c_12 => ?_)
    · have hf := it_p hf c_12
      refine lv_iconst (pc := 51) (v := 0) hx hb dX6_readGroupEnd_51 (by decide) ?_
      refine lv_aload_n (pc := 52) hx hb dX6_readGroupEnd_52 rfl (lv_at hl 2 rfl) ?_
      refine x_get (pc := 53) (ci := 6) C0 KN X 0 rfl rfl inlX6 7 (by decide) kw_6_11 rfl dX6_readGroupEnd_53 ?_
      refine W.eq (g2 := F0 m 56 ls [.int (gf_Text_groupStart P_10), .int (0 : Int32)]) rfl ?_
      refine x_mmax (pc := 56) C0 hl.1 kw_30_5 kw_30_6 kw_9_2 kw_30_7 (by decide) (Nat.le_of_ble_eq_true rfl) ⟨Nat.zero_le _, Nat.zero_le _⟩ dX6_readGroupEnd_56 ?_
      refine lv_topi (fun y_13 ey_13 => ?_)
      have hf := lt_sb hf ey_13
      refine lv_istore_n (pc := 59) (lv' := [(3, .int y_13), (2, .int r_9), (1, .int y_1), (0, .ref (a 0))]) hx hb dX6_readGroupEnd_59 rfl hl (by decide) rfl (fun ls hl => ?_)
      refine lv_aload_n (pc := 60) hx hb dX6_readGroupEnd_60 rfl (lv_at hl 3 rfl) ?_
      refine x_get (pc := 61) (ci := 6) C0 KN X 0 rfl rfl inlX6 3 (by decide) kw_6_7 rfl dX6_readGroupEnd_61 ?_
      refine W.eq (g2 := F0 m 64 ls [.int (gf_Text_found P_10)]) rfl ?_
      refine lv_iload_n (pc := 64) hx hb dX6_readGroupEnd_64 rfl (lv_at hl 0 rfl) ?_
      refine lv_isub (pc := 65) hx hb dX6_readGroupEnd_65 ?_
      refine lv_topi (fun y_14 ey_14 => ?_)
      have hf := lt_sb hf ey_14
      refine lv_istore (pc := 66) (lv' := [(4, .int y_14), (3, .int y_13), (2, .int r_9), (1, .int y_1), (0, .ref (a 0))]) hx hb dX6_readGroupEnd_66 hl (by decide) rfl (fun ls hl => ?_)
      refine lv_iload_n (pc := 68) hx hb dX6_readGroupEnd_68 rfl (lv_at hl 1 rfl) ?_
      refine lv_iload (pc := 69) hx hb dX6_readGroupEnd_69 (lv_at hl 0 rfl) ?_
      refine lv_iload_n (pc := 71) hx hb dX6_readGroupEnd_71 rfl (lv_at hl 2 rfl) ?_
      refine lv_imul (pc := 72) hx hb dX6_readGroupEnd_72 ?_
      refine lv_iadd (pc := 73) hx hb dX6_readGroupEnd_73 ?_
      refine lv_aload_n (pc := 74) hx hb dX6_readGroupEnd_74 rfl (lv_at hl 4 rfl) ?_
      refine x_get (pc := 75) (ci := 6) C0 KN X 0 rfl rfl inlX6 5 (by decide) kw_6_9 rfl dX6_readGroupEnd_75 ?_
      refine W.eq (g2 := F0 m 78 ls [.int (gf_Text_room P_10), .int (y_13 + (y_14 * r_9))]) rfl ?_
      refine lv_icmp_le (pc := 78) (tgt := 87) hx hb dX6_readGroupEnd_78 (by decide) (fun c_15 => ?_) (fun c_15 => ?_)
      · have hf := it_p hf c_15
        refine lv_iconst (pc := 87) (v := 0) hx hb dX6_readGroupEnd_87 (by decide) ?_
        refine lv_istore (pc := 88) (lv' := [(5, .int (0 : Int32)), (4, .int y_14), (3, .int y_13), (2, .int r_9), (1, .int y_1), (0, .ref (a 0))]) hx hb dX6_readGroupEnd_88 hl (by decide) rfl (fun ls hl => ?_)
        refine lb_X6_readGroupEnd_90 C0 KN hA _ _ ?_ _ _ _ _ _ _ hf _ _ _ X (lv_sub hl [5, 3, 2, 1, 0] rfl)
        · intro S0_e119_22 hf H locs ls X hl
          refine lv_aload_n (pc := 119) hx hb dX6_readGroupEnd_119 rfl (lv_at hl 0 rfl) ?_
          refine lv_iconst (pc := 120) (v := (-1)) hx hb dX6_readGroupEnd_120 (by decide) ?_
          obtain ⟨S_23, eS_23, hf⟩ := lt_e hf
          refine x_put (pc := 121) (ci := 6) (ws' := wd_Text G a S_23) C0 KN X 0 rfl rfl inlX6 tyX6_ok nmX6 7 (by decide) kw_6_11 rfl rfl rfl (Nat.le_of_ble_eq_true rfl) (by subst eS_23; rfl) dX6_readGroupEnd_121 (fun H locs X => ?_)
          obtain rfl := so_1 hf
          exact x_vret (pc := 124) C0 X dX6_readGroupEnd_124
      · have hf := it_n hf c_15
        refine lv_aload_n (pc := 81) hx hb dX6_readGroupEnd_81 rfl (lv_at hl 4 rfl) ?_
        refine lv_iload_n (pc := 82) hx hb dX6_readGroupEnd_82 rfl (lv_at hl 3 rfl) ?_
        obtain ⟨S_24, eS_24, hf⟩ := lt_e hf
        refine x_put (pc := 83) (ci := 6) (ws' := wd_Text G a S_24) C0 KN X 0 rfl rfl inlX6 tyX6_ok nmX6 4 (by decide) kw_6_8 rfl rfl rfl (Nat.le_of_ble_eq_true rfl) (by subst eS_24; rfl) dX6_readGroupEnd_83 (fun H locs X => ?_)
        obtain rfl := so_1 hf
        exact x_vret (pc := 86) C0 X dX6_readGroupEnd_86
    · have hf := it_n hf c_12
      obtain rfl := so_1 hf
      exact x_vret (pc := 50) C0 X dX6_readGroupEnd_50
  · have hf := it_n hf c_8
    refine lv_aload_n (pc := 28) hx hb dX6_readGroupEnd_28 rfl (lv_at hl 1 rfl) ?_
    refine lv_aload_n (pc := 29) hx hb dX6_readGroupEnd_29 rfl (lv_at hl 1 rfl) ?_
    refine x_get (pc := 30) (ci := 6) C0 KN X 0 rfl rfl inlX6 6 (by decide) kw_6_10 rfl dX6_readGroupEnd_30 ?_
    refine W.eq (g2 := F0 m 33 ls [.int (gf_Text_cursor P_4), .ref (a 0)]) rfl ?_
    refine lv_topi (fun y_25 ey_25 => ?_)
    have hf := lt_sb hf ey_25
    obtain ⟨S_26, eS_26, hf⟩ := lt_e hf
    refine x_put (pc := 33) (ci := 6) (ws' := wd_Text G a S_26) C0 KN X 0 rfl rfl inlX6 tyX6_ok nmX6 4 (by decide) kw_6_8 rfl rfl rfl (Nat.le_of_ble_eq_true rfl) (by subst eS_26; rfl) dX6_readGroupEnd_33 (fun H locs X => ?_)
    obtain rfl := so_1 hf
    exact x_vret (pc := 36) C0 X dX6_readGroupEnd_36
set_option maxHeartbeats 4000000 in
set_option maxRecDepth 100000 in
theorem lb_X6_readPiece_17 {l : Launch} {p : Program} {e : Env} {s : State} {m : MethodId} {args : Array Value} {below : List Frame} {meth : Method} {c : Code} {G : xG} {A : Nat → Prop} {a : Nat → Nat} (C0 : xC p s m meth c cX6_readPiece 2 (none) RX6 args) (KN : xKN G s) (hA : ∀ q, s.heap.size ≤ q → A q) (So0 : tt_Text) : ∀ (S0 : tt_Text) (x1 : Int32), fn_X6_readPiece_17 S0 x1 = some So0 → ∀ (H : Heap) (locs : List Loc) (ls : Array Slot), xS G A s.heap (wd_Text G a S0) H locs → lv_has ls 2 [(0, .ref (a 0)), (1, .int x1)] → W p l e ({ frames := 4, cells := 0, slots := 0, locals := 89 }) s m args below meth c H locs 0 0 (MQ below (xQo G none A (wd_Text G a So0)) args s 0 0 A) (F0 m 17 ls []) := by
  have hx := C0.1
  have hb := C0.2.1
  intro S0 x1 hf H locs ls X hl
  unfold fn_X6_readPiece_17 at hf
  refine lv_aload_n (pc := 17) hx hb dX6_readPiece_17 rfl (lv_at hl 0 rfl) ?_
  refine lv_iload_n (pc := 18) hx hb dX6_readPiece_18 rfl (lv_at hl 1 rfl) ?_
  refine lv_bipush (pc := 19) (v := 48) hx hb dX6_readPiece_19 (by decide) ?_
  refine lv_isub (pc := 21) hx hb dX6_readPiece_21 ?_
  obtain ⟨P_4, h_5, hf⟩ := bd_e hf
  refine x_cv (pc := 22) (ws' := wd_Text G a P_4) (As := [.int (x1 - (48 : Int32))]) (rest := []) (ci := 6) (qr := 0) C0 KN X hA [0, 1, 2] [] [0, 1, 2] cu_C18 rfl cu_R18 rfl (by decide) (cu_J18 (S0 := S0)) rfl (ct_X6_readSigns l G a S0 (x1 - (48 : Int32)) P_4 h_5) rfl rfl rfl kw_29_15 kw_29_12 kw_29_13 kw_29_14 kw_2_11 hd_X6_readSigns ⟨by decide, by decide⟩ hl.1 rfl (Nat.le_of_ble_eq_true rfl) ⟨Nat.zero_le _, Nat.zero_le _⟩ dX6_readPiece_22 (fun H locs X => ?_)
  refine W.eq (g2 := F0 m 25 ls []) rfl ?_
  refine lv_goto (pc := 25) (tgt := 103) hx hb dX6_readPiece_25 (by decide) ?_
  obtain rfl := so_1 hf
  exact x_vret (pc := 103) C0 X dX6_readPiece_103
set_option maxHeartbeats 4000000 in
set_option maxRecDepth 100000 in
theorem lb_X6_readPiece_95 {l : Launch} {p : Program} {e : Env} {s : State} {m : MethodId} {args : Array Value} {below : List Frame} {meth : Method} {c : Code} {G : xG} {A : Nat → Prop} {a : Nat → Nat} (C0 : xC p s m meth c cX6_readPiece 2 (none) RX6 args) (KN : xKN G s) (hA : ∀ q, s.heap.size ≤ q → A q) (So0 : tt_Text) : ∀ (S0 : tt_Text), fn_X6_readPiece_95 S0 = some So0 → ∀ (H : Heap) (locs : List Loc) (ls : Array Slot), xS G A s.heap (wd_Text G a S0) H locs → lv_has ls 2 [(0, .ref (a 0))] → W p l e ({ frames := 4, cells := 0, slots := 0, locals := 89 }) s m args below meth c H locs 0 0 (MQ below (xQo G none A (wd_Text G a So0)) args s 0 0 A) (F0 m 95 ls []) := by
  have hx := C0.1
  have hb := C0.2.1
  intro S0 hf H locs ls X hl
  unfold fn_X6_readPiece_95 at hf
  refine lv_aload_n (pc := 95) hx hb dX6_readPiece_95 rfl (lv_at hl 0 rfl) ?_
  refine lv_aload_n (pc := 96) hx hb dX6_readPiece_96 rfl (lv_at hl 0 rfl) ?_
  refine x_get (pc := 97) (ci := 6) C0 KN X 0 rfl rfl inlX6 6 (by decide) kw_6_10 rfl dX6_readPiece_97 ?_
  refine W.eq (g2 := F0 m 100 ls [.int (gf_Text_cursor S0), .ref (a 0)]) rfl ?_
  refine lv_topi (fun y_9 ey_9 => ?_)
  have hf := lt_sb hf ey_9
  obtain ⟨S_10, eS_10, hf⟩ := lt_e hf
  refine x_put (pc := 100) (ci := 6) (ws' := wd_Text G a S_10) C0 KN X 0 rfl rfl inlX6 tyX6_ok nmX6 4 (by decide) kw_6_8 rfl rfl rfl (Nat.le_of_ble_eq_true rfl) (by subst eS_10; rfl) dX6_readPiece_100 (fun H locs X => ?_)
  obtain rfl := so_1 hf
  exact x_vret (pc := 103) C0 X dX6_readPiece_103
set_option maxHeartbeats 4000000 in
set_option maxRecDepth 100000 in
theorem lb_X6_readPiece_63 {l : Launch} {p : Program} {e : Env} {s : State} {m : MethodId} {args : Array Value} {below : List Frame} {meth : Method} {c : Code} {G : xG} {A : Nat → Prop} {a : Nat → Nat} (C0 : xC p s m meth c cX6_readPiece 2 (none) RX6 args) (KN : xKN G s) (hA : ∀ q, s.heap.size ≤ q → A q) (So0 : tt_Text) : ∀ (S0 : tt_Text) (x1 : Int32), fn_X6_readPiece_63 S0 x1 = some So0 → ∀ (H : Heap) (locs : List Loc) (ls : Array Slot), xS G A s.heap (wd_Text G a S0) H locs → lv_has ls 2 [(0, .ref (a 0)), (1, .int x1)] → W p l e ({ frames := 4, cells := 0, slots := 0, locals := 89 }) s m args below meth c H locs 0 0 (MQ below (xQo G none A (wd_Text G a So0)) args s 0 0 A) (F0 m 63 ls []) := by
  have hx := C0.1
  have hb := C0.2.1
  intro S0 x1 hf H locs ls X hl
  unfold fn_X6_readPiece_63 at hf
  refine lv_iload_n (pc := 63) hx hb dX6_readPiece_63 rfl (lv_at hl 1 rfl) ?_
  refine lv_bipush (pc := 64) (v := 41) hx hb dX6_readPiece_64 (by decide) ?_
  refine lv_icmp_ne (pc := 66) (tgt := 95) hx hb dX6_readPiece_66 (by decide) (fun c_8 => ?_) (fun c_8 => ?_)
  · have hf := it_n hf c_8
    exact lb_X6_readPiece_95 C0 KN hA _  _ hf _ _ _ X (lv_sub hl [0] rfl)
  · have hf := it_p hf c_8
    refine lv_aload_n (pc := 69) hx hb dX6_readPiece_69 rfl (lv_at hl 0 rfl) ?_
    refine x_get (pc := 70) (ci := 6) C0 KN X 0 rfl rfl inlX6 7 (by decide) kw_6_11 rfl dX6_readPiece_70 ?_
    refine W.eq (g2 := F0 m 73 ls [.int (gf_Text_groupStart S0)]) rfl ?_
    refine lv_iconst (pc := 73) (v := (-1)) hx hb dX6_readPiece_73 (by decide) ?_
    refine lv_icmp_eq (pc := 74) (tgt := 95) hx hb dX6_readPiece_74 (by decide) (fun c_11 => ?_) (fun c_11 => ?_)
    · have hf := it_p hf c_11
      exact lb_X6_readPiece_95 C0 KN hA _  _ hf _ _ _ X (lv_sub hl [0] rfl)
    · have hf := it_n hf c_11
      refine lv_aload_n (pc := 77) hx hb dX6_readPiece_77 rfl (lv_at hl 0 rfl) ?_
      refine x_get (pc := 78) (ci := 6) C0 KN X 0 rfl rfl inlX6 3 (by decide) kw_6_7 rfl dX6_readPiece_78 ?_
      refine W.eq (g2 := F0 m 81 ls [.int (gf_Text_found S0)]) rfl ?_
      refine lv_aload_n (pc := 81) hx hb dX6_readPiece_81 rfl (lv_at hl 0 rfl) ?_
      refine x_get (pc := 82) (ci := 6) C0 KN X 0 rfl rfl inlX6 7 (by decide) kw_6_11 rfl dX6_readPiece_82 ?_
      refine W.eq (g2 := F0 m 85 ls [.int (gf_Text_groupStart S0), .int (gf_Text_found S0)]) rfl ?_
      refine lv_icmp_le (pc := 85) (tgt := 95) hx hb dX6_readPiece_85 (by decide) (fun c_12 => ?_) (fun c_12 => ?_)
      · have hf := it_p hf c_12
        exact lb_X6_readPiece_95 C0 KN hA _  _ hf _ _ _ X (lv_sub hl [0] rfl)
      · have hf := it_n hf c_12
        refine lv_aload_n (pc := 88) hx hb dX6_readPiece_88 rfl (lv_at hl 0 rfl) ?_
        obtain ⟨P_13, h_14, hf⟩ := bd_e hf
        refine x_cv (pc := 89) (ws' := wd_Text G a P_13) (As := []) (rest := []) (ci := 6) (qr := 0) C0 KN X hA [0, 1, 2] [] [0, 1, 2] cu_C18 rfl cu_R18 rfl (by decide) (cu_J18 (S0 := S0)) rfl (ct_X6_readGroupEnd l G a S0 P_13 h_14) rfl rfl rfl kw_30_4 kw_30_1 kw_30_2 kw_30_3 kw_2_11 hd_X6_readGroupEnd ⟨by decide, by decide⟩ hl.1 rfl (Nat.le_of_ble_eq_true rfl) ⟨Nat.zero_le _, Nat.zero_le _⟩ dX6_readPiece_89 (fun H locs X => ?_)
        refine W.eq (g2 := F0 m 92 ls []) rfl ?_
        refine lv_goto (pc := 92) (tgt := 103) hx hb dX6_readPiece_92 (by decide) ?_
        obtain rfl := so_1 hf
        exact x_vret (pc := 103) C0 X dX6_readPiece_103
theorem hd_X6_readPiece : yX6_readPiece.cls ≠ "java/lang/invoke/MethodHandle" ∧ yX6_readPiece.cls ≠ "java/lang/invoke/VarHandle" ∧ (parseMethodDescriptor yX6_readPiece.desc).map (fun d => d.parameters.length) = some 0 := by decide +kernel
set_option maxHeartbeats 4000000 in
set_option maxRecDepth 100000 in
theorem ct_X6_readPiece (l : Launch) (G : xG) (a : Nat → Nat) (S0 : tt_Text) (So0 : tt_Text) (hf : fn_X6_readPiece S0 = some So0) : xM l yX6_readPiece cX6_readPiece 2 (none) 4 89 G [.ref (a 0)] (wd_Text G a S0) (wd_Text G a So0) none := by
  refine xMi (by decide) (Nat.le_of_ble_eq_true rfl) ?_
  intro p e s m below meth c A C0 KN hA X ls hl
  have hx := C0.1
  have hb := C0.2.1
  have C0 : xC p s m meth c cX6_readPiece 2 (none) RX6 _ := C0
  have hl : lv_has ls 2 [(0, .ref (a 0))] := hl
  unfold fn_X6_readPiece at hf
  refine lv_aload_n (pc := 0) hx hb dX6_readPiece_0 rfl (lv_at hl 0 rfl) ?_
  obtain ⟨r_1, h_2, hf⟩ := bd_e hf
  refine x_cv (pc := 1) (ws' := wd_Text G a S0) (As := []) (rest := []) (ci := 6) (qr := 0) C0 KN X hA [0, 1, 2] [] [0, 1, 2] cu_C17 rfl cu_R17 rfl (by decide) (cu_J17 (S0 := S0)) rfl (ct_X6_here l G a S0 r_1 h_2) rfl rfl rfl kw_29_7 kw_29_4 kw_29_5 kw_29_6 kw_2_11 hd_X6_here ⟨by decide, by decide⟩ hl.1 rfl (Nat.le_of_ble_eq_true rfl) ⟨Nat.zero_le _, Nat.zero_le _⟩ dX6_readPiece_1 (fun H locs X => ?_)
  refine W.eq (g2 := F0 m 4 ls [.int r_1]) rfl ?_
  refine lv_istore_n (pc := 4) (lv' := [(1, .int r_1), (0, .ref (a 0))]) hx hb dX6_readPiece_4 rfl hl (by decide) rfl (fun ls hl => ?_)
  refine lv_iload_n (pc := 5) hx hb dX6_readPiece_5 rfl (lv_at hl 0 rfl) ?_
  refine lv_bipush (pc := 6) (v := 48) hx hb dX6_readPiece_6 (by decide) ?_
  refine lv_icmp_eq (pc := 8) (tgt := 17) hx hb dX6_readPiece_8 (by decide) (fun c_3 => ?_) (fun c_3 => ?_)
  · have hf := it_p hf c_3
    exact lb_X6_readPiece_17 C0 KN hA _  _ _ hf _ _ _ X (lv_sub hl [1, 0] rfl)
  · have hf := it_n hf c_3
    refine lv_iload_n (pc := 11) hx hb dX6_readPiece_11 rfl (lv_at hl 0 rfl) ?_
    refine lv_bipush (pc := 12) (v := 49) hx hb dX6_readPiece_12 (by decide) ?_
    refine lv_icmp_ne (pc := 14) (tgt := 28) hx hb dX6_readPiece_14 (by decide) (fun c_6 => ?_) (fun c_6 => ?_)
    · have hf := it_n hf c_6
      refine lv_iload_n (pc := 28) hx hb dX6_readPiece_28 rfl (lv_at hl 0 rfl) ?_
      refine lv_bipush (pc := 29) (v := 40) hx hb dX6_readPiece_29 (by decide) ?_
      refine lv_icmp_ne (pc := 31) (tgt := 63) hx hb dX6_readPiece_31 (by decide) (fun c_7 => ?_) (fun c_7 => ?_)
      · have hf := it_n hf c_7
        exact lb_X6_readPiece_63 C0 KN hA _  _ _ hf _ _ _ X (lv_sub hl [1, 0] rfl)
      · have hf := it_p hf c_7
        refine lv_aload_n (pc := 34) hx hb dX6_readPiece_34 rfl (lv_at hl 1 rfl) ?_
        refine x_get (pc := 35) (ci := 6) C0 KN X 0 rfl rfl inlX6 7 (by decide) kw_6_11 rfl dX6_readPiece_35 ?_
        refine W.eq (g2 := F0 m 38 ls [.int (gf_Text_groupStart S0)]) rfl ?_
        refine lv_iconst (pc := 38) (v := (-1)) hx hb dX6_readPiece_38 (by decide) ?_
        refine lv_icmp_ne (pc := 39) (tgt := 63) hx hb dX6_readPiece_39 (by decide) (fun c_15 => ?_) (fun c_15 => ?_)
        · have hf := it_n hf c_15
          exact lb_X6_readPiece_63 C0 KN hA _  _ _ hf _ _ _ X (lv_sub hl [1, 0] rfl)
        · have hf := it_p hf c_15
          refine lv_aload_n (pc := 42) hx hb dX6_readPiece_42 rfl (lv_at hl 1 rfl) ?_
          refine lv_aload_n (pc := 43) hx hb dX6_readPiece_43 rfl (lv_at hl 1 rfl) ?_
          refine x_get (pc := 44) (ci := 6) C0 KN X 0 rfl rfl inlX6 3 (by decide) kw_6_7 rfl dX6_readPiece_44 ?_
          refine W.eq (g2 := F0 m 47 ls [.int (gf_Text_found S0), .ref (a 0)]) rfl ?_
          refine lv_topi (fun y_16 ey_16 => ?_)
          have hf := lt_sb hf ey_16
          obtain ⟨S_17, eS_17, hf⟩ := lt_e hf
          refine x_put (pc := 47) (ci := 6) (ws' := wd_Text G a S_17) C0 KN X 0 rfl rfl inlX6 tyX6_ok nmX6 7 (by decide) kw_6_11 rfl rfl rfl (Nat.le_of_ble_eq_true rfl) (by subst eS_17; rfl) dX6_readPiece_47 (fun H locs X => ?_)
          refine lv_aload_n (pc := 50) hx hb dX6_readPiece_50 rfl (lv_at hl 1 rfl) ?_
          refine lv_dup (pc := 51) hx hb dX6_readPiece_51 rfl ?_
          refine x_get (pc := 52) (ci := 6) C0 KN X 0 rfl rfl inlX6 6 (by decide) kw_6_10 rfl dX6_readPiece_52 ?_
          refine W.eq (g2 := F0 m 55 ls [.int (gf_Text_cursor S_17), .ref (a 0)]) rfl ?_
          refine lv_iconst (pc := 55) (v := 1) hx hb dX6_readPiece_55 (by decide) ?_
          refine lv_iadd (pc := 56) hx hb dX6_readPiece_56 ?_
          refine lv_topi (fun y_18 ey_18 => ?_)
          have hf := lt_sb hf ey_18
          obtain ⟨S_19, eS_19, hf⟩ := lt_e hf
          refine x_put (pc := 57) (ci := 6) (ws' := wd_Text G a S_19) C0 KN X 0 rfl rfl inlX6 tyX6_ok nmX6 6 (by decide) kw_6_10 rfl rfl rfl (Nat.le_of_ble_eq_true rfl) (by subst eS_19; rfl) dX6_readPiece_57 (fun H locs X => ?_)
          refine lv_goto (pc := 60) (tgt := 103) hx hb dX6_readPiece_60 (by decide) ?_
          obtain rfl := so_1 hf
          exact x_vret (pc := 103) C0 X dX6_readPiece_103
    · have hf := it_p hf c_6
      exact lb_X6_readPiece_17 C0 KN hA _  _ _ hf _ _ _ X (lv_sub hl [1, 0] rfl)
set_option maxHeartbeats 4000000 in
set_option maxRecDepth 100000 in
theorem lb_X6_read_34 {l : Launch} {p : Program} {e : Env} {s : State} {m : MethodId} {args : Array Value} {below : List Frame} {meth : Method} {c : Code} {G : xG} {A : Nat → Prop} {a : Nat → Nat} (C0 : xC p s m meth c cX6_read 3 (none) RX6 args) (KN : xKN G s) (hA : ∀ q, s.heap.size ≤ q → A q) (So0 : tt_Text) (k63 : tt_Text → Option tt_Text) (hk63 : ∀ (S0 : tt_Text), k63 S0 = some So0 → ∀ (H : Heap) (locs : List Loc) (ls : Array Slot), xS G A s.heap (wd_Text G a S0) H locs → lv_has ls 3 [(0, .ref (a 0))] → W p l e ({ frames := 5, cells := 0, slots := 0, locals := 110 }) s m args below meth c H locs 0 0 (MQ below (xQo G none A (wd_Text G a So0)) args s 0 0 A) (F0 m 63 ls [])) (k76 : tt_Text → Option tt_Text) (hk76 : ∀ (S0 : tt_Text), k76 S0 = some So0 → ∀ (H : Heap) (locs : List Loc) (ls : Array Slot), xS G A s.heap (wd_Text G a S0) H locs → lv_has ls 3 [(0, .ref (a 0))] → W p l e ({ frames := 5, cells := 0, slots := 0, locals := 110 }) s m args below meth c H locs 0 0 (MQ below (xQo G none A (wd_Text G a So0)) args s 0 0 A) (F0 m 76 ls [])) : ∀ (n : Nat) (S0 : tt_Text) (x2 : Int32), fl_X6_read_34 k63 k76 n S0 x2 = some So0 → ∀ (H : Heap) (locs : List Loc) (ls : Array Slot), xS G A s.heap (wd_Text G a S0) H locs → lv_has ls 3 [(0, .ref (a 0)), (2, .int x2)] → W p l e ({ frames := 5, cells := 0, slots := 0, locals := 110 }) s m args below meth c H locs 0 0 (MQ below (xQo G none A (wd_Text G a So0)) args s 0 0 A) (F0 m 34 ls []) := by
  have hx := C0.1
  have hb := C0.2.1
  intro n
  induction n with
  | zero =>
    intro S0 x2 hf
    have hf : none = some So0 := hf
    cases hf
  | succ n ih =>
    intro S0 x2 hf H locs ls X hl
    rw [fl_X6_read_34] at hf
    refine lv_iload_n (pc := 34) hx hb dX6_read_34 rfl (lv_at hl 1 rfl) ?_
    refine lv_bipush (pc := 35) (v := 120) hx hb dX6_read_35 (by decide) ?_
    refine lv_icmp_ge (pc := 37) (tgt := 76) hx hb dX6_read_37 (by decide) (fun c_8 => ?_) (fun c_8 => ?_)
    · have hf := it_p hf c_8
      exact hk76 _ hf _ _ _ X (lv_sub hl [0] rfl)
    · have hf := it_n hf c_8
      refine lv_aload_n (pc := 40) hx hb dX6_read_40 rfl (lv_at hl 0 rfl) ?_
      refine x_get (pc := 41) (ci := 6) C0 KN X 0 rfl rfl inlX6 4 (by decide) kw_6_8 rfl dX6_read_41 ?_
      refine W.eq (g2 := F0 m 44 ls [.int (gf_Text_fault S0)]) rfl ?_
      refine lv_iconst (pc := 44) (v := (-1)) hx hb dX6_read_44 (by decide) ?_
      refine lv_icmp_ne (pc := 45) (tgt := 76) hx hb dX6_read_45 (by decide) (fun c_9 => ?_) (fun c_9 => ?_)
      · have hf := it_n hf c_9
        exact hk76 _ hf _ _ _ X (lv_sub hl [0] rfl)
      · have hf := it_p hf c_9
        refine lv_aload_n (pc := 48) hx hb dX6_read_48 rfl (lv_at hl 0 rfl) ?_
        obtain ⟨P_10, h_11, hf⟩ := bd_e hf
        refine x_cv (pc := 49) (ws' := wd_Text G a P_10) (As := []) (rest := []) (ci := 6) (qr := 0) C0 KN X hA [0, 1, 2] [] [0, 1, 2] cu_C18 rfl cu_R18 rfl (by decide) (cu_J18 (S0 := S0)) rfl (ct_X6_skipBlanks l G a S0 P_10 h_11) rfl rfl rfl kw_29_3 kw_29_0 kw_29_1 kw_29_2 kw_2_11 hd_X6_skipBlanks ⟨by decide, by decide⟩ hl.1 rfl (Nat.le_of_ble_eq_true rfl) ⟨Nat.zero_le _, Nat.zero_le _⟩ dX6_read_49 (fun H locs X => ?_)
        refine W.eq (g2 := F0 m 52 ls []) rfl ?_
        refine lv_aload_n (pc := 52) hx hb dX6_read_52 rfl (lv_at hl 0 rfl) ?_
        refine x_get (pc := 53) (ci := 6) C0 KN X 0 rfl rfl inlX6 6 (by decide) kw_6_10 rfl dX6_read_53 ?_
        refine W.eq (g2 := F0 m 56 ls [.int (gf_Text_cursor P_10)]) rfl ?_
        refine lv_aload_n (pc := 56) hx hb dX6_read_56 rfl (lv_at hl 0 rfl) ?_
        refine x_get (pc := 57) (ci := 6) C0 KN X 0 rfl rfl inlX6 2 (by decide) kw_6_6 rfl dX6_read_57 ?_
        refine W.eq (g2 := F0 m 60 ls [.int (gf_Text_length P_10), .int (gf_Text_cursor P_10)]) rfl ?_
        refine lv_icmp_lt (pc := 60) (tgt := 66) hx hb dX6_read_60 (by decide) (fun c_12 => ?_) (fun c_12 => ?_)
        · have hf := it_p hf c_12
          refine lv_aload_n (pc := 66) hx hb dX6_read_66 rfl (lv_at hl 0 rfl) ?_
          obtain ⟨P_13, h_14, hf⟩ := bd_e hf
          refine x_cv (pc := 67) (ws' := wd_Text G a P_13) (As := []) (rest := []) (ci := 6) (qr := 0) C0 KN X hA [0, 1, 2] [] [0, 1, 2] cu_C18 rfl cu_R18 rfl (by decide) (cu_J18 (S0 := P_10)) rfl (ct_X6_readPiece l G a P_10 P_13 h_14) rfl rfl rfl kw_29_11 kw_29_8 kw_29_9 kw_29_10 kw_2_11 hd_X6_readPiece ⟨by decide, by decide⟩ hl.1 rfl (Nat.le_of_ble_eq_true rfl) ⟨Nat.zero_le _, Nat.zero_le _⟩ dX6_read_67 (fun H locs X => ?_)
          refine W.eq (g2 := F0 m 70 ls []) rfl ?_
          obtain ⟨y_15, ey_15⟩ : ∃ y : Int32, y = x2 + (1 : Int32) := ⟨_, rfl⟩
          have hf := lt_sb hf ey_15
          refine lv_iinc (pc := 70) (v := y_15) (lv' := [(2, .int y_15), (0, .ref (a 0))]) hx hb dX6_read_70 hl (k := 1) rfl (by rw [ey_15]; rfl) (by decide) rfl (fun ls hl => ?_)
          refine lv_goto (pc := 73) (tgt := 34) hx hb dX6_read_73 (by decide) ?_
          exact ih _ _ hf _ _ _ X (lv_sub hl [1, 0] rfl)
        · have hf := it_n hf c_12
          exact hk63 _ hf _ _ _ X (lv_sub hl [0] rfl)
set_option maxHeartbeats 4000000 in
set_option maxRecDepth 100000 in
theorem lb_X6_read_76 {l : Launch} {p : Program} {e : Env} {s : State} {m : MethodId} {args : Array Value} {below : List Frame} {meth : Method} {c : Code} {G : xG} {A : Nat → Prop} {a : Nat → Nat} (C0 : xC p s m meth c cX6_read 3 (none) RX6 args) (KN : xKN G s) (hA : ∀ q, s.heap.size ≤ q → A q) (So0 : tt_Text) : ∀ (S0 : tt_Text), fn_X6_read_76 S0 = some So0 → ∀ (H : Heap) (locs : List Loc) (ls : Array Slot), xS G A s.heap (wd_Text G a S0) H locs → lv_has ls 3 [(0, .ref (a 0))] → W p l e ({ frames := 5, cells := 0, slots := 0, locals := 110 }) s m args below meth c H locs 0 0 (MQ below (xQo G none A (wd_Text G a So0)) args s 0 0 A) (F0 m 76 ls []) := by
  have hx := C0.1
  have hb := C0.2.1
  intro S0 hf H locs ls X hl
  unfold fn_X6_read_76 at hf
  refine lv_aload_n (pc := 76) hx hb dX6_read_76 rfl (lv_at hl 0 rfl) ?_
  refine x_get (pc := 77) (ci := 6) C0 KN X 0 rfl rfl inlX6 4 (by decide) kw_6_8 rfl dX6_read_77 ?_
  refine W.eq (g2 := F0 m 80 ls [.int (gf_Text_fault S0)]) rfl ?_
  refine lv_iconst (pc := 80) (v := (-1)) hx hb dX6_read_80 (by decide) ?_
  refine lv_icmp_ne (pc := 81) (tgt := 100) hx hb dX6_read_81 (by decide) (fun c_17 => ?_) (fun c_17 => ?_)
  · have hf := it_n hf c_17
    obtain rfl := so_1 hf
    exact x_vret (pc := 100) C0 X dX6_read_100
  · have hf := it_p hf c_17
    refine lv_aload_n (pc := 84) hx hb dX6_read_84 rfl (lv_at hl 0 rfl) ?_
    refine x_get (pc := 85) (ci := 6) C0 KN X 0 rfl rfl inlX6 7 (by decide) kw_6_11 rfl dX6_read_85 ?_
    refine W.eq (g2 := F0 m 88 ls [.int (gf_Text_groupStart S0)]) rfl ?_
    refine lv_iconst (pc := 88) (v := (-1)) hx hb dX6_read_88 (by decide) ?_
    refine lv_icmp_eq (pc := 89) (tgt := 100) hx hb dX6_read_89 (by decide) (fun c_18 => ?_) (fun c_18 => ?_)
    · have hf := it_p hf c_18
      obtain rfl := so_1 hf
      exact x_vret (pc := 100) C0 X dX6_read_100
    · have hf := it_n hf c_18
      refine lv_aload_n (pc := 92) hx hb dX6_read_92 rfl (lv_at hl 0 rfl) ?_
      refine lv_aload_n (pc := 93) hx hb dX6_read_93 rfl (lv_at hl 0 rfl) ?_
      refine x_get (pc := 94) (ci := 6) C0 KN X 0 rfl rfl inlX6 2 (by decide) kw_6_6 rfl dX6_read_94 ?_
      refine W.eq (g2 := F0 m 97 ls [.int (gf_Text_length S0), .ref (a 0)]) rfl ?_
      refine lv_topi (fun y_19 ey_19 => ?_)
      have hf := lt_sb hf ey_19
      obtain ⟨S_20, eS_20, hf⟩ := lt_e hf
      refine x_put (pc := 97) (ci := 6) (ws' := wd_Text G a S_20) C0 KN X 0 rfl rfl inlX6 tyX6_ok nmX6 4 (by decide) kw_6_8 rfl rfl rfl (Nat.le_of_ble_eq_true rfl) (by subst eS_20; rfl) dX6_read_97 (fun H locs X => ?_)
      obtain rfl := so_1 hf
      exact x_vret (pc := 100) C0 X dX6_read_100
theorem hd_X6_read : yX6_read.cls ≠ "java/lang/invoke/MethodHandle" ∧ yX6_read.cls ≠ "java/lang/invoke/VarHandle" ∧ (parseMethodDescriptor yX6_read.desc).map (fun d => d.parameters.length) = some 1 := by decide +kernel
set_option maxHeartbeats 4000000 in
set_option maxRecDepth 100000 in
theorem ct_X6_read (l : Launch) (G : xG) (a : Nat → Nat) (S0 : tt_Text) (x1 : Int32) (So0 : tt_Text) (hf : fn_X6_read S0 x1 = some So0) : xM l yX6_read cX6_read 3 (none) 5 110 G [.ref (a 0), .int x1] (wd_Text G a S0) (wd_Text G a So0) none := by
  refine xMi (by decide) (Nat.le_of_ble_eq_true rfl) ?_
  intro p e s m below meth c A C0 KN hA X ls hl
  have hx := C0.1
  have hb := C0.2.1
  have C0 : xC p s m meth c cX6_read 3 (none) RX6 _ := C0
  have hl : lv_has ls 3 [(0, .ref (a 0)), (1, .int x1)] := hl
  unfold fn_X6_read at hf
  refine lv_aload_n (pc := 0) hx hb dX6_read_0 rfl (lv_at hl 0 rfl) ?_
  refine lv_iload_n (pc := 1) hx hb dX6_read_1 rfl (lv_at hl 1 rfl) ?_
  refine lv_i2l (pc := 2) (v := x1.toInt64) hx hb dX6_read_2 rfl ?_
  refine lv_iconst (pc := 3) (v := 0) hx hb dX6_read_3 (by decide) ?_
  refine lv_bipush (pc := 4) (v := 100) hx hb dX6_read_4 (by decide) ?_
  obtain ⟨r_1, h_2, hf⟩ := bd_e hf
  refine x_csN (pc := 6) (As := [.long x1.toInt64, .int (0 : Int32), .int (100 : Int32)]) (rest := [.ref (a 0)]) C0 KN (ct_X8_kept l x1.toInt64 (0 : Int32) (100 : Int32) r_1 h_2) kw_4_2 (List.mem_of_getElem? (i := 20) rfl) kw_4_1 kw_1_2 hd_X8_kept ⟨by decide, by decide⟩ hl.1 rfl (Nat.le_of_ble_eq_true rfl) ⟨Nat.zero_le _, Nat.zero_le _⟩ dX6_read_6 ?_
  refine W.eq (g2 := F0 m 9 ls [.int r_1, .ref (a 0)]) rfl ?_
  obtain ⟨S_3, eS_3, hf⟩ := lt_e hf
  refine x_put (pc := 9) (ci := 6) (ws' := wd_Text G a S_3) C0 KN X 0 rfl rfl inlX6 tyX6_ok nmX6 5 (by decide) kw_6_9 rfl rfl rfl (Nat.le_of_ble_eq_true rfl) (by subst eS_3; rfl) dX6_read_9 (fun H locs X => ?_)
  refine lv_aload_n (pc := 12) hx hb dX6_read_12 rfl (lv_at hl 0 rfl) ?_
  refine lv_iconst (pc := 13) (v := 0) hx hb dX6_read_13 (by decide) ?_
  obtain ⟨S_4, eS_4, hf⟩ := lt_e hf
  refine x_put (pc := 14) (ci := 6) (ws' := wd_Text G a S_4) C0 KN X 0 rfl rfl inlX6 tyX6_ok nmX6 3 (by decide) kw_6_7 rfl rfl rfl (Nat.le_of_ble_eq_true rfl) (by subst eS_4; rfl) dX6_read_14 (fun H locs X => ?_)
  refine lv_aload_n (pc := 17) hx hb dX6_read_17 rfl (lv_at hl 0 rfl) ?_
  refine lv_iconst (pc := 18) (v := (-1)) hx hb dX6_read_18 (by decide) ?_
  obtain ⟨S_5, eS_5, hf⟩ := lt_e hf
  refine x_put (pc := 19) (ci := 6) (ws' := wd_Text G a S_5) C0 KN X 0 rfl rfl inlX6 tyX6_ok nmX6 4 (by decide) kw_6_8 rfl rfl rfl (Nat.le_of_ble_eq_true rfl) (by subst eS_5; rfl) dX6_read_19 (fun H locs X => ?_)
  refine lv_aload_n (pc := 22) hx hb dX6_read_22 rfl (lv_at hl 0 rfl) ?_
  refine lv_iconst (pc := 23) (v := 0) hx hb dX6_read_23 (by decide) ?_
  obtain ⟨S_6, eS_6, hf⟩ := lt_e hf
  refine x_put (pc := 24) (ci := 6) (ws' := wd_Text G a S_6) C0 KN X 0 rfl rfl inlX6 tyX6_ok nmX6 6 (by decide) kw_6_10 rfl rfl rfl (Nat.le_of_ble_eq_true rfl) (by subst eS_6; rfl) dX6_read_24 (fun H locs X => ?_)
  refine lv_aload_n (pc := 27) hx hb dX6_read_27 rfl (lv_at hl 0 rfl) ?_
  refine lv_iconst (pc := 28) (v := (-1)) hx hb dX6_read_28 (by decide) ?_
  obtain ⟨S_7, eS_7, hf⟩ := lt_e hf
  refine x_put (pc := 29) (ci := 6) (ws' := wd_Text G a S_7) C0 KN X 0 rfl rfl inlX6 tyX6_ok nmX6 7 (by decide) kw_6_11 rfl rfl rfl (Nat.le_of_ble_eq_true rfl) (by subst eS_7; rfl) dX6_read_29 (fun H locs X => ?_)
  refine lv_iconst (pc := 32) (v := 0) hx hb dX6_read_32 (by decide) ?_
  refine lv_istore_n (pc := 33) (lv' := [(2, .int (0 : Int32)), (0, .ref (a 0)), (1, .int x1)]) hx hb dX6_read_33 rfl hl (by decide) rfl (fun ls hl => ?_)
  refine lb_X6_read_34 C0 KN hA _ _ ?_ _ ?_ _ _ _ hf _ _ _ X (lv_sub hl [1, 0] rfl)
  · intro S0_e63_16 hf H locs ls X hl
    refine lv_goto (pc := 63) (tgt := 76) hx hb dX6_read_63 (by decide) ?_
    exact lb_X6_read_76 C0 KN hA _  _ hf _ _ _ X (lv_sub hl [0] rfl)
  · intro S0_e76_21 hf H locs ls X hl
    exact lb_X6_read_76 C0 KN hA _  _ hf _ _ _ X (lv_sub hl [0] rfl)
