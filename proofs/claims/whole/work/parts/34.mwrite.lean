def fn_X9_goesOut_59 (S0 : tt_Model) (x1 : Int64) : Option tt_Model :=
  lt_ ((x1 - x1 / (256 : Int64) * (256 : Int64)).toInt32) fun y_3 => gd_ (ix_ (gf_Model_outLong S0) 256) (lt_ (sf_Model_out S0 (upd (gf_Model_out S0) (gf_Model_outLong S0).toNatClampNeg y_3)) fun S_5 => lt_ ((gf_Model_outLong S_5) + (1 : Int32)) fun y_6 => lt_ (sf_Model_outLong S_5 y_6) fun S_7 => lt_ (((gf_Model_low S_7) - (gf_Model_low S_7) / (16777216 : Int64) * (16777216 : Int64)) * (256 : Int64)) fun y_8 => lt_ (sf_Model_low S_7 y_8) fun S_9 => some S_9)
def fl_X9_goesOut_24 (k49 : tt_Model → Int64 → Int32 → Option tt_Model) : Nat → tt_Model → Int64 → Int32 → Option tt_Model
  | 0, _, _, _ => none
  | n + 1, S0, x1, x3 =>
  gd_ (ix_ x3 256) (if ((gf_Model_out S0) x3.toNatClampNeg) = (255 : Int32) then gd_ (ix_ x3 256) (lt_ (sf_Model_out S0 (upd (gf_Model_out S0) x3.toNatClampNeg (0 : Int32))) fun S_14 => lt_ (x3 + (-1 : Int32)) fun y_15 => fl_X9_goesOut_24 k49 n S_14 x1 y_15) else k49 S0 x1 x3)
def fn_X9_goesOut (S0 : tt_Model) : Option tt_Model :=
  lt_ ((gf_Model_low S0) / (16777216 : Int64)) fun y_1 => if y_1 ≤ (255 : Int64) then fn_X9_goesOut_59 S0 y_1 else lt_ ((gf_Model_outLong S0) - (1 : Int32)) fun y_10 => fl_X9_goesOut_24 (fun (S0_e49_16 : tt_Model) (x1_e49_16 : Int64) (x3_e49_16 : Int32) => gd_ (ix_ x3_e49_16 256) (lt_ (((gf_Model_out S0_e49_16) x3_e49_16.toNatClampNeg) + (1 : Int32)) fun y_18 => gd_ (ix_ x3_e49_16 256) (lt_ (sf_Model_out S0_e49_16 (upd (gf_Model_out S0_e49_16) x3_e49_16.toNatClampNeg y_18)) fun S_20 => fn_X9_goesOut_59 S_20 x1_e49_16))) fu_ S0 y_1 y_10
def fl_X9_writes_94 (k115 : tt_Model → Int64 → Int32 → Option tt_Model) : Nat → tt_Model → Int64 → Int32 → Option tt_Model
  | 0, _, _, _ => none
  | n + 1, S0, x1, x4 =>
  if (16777216 : Int64) ≤ x1 then k115 S0 x1 x4 else bd_ (fn_X9_goesOut S0) fun P_18 => lt_ (x1 * (256 : Int64)) fun y_20 => fl_X9_writes_94 k115 n P_18 y_20 x4
def fn_X9_writes_93 (k22 : tt_Model → Int64 → Int32 → Option tt_Model) (S0 : tt_Model) (x4 : Int32) (t0 : Int64) : Option tt_Model :=
  fl_X9_writes_94 (fun (S0_e115_21 : tt_Model) (x1_e115_21 : Int64) (x4_e115_21 : Int32) => lt_ (x4_e115_21 + (1 : Int32)) fun y_22 => k22 S0_e115_21 x1_e115_21 y_22) fu_ S0 t0 x4
def fn_X9_writes_69 (k22 : tt_Model → Int64 → Int32 → Option tt_Model) (S0 : tt_Model) (x1 : Int64) (x4 : Int32) (x5 : Int64) (t1 : Int64) (t2 : Int64) : Option tt_Model :=
  lt_ (t1 + t2) fun y_13 => lt_ (sf_Model_low S0 y_13) fun S_14 => gd_ (ix_ x4 103) (if ((gf_Model_now S_14) x4.toNatClampNeg) = (1 : Int32) then fn_X9_writes_93 k22 S_14 x4 x5 else fn_X9_writes_93 k22 S_14 x4 (x1 - x5))
def fl_X9_writes_22 (k121 : tt_Model → Option tt_Model) : Nat → tt_Model → Int64 → Int32 → Option tt_Model
  | 0, _, _, _ => none
  | n + 1, S0, x1, x4 =>
  bd_ (fn_X9_many S0) fun r_6 => if r_6 ≤ x4 then k121 S0 else gd_ (ix_ x4 128) (lt_ ((x1 / (65536 : Int64)) * (((gf_Model_guessAt S0) x4.toNatClampNeg).toInt64)) fun y_10 => gd_ (ix_ x4 103) (if ((gf_Model_now S0) x4.toNatClampNeg) = (1 : Int32) then fn_X9_writes_69 (fl_X9_writes_22 k121 n) S0 x1 x4 y_10 (gf_Model_low S0) (0 : Int64) else fn_X9_writes_69 (fl_X9_writes_22 k121 n) S0 x1 x4 y_10 (gf_Model_low S0) y_10))
def fl_X9_writes_124 (k140 : tt_Model → Option tt_Model) : Nat → tt_Model → Int32 → Option tt_Model
  | 0, _, _ => none
  | n + 1, S0, x4 =>
  if (4 : Int32) ≤ x4 then k140 S0 else bd_ (fn_X9_goesOut S0) fun P_25 => lt_ (x4 + (1 : Int32)) fun y_27 => fl_X9_writes_124 k140 n P_25 y_27
def fn_X9_writes (S0 : tt_Model) : Option tt_Model :=
  lt_ (sf_Model_low S0 (0 : Int64)) fun S_1 => lt_ (sf_Model_outLong S_1 (0 : Int32)) fun S_2 => b2_ (fn_X9_goesNow S_2) fun r_3 P_4 => fl_X9_writes_22 (fun (S0_e121_23 : tt_Model) => fl_X9_writes_124 (fun (S0_e140_28 : tt_Model) => some S0_e140_28) fu_ S0_e121_23 (0 : Int32)) fu_ P_4 (4294967296 : Int64) (0 : Int32)
def fn_X9_written (S0 : tt_Model) (x1 : Int32) : Option (Int32 × tt_Model) :=
  if (-1 : Int32) ≤ x1 then bd_ (fn_X9_writes S0) fun P_2 => if x1 = (-1 : Int32) then some (gf_Model_outLong P_2, P_2) else if (gf_Model_outLong P_2) ≤ x1 then some ((-5 : Int32), P_2) else gd_ (ix_ x1 256) (some ((gf_Model_out P_2) x1.toNatClampNeg, P_2)) else b2_ (fn_X9_bad S0 (-10 : Int32)) fun r_7 P_8 => some (r_7, P_8)
def fn_X9_byteAt (S0 : tt_Model) (x1 : Int32) : Option Int32 :=
  if (gf_Model_outLong S0) ≤ x1 then some (0 : Int32) else gd_ (ix_ x1 256) (some ((gf_Model_out S0) x1.toNatClampNeg))
def fn_X9_reads_39 (S0 : tt_Model) : Option (Int32 × tt_Model) :=
  b2_ (fn_X9_bad S0 (-2 : Int32)) fun r_6 P_7 => some (r_6, P_7)
def fl_X9_reads_71 (k97 : tt_Model → Int64 → Int64 → Int32 → Option (Int32 × tt_Model)) : Nat → tt_Model → Int64 → Int64 → Int32 → Option (Int32 × tt_Model)
  | 0, _, _, _, _ => none
  | n + 1, S0, x3, x5, x7 =>
  if (4 : Int32) ≤ x7 then k97 S0 x3 x5 x7 else bd_ (fn_X9_byteAt S0 x7) fun r_12 => lt_ (((256 : Int64) * x3) + r_12.toInt64) fun y_14 => lt_ (x7 + (1 : Int32)) fun y_15 => fl_X9_reads_71 k97 n S0 y_14 x5 y_15
def fl_X9_reads_185 (k222 : tt_Model → Int64 → Int64 → Int32 → Int32 → Int32 → Int32 → Option (Int32 × tt_Model)) : Nat → tt_Model → Int64 → Int64 → Int32 → Int32 → Int32 → Int32 → Option (Int32 × tt_Model)
  | 0, _, _, _, _, _, _, _ => none
  | n + 1, S0, x3, x5, x7, x8, x9, x12 =>
  if (16777216 : Int64) ≤ x5 then k222 S0 x3 x5 x7 x8 x9 x12 else bd_ (fn_X9_byteAt S0 x7) fun r_35 => lt_ (((256 : Int64) * x3) + r_35.toInt64) fun y_37 => lt_ (x5 * (256 : Int64)) fun y_38 => lt_ (x7 + (1 : Int32)) fun y_39 => fl_X9_reads_185 k222 n S0 y_37 y_38 y_39 x8 x9 x12
def fn_X9_reads_247 (k115 : tt_Model → Int64 → Int64 → Int32 → Int32 → Int32 → Option (Int32 × tt_Model)) (S0 : tt_Model) (x3 : Int64) (x5 : Int64) (x7 : Int32) (x9 : Int32) (t0 : Int32) (t1 : Int32) : Option (Int32 × tt_Model) :=
  lt_ (t0 + t1) fun y_45 => lt_ (x9 + (1 : Int32)) fun y_46 => k115 S0 x3 x5 x7 y_45 y_46
def fn_X9_reads_183 (k115 : tt_Model → Int64 → Int64 → Int32 → Int32 → Int32 → Option (Int32 × tt_Model)) (S0 : tt_Model) (x3 : Int64) (x7 : Int32) (x8 : Int32) (x9 : Int32) (x12 : Int32) (t0 : Int64) : Option (Int32 × tt_Model) :=
  fl_X9_reads_185 (fun (S0_e222_40 : tt_Model) (x3_e222_40 : Int64) (x5_e222_40 : Int64) (x7_e222_40 : Int32) (x8_e222_40 : Int32) (x9_e222_40 : Int32) (x12_e222_40 : Int32) => bd_ (fn_X9_comes S0_e222_40 x12_e222_40) fun P_41 => gd_ (ix_ x9_e222_40 103) (if x12_e222_40 = ((gf_Model_now P_41) x9_e222_40.toNatClampNeg) then fn_X9_reads_247 k115 P_41 x3_e222_40 x5_e222_40 x7_e222_40 x9_e222_40 x8_e222_40 (1 : Int32) else fn_X9_reads_247 k115 P_41 x3_e222_40 x5_e222_40 x7_e222_40 x9_e222_40 x8_e222_40 (0 : Int32))) fu_ S0 x3 t0 x7 x8 x9 x12
def fn_X9_reads_165 (k115 : tt_Model → Int64 → Int64 → Int32 → Int32 → Int32 → Option (Int32 × tt_Model)) (S0 : tt_Model) (x5 : Int64) (x7 : Int32) (x8 : Int32) (x9 : Int32) (x10 : Int64) (x12 : Int32) (t0 : Int64) (t1 : Int64) : Option (Int32 × tt_Model) :=
  lt_ (t0 - t1) fun y_32 => if x12 = (1 : Int32) then fn_X9_reads_183 k115 S0 y_32 x7 x8 x9 x12 x10 else fn_X9_reads_183 k115 S0 y_32 x7 x8 x9 x12 (x5 - x10)
def fn_X9_reads_150 (k115 : tt_Model → Int64 → Int64 → Int32 → Int32 → Int32 → Option (Int32 × tt_Model)) (S0 : tt_Model) (x3 : Int64) (x5 : Int64) (x7 : Int32) (x8 : Int32) (x9 : Int32) (x10 : Int64) (t0 : Int32) : Option (Int32 × tt_Model) :=
  if t0 = (1 : Int32) then fn_X9_reads_165 k115 S0 x5 x7 x8 x9 x10 t0 x3 (0 : Int64) else fn_X9_reads_165 k115 S0 x5 x7 x8 x9 x10 t0 x3 x10
def fl_X9_reads_115 (k256 : tt_Model → Int32 → Option (Int32 × tt_Model)) : Nat → tt_Model → Int64 → Int64 → Int32 → Int32 → Int32 → Option (Int32 × tt_Model)
  | 0, _, _, _, _, _, _ => none
  | n + 1, S0, x3, x5, x7, x8, x9 =>
  bd_ (fn_X9_many S0) fun r_23 => if r_23 ≤ x9 then k256 S0 x8 else b2_ (fn_X9_guesses S0) fun r_26 P_27 => lt_ ((x5 / (65536 : Int64)) * r_26.toInt64) fun y_29 => if y_29 ≤ x3 then fn_X9_reads_150 (fl_X9_reads_115 k256 n) P_27 x3 x5 x7 x8 x9 y_29 (0 : Int32) else fn_X9_reads_150 (fl_X9_reads_115 k256 n) P_27 x3 x5 x7 x8 x9 y_29 (1 : Int32)
def fn_X9_reads_61 (S0 : tt_Model) : Option (Int32 × tt_Model) :=
  fl_X9_reads_71 (fun (S0_e97_16 : tt_Model) (x3_e97_16 : Int64) (x5_e97_16 : Int64) (x7_e97_16 : Int32) => bd_ (fn_X9_depth S0_e97_16) fun r_17 => bd_ (fn_X9_guesser S0_e97_16) fun r_19 => bd_ (fn_X9_begins S0_e97_16 r_17 r_19) fun P_21 => fl_X9_reads_115 (fun (S0_e256_47 : tt_Model) (x8_e256_47 : Int32) => some (x8_e256_47, S0_e256_47)) fu_ P_21 x3_e97_16 x5_e97_16 x7_e97_16 (0 : Int32) (0 : Int32)) fu_ S0 (0 : Int64) (4294967296 : Int64) (0 : Int32)
def fn_X9_reads_46 (S0 : tt_Model) (x1 : Int32) (x2 : Int32) : Option (Int32 × tt_Model) :=
  if x1 = (-1 : Int32) then fn_X9_reads_61 S0 else gd_ (ix_ x1 256) (lt_ (((gf_Model_out S0) x1.toNatClampNeg) ^^^ x2) fun y_49 => gd_ (ix_ x1 256) (lt_ (sf_Model_out S0 (upd (gf_Model_out S0) x1.toNatClampNeg y_49)) fun S_51 => fn_X9_reads_61 S_51))
def fn_X9_reads (S0 : tt_Model) (x1 : Int32) (x2 : Int32) : Option (Int32 × tt_Model) :=
  bd_ (fn_X9_writes S0) fun P_1 => bd_ (fn_X9_in x1.toInt64 (-1 : Int64) (((gf_Model_outLong P_1) - (1 : Int32)).toInt64)) fun r_3 => if r_3 = 0 then fn_X9_reads_39 P_1 else if x1 = (-1 : Int32) then fn_X9_reads_46 P_1 x1 x2 else bd_ (fn_X9_in x2.toInt64 (1 : Int64) (255 : Int64)) fun r_52 => if r_52 = 0 then fn_X9_reads_39 P_1 else fn_X9_reads_46 P_1 x1 x2

set_option maxHeartbeats 4000000 in
set_option maxRecDepth 100000 in
theorem lb_X9_goesOut_59 {l : Launch} {p : Program} {e : Env} {s : State} {m : MethodId} {args : Array Value} {below : List Frame} {meth : Method} {c : Code} {G : xG} {A : Nat → Prop} {a : Nat → Nat} (C0 : xC p s m meth c cX9_goesOut 4 (none) RX9 args) (KN : xKN G s) (hA : ∀ q, s.heap.size ≤ q → A q) (So0 : tt_Model) : ∀ (S0 : tt_Model) (x1 : Int64), fn_X9_goesOut_59 S0 x1 = some So0 → ∀ (H : Heap) (locs : List Loc) (ls : Array Slot), xS G A s.heap (wd_Model G a S0) H locs → lv_has ls 4 [(0, .ref (a 0)), (1, .long x1)] → W p l e ({ frames := 0, cells := 0, slots := 0, locals := 0 }) s m args below meth c H locs 0 0 (MQ below (xQo G none A (wd_Model G a So0)) args s 0 0 A) (F0 m 59 ls []) := by
  have hx := C0.1
  have hb := C0.2.1
  intro S0 x1 hf H locs ls X hl
  unfold fn_X9_goesOut_59 at hf
  refine lv_aload_n (pc := 59) hx hb dX9_goesOut_59 rfl (lv_at hl 0 rfl) ?_
  refine x_get (pc := 60) (ci := 9) C0 KN X 0 rfl rfl inlX9 19 (by decide) kw_8_1 rfl dX9_goesOut_60 ?_
  refine lv_aload_n (pc := 63) hx hb dX9_goesOut_63 rfl (lv_at hl 0 rfl) ?_
  refine x_get (pc := 64) (ci := 9) C0 KN X 0 rfl rfl inlX9 20 (by decide) kw_25_12 rfl dX9_goesOut_64 ?_
  refine W.eq (g2 := F0 m 67 ls [.int (gf_Model_outLong S0), .ref (a 16)]) rfl ?_
  refine lv_lload_n (pc := 67) hx hb dX9_goesOut_67 rfl (lv_at hl 1 rfl) ?_
  refine x_ldc2 (pc := 68) C0 kw_25_20 dX9_goesOut_68 ?_
  refine lv_lrem (pc := 71) hx hb dX9_goesOut_71 (by decide) ?_
  refine lv_l2i (pc := 72) (v := (x1 - x1 / (256 : Int64) * (256 : Int64)).toInt32) hx hb dX9_goesOut_72 rfl ?_
  refine lv_topi (fun y_3 ey_3 => ?_)
  have hf := lt_sb hf ey_3
  obtain ⟨g_4, hf⟩ := gd_e hf
  obtain ⟨S_5, eS_5, hf⟩ := lt_e hf
  refine x_ast (pc := 73) (ws' := wd_Model G a S_5) C0 KN X 16 rfl g_4 (by subst eS_5; rfl) dX9_goesOut_73 (fun H locs X => ?_)
  refine lv_aload_n (pc := 74) hx hb dX9_goesOut_74 rfl (lv_at hl 0 rfl) ?_
  refine lv_dup (pc := 75) hx hb dX9_goesOut_75 rfl ?_
  refine x_get (pc := 76) (ci := 9) C0 KN X 0 rfl rfl inlX9 20 (by decide) kw_25_12 rfl dX9_goesOut_76 ?_
  refine W.eq (g2 := F0 m 79 ls [.int (gf_Model_outLong S_5), .ref (a 0)]) rfl ?_
  refine lv_iconst (pc := 79) (v := 1) hx hb dX9_goesOut_79 (by decide) ?_
  refine lv_iadd (pc := 80) hx hb dX9_goesOut_80 ?_
  refine lv_topi (fun y_6 ey_6 => ?_)
  have hf := lt_sb hf ey_6
  obtain ⟨S_7, eS_7, hf⟩ := lt_e hf
  refine x_put (pc := 81) (ci := 9) (ws' := wd_Model G a S_7) C0 KN X 0 rfl rfl inlX9 tyX9_ok nmX9 20 (by decide) kw_25_12 rfl rfl rfl (Nat.le_of_ble_eq_true rfl) (by subst eS_7; rfl) dX9_goesOut_81 (fun H locs X => ?_)
  refine lv_aload_n (pc := 84) hx hb dX9_goesOut_84 rfl (lv_at hl 0 rfl) ?_
  refine lv_aload_n (pc := 85) hx hb dX9_goesOut_85 rfl (lv_at hl 0 rfl) ?_
  refine x_get (pc := 86) (ci := 9) C0 KN X 0 rfl rfl inlX9 21 (by decide) kw_25_18 rfl dX9_goesOut_86 ?_
  refine W.eq (g2 := F0 m 89 ls [.long (gf_Model_low S_7), .ref (a 0)]) rfl ?_
  refine x_ldc2 (pc := 89) C0 kw_25_19 dX9_goesOut_89 ?_
  refine lv_lrem (pc := 92) hx hb dX9_goesOut_92 (by decide) ?_
  refine x_ldc2 (pc := 93) C0 kw_25_20 dX9_goesOut_93 ?_
  refine lv_lmul (pc := 96) hx hb dX9_goesOut_96 ?_
  refine lv_topl (fun y_8 ey_8 => ?_)
  have hf := lt_sb hf ey_8
  obtain ⟨S_9, eS_9, hf⟩ := lt_e hf
  refine x_put (pc := 97) (ci := 9) (ws' := wd_Model G a S_9) C0 KN X 0 rfl rfl inlX9 tyX9_ok nmX9 21 (by decide) kw_25_18 rfl rfl rfl (Nat.le_of_ble_eq_true rfl) (by subst eS_9; rfl) dX9_goesOut_97 (fun H locs X => ?_)
  obtain rfl := so_1 hf
  exact x_vret (pc := 100) C0 X dX9_goesOut_100
set_option maxHeartbeats 4000000 in
set_option maxRecDepth 100000 in
theorem lb_X9_goesOut_24 {l : Launch} {p : Program} {e : Env} {s : State} {m : MethodId} {args : Array Value} {below : List Frame} {meth : Method} {c : Code} {G : xG} {A : Nat → Prop} {a : Nat → Nat} (C0 : xC p s m meth c cX9_goesOut 4 (none) RX9 args) (KN : xKN G s) (hA : ∀ q, s.heap.size ≤ q → A q) (So0 : tt_Model) (k49 : tt_Model → Int64 → Int32 → Option tt_Model) (hk49 : ∀ (S0 : tt_Model) (x1 : Int64) (x3 : Int32), k49 S0 x1 x3 = some So0 → ∀ (H : Heap) (locs : List Loc) (ls : Array Slot), xS G A s.heap (wd_Model G a S0) H locs → lv_has ls 4 [(0, .ref (a 0)), (1, .long x1), (3, .int x3)] → W p l e ({ frames := 0, cells := 0, slots := 0, locals := 0 }) s m args below meth c H locs 0 0 (MQ below (xQo G none A (wd_Model G a So0)) args s 0 0 A) (F0 m 49 ls [])) : ∀ (n : Nat) (S0 : tt_Model) (x1 : Int64) (x3 : Int32), fl_X9_goesOut_24 k49 n S0 x1 x3 = some So0 → ∀ (H : Heap) (locs : List Loc) (ls : Array Slot), xS G A s.heap (wd_Model G a S0) H locs → lv_has ls 4 [(0, .ref (a 0)), (1, .long x1), (3, .int x3)] → W p l e ({ frames := 0, cells := 0, slots := 0, locals := 0 }) s m args below meth c H locs 0 0 (MQ below (xQo G none A (wd_Model G a So0)) args s 0 0 A) (F0 m 24 ls []) := by
  have hx := C0.1
  have hb := C0.2.1
  intro n
  induction n with
  | zero =>
    intro S0 x1 x3 hf
    have hf : none = some So0 := hf
    cases hf
  | succ n ih =>
    intro S0 x1 x3 hf H locs ls X hl
    rw [fl_X9_goesOut_24] at hf
    refine lv_aload_n (pc := 24) hx hb dX9_goesOut_24 rfl (lv_at hl 0 rfl) ?_
    refine x_get (pc := 25) (ci := 9) C0 KN X 0 rfl rfl inlX9 19 (by decide) kw_8_1 rfl dX9_goesOut_25 ?_
    refine lv_iload_n (pc := 28) hx hb dX9_goesOut_28 rfl (lv_at hl 2 rfl) ?_
    obtain ⟨g_11, hf⟩ := gd_e hf
    refine x_ald (pc := 29) C0 KN X 16 rfl g_11 dX9_goesOut_29 ?_
    refine W.eq (g2 := F0 m 30 ls [.int ((gf_Model_out S0) x3.toNatClampNeg)]) rfl ?_
    refine lv_sipush (pc := 30) (v := 255) hx hb dX9_goesOut_30 (by decide) ?_
    refine lv_icmp_ne (pc := 33) (tgt := 49) hx hb dX9_goesOut_33 (by decide) (fun c_12 => ?_) (fun c_12 => ?_)
    · have hf := it_n hf c_12
      exact hk49 _ _ _ hf _ _ _ X (lv_sub hl [0, 1, 2] rfl)
    · have hf := it_p hf c_12
      refine lv_aload_n (pc := 36) hx hb dX9_goesOut_36 rfl (lv_at hl 0 rfl) ?_
      refine x_get (pc := 37) (ci := 9) C0 KN X 0 rfl rfl inlX9 19 (by decide) kw_8_1 rfl dX9_goesOut_37 ?_
      refine lv_iload_n (pc := 40) hx hb dX9_goesOut_40 rfl (lv_at hl 2 rfl) ?_
      refine lv_iconst (pc := 41) (v := 0) hx hb dX9_goesOut_41 (by decide) ?_
      obtain ⟨g_13, hf⟩ := gd_e hf
      obtain ⟨S_14, eS_14, hf⟩ := lt_e hf
      refine x_ast (pc := 42) (ws' := wd_Model G a S_14) C0 KN X 16 rfl g_13 (by subst eS_14; rfl) dX9_goesOut_42 (fun H locs X => ?_)
      obtain ⟨y_15, ey_15⟩ : ∃ y : Int32, y = x3 + (-1 : Int32) := ⟨_, rfl⟩
      have hf := lt_sb hf ey_15
      refine lv_iinc (pc := 43) (v := y_15) (lv' := [(3, .int y_15), (0, .ref (a 0)), (1, .long x1)]) hx hb dX9_goesOut_43 hl (k := 2) rfl (by rw [ey_15]; rfl) (by decide) rfl (fun ls hl => ?_)
      refine lv_goto (pc := 46) (tgt := 24) hx hb dX9_goesOut_46 (by decide) ?_
      exact ih _ _ _ hf _ _ _ X (lv_sub hl [1, 2, 0] rfl)
theorem hd_X9_goesOut : yX9_goesOut.cls ≠ "java/lang/invoke/MethodHandle" ∧ yX9_goesOut.cls ≠ "java/lang/invoke/VarHandle" ∧ (parseMethodDescriptor yX9_goesOut.desc).map (fun d => d.parameters.length) = some 0 := by decide +kernel
set_option maxHeartbeats 4000000 in
set_option maxRecDepth 100000 in
theorem ct_X9_goesOut (l : Launch) (G : xG) (a : Nat → Nat) (S0 : tt_Model) (So0 : tt_Model) (hf : fn_X9_goesOut S0 = some So0) : xM l yX9_goesOut cX9_goesOut 4 (none) 0 0 G [.ref (a 0)] (wd_Model G a S0) (wd_Model G a So0) none := by
  refine xMi (by decide) (Nat.le_of_ble_eq_true rfl) ?_
  intro p e s m below meth c A C0 KN hA X ls hl
  have hx := C0.1
  have hb := C0.2.1
  have C0 : xC p s m meth c cX9_goesOut 4 (none) RX9 _ := C0
  have hl : lv_has ls 4 [(0, .ref (a 0))] := hl
  unfold fn_X9_goesOut at hf
  refine lv_aload_n (pc := 0) hx hb dX9_goesOut_0 rfl (lv_at hl 0 rfl) ?_
  refine x_get (pc := 1) (ci := 9) C0 KN X 0 rfl rfl inlX9 21 (by decide) kw_25_18 rfl dX9_goesOut_1 ?_
  refine W.eq (g2 := F0 m 4 ls [.long (gf_Model_low S0)]) rfl ?_
  refine x_ldc2 (pc := 4) C0 kw_25_19 dX9_goesOut_4 ?_
  refine lv_ldiv (pc := 7) hx hb dX9_goesOut_7 (by decide) ?_
  refine lv_topl (fun y_1 ey_1 => ?_)
  have hf := lt_sb hf ey_1
  refine lv_lstore_n (pc := 8) (lv' := [(1, .long y_1), (0, .ref (a 0))]) hx hb dX9_goesOut_8 rfl hl (by decide) rfl (fun ls hl => ?_)
  refine lv_lload_n (pc := 9) hx hb dX9_goesOut_9 rfl (lv_at hl 0 rfl) ?_
  refine x_ldc2 (pc := 10) C0 kw_26_1 dX9_goesOut_10 ?_
  refine W.lcmp (pc := 13) hx hb dX9_goesOut_13 ?_
  refine lv_if_le (pc := 14) (tgt := 59) hx hb dX9_goesOut_14 (by decide) (fun c_2 => ?_) (fun c_2 => ?_)
  · have hf := it_p hf ((lg_cmp_le y_1 (255 : Int64)).mp c_2)
    exact lb_X9_goesOut_59 C0 KN hA _  _ _ hf _ _ _ X (lv_sub hl [1, 0] rfl)
  · have hf := it_n hf (fun z => c_2 ((lg_cmp_le y_1 (255 : Int64)).mpr z))
    refine lv_aload_n (pc := 17) hx hb dX9_goesOut_17 rfl (lv_at hl 1 rfl) ?_
    refine x_get (pc := 18) (ci := 9) C0 KN X 0 rfl rfl inlX9 20 (by decide) kw_25_12 rfl dX9_goesOut_18 ?_
    refine W.eq (g2 := F0 m 21 ls [.int (gf_Model_outLong S0)]) rfl ?_
    refine lv_iconst (pc := 21) (v := 1) hx hb dX9_goesOut_21 (by decide) ?_
    refine lv_isub (pc := 22) hx hb dX9_goesOut_22 ?_
    refine lv_topi (fun y_10 ey_10 => ?_)
    have hf := lt_sb hf ey_10
    refine lv_istore_n (pc := 23) (lv' := [(3, .int y_10), (1, .long y_1), (0, .ref (a 0))]) hx hb dX9_goesOut_23 rfl hl (by decide) rfl (fun ls hl => ?_)
    refine lb_X9_goesOut_24 C0 KN hA _ _ ?_ _ _ _ _ hf _ _ _ X (lv_sub hl [2, 1, 0] rfl)
    · intro S0_e49_16 x1_e49_16 x3_e49_16 hf H locs ls X hl
      refine lv_aload_n (pc := 49) hx hb dX9_goesOut_49 rfl (lv_at hl 0 rfl) ?_
      refine x_get (pc := 50) (ci := 9) C0 KN X 0 rfl rfl inlX9 19 (by decide) kw_8_1 rfl dX9_goesOut_50 ?_
      refine lv_iload_n (pc := 53) hx hb dX9_goesOut_53 rfl (lv_at hl 2 rfl) ?_
      refine lv_dup2_11 (pc := 54) hx hb dX9_goesOut_54 rfl rfl ?_
      obtain ⟨g_17, hf⟩ := gd_e hf
      refine x_ald (pc := 55) C0 KN X 16 rfl g_17 dX9_goesOut_55 ?_
      refine W.eq (g2 := F0 m 56 ls [.int ((gf_Model_out S0_e49_16) x3_e49_16.toNatClampNeg), .int x3_e49_16, .ref (a 16)]) rfl ?_
      refine lv_iconst (pc := 56) (v := 1) hx hb dX9_goesOut_56 (by decide) ?_
      refine lv_iadd (pc := 57) hx hb dX9_goesOut_57 ?_
      refine lv_topi (fun y_18 ey_18 => ?_)
      have hf := lt_sb hf ey_18
      obtain ⟨g_19, hf⟩ := gd_e hf
      obtain ⟨S_20, eS_20, hf⟩ := lt_e hf
      refine x_ast (pc := 58) (ws' := wd_Model G a S_20) C0 KN X 16 rfl g_19 (by subst eS_20; rfl) dX9_goesOut_58 (fun H locs X => ?_)
      exact lb_X9_goesOut_59 C0 KN hA _  _ _ hf _ _ _ X (lv_sub hl [0, 1] rfl)
set_option maxHeartbeats 4000000 in
set_option maxRecDepth 100000 in
theorem lb_X9_writes_94 {l : Launch} {p : Program} {e : Env} {s : State} {m : MethodId} {args : Array Value} {below : List Frame} {meth : Method} {c : Code} {G : xG} {A : Nat → Prop} {a : Nat → Nat} (C0 : xC p s m meth c cX9_writes 7 (none) RX9 args) (KN : xKN G s) (hA : ∀ q, s.heap.size ≤ q → A q) (So0 : tt_Model) (k115 : tt_Model → Int64 → Int32 → Option tt_Model) (hk115 : ∀ (S0 : tt_Model) (x1 : Int64) (x4 : Int32), k115 S0 x1 x4 = some So0 → ∀ (H : Heap) (locs : List Loc) (ls : Array Slot), xS G A s.heap (wd_Model G a S0) H locs → lv_has ls 7 [(0, .ref (a 0)), (1, .long x1), (4, .int x4)] → W p l e ({ frames := 5, cells := 0, slots := 0, locals := 114 }) s m args below meth c H locs 0 0 (MQ below (xQo G none A (wd_Model G a So0)) args s 0 0 A) (F0 m 115 ls [])) : ∀ (n : Nat) (S0 : tt_Model) (x1 : Int64) (x4 : Int32), fl_X9_writes_94 k115 n S0 x1 x4 = some So0 → ∀ (H : Heap) (locs : List Loc) (ls : Array Slot), xS G A s.heap (wd_Model G a S0) H locs → lv_has ls 7 [(0, .ref (a 0)), (1, .long x1), (4, .int x4)] → W p l e ({ frames := 5, cells := 0, slots := 0, locals := 114 }) s m args below meth c H locs 0 0 (MQ below (xQo G none A (wd_Model G a So0)) args s 0 0 A) (F0 m 94 ls []) := by
  have hx := C0.1
  have hb := C0.2.1
  intro n
  induction n with
  | zero =>
    intro S0 x1 x4 hf
    have hf : none = some So0 := hf
    cases hf
  | succ n ih =>
    intro S0 x1 x4 hf H locs ls X hl
    rw [fl_X9_writes_94] at hf
    refine lv_lload_n (pc := 94) hx hb dX9_writes_94 rfl (lv_at hl 1 rfl) ?_
    refine x_ldc2 (pc := 95) C0 kw_25_19 dX9_writes_95 ?_
    refine W.lcmp (pc := 98) hx hb dX9_writes_98 ?_
    refine lv_if_ge (pc := 99) (tgt := 115) hx hb dX9_writes_99 (by decide) (fun c_17 => ?_) (fun c_17 => ?_)
    · have hf := it_p hf ((lg_cmp_ge x1 (16777216 : Int64)).mp c_17)
      exact hk115 _ _ _ hf _ _ _ X (lv_sub hl [0, 1, 2] rfl)
    · have hf := it_n hf (fun z => c_17 ((lg_cmp_ge x1 (16777216 : Int64)).mpr z))
      refine lv_aload_n (pc := 102) hx hb dX9_writes_102 rfl (lv_at hl 0 rfl) ?_
      obtain ⟨P_18, h_19, hf⟩ := bd_e hf
      refine x_cv (pc := 103) (ws' := wd_Model G a P_18) (As := []) (rest := []) (ci := 9) (qr := 0) C0 KN X hA [0, 1, 2, 3, 4, 5, 6, 7, 8, 9, 10, 11, 12, 13, 14, 15, 16, 17, 18] [] [0, 1, 2, 3, 4, 5, 6, 7, 8, 9, 10, 11, 12, 13, 14, 15, 16, 17, 18] cu_C50 rfl cu_R50 rfl (by decide) (cu_J50 (S0 := S0)) rfl (ct_X9_goesOut l G a S0 P_18 h_19) rfl rfl rfl kw_26_0 kw_25_21 kw_25_22 kw_25_23 kw_1_5 hd_X9_goesOut ⟨by decide, by decide⟩ hl.1 rfl (Nat.le_of_ble_eq_true rfl) ⟨Nat.zero_le _, Nat.zero_le _⟩ dX9_writes_103 (fun H locs X => ?_)
      refine W.eq (g2 := F0 m 106 ls []) rfl ?_
      refine lv_lload_n (pc := 106) hx hb dX9_writes_106 rfl (lv_at hl 1 rfl) ?_
      refine x_ldc2 (pc := 107) C0 kw_25_20 dX9_writes_107 ?_
      refine lv_lmul (pc := 110) hx hb dX9_writes_110 ?_
      refine lv_topl (fun y_20 ey_20 => ?_)
      have hf := lt_sb hf ey_20
      refine lv_lstore_n (pc := 111) (lv' := [(1, .long y_20), (0, .ref (a 0)), (4, .int x4)]) hx hb dX9_writes_111 rfl hl (by decide) rfl (fun ls hl => ?_)
      refine lv_goto (pc := 112) (tgt := 94) hx hb dX9_writes_112 (by decide) ?_
      exact ih _ _ _ hf _ _ _ X (lv_sub hl [1, 0, 2] rfl)
set_option maxHeartbeats 4000000 in
set_option maxRecDepth 100000 in
theorem lb_X9_writes_93 {l : Launch} {p : Program} {e : Env} {s : State} {m : MethodId} {args : Array Value} {below : List Frame} {meth : Method} {c : Code} {G : xG} {A : Nat → Prop} {a : Nat → Nat} (C0 : xC p s m meth c cX9_writes 7 (none) RX9 args) (KN : xKN G s) (hA : ∀ q, s.heap.size ≤ q → A q) (So0 : tt_Model) (k22 : tt_Model → Int64 → Int32 → Option tt_Model) (hk22 : ∀ (S0 : tt_Model) (x1 : Int64) (x4 : Int32), k22 S0 x1 x4 = some So0 → ∀ (H : Heap) (locs : List Loc) (ls : Array Slot), xS G A s.heap (wd_Model G a S0) H locs → lv_has ls 7 [(0, .ref (a 0)), (1, .long x1), (4, .int x4)] → W p l e ({ frames := 5, cells := 0, slots := 0, locals := 114 }) s m args below meth c H locs 0 0 (MQ below (xQo G none A (wd_Model G a So0)) args s 0 0 A) (F0 m 22 ls [])) : ∀ (S0 : tt_Model) (x4 : Int32) (t0 : Int64), fn_X9_writes_93 k22 S0 x4 t0 = some So0 → ∀ (H : Heap) (locs : List Loc) (ls : Array Slot), xS G A s.heap (wd_Model G a S0) H locs → lv_has ls 7 [(0, .ref (a 0)), (4, .int x4)] → W p l e ({ frames := 5, cells := 0, slots := 0, locals := 114 }) s m args below meth c H locs 0 0 (MQ below (xQo G none A (wd_Model G a So0)) args s 0 0 A) (F0 m 93 ls [.long t0]) := by
  have hx := C0.1
  have hb := C0.2.1
  intro S0 x4 t0 hf H locs ls X hl
  unfold fn_X9_writes_93 at hf
  refine lv_lstore_n (pc := 93) (lv' := [(1, .long t0), (0, .ref (a 0)), (4, .int x4)]) hx hb dX9_writes_93 rfl hl (by decide) rfl (fun ls hl => ?_)
  refine lb_X9_writes_94 C0 KN hA _ _ ?_ _ _ _ _ hf _ _ _ X (lv_sub hl [1, 0, 2] rfl)
  · intro S0_e115_21 x1_e115_21 x4_e115_21 hf H locs ls X hl
    obtain ⟨y_22, ey_22⟩ : ∃ y : Int32, y = x4_e115_21 + (1 : Int32) := ⟨_, rfl⟩
    have hf := lt_sb hf ey_22
    refine lv_iinc (pc := 115) (v := y_22) (lv' := [(4, .int y_22), (0, .ref (a 0)), (1, .long x1_e115_21)]) hx hb dX9_writes_115 hl (k := 2) rfl (by rw [ey_22]; rfl) (by decide) rfl (fun ls hl => ?_)
    refine lv_goto (pc := 118) (tgt := 22) hx hb dX9_writes_118 (by decide) ?_
    exact hk22 _ _ _ hf _ _ _ X (lv_sub hl [1, 2, 0] rfl)
set_option maxHeartbeats 4000000 in
set_option maxRecDepth 100000 in
theorem lb_X9_writes_69 {l : Launch} {p : Program} {e : Env} {s : State} {m : MethodId} {args : Array Value} {below : List Frame} {meth : Method} {c : Code} {G : xG} {A : Nat → Prop} {a : Nat → Nat} (C0 : xC p s m meth c cX9_writes 7 (none) RX9 args) (KN : xKN G s) (hA : ∀ q, s.heap.size ≤ q → A q) (So0 : tt_Model) (k22 : tt_Model → Int64 → Int32 → Option tt_Model) (hk22 : ∀ (S0 : tt_Model) (x1 : Int64) (x4 : Int32), k22 S0 x1 x4 = some So0 → ∀ (H : Heap) (locs : List Loc) (ls : Array Slot), xS G A s.heap (wd_Model G a S0) H locs → lv_has ls 7 [(0, .ref (a 0)), (1, .long x1), (4, .int x4)] → W p l e ({ frames := 5, cells := 0, slots := 0, locals := 114 }) s m args below meth c H locs 0 0 (MQ below (xQo G none A (wd_Model G a So0)) args s 0 0 A) (F0 m 22 ls [])) : ∀ (S0 : tt_Model) (x1 : Int64) (x4 : Int32) (x5 : Int64) (t1 : Int64) (t2 : Int64), fn_X9_writes_69 k22 S0 x1 x4 x5 t1 t2 = some So0 → ∀ (H : Heap) (locs : List Loc) (ls : Array Slot), xS G A s.heap (wd_Model G a S0) H locs → lv_has ls 7 [(0, .ref (a 0)), (1, .long x1), (4, .int x4), (5, .long x5)] → W p l e ({ frames := 5, cells := 0, slots := 0, locals := 114 }) s m args below meth c H locs 0 0 (MQ below (xQo G none A (wd_Model G a So0)) args s 0 0 A) (F0 m 69 ls [.long t2, .long t1, .ref (a 0)]) := by
  have hx := C0.1
  have hb := C0.2.1
  intro S0 x1 x4 x5 t1 t2 hf H locs ls X hl
  unfold fn_X9_writes_69 at hf
  refine lv_ladd (pc := 69) hx hb dX9_writes_69 ?_
  refine lv_topl (fun y_13 ey_13 => ?_)
  have hf := lt_sb hf ey_13
  obtain ⟨S_14, eS_14, hf⟩ := lt_e hf
  refine x_put (pc := 70) (ci := 9) (ws' := wd_Model G a S_14) C0 KN X 0 rfl rfl inlX9 tyX9_ok nmX9 21 (by decide) kw_25_18 rfl rfl rfl (Nat.le_of_ble_eq_true rfl) (by subst eS_14; rfl) dX9_writes_70 (fun H locs X => ?_)
  refine lv_aload_n (pc := 73) hx hb dX9_writes_73 rfl (lv_at hl 0 rfl) ?_
  refine x_get (pc := 74) (ci := 9) C0 KN X 0 rfl rfl inlX9 0 (by decide) kw_7_9 rfl dX9_writes_74 ?_
  refine lv_iload (pc := 77) hx hb dX9_writes_77 (lv_at hl 2 rfl) ?_
  obtain ⟨g_15, hf⟩ := gd_e hf
  refine x_ald (pc := 79) C0 KN X 1 rfl g_15 dX9_writes_79 ?_
  refine W.eq (g2 := F0 m 80 ls [.int ((gf_Model_now S_14) x4.toNatClampNeg)]) rfl ?_
  refine lv_iconst (pc := 80) (v := 1) hx hb dX9_writes_80 (by decide) ?_
  refine lv_icmp_ne (pc := 81) (tgt := 89) hx hb dX9_writes_81 (by decide) (fun c_16 => ?_) (fun c_16 => ?_)
  · have hf := it_n hf c_16
    refine lv_lload_n (pc := 89) hx hb dX9_writes_89 rfl (lv_at hl 1 rfl) ?_
    refine lv_lload (pc := 90) hx hb dX9_writes_90 (lv_at hl 3 rfl) ?_
    refine lv_lsub (pc := 92) hx hb dX9_writes_92 ?_
    exact lb_X9_writes_93 C0 KN hA _ k22 hk22 _ _ _ hf _ _ _ X (lv_sub hl [0, 2] rfl)
  · have hf := it_p hf c_16
    refine lv_lload (pc := 84) hx hb dX9_writes_84 (lv_at hl 3 rfl) ?_
    refine lv_goto (pc := 86) (tgt := 93) hx hb dX9_writes_86 (by decide) ?_
    exact lb_X9_writes_93 C0 KN hA _ k22 hk22 _ _ _ hf _ _ _ X (lv_sub hl [0, 2] rfl)
set_option maxHeartbeats 4000000 in
set_option maxRecDepth 100000 in
theorem lb_X9_writes_22 {l : Launch} {p : Program} {e : Env} {s : State} {m : MethodId} {args : Array Value} {below : List Frame} {meth : Method} {c : Code} {G : xG} {A : Nat → Prop} {a : Nat → Nat} (C0 : xC p s m meth c cX9_writes 7 (none) RX9 args) (KN : xKN G s) (hA : ∀ q, s.heap.size ≤ q → A q) (So0 : tt_Model) (k121 : tt_Model → Option tt_Model) (hk121 : ∀ (S0 : tt_Model), k121 S0 = some So0 → ∀ (H : Heap) (locs : List Loc) (ls : Array Slot), xS G A s.heap (wd_Model G a S0) H locs → lv_has ls 7 [(0, .ref (a 0))] → W p l e ({ frames := 5, cells := 0, slots := 0, locals := 114 }) s m args below meth c H locs 0 0 (MQ below (xQo G none A (wd_Model G a So0)) args s 0 0 A) (F0 m 121 ls [])) : ∀ (n : Nat) (S0 : tt_Model) (x1 : Int64) (x4 : Int32), fl_X9_writes_22 k121 n S0 x1 x4 = some So0 → ∀ (H : Heap) (locs : List Loc) (ls : Array Slot), xS G A s.heap (wd_Model G a S0) H locs → lv_has ls 7 [(0, .ref (a 0)), (1, .long x1), (4, .int x4)] → W p l e ({ frames := 5, cells := 0, slots := 0, locals := 114 }) s m args below meth c H locs 0 0 (MQ below (xQo G none A (wd_Model G a So0)) args s 0 0 A) (F0 m 22 ls []) := by
  have hx := C0.1
  have hb := C0.2.1
  intro n
  induction n with
  | zero =>
    intro S0 x1 x4 hf
    have hf : none = some So0 := hf
    cases hf
  | succ n ih =>
    intro S0 x1 x4 hf H locs ls X hl
    rw [fl_X9_writes_22] at hf
    refine lv_iload (pc := 22) hx hb dX9_writes_22 (lv_at hl 2 rfl) ?_
    refine lv_aload_n (pc := 24) hx hb dX9_writes_24 rfl (lv_at hl 0 rfl) ?_
    obtain ⟨r_6, h_7, hf⟩ := bd_e hf
    refine x_cv (pc := 25) (ws' := wd_Model G a S0) (As := []) (rest := [.int x4]) (ci := 9) (qr := 0) C0 KN X hA [0, 1, 2, 3, 4, 5, 6, 7, 8, 9, 10, 11, 12, 13, 14, 15, 16, 17, 18] [] [0, 1, 2, 3, 4, 5, 6, 7, 8, 9, 10, 11, 12, 13, 14, 15, 16, 17, 18] cu_C49 rfl cu_R49 rfl (by decide) (cu_J49 (S0 := S0)) rfl (ct_X9_many l G a S0 r_6 h_7) rfl rfl rfl kw_11_5 kw_11_2 kw_11_3 kw_11_4 kw_1_5 hd_X9_many ⟨by decide, by decide⟩ hl.1 rfl (Nat.le_of_ble_eq_true rfl) ⟨Nat.zero_le _, Nat.zero_le _⟩ dX9_writes_25 (fun H locs X => ?_)
    refine W.eq (g2 := F0 m 28 ls [.int r_6, .int x4]) rfl ?_
    refine lv_icmp_ge (pc := 28) (tgt := 121) hx hb dX9_writes_28 (by decide) (fun c_8 => ?_) (fun c_8 => ?_)
    · have hf := it_p hf c_8
      exact hk121 _ hf _ _ _ X (lv_sub hl [0] rfl)
    · have hf := it_n hf c_8
      refine lv_lload_n (pc := 31) hx hb dX9_writes_31 rfl (lv_at hl 1 rfl) ?_
      refine x_ldc2 (pc := 32) C0 kw_13_3 dX9_writes_32 ?_
      refine lv_ldiv (pc := 35) hx hb dX9_writes_35 (by decide) ?_
      refine lv_aload_n (pc := 36) hx hb dX9_writes_36 rfl (lv_at hl 0 rfl) ?_
      refine x_get (pc := 37) (ci := 9) C0 KN X 0 rfl rfl inlX9 15 (by decide) kw_7_20 rfl dX9_writes_37 ?_
      refine lv_iload (pc := 40) hx hb dX9_writes_40 (lv_at hl 2 rfl) ?_
      obtain ⟨g_9, hf⟩ := gd_e hf
      refine x_ald (pc := 42) C0 KN X 12 rfl g_9 dX9_writes_42 ?_
      refine W.eq (g2 := F0 m 43 ls [.int ((gf_Model_guessAt S0) x4.toNatClampNeg), .long (x1 / (65536 : Int64))]) rfl ?_
      refine lv_i2l (pc := 43) (v := ((gf_Model_guessAt S0) x4.toNatClampNeg).toInt64) hx hb dX9_writes_43 rfl ?_
      refine lv_lmul (pc := 44) hx hb dX9_writes_44 ?_
      refine lv_topl (fun y_10 ey_10 => ?_)
      have hf := lt_sb hf ey_10
      refine lv_lstore (pc := 45) (lv' := [(5, .long y_10), (0, .ref (a 0)), (1, .long x1), (4, .int x4)]) hx hb dX9_writes_45 hl (by decide) rfl (fun ls hl => ?_)
      refine lv_aload_n (pc := 47) hx hb dX9_writes_47 rfl (lv_at hl 1 rfl) ?_
      refine lv_dup (pc := 48) hx hb dX9_writes_48 rfl ?_
      refine x_get (pc := 49) (ci := 9) C0 KN X 0 rfl rfl inlX9 21 (by decide) kw_25_18 rfl dX9_writes_49 ?_
      refine W.eq (g2 := F0 m 52 ls [.long (gf_Model_low S0), .ref (a 0)]) rfl ?_
      refine lv_aload_n (pc := 52) hx hb dX9_writes_52 rfl (lv_at hl 1 rfl) ?_
      refine x_get (pc := 53) (ci := 9) C0 KN X 0 rfl rfl inlX9 0 (by decide) kw_7_9 rfl dX9_writes_53 ?_
      refine lv_iload (pc := 56) hx hb dX9_writes_56 (lv_at hl 3 rfl) ?_
      obtain ⟨g_11, hf⟩ := gd_e hf
      refine x_ald (pc := 58) C0 KN X 1 rfl g_11 dX9_writes_58 ?_
      refine W.eq (g2 := F0 m 59 ls [.int ((gf_Model_now S0) x4.toNatClampNeg), .long (gf_Model_low S0), .ref (a 0)]) rfl ?_
      refine lv_iconst (pc := 59) (v := 1) hx hb dX9_writes_59 (by decide) ?_
      refine lv_icmp_ne (pc := 60) (tgt := 67) hx hb dX9_writes_60 (by decide) (fun c_12 => ?_) (fun c_12 => ?_)
      · have hf := it_n hf c_12
        refine lv_lload (pc := 67) hx hb dX9_writes_67 (lv_at hl 0 rfl) ?_
        exact lb_X9_writes_69 C0 KN hA _ (fl_X9_writes_22 k121 n) ih _ _ _ _ _ _ hf _ _ _ X (lv_sub hl [1, 2, 3, 0] rfl)
      · have hf := it_p hf c_12
        refine lv_lconst (pc := 63) (v := 0) hx hb dX9_writes_63 (by decide) ?_
        refine lv_goto (pc := 64) (tgt := 69) hx hb dX9_writes_64 (by decide) ?_
        exact lb_X9_writes_69 C0 KN hA _ (fl_X9_writes_22 k121 n) ih _ _ _ _ _ _ hf _ _ _ X (lv_sub hl [1, 2, 3, 0] rfl)
set_option maxHeartbeats 4000000 in
set_option maxRecDepth 100000 in
theorem lb_X9_writes_124 {l : Launch} {p : Program} {e : Env} {s : State} {m : MethodId} {args : Array Value} {below : List Frame} {meth : Method} {c : Code} {G : xG} {A : Nat → Prop} {a : Nat → Nat} (C0 : xC p s m meth c cX9_writes 7 (none) RX9 args) (KN : xKN G s) (hA : ∀ q, s.heap.size ≤ q → A q) (So0 : tt_Model) (k140 : tt_Model → Option tt_Model) (hk140 : ∀ (S0 : tt_Model), k140 S0 = some So0 → ∀ (H : Heap) (locs : List Loc) (ls : Array Slot), xS G A s.heap (wd_Model G a S0) H locs → lv_has ls 7 [(0, .ref (a 0))] → W p l e ({ frames := 5, cells := 0, slots := 0, locals := 114 }) s m args below meth c H locs 0 0 (MQ below (xQo G none A (wd_Model G a So0)) args s 0 0 A) (F0 m 140 ls [])) : ∀ (n : Nat) (S0 : tt_Model) (x4 : Int32), fl_X9_writes_124 k140 n S0 x4 = some So0 → ∀ (H : Heap) (locs : List Loc) (ls : Array Slot), xS G A s.heap (wd_Model G a S0) H locs → lv_has ls 7 [(0, .ref (a 0)), (4, .int x4)] → W p l e ({ frames := 5, cells := 0, slots := 0, locals := 114 }) s m args below meth c H locs 0 0 (MQ below (xQo G none A (wd_Model G a So0)) args s 0 0 A) (F0 m 124 ls []) := by
  have hx := C0.1
  have hb := C0.2.1
  intro n
  induction n with
  | zero =>
    intro S0 x4 hf
    have hf : none = some So0 := hf
    cases hf
  | succ n ih =>
    intro S0 x4 hf H locs ls X hl
    rw [fl_X9_writes_124] at hf
    refine lv_iload (pc := 124) hx hb dX9_writes_124 (lv_at hl 1 rfl) ?_
    refine lv_iconst (pc := 126) (v := 4) hx hb dX9_writes_126 (by decide) ?_
    refine lv_icmp_ge (pc := 127) (tgt := 140) hx hb dX9_writes_127 (by decide) (fun c_24 => ?_) (fun c_24 => ?_)
    · have hf := it_p hf c_24
      exact hk140 _ hf _ _ _ X (lv_sub hl [0] rfl)
    · have hf := it_n hf c_24
      refine lv_aload_n (pc := 130) hx hb dX9_writes_130 rfl (lv_at hl 0 rfl) ?_
      obtain ⟨P_25, h_26, hf⟩ := bd_e hf
      refine x_cv (pc := 131) (ws' := wd_Model G a P_25) (As := []) (rest := []) (ci := 9) (qr := 0) C0 KN X hA [0, 1, 2, 3, 4, 5, 6, 7, 8, 9, 10, 11, 12, 13, 14, 15, 16, 17, 18] [] [0, 1, 2, 3, 4, 5, 6, 7, 8, 9, 10, 11, 12, 13, 14, 15, 16, 17, 18] cu_C50 rfl cu_R50 rfl (by decide) (cu_J50 (S0 := S0)) rfl (ct_X9_goesOut l G a S0 P_25 h_26) rfl rfl rfl kw_26_0 kw_25_21 kw_25_22 kw_25_23 kw_1_5 hd_X9_goesOut ⟨by decide, by decide⟩ hl.1 rfl (Nat.le_of_ble_eq_true rfl) ⟨Nat.zero_le _, Nat.zero_le _⟩ dX9_writes_131 (fun H locs X => ?_)
      refine W.eq (g2 := F0 m 134 ls []) rfl ?_
      obtain ⟨y_27, ey_27⟩ : ∃ y : Int32, y = x4 + (1 : Int32) := ⟨_, rfl⟩
      have hf := lt_sb hf ey_27
      refine lv_iinc (pc := 134) (v := y_27) (lv' := [(4, .int y_27), (0, .ref (a 0))]) hx hb dX9_writes_134 hl (k := 1) rfl (by rw [ey_27]; rfl) (by decide) rfl (fun ls hl => ?_)
      refine lv_goto (pc := 137) (tgt := 124) hx hb dX9_writes_137 (by decide) ?_
      exact ih _ _ hf _ _ _ X (lv_sub hl [1, 0] rfl)
theorem hd_X9_writes : yX9_writes.cls ≠ "java/lang/invoke/MethodHandle" ∧ yX9_writes.cls ≠ "java/lang/invoke/VarHandle" ∧ (parseMethodDescriptor yX9_writes.desc).map (fun d => d.parameters.length) = some 0 := by decide +kernel
set_option maxHeartbeats 4000000 in
set_option maxRecDepth 100000 in
theorem ct_X9_writes (l : Launch) (G : xG) (a : Nat → Nat) (S0 : tt_Model) (So0 : tt_Model) (hf : fn_X9_writes S0 = some So0) : xM l yX9_writes cX9_writes 7 (none) 5 114 G [.ref (a 0)] (wd_Model G a S0) (wd_Model G a So0) none := by
  refine xMi (by decide) (Nat.le_of_ble_eq_true rfl) ?_
  intro p e s m below meth c A C0 KN hA X ls hl
  have hx := C0.1
  have hb := C0.2.1
  have C0 : xC p s m meth c cX9_writes 7 (none) RX9 _ := C0
  have hl : lv_has ls 7 [(0, .ref (a 0))] := hl
  unfold fn_X9_writes at hf
  refine x_ldc2 (pc := 0) C0 kw_25_17 dX9_writes_0 ?_
  refine lv_lstore_n (pc := 3) (lv' := [(1, .long (4294967296 : Int64)), (0, .ref (a 0))]) hx hb dX9_writes_3 rfl hl (by decide) rfl (fun ls hl => ?_)
  refine lv_aload_n (pc := 4) hx hb dX9_writes_4 rfl (lv_at hl 1 rfl) ?_
  refine lv_lconst (pc := 5) (v := 0) hx hb dX9_writes_5 (by decide) ?_
  obtain ⟨S_1, eS_1, hf⟩ := lt_e hf
  refine x_put (pc := 6) (ci := 9) (ws' := wd_Model G a S_1) C0 KN X 0 rfl rfl inlX9 tyX9_ok nmX9 21 (by decide) kw_25_18 rfl rfl rfl (Nat.le_of_ble_eq_true rfl) (by subst eS_1; rfl) dX9_writes_6 (fun H locs X => ?_)
  refine lv_aload_n (pc := 9) hx hb dX9_writes_9 rfl (lv_at hl 1 rfl) ?_
  refine lv_iconst (pc := 10) (v := 0) hx hb dX9_writes_10 (by decide) ?_
  obtain ⟨S_2, eS_2, hf⟩ := lt_e hf
  refine x_put (pc := 11) (ci := 9) (ws' := wd_Model G a S_2) C0 KN X 0 rfl rfl inlX9 tyX9_ok nmX9 20 (by decide) kw_25_12 rfl rfl rfl (Nat.le_of_ble_eq_true rfl) (by subst eS_2; rfl) dX9_writes_11 (fun H locs X => ?_)
  refine lv_aload_n (pc := 14) hx hb dX9_writes_14 rfl (lv_at hl 1 rfl) ?_
  obtain ⟨r_3, P_4, h_5, hf⟩ := b2_e hf
  refine x_cv (pc := 15) (ws' := wd_Model G a P_4) (As := []) (rest := []) (ci := 9) (qr := 0) C0 KN X hA [0, 1, 2, 3, 4, 5, 6, 7, 8, 9, 10, 11, 12, 13, 14, 15, 16, 17, 18] [] [0, 1, 2, 3, 4, 5, 6, 7, 8, 9, 10, 11, 12, 13, 14, 15, 16, 17, 18] cu_C50 rfl cu_R50 rfl (by decide) (cu_J50 (S0 := S_2)) rfl (ct_X9_goesNow l G a S_2 r_3 P_4 h_5) rfl rfl rfl kw_12_2 kw_11_23 kw_12_0 kw_12_1 kw_1_5 hd_X9_goesNow ⟨by decide, by decide⟩ hl.1 rfl (Nat.le_of_ble_eq_true rfl) ⟨Nat.zero_le _, Nat.zero_le _⟩ dX9_writes_15 (fun H locs X => ?_)
  refine W.eq (g2 := F0 m 18 ls [.int r_3]) rfl ?_
  refine lv_istore_n (pc := 18) (lv' := [(3, .int r_3), (1, .long (4294967296 : Int64)), (0, .ref (a 0))]) hx hb dX9_writes_18 rfl hl (by decide) rfl (fun ls hl => ?_)
  refine lv_iconst (pc := 19) (v := 0) hx hb dX9_writes_19 (by decide) ?_
  refine lv_istore (pc := 20) (lv' := [(4, .int (0 : Int32)), (3, .int r_3), (1, .long (4294967296 : Int64)), (0, .ref (a 0))]) hx hb dX9_writes_20 hl (by decide) rfl (fun ls hl => ?_)
  refine lb_X9_writes_22 C0 KN hA _ _ ?_ _ _ _ _ hf _ _ _ X (lv_sub hl [3, 2, 0] rfl)
  · intro S0_e121_23 hf H locs ls X hl
    refine lv_iconst (pc := 121) (v := 0) hx hb dX9_writes_121 (by decide) ?_
    refine lv_istore (pc := 122) (lv' := [(4, .int (0 : Int32)), (0, .ref (a 0))]) hx hb dX9_writes_122 hl (by decide) rfl (fun ls hl => ?_)
    refine lb_X9_writes_124 C0 KN hA _ _ ?_ _ _ _ hf _ _ _ X (lv_sub hl [1, 0] rfl)
    · intro S0_e140_28 hf H locs ls X hl
      obtain rfl := so_1 hf
      exact x_vret (pc := 140) C0 X dX9_writes_140
theorem hd_X9_written : yX9_written.cls ≠ "java/lang/invoke/MethodHandle" ∧ yX9_written.cls ≠ "java/lang/invoke/VarHandle" ∧ (parseMethodDescriptor yX9_written.desc).map (fun d => d.parameters.length) = some 1 := by decide +kernel
set_option maxHeartbeats 4000000 in
set_option maxRecDepth 100000 in
theorem ct_X9_written (l : Launch) (G : xG) (a : Nat → Nat) (S0 : tt_Model) (x1 : Int32) (ro : Int32) (So0 : tt_Model) (hf : fn_X9_written S0 x1 = some (ro, So0)) : xM l yX9_written cX9_written 2 (some .int) 6 140 G [.ref (a 0), .int x1] (wd_Model G a S0) (wd_Model G a So0) (some (.int ro)) := by
  refine xMi (by decide) (Nat.le_of_ble_eq_true rfl) ?_
  intro p e s m below meth c A C0 KN hA X ls hl
  have hx := C0.1
  have hb := C0.2.1
  have C0 : xC p s m meth c cX9_written 2 (some .int) RX9 _ := C0
  have hl : lv_has ls 2 [(0, .ref (a 0)), (1, .int x1)] := hl
  unfold fn_X9_written at hf
  refine lv_iload_n (pc := 0) hx hb dX9_written_0 rfl (lv_at hl 1 rfl) ?_
  refine lv_iconst (pc := 1) (v := (-1)) hx hb dX9_written_1 (by decide) ?_
  refine lv_icmp_ge (pc := 2) (tgt := 12) hx hb dX9_written_2 (by decide) (fun c_1 => ?_) (fun c_1 => ?_)
  · have hf := it_p hf c_1
    refine lv_aload_n (pc := 12) hx hb dX9_written_12 rfl (lv_at hl 0 rfl) ?_
    obtain ⟨P_2, h_3, hf⟩ := bd_e hf
    refine x_cv (pc := 13) (ws' := wd_Model G a P_2) (As := []) (rest := []) (ci := 9) (qr := 0) C0 KN X hA [0, 1, 2, 3, 4, 5, 6, 7, 8, 9, 10, 11, 12, 13, 14, 15, 16, 17, 18] [] [0, 1, 2, 3, 4, 5, 6, 7, 8, 9, 10, 11, 12, 13, 14, 15, 16, 17, 18] cu_C50 rfl cu_R50 rfl (by decide) (cu_J50 (S0 := S0)) rfl (ct_X9_writes l G a S0 P_2 h_3) rfl rfl rfl kw_25_16 kw_25_13 kw_25_14 kw_25_15 kw_1_5 hd_X9_writes ⟨by decide, by decide⟩ hl.1 rfl (Nat.le_of_ble_eq_true rfl) ⟨Nat.zero_le _, Nat.zero_le _⟩ dX9_written_13 (fun H locs X => ?_)
    refine W.eq (g2 := F0 m 16 ls []) rfl ?_
    refine lv_iload_n (pc := 16) hx hb dX9_written_16 rfl (lv_at hl 1 rfl) ?_
    refine lv_iconst (pc := 17) (v := (-1)) hx hb dX9_written_17 (by decide) ?_
    refine lv_icmp_ne (pc := 18) (tgt := 28) hx hb dX9_written_18 (by decide) (fun c_4 => ?_) (fun c_4 => ?_)
    · have hf := it_n hf c_4
      refine lv_iload_n (pc := 28) hx hb dX9_written_28 rfl (lv_at hl 1 rfl) ?_
      refine lv_aload_n (pc := 29) hx hb dX9_written_29 rfl (lv_at hl 0 rfl) ?_
      refine x_get (pc := 30) (ci := 9) C0 KN X 0 rfl rfl inlX9 20 (by decide) kw_25_12 rfl dX9_written_30 ?_
      refine W.eq (g2 := F0 m 33 ls [.int (gf_Model_outLong P_2), .int x1]) rfl ?_
      refine lv_icmp_ge (pc := 33) (tgt := 45) hx hb dX9_written_33 (by decide) (fun c_5 => ?_) (fun c_5 => ?_)
      · have hf := it_p hf c_5
        refine lv_bipush (pc := 45) (v := (-5)) hx hb dX9_written_45 (by decide) ?_
        obtain ⟨rfl, rfl⟩ := so_2 hf
        exact x_iret (pc := 47) C0 X dX9_written_47
      · have hf := it_n hf c_5
        refine lv_aload_n (pc := 36) hx hb dX9_written_36 rfl (lv_at hl 0 rfl) ?_
        refine x_get (pc := 37) (ci := 9) C0 KN X 0 rfl rfl inlX9 19 (by decide) kw_8_1 rfl dX9_written_37 ?_
        refine lv_iload_n (pc := 40) hx hb dX9_written_40 rfl (lv_at hl 1 rfl) ?_
        obtain ⟨g_6, hf⟩ := gd_e hf
        refine x_ald (pc := 41) C0 KN X 16 rfl g_6 dX9_written_41 ?_
        refine W.eq (g2 := F0 m 42 ls [.int ((gf_Model_out P_2) x1.toNatClampNeg)]) rfl ?_
        refine lv_goto (pc := 42) (tgt := 47) hx hb dX9_written_42 (by decide) ?_
        obtain ⟨rfl, rfl⟩ := so_2 hf
        exact x_iret (pc := 47) C0 X dX9_written_47
    · have hf := it_p hf c_4
      refine lv_aload_n (pc := 21) hx hb dX9_written_21 rfl (lv_at hl 0 rfl) ?_
      refine x_get (pc := 22) (ci := 9) C0 KN X 0 rfl rfl inlX9 20 (by decide) kw_25_12 rfl dX9_written_22 ?_
      refine W.eq (g2 := F0 m 25 ls [.int (gf_Model_outLong P_2)]) rfl ?_
      refine lv_goto (pc := 25) (tgt := 47) hx hb dX9_written_25 (by decide) ?_
      obtain ⟨rfl, rfl⟩ := so_2 hf
      exact x_iret (pc := 47) C0 X dX9_written_47
  · have hf := it_n hf c_1
    refine lv_aload_n (pc := 5) hx hb dX9_written_5 rfl (lv_at hl 0 rfl) ?_
    refine lv_bipush (pc := 6) (v := (-10)) hx hb dX9_written_6 (by decide) ?_
    obtain ⟨r_7, P_8, h_9, hf⟩ := b2_e hf
    refine x_cv (pc := 8) (ws' := wd_Model G a P_8) (As := [.int (-10 : Int32)]) (rest := []) (ci := 9) (qr := 0) C0 KN X hA [0, 1, 2, 3, 4, 5, 6, 7, 8, 9, 10, 11, 12, 13, 14, 15, 16, 17, 18] [] [0, 1, 2, 3, 4, 5, 6, 7, 8, 9, 10, 11, 12, 13, 14, 15, 16, 17, 18] cu_C50 rfl cu_R50 rfl (by decide) (cu_J50 (S0 := S0)) rfl (ct_X9_bad l G a S0 (-10 : Int32) r_7 P_8 h_9) rfl rfl rfl kw_11_1 kw_10_22 kw_10_23 kw_11_0 kw_1_5 hd_X9_bad ⟨by decide, by decide⟩ hl.1 rfl (Nat.le_of_ble_eq_true rfl) ⟨Nat.zero_le _, Nat.zero_le _⟩ dX9_written_8 (fun H locs X => ?_)
    refine W.eq (g2 := F0 m 11 ls [.int r_7]) rfl ?_
    obtain ⟨rfl, rfl⟩ := so_2 hf
    exact x_iret (pc := 11) C0 X dX9_written_11
theorem hd_X9_byteAt : yX9_byteAt.cls ≠ "java/lang/invoke/MethodHandle" ∧ yX9_byteAt.cls ≠ "java/lang/invoke/VarHandle" ∧ (parseMethodDescriptor yX9_byteAt.desc).map (fun d => d.parameters.length) = some 1 := by decide +kernel
set_option maxHeartbeats 4000000 in
set_option maxRecDepth 100000 in
theorem ct_X9_byteAt (l : Launch) (G : xG) (a : Nat → Nat) (S0 : tt_Model) (x1 : Int32) (ro : Int32) (hf : fn_X9_byteAt S0 x1 = some ro) : xM l yX9_byteAt cX9_byteAt 2 (some .int) 0 0 G [.ref (a 0), .int x1] (wd_Model G a S0) (wd_Model G a S0) (some (.int ro)) := by
  refine xMi (by decide) (Nat.le_of_ble_eq_true rfl) ?_
  intro p e s m below meth c A C0 KN hA X ls hl
  have hx := C0.1
  have hb := C0.2.1
  have C0 : xC p s m meth c cX9_byteAt 2 (some .int) RX9 _ := C0
  have hl : lv_has ls 2 [(0, .ref (a 0)), (1, .int x1)] := hl
  unfold fn_X9_byteAt at hf
  refine lv_iload_n (pc := 0) hx hb dX9_byteAt_0 rfl (lv_at hl 1 rfl) ?_
  refine lv_aload_n (pc := 1) hx hb dX9_byteAt_1 rfl (lv_at hl 0 rfl) ?_
  refine x_get (pc := 2) (ci := 9) C0 KN X 0 rfl rfl inlX9 20 (by decide) kw_25_12 rfl dX9_byteAt_2 ?_
  refine W.eq (g2 := F0 m 5 ls [.int (gf_Model_outLong S0), .int x1]) rfl ?_
  refine lv_icmp_ge (pc := 5) (tgt := 17) hx hb dX9_byteAt_5 (by decide) (fun c_1 => ?_) (fun c_1 => ?_)
  · have hf := it_p hf c_1
    refine lv_iconst (pc := 17) (v := 0) hx hb dX9_byteAt_17 (by decide) ?_
    obtain rfl := so_1 hf
    exact x_iret (pc := 18) C0 X dX9_byteAt_18
  · have hf := it_n hf c_1
    refine lv_aload_n (pc := 8) hx hb dX9_byteAt_8 rfl (lv_at hl 0 rfl) ?_
    refine x_get (pc := 9) (ci := 9) C0 KN X 0 rfl rfl inlX9 19 (by decide) kw_8_1 rfl dX9_byteAt_9 ?_
    refine lv_iload_n (pc := 12) hx hb dX9_byteAt_12 rfl (lv_at hl 1 rfl) ?_
    obtain ⟨g_2, hf⟩ := gd_e hf
    refine x_ald (pc := 13) C0 KN X 16 rfl g_2 dX9_byteAt_13 ?_
    refine W.eq (g2 := F0 m 14 ls [.int ((gf_Model_out S0) x1.toNatClampNeg)]) rfl ?_
    refine lv_goto (pc := 14) (tgt := 18) hx hb dX9_byteAt_14 (by decide) ?_
    obtain rfl := so_1 hf
    exact x_iret (pc := 18) C0 X dX9_byteAt_18
set_option maxHeartbeats 4000000 in
set_option maxRecDepth 100000 in
theorem lb_X9_reads_39 {l : Launch} {p : Program} {e : Env} {s : State} {m : MethodId} {args : Array Value} {below : List Frame} {meth : Method} {c : Code} {G : xG} {A : Nat → Prop} {a : Nat → Nat} (C0 : xC p s m meth c cX9_reads 13 (some .int) RX9 args) (KN : xKN G s) (hA : ∀ q, s.heap.size ≤ q → A q) (ro : Int32) (So0 : tt_Model) : ∀ (S0 : tt_Model), fn_X9_reads_39 S0 = some (ro, So0) → ∀ (H : Heap) (locs : List Loc) (ls : Array Slot), xS G A s.heap (wd_Model G a S0) H locs → lv_has ls 13 [(0, .ref (a 0))] → W p l e ({ frames := 6, cells := 0, slots := 0, locals := 140 }) s m args below meth c H locs 0 0 (MQ below (xQo G (some (.int ro)) A (wd_Model G a So0)) args s 0 0 A) (F0 m 39 ls []) := by
  have hx := C0.1
  have hb := C0.2.1
  intro S0 hf H locs ls X hl
  unfold fn_X9_reads_39 at hf
  refine lv_aload_n (pc := 39) hx hb dX9_reads_39 rfl (lv_at hl 0 rfl) ?_
  refine lv_bipush (pc := 40) (v := (-2)) hx hb dX9_reads_40 (by decide) ?_
  obtain ⟨r_6, P_7, h_8, hf⟩ := b2_e hf
  refine x_cv (pc := 42) (ws' := wd_Model G a P_7) (As := [.int (-2 : Int32)]) (rest := []) (ci := 9) (qr := 0) C0 KN X hA [0, 1, 2, 3, 4, 5, 6, 7, 8, 9, 10, 11, 12, 13, 14, 15, 16, 17, 18] [] [0, 1, 2, 3, 4, 5, 6, 7, 8, 9, 10, 11, 12, 13, 14, 15, 16, 17, 18] cu_C50 rfl cu_R50 rfl (by decide) (cu_J50 (S0 := S0)) rfl (ct_X9_bad l G a S0 (-2 : Int32) r_6 P_7 h_8) rfl rfl rfl kw_11_1 kw_10_22 kw_10_23 kw_11_0 kw_1_5 hd_X9_bad ⟨by decide, by decide⟩ hl.1 rfl (Nat.le_of_ble_eq_true rfl) ⟨Nat.zero_le _, Nat.zero_le _⟩ dX9_reads_42 (fun H locs X => ?_)
  refine W.eq (g2 := F0 m 45 ls [.int r_6]) rfl ?_
  obtain ⟨rfl, rfl⟩ := so_2 hf
  exact x_iret (pc := 45) C0 X dX9_reads_45
set_option maxHeartbeats 4000000 in
set_option maxRecDepth 100000 in
theorem lb_X9_reads_71 {l : Launch} {p : Program} {e : Env} {s : State} {m : MethodId} {args : Array Value} {below : List Frame} {meth : Method} {c : Code} {G : xG} {A : Nat → Prop} {a : Nat → Nat} (C0 : xC p s m meth c cX9_reads 13 (some .int) RX9 args) (KN : xKN G s) (hA : ∀ q, s.heap.size ≤ q → A q) (ro : Int32) (So0 : tt_Model) (k97 : tt_Model → Int64 → Int64 → Int32 → Option (Int32 × tt_Model)) (hk97 : ∀ (S0 : tt_Model) (x3 : Int64) (x5 : Int64) (x7 : Int32), k97 S0 x3 x5 x7 = some (ro, So0) → ∀ (H : Heap) (locs : List Loc) (ls : Array Slot), xS G A s.heap (wd_Model G a S0) H locs → lv_has ls 13 [(0, .ref (a 0)), (3, .long x3), (5, .long x5), (7, .int x7)] → W p l e ({ frames := 6, cells := 0, slots := 0, locals := 140 }) s m args below meth c H locs 0 0 (MQ below (xQo G (some (.int ro)) A (wd_Model G a So0)) args s 0 0 A) (F0 m 97 ls [])) : ∀ (n : Nat) (S0 : tt_Model) (x3 : Int64) (x5 : Int64) (x7 : Int32), fl_X9_reads_71 k97 n S0 x3 x5 x7 = some (ro, So0) → ∀ (H : Heap) (locs : List Loc) (ls : Array Slot), xS G A s.heap (wd_Model G a S0) H locs → lv_has ls 13 [(0, .ref (a 0)), (3, .long x3), (5, .long x5), (7, .int x7)] → W p l e ({ frames := 6, cells := 0, slots := 0, locals := 140 }) s m args below meth c H locs 0 0 (MQ below (xQo G (some (.int ro)) A (wd_Model G a So0)) args s 0 0 A) (F0 m 71 ls []) := by
  have hx := C0.1
  have hb := C0.2.1
  intro n
  induction n with
  | zero =>
    intro S0 x3 x5 x7 hf
    have hf : none = some (ro, So0) := hf
    cases hf
  | succ n ih =>
    intro S0 x3 x5 x7 hf H locs ls X hl
    rw [fl_X9_reads_71] at hf
    refine lv_iload (pc := 71) hx hb dX9_reads_71 (lv_at hl 3 rfl) ?_
    refine lv_iconst (pc := 73) (v := 4) hx hb dX9_reads_73 (by decide) ?_
    refine lv_icmp_ge (pc := 74) (tgt := 97) hx hb dX9_reads_74 (by decide) (fun c_11 => ?_) (fun c_11 => ?_)
    · have hf := it_p hf c_11
      exact hk97 _ _ _ _ hf _ _ _ X (lv_sub hl [0, 1, 2, 3] rfl)
    · have hf := it_n hf c_11
      refine x_ldc2 (pc := 77) C0 kw_25_20 dX9_reads_77 ?_
      refine lv_lload_n (pc := 80) hx hb dX9_reads_80 rfl (lv_at hl 1 rfl) ?_
      refine lv_lmul (pc := 81) hx hb dX9_reads_81 ?_
      refine lv_aload_n (pc := 82) hx hb dX9_reads_82 rfl (lv_at hl 0 rfl) ?_
      refine lv_iload (pc := 83) hx hb dX9_reads_83 (lv_at hl 3 rfl) ?_
      obtain ⟨r_12, h_13, hf⟩ := bd_e hf
      refine x_cv (pc := 85) (ws' := wd_Model G a S0) (As := [.int x7]) (rest := [.long ((256 : Int64) * x3)]) (ci := 9) (qr := 0) C0 KN X hA [0, 1, 2, 3, 4, 5, 6, 7, 8, 9, 10, 11, 12, 13, 14, 15, 16, 17, 18] [] [0, 1, 2, 3, 4, 5, 6, 7, 8, 9, 10, 11, 12, 13, 14, 15, 16, 17, 18] cu_C49 rfl cu_R49 rfl (by decide) (cu_J49 (S0 := S0)) rfl (ct_X9_byteAt l G a S0 x7 r_12 h_13) rfl rfl rfl kw_27_13 kw_27_10 kw_27_11 kw_27_12 kw_1_5 hd_X9_byteAt ⟨by decide, by decide⟩ hl.1 rfl (Nat.le_of_ble_eq_true rfl) ⟨Nat.zero_le _, Nat.zero_le _⟩ dX9_reads_85 (fun H locs X => ?_)
      refine W.eq (g2 := F0 m 88 ls [.int r_12, .long ((256 : Int64) * x3)]) rfl ?_
      refine lv_i2l (pc := 88) (v := r_12.toInt64) hx hb dX9_reads_88 rfl ?_
      refine lv_ladd (pc := 89) hx hb dX9_reads_89 ?_
      refine lv_topl (fun y_14 ey_14 => ?_)
      have hf := lt_sb hf ey_14
      refine lv_lstore_n (pc := 90) (lv' := [(3, .long y_14), (0, .ref (a 0)), (5, .long x5), (7, .int x7)]) hx hb dX9_reads_90 rfl hl (by decide) rfl (fun ls hl => ?_)
      obtain ⟨y_15, ey_15⟩ : ∃ y : Int32, y = x7 + (1 : Int32) := ⟨_, rfl⟩
      have hf := lt_sb hf ey_15
      refine lv_iinc (pc := 91) (v := y_15) (lv' := [(7, .int y_15), (3, .long y_14), (0, .ref (a 0)), (5, .long x5)]) hx hb dX9_reads_91 hl (k := 3) rfl (by rw [ey_15]; rfl) (by decide) rfl (fun ls hl => ?_)
      refine lv_goto (pc := 94) (tgt := 71) hx hb dX9_reads_94 (by decide) ?_
      exact ih _ _ _ _ hf _ _ _ X (lv_sub hl [2, 1, 3, 0] rfl)
set_option maxHeartbeats 4000000 in
set_option maxRecDepth 100000 in
theorem lb_X9_reads_185 {l : Launch} {p : Program} {e : Env} {s : State} {m : MethodId} {args : Array Value} {below : List Frame} {meth : Method} {c : Code} {G : xG} {A : Nat → Prop} {a : Nat → Nat} (C0 : xC p s m meth c cX9_reads 13 (some .int) RX9 args) (KN : xKN G s) (hA : ∀ q, s.heap.size ≤ q → A q) (ro : Int32) (So0 : tt_Model) (k222 : tt_Model → Int64 → Int64 → Int32 → Int32 → Int32 → Int32 → Option (Int32 × tt_Model)) (hk222 : ∀ (S0 : tt_Model) (x3 : Int64) (x5 : Int64) (x7 : Int32) (x8 : Int32) (x9 : Int32) (x12 : Int32), k222 S0 x3 x5 x7 x8 x9 x12 = some (ro, So0) → ∀ (H : Heap) (locs : List Loc) (ls : Array Slot), xS G A s.heap (wd_Model G a S0) H locs → lv_has ls 13 [(0, .ref (a 0)), (3, .long x3), (5, .long x5), (7, .int x7), (8, .int x8), (9, .int x9), (12, .int x12)] → W p l e ({ frames := 6, cells := 0, slots := 0, locals := 140 }) s m args below meth c H locs 0 0 (MQ below (xQo G (some (.int ro)) A (wd_Model G a So0)) args s 0 0 A) (F0 m 222 ls [])) : ∀ (n : Nat) (S0 : tt_Model) (x3 : Int64) (x5 : Int64) (x7 : Int32) (x8 : Int32) (x9 : Int32) (x12 : Int32), fl_X9_reads_185 k222 n S0 x3 x5 x7 x8 x9 x12 = some (ro, So0) → ∀ (H : Heap) (locs : List Loc) (ls : Array Slot), xS G A s.heap (wd_Model G a S0) H locs → lv_has ls 13 [(0, .ref (a 0)), (3, .long x3), (5, .long x5), (7, .int x7), (8, .int x8), (9, .int x9), (12, .int x12)] → W p l e ({ frames := 6, cells := 0, slots := 0, locals := 140 }) s m args below meth c H locs 0 0 (MQ below (xQo G (some (.int ro)) A (wd_Model G a So0)) args s 0 0 A) (F0 m 185 ls []) := by
  have hx := C0.1
  have hb := C0.2.1
  intro n
  induction n with
  | zero =>
    intro S0 x3 x5 x7 x8 x9 x12 hf
    have hf : none = some (ro, So0) := hf
    cases hf
  | succ n ih =>
    intro S0 x3 x5 x7 x8 x9 x12 hf H locs ls X hl
    rw [fl_X9_reads_185] at hf
    refine lv_lload (pc := 185) hx hb dX9_reads_185 (lv_at hl 2 rfl) ?_
    refine x_ldc2 (pc := 187) C0 kw_25_19 dX9_reads_187 ?_
    refine W.lcmp (pc := 190) hx hb dX9_reads_190 ?_
    refine lv_if_ge (pc := 191) (tgt := 222) hx hb dX9_reads_191 (by decide) (fun c_34 => ?_) (fun c_34 => ?_)
    · have hf := it_p hf ((lg_cmp_ge x5 (16777216 : Int64)).mp c_34)
      exact hk222 _ _ _ _ _ _ _ hf _ _ _ X (lv_sub hl [0, 1, 2, 3, 4, 5, 6] rfl)
    · have hf := it_n hf (fun z => c_34 ((lg_cmp_ge x5 (16777216 : Int64)).mpr z))
      refine x_ldc2 (pc := 194) C0 kw_25_20 dX9_reads_194 ?_
      refine lv_lload_n (pc := 197) hx hb dX9_reads_197 rfl (lv_at hl 1 rfl) ?_
      refine lv_lmul (pc := 198) hx hb dX9_reads_198 ?_
      refine lv_aload_n (pc := 199) hx hb dX9_reads_199 rfl (lv_at hl 0 rfl) ?_
      refine lv_iload (pc := 200) hx hb dX9_reads_200 (lv_at hl 3 rfl) ?_
      obtain ⟨r_35, h_36, hf⟩ := bd_e hf
      refine x_cv (pc := 202) (ws' := wd_Model G a S0) (As := [.int x7]) (rest := [.long ((256 : Int64) * x3)]) (ci := 9) (qr := 0) C0 KN X hA [0, 1, 2, 3, 4, 5, 6, 7, 8, 9, 10, 11, 12, 13, 14, 15, 16, 17, 18] [] [0, 1, 2, 3, 4, 5, 6, 7, 8, 9, 10, 11, 12, 13, 14, 15, 16, 17, 18] cu_C49 rfl cu_R49 rfl (by decide) (cu_J49 (S0 := S0)) rfl (ct_X9_byteAt l G a S0 x7 r_35 h_36) rfl rfl rfl kw_27_13 kw_27_10 kw_27_11 kw_27_12 kw_1_5 hd_X9_byteAt ⟨by decide, by decide⟩ hl.1 rfl (Nat.le_of_ble_eq_true rfl) ⟨Nat.zero_le _, Nat.zero_le _⟩ dX9_reads_202 (fun H locs X => ?_)
      refine W.eq (g2 := F0 m 205 ls [.int r_35, .long ((256 : Int64) * x3)]) rfl ?_
      refine lv_i2l (pc := 205) (v := r_35.toInt64) hx hb dX9_reads_205 rfl ?_
      refine lv_ladd (pc := 206) hx hb dX9_reads_206 ?_
      refine lv_topl (fun y_37 ey_37 => ?_)
      have hf := lt_sb hf ey_37
      refine lv_lstore_n (pc := 207) (lv' := [(3, .long y_37), (0, .ref (a 0)), (5, .long x5), (7, .int x7), (8, .int x8), (9, .int x9), (12, .int x12)]) hx hb dX9_reads_207 rfl hl (by decide) rfl (fun ls hl => ?_)
      refine lv_lload (pc := 208) hx hb dX9_reads_208 (lv_at hl 2 rfl) ?_
      refine x_ldc2 (pc := 210) C0 kw_25_20 dX9_reads_210 ?_
      refine lv_lmul (pc := 213) hx hb dX9_reads_213 ?_
      refine lv_topl (fun y_38 ey_38 => ?_)
      have hf := lt_sb hf ey_38
      refine lv_lstore (pc := 214) (lv' := [(5, .long y_38), (3, .long y_37), (0, .ref (a 0)), (7, .int x7), (8, .int x8), (9, .int x9), (12, .int x12)]) hx hb dX9_reads_214 hl (by decide) rfl (fun ls hl => ?_)
      obtain ⟨y_39, ey_39⟩ : ∃ y : Int32, y = x7 + (1 : Int32) := ⟨_, rfl⟩
      have hf := lt_sb hf ey_39
      refine lv_iinc (pc := 216) (v := y_39) (lv' := [(7, .int y_39), (5, .long y_38), (3, .long y_37), (0, .ref (a 0)), (8, .int x8), (9, .int x9), (12, .int x12)]) hx hb dX9_reads_216 hl (k := 3) rfl (by rw [ey_39]; rfl) (by decide) rfl (fun ls hl => ?_)
      refine lv_goto (pc := 219) (tgt := 185) hx hb dX9_reads_219 (by decide) ?_
      exact ih _ _ _ _ _ _ _ hf _ _ _ X (lv_sub hl [3, 2, 1, 0, 4, 5, 6] rfl)
set_option maxHeartbeats 4000000 in
set_option maxRecDepth 100000 in
theorem lb_X9_reads_247 {l : Launch} {p : Program} {e : Env} {s : State} {m : MethodId} {args : Array Value} {below : List Frame} {meth : Method} {c : Code} {G : xG} {A : Nat → Prop} {a : Nat → Nat} (C0 : xC p s m meth c cX9_reads 13 (some .int) RX9 args) (KN : xKN G s) (hA : ∀ q, s.heap.size ≤ q → A q) (ro : Int32) (So0 : tt_Model) (k115 : tt_Model → Int64 → Int64 → Int32 → Int32 → Int32 → Option (Int32 × tt_Model)) (hk115 : ∀ (S0 : tt_Model) (x3 : Int64) (x5 : Int64) (x7 : Int32) (x8 : Int32) (x9 : Int32), k115 S0 x3 x5 x7 x8 x9 = some (ro, So0) → ∀ (H : Heap) (locs : List Loc) (ls : Array Slot), xS G A s.heap (wd_Model G a S0) H locs → lv_has ls 13 [(0, .ref (a 0)), (3, .long x3), (5, .long x5), (7, .int x7), (8, .int x8), (9, .int x9)] → W p l e ({ frames := 6, cells := 0, slots := 0, locals := 140 }) s m args below meth c H locs 0 0 (MQ below (xQo G (some (.int ro)) A (wd_Model G a So0)) args s 0 0 A) (F0 m 115 ls [])) : ∀ (S0 : tt_Model) (x3 : Int64) (x5 : Int64) (x7 : Int32) (x9 : Int32) (t0 : Int32) (t1 : Int32), fn_X9_reads_247 k115 S0 x3 x5 x7 x9 t0 t1 = some (ro, So0) → ∀ (H : Heap) (locs : List Loc) (ls : Array Slot), xS G A s.heap (wd_Model G a S0) H locs → lv_has ls 13 [(0, .ref (a 0)), (3, .long x3), (5, .long x5), (7, .int x7), (9, .int x9)] → W p l e ({ frames := 6, cells := 0, slots := 0, locals := 140 }) s m args below meth c H locs 0 0 (MQ below (xQo G (some (.int ro)) A (wd_Model G a So0)) args s 0 0 A) (F0 m 247 ls [.int t1, .int t0]) := by
  have hx := C0.1
  have hb := C0.2.1
  intro S0 x3 x5 x7 x9 t0 t1 hf H locs ls X hl
  unfold fn_X9_reads_247 at hf
  refine lv_iadd (pc := 247) hx hb dX9_reads_247 ?_
  refine lv_topi (fun y_45 ey_45 => ?_)
  have hf := lt_sb hf ey_45
  refine lv_istore (pc := 248) (lv' := [(8, .int y_45), (0, .ref (a 0)), (3, .long x3), (5, .long x5), (7, .int x7), (9, .int x9)]) hx hb dX9_reads_248 hl (by decide) rfl (fun ls hl => ?_)
  obtain ⟨y_46, ey_46⟩ : ∃ y : Int32, y = x9 + (1 : Int32) := ⟨_, rfl⟩
  have hf := lt_sb hf ey_46
  refine lv_iinc (pc := 250) (v := y_46) (lv' := [(9, .int y_46), (8, .int y_45), (0, .ref (a 0)), (3, .long x3), (5, .long x5), (7, .int x7)]) hx hb dX9_reads_250 hl (k := 5) rfl (by rw [ey_46]; rfl) (by decide) rfl (fun ls hl => ?_)
  refine lv_goto (pc := 253) (tgt := 115) hx hb dX9_reads_253 (by decide) ?_
  exact hk115 _ _ _ _ _ _ hf _ _ _ X (lv_sub hl [2, 3, 4, 5, 1, 0] rfl)
set_option maxHeartbeats 4000000 in
set_option maxRecDepth 100000 in
theorem lb_X9_reads_183 {l : Launch} {p : Program} {e : Env} {s : State} {m : MethodId} {args : Array Value} {below : List Frame} {meth : Method} {c : Code} {G : xG} {A : Nat → Prop} {a : Nat → Nat} (C0 : xC p s m meth c cX9_reads 13 (some .int) RX9 args) (KN : xKN G s) (hA : ∀ q, s.heap.size ≤ q → A q) (ro : Int32) (So0 : tt_Model) (k115 : tt_Model → Int64 → Int64 → Int32 → Int32 → Int32 → Option (Int32 × tt_Model)) (hk115 : ∀ (S0 : tt_Model) (x3 : Int64) (x5 : Int64) (x7 : Int32) (x8 : Int32) (x9 : Int32), k115 S0 x3 x5 x7 x8 x9 = some (ro, So0) → ∀ (H : Heap) (locs : List Loc) (ls : Array Slot), xS G A s.heap (wd_Model G a S0) H locs → lv_has ls 13 [(0, .ref (a 0)), (3, .long x3), (5, .long x5), (7, .int x7), (8, .int x8), (9, .int x9)] → W p l e ({ frames := 6, cells := 0, slots := 0, locals := 140 }) s m args below meth c H locs 0 0 (MQ below (xQo G (some (.int ro)) A (wd_Model G a So0)) args s 0 0 A) (F0 m 115 ls [])) : ∀ (S0 : tt_Model) (x3 : Int64) (x7 : Int32) (x8 : Int32) (x9 : Int32) (x12 : Int32) (t0 : Int64), fn_X9_reads_183 k115 S0 x3 x7 x8 x9 x12 t0 = some (ro, So0) → ∀ (H : Heap) (locs : List Loc) (ls : Array Slot), xS G A s.heap (wd_Model G a S0) H locs → lv_has ls 13 [(0, .ref (a 0)), (3, .long x3), (7, .int x7), (8, .int x8), (9, .int x9), (12, .int x12)] → W p l e ({ frames := 6, cells := 0, slots := 0, locals := 140 }) s m args below meth c H locs 0 0 (MQ below (xQo G (some (.int ro)) A (wd_Model G a So0)) args s 0 0 A) (F0 m 183 ls [.long t0]) := by
  have hx := C0.1
  have hb := C0.2.1
  intro S0 x3 x7 x8 x9 x12 t0 hf H locs ls X hl
  unfold fn_X9_reads_183 at hf
  refine lv_lstore (pc := 183) (lv' := [(5, .long t0), (0, .ref (a 0)), (3, .long x3), (7, .int x7), (8, .int x8), (9, .int x9), (12, .int x12)]) hx hb dX9_reads_183 hl (by decide) rfl (fun ls hl => ?_)
  refine lb_X9_reads_185 C0 KN hA _ _ _ ?_ _ _ _ _ _ _ _ _ hf _ _ _ X (lv_sub hl [1, 2, 0, 3, 4, 5, 6] rfl)
  · intro S0_e222_40 x3_e222_40 x5_e222_40 x7_e222_40 x8_e222_40 x9_e222_40 x12_e222_40 hf H locs ls X hl
    refine lv_aload_n (pc := 222) hx hb dX9_reads_222 rfl (lv_at hl 0 rfl) ?_
    refine lv_iload (pc := 223) hx hb dX9_reads_223 (lv_at hl 6 rfl) ?_
    obtain ⟨P_41, h_42, hf⟩ := bd_e hf
    refine x_cv (pc := 225) (ws' := wd_Model G a P_41) (As := [.int x12_e222_40]) (rest := []) (ci := 9) (qr := 0) C0 KN X hA [0, 1, 2, 3, 4, 5, 6, 7, 8, 9, 10, 11, 12, 13, 14, 15, 16, 17, 18] [] [0, 1, 2, 3, 4, 5, 6, 7, 8, 9, 10, 11, 12, 13, 14, 15, 16, 17, 18] cu_C50 rfl cu_R50 rfl (by decide) (cu_J50 (S0 := S0_e222_40)) rfl (ct_X9_comes l G a S0_e222_40 x12_e222_40 P_41 h_42) rfl rfl rfl kw_14_2 kw_13_23 kw_14_0 kw_14_1 kw_1_5 hd_X9_comes ⟨by decide, by decide⟩ hl.1 rfl (Nat.le_of_ble_eq_true rfl) ⟨Nat.zero_le _, Nat.zero_le _⟩ dX9_reads_225 (fun H locs X => ?_)
    refine W.eq (g2 := F0 m 228 ls []) rfl ?_
    refine lv_iload (pc := 228) hx hb dX9_reads_228 (lv_at hl 4 rfl) ?_
    refine lv_iload (pc := 230) hx hb dX9_reads_230 (lv_at hl 6 rfl) ?_
    refine lv_aload_n (pc := 232) hx hb dX9_reads_232 rfl (lv_at hl 0 rfl) ?_
    refine x_get (pc := 233) (ci := 9) C0 KN X 0 rfl rfl inlX9 0 (by decide) kw_7_9 rfl dX9_reads_233 ?_
    refine lv_iload (pc := 236) hx hb dX9_reads_236 (lv_at hl 5 rfl) ?_
    obtain ⟨g_43, hf⟩ := gd_e hf
    refine x_ald (pc := 238) C0 KN X 1 rfl g_43 dX9_reads_238 ?_
    refine W.eq (g2 := F0 m 239 ls [.int ((gf_Model_now P_41) x9_e222_40.toNatClampNeg), .int x12_e222_40, .int x8_e222_40]) rfl ?_
    refine lv_icmp_ne (pc := 239) (tgt := 246) hx hb dX9_reads_239 (by decide) (fun c_44 => ?_) (fun c_44 => ?_)
    · have hf := it_n hf c_44
      refine lv_iconst (pc := 246) (v := 0) hx hb dX9_reads_246 (by decide) ?_
      exact lb_X9_reads_247 C0 KN hA _ _ k115 hk115 _ _ _ _ _ _ _ hf _ _ _ X (lv_sub hl [0, 1, 2, 3, 5] rfl)
    · have hf := it_p hf c_44
      refine lv_iconst (pc := 242) (v := 1) hx hb dX9_reads_242 (by decide) ?_
      refine lv_goto (pc := 243) (tgt := 247) hx hb dX9_reads_243 (by decide) ?_
      exact lb_X9_reads_247 C0 KN hA _ _ k115 hk115 _ _ _ _ _ _ _ hf _ _ _ X (lv_sub hl [0, 1, 2, 3, 5] rfl)
set_option maxHeartbeats 4000000 in
set_option maxRecDepth 100000 in
theorem lb_X9_reads_165 {l : Launch} {p : Program} {e : Env} {s : State} {m : MethodId} {args : Array Value} {below : List Frame} {meth : Method} {c : Code} {G : xG} {A : Nat → Prop} {a : Nat → Nat} (C0 : xC p s m meth c cX9_reads 13 (some .int) RX9 args) (KN : xKN G s) (hA : ∀ q, s.heap.size ≤ q → A q) (ro : Int32) (So0 : tt_Model) (k115 : tt_Model → Int64 → Int64 → Int32 → Int32 → Int32 → Option (Int32 × tt_Model)) (hk115 : ∀ (S0 : tt_Model) (x3 : Int64) (x5 : Int64) (x7 : Int32) (x8 : Int32) (x9 : Int32), k115 S0 x3 x5 x7 x8 x9 = some (ro, So0) → ∀ (H : Heap) (locs : List Loc) (ls : Array Slot), xS G A s.heap (wd_Model G a S0) H locs → lv_has ls 13 [(0, .ref (a 0)), (3, .long x3), (5, .long x5), (7, .int x7), (8, .int x8), (9, .int x9)] → W p l e ({ frames := 6, cells := 0, slots := 0, locals := 140 }) s m args below meth c H locs 0 0 (MQ below (xQo G (some (.int ro)) A (wd_Model G a So0)) args s 0 0 A) (F0 m 115 ls [])) : ∀ (S0 : tt_Model) (x5 : Int64) (x7 : Int32) (x8 : Int32) (x9 : Int32) (x10 : Int64) (x12 : Int32) (t0 : Int64) (t1 : Int64), fn_X9_reads_165 k115 S0 x5 x7 x8 x9 x10 x12 t0 t1 = some (ro, So0) → ∀ (H : Heap) (locs : List Loc) (ls : Array Slot), xS G A s.heap (wd_Model G a S0) H locs → lv_has ls 13 [(0, .ref (a 0)), (5, .long x5), (7, .int x7), (8, .int x8), (9, .int x9), (10, .long x10), (12, .int x12)] → W p l e ({ frames := 6, cells := 0, slots := 0, locals := 140 }) s m args below meth c H locs 0 0 (MQ below (xQo G (some (.int ro)) A (wd_Model G a So0)) args s 0 0 A) (F0 m 165 ls [.long t1, .long t0]) := by
  have hx := C0.1
  have hb := C0.2.1
  intro S0 x5 x7 x8 x9 x10 x12 t0 t1 hf H locs ls X hl
  unfold fn_X9_reads_165 at hf
  refine lv_lsub (pc := 165) hx hb dX9_reads_165 ?_
  refine lv_topl (fun y_32 ey_32 => ?_)
  have hf := lt_sb hf ey_32
  refine lv_lstore_n (pc := 166) (lv' := [(3, .long y_32), (0, .ref (a 0)), (5, .long x5), (7, .int x7), (8, .int x8), (9, .int x9), (10, .long x10), (12, .int x12)]) hx hb dX9_reads_166 rfl hl (by decide) rfl (fun ls hl => ?_)
  refine lv_iload (pc := 167) hx hb dX9_reads_167 (lv_at hl 7 rfl) ?_
  refine lv_iconst (pc := 169) (v := 1) hx hb dX9_reads_169 (by decide) ?_
  refine lv_icmp_ne (pc := 170) (tgt := 178) hx hb dX9_reads_170 (by decide) (fun c_33 => ?_) (fun c_33 => ?_)
  · have hf := it_n hf c_33
    refine lv_lload (pc := 178) hx hb dX9_reads_178 (lv_at hl 2 rfl) ?_
    refine lv_lload (pc := 180) hx hb dX9_reads_180 (lv_at hl 6 rfl) ?_
    refine lv_lsub (pc := 182) hx hb dX9_reads_182 ?_
    exact lb_X9_reads_183 C0 KN hA _ _ k115 hk115 _ _ _ _ _ _ _ hf _ _ _ X (lv_sub hl [1, 0, 3, 4, 5, 7] rfl)
  · have hf := it_p hf c_33
    refine lv_lload (pc := 173) hx hb dX9_reads_173 (lv_at hl 6 rfl) ?_
    refine lv_goto (pc := 175) (tgt := 183) hx hb dX9_reads_175 (by decide) ?_
    exact lb_X9_reads_183 C0 KN hA _ _ k115 hk115 _ _ _ _ _ _ _ hf _ _ _ X (lv_sub hl [1, 0, 3, 4, 5, 7] rfl)
set_option maxHeartbeats 4000000 in
set_option maxRecDepth 100000 in
theorem lb_X9_reads_150 {l : Launch} {p : Program} {e : Env} {s : State} {m : MethodId} {args : Array Value} {below : List Frame} {meth : Method} {c : Code} {G : xG} {A : Nat → Prop} {a : Nat → Nat} (C0 : xC p s m meth c cX9_reads 13 (some .int) RX9 args) (KN : xKN G s) (hA : ∀ q, s.heap.size ≤ q → A q) (ro : Int32) (So0 : tt_Model) (k115 : tt_Model → Int64 → Int64 → Int32 → Int32 → Int32 → Option (Int32 × tt_Model)) (hk115 : ∀ (S0 : tt_Model) (x3 : Int64) (x5 : Int64) (x7 : Int32) (x8 : Int32) (x9 : Int32), k115 S0 x3 x5 x7 x8 x9 = some (ro, So0) → ∀ (H : Heap) (locs : List Loc) (ls : Array Slot), xS G A s.heap (wd_Model G a S0) H locs → lv_has ls 13 [(0, .ref (a 0)), (3, .long x3), (5, .long x5), (7, .int x7), (8, .int x8), (9, .int x9)] → W p l e ({ frames := 6, cells := 0, slots := 0, locals := 140 }) s m args below meth c H locs 0 0 (MQ below (xQo G (some (.int ro)) A (wd_Model G a So0)) args s 0 0 A) (F0 m 115 ls [])) : ∀ (S0 : tt_Model) (x3 : Int64) (x5 : Int64) (x7 : Int32) (x8 : Int32) (x9 : Int32) (x10 : Int64) (t0 : Int32), fn_X9_reads_150 k115 S0 x3 x5 x7 x8 x9 x10 t0 = some (ro, So0) → ∀ (H : Heap) (locs : List Loc) (ls : Array Slot), xS G A s.heap (wd_Model G a S0) H locs → lv_has ls 13 [(0, .ref (a 0)), (3, .long x3), (5, .long x5), (7, .int x7), (8, .int x8), (9, .int x9), (10, .long x10)] → W p l e ({ frames := 6, cells := 0, slots := 0, locals := 140 }) s m args below meth c H locs 0 0 (MQ below (xQo G (some (.int ro)) A (wd_Model G a So0)) args s 0 0 A) (F0 m 150 ls [.int t0]) := by
  have hx := C0.1
  have hb := C0.2.1
  intro S0 x3 x5 x7 x8 x9 x10 t0 hf H locs ls X hl
  unfold fn_X9_reads_150 at hf
  refine lv_istore (pc := 150) (lv' := [(12, .int t0), (0, .ref (a 0)), (3, .long x3), (5, .long x5), (7, .int x7), (8, .int x8), (9, .int x9), (10, .long x10)]) hx hb dX9_reads_150 hl (by decide) rfl (fun ls hl => ?_)
  refine lv_lload_n (pc := 152) hx hb dX9_reads_152 rfl (lv_at hl 2 rfl) ?_
  refine lv_iload (pc := 153) hx hb dX9_reads_153 (lv_at hl 0 rfl) ?_
  refine lv_iconst (pc := 155) (v := 1) hx hb dX9_reads_155 (by decide) ?_
  refine lv_icmp_ne (pc := 156) (tgt := 163) hx hb dX9_reads_156 (by decide) (fun c_31 => ?_) (fun c_31 => ?_)
  · have hf := it_n hf c_31
    refine lv_lload (pc := 163) hx hb dX9_reads_163 (lv_at hl 7 rfl) ?_
    exact lb_X9_reads_165 C0 KN hA _ _ k115 hk115 _ _ _ _ _ _ _ _ _ hf _ _ _ X (lv_sub hl [1, 3, 4, 5, 6, 7, 0] rfl)
  · have hf := it_p hf c_31
    refine lv_lconst (pc := 159) (v := 0) hx hb dX9_reads_159 (by decide) ?_
    refine lv_goto (pc := 160) (tgt := 165) hx hb dX9_reads_160 (by decide) ?_
    exact lb_X9_reads_165 C0 KN hA _ _ k115 hk115 _ _ _ _ _ _ _ _ _ hf _ _ _ X (lv_sub hl [1, 3, 4, 5, 6, 7, 0] rfl)
set_option maxHeartbeats 4000000 in
set_option maxRecDepth 100000 in
theorem lb_X9_reads_115 {l : Launch} {p : Program} {e : Env} {s : State} {m : MethodId} {args : Array Value} {below : List Frame} {meth : Method} {c : Code} {G : xG} {A : Nat → Prop} {a : Nat → Nat} (C0 : xC p s m meth c cX9_reads 13 (some .int) RX9 args) (KN : xKN G s) (hA : ∀ q, s.heap.size ≤ q → A q) (ro : Int32) (So0 : tt_Model) (k256 : tt_Model → Int32 → Option (Int32 × tt_Model)) (hk256 : ∀ (S0 : tt_Model) (x8 : Int32), k256 S0 x8 = some (ro, So0) → ∀ (H : Heap) (locs : List Loc) (ls : Array Slot), xS G A s.heap (wd_Model G a S0) H locs → lv_has ls 13 [(0, .ref (a 0)), (8, .int x8)] → W p l e ({ frames := 6, cells := 0, slots := 0, locals := 140 }) s m args below meth c H locs 0 0 (MQ below (xQo G (some (.int ro)) A (wd_Model G a So0)) args s 0 0 A) (F0 m 256 ls [])) : ∀ (n : Nat) (S0 : tt_Model) (x3 : Int64) (x5 : Int64) (x7 : Int32) (x8 : Int32) (x9 : Int32), fl_X9_reads_115 k256 n S0 x3 x5 x7 x8 x9 = some (ro, So0) → ∀ (H : Heap) (locs : List Loc) (ls : Array Slot), xS G A s.heap (wd_Model G a S0) H locs → lv_has ls 13 [(0, .ref (a 0)), (3, .long x3), (5, .long x5), (7, .int x7), (8, .int x8), (9, .int x9)] → W p l e ({ frames := 6, cells := 0, slots := 0, locals := 140 }) s m args below meth c H locs 0 0 (MQ below (xQo G (some (.int ro)) A (wd_Model G a So0)) args s 0 0 A) (F0 m 115 ls []) := by
  have hx := C0.1
  have hb := C0.2.1
  intro n
  induction n with
  | zero =>
    intro S0 x3 x5 x7 x8 x9 hf
    have hf : none = some (ro, So0) := hf
    cases hf
  | succ n ih =>
    intro S0 x3 x5 x7 x8 x9 hf H locs ls X hl
    rw [fl_X9_reads_115] at hf
    refine lv_iload (pc := 115) hx hb dX9_reads_115 (lv_at hl 5 rfl) ?_
    refine lv_aload_n (pc := 117) hx hb dX9_reads_117 rfl (lv_at hl 0 rfl) ?_
    obtain ⟨r_23, h_24, hf⟩ := bd_e hf
    refine x_cv (pc := 118) (ws' := wd_Model G a S0) (As := []) (rest := [.int x9]) (ci := 9) (qr := 0) C0 KN X hA [0, 1, 2, 3, 4, 5, 6, 7, 8, 9, 10, 11, 12, 13, 14, 15, 16, 17, 18] [] [0, 1, 2, 3, 4, 5, 6, 7, 8, 9, 10, 11, 12, 13, 14, 15, 16, 17, 18] cu_C49 rfl cu_R49 rfl (by decide) (cu_J49 (S0 := S0)) rfl (ct_X9_many l G a S0 r_23 h_24) rfl rfl rfl kw_11_5 kw_11_2 kw_11_3 kw_11_4 kw_1_5 hd_X9_many ⟨by decide, by decide⟩ hl.1 rfl (Nat.le_of_ble_eq_true rfl) ⟨Nat.zero_le _, Nat.zero_le _⟩ dX9_reads_118 (fun H locs X => ?_)
    refine W.eq (g2 := F0 m 121 ls [.int r_23, .int x9]) rfl ?_
    refine lv_icmp_ge (pc := 121) (tgt := 256) hx hb dX9_reads_121 (by decide) (fun c_25 => ?_) (fun c_25 => ?_)
    · have hf := it_p hf c_25
      exact hk256 _ _ hf _ _ _ X (lv_sub hl [0, 4] rfl)
    · have hf := it_n hf c_25
      refine lv_lload (pc := 124) hx hb dX9_reads_124 (lv_at hl 2 rfl) ?_
      refine x_ldc2 (pc := 126) C0 kw_13_3 dX9_reads_126 ?_
      refine lv_ldiv (pc := 129) hx hb dX9_reads_129 (by decide) ?_
      refine lv_aload_n (pc := 130) hx hb dX9_reads_130 rfl (lv_at hl 0 rfl) ?_
      obtain ⟨r_26, P_27, h_28, hf⟩ := b2_e hf
      refine x_cv (pc := 131) (ws' := wd_Model G a P_27) (As := []) (rest := [.long (x5 / (65536 : Int64))]) (ci := 9) (qr := 0) C0 KN X hA [0, 1, 2, 3, 4, 5, 6, 7, 8, 9, 10, 11, 12, 13, 14, 15, 16, 17, 18] [] [0, 1, 2, 3, 4, 5, 6, 7, 8, 9, 10, 11, 12, 13, 14, 15, 16, 17, 18] cu_C50 rfl cu_R50 rfl (by decide) (cu_J50 (S0 := S0)) rfl (ct_X9_guesses l G a S0 r_26 P_27 h_28) rfl rfl rfl kw_13_2 kw_12_23 kw_13_0 kw_13_1 kw_1_5 hd_X9_guesses ⟨by decide, by decide⟩ hl.1 rfl (Nat.le_of_ble_eq_true rfl) ⟨Nat.zero_le _, Nat.zero_le _⟩ dX9_reads_131 (fun H locs X => ?_)
      refine W.eq (g2 := F0 m 134 ls [.int r_26, .long (x5 / (65536 : Int64))]) rfl ?_
      refine lv_i2l (pc := 134) (v := r_26.toInt64) hx hb dX9_reads_134 rfl ?_
      refine lv_lmul (pc := 135) hx hb dX9_reads_135 ?_
      refine lv_topl (fun y_29 ey_29 => ?_)
      have hf := lt_sb hf ey_29
      refine lv_lstore (pc := 136) (lv' := [(10, .long y_29), (0, .ref (a 0)), (3, .long x3), (5, .long x5), (7, .int x7), (8, .int x8), (9, .int x9)]) hx hb dX9_reads_136 hl (by decide) rfl (fun ls hl => ?_)
      refine lv_lload_n (pc := 138) hx hb dX9_reads_138 rfl (lv_at hl 2 rfl) ?_
      refine lv_lload (pc := 139) hx hb dX9_reads_139 (lv_at hl 0 rfl) ?_
      refine W.lcmp (pc := 141) hx hb dX9_reads_141 ?_
      refine lv_if_ge (pc := 142) (tgt := 149) hx hb dX9_reads_142 (by decide) (fun c_30 => ?_) (fun c_30 => ?_)
      · have hf := it_p hf ((lg_cmp_ge x3 y_29).mp c_30)
        refine lv_iconst (pc := 149) (v := 0) hx hb dX9_reads_149 (by decide) ?_
        exact lb_X9_reads_150 C0 KN hA _ _ (fl_X9_reads_115 k256 n) ih _ _ _ _ _ _ _ _ hf _ _ _ X (lv_sub hl [1, 2, 3, 4, 5, 6, 0] rfl)
      · have hf := it_n hf (fun z => c_30 ((lg_cmp_ge x3 y_29).mpr z))
        refine lv_iconst (pc := 145) (v := 1) hx hb dX9_reads_145 (by decide) ?_
        refine lv_goto (pc := 146) (tgt := 150) hx hb dX9_reads_146 (by decide) ?_
        exact lb_X9_reads_150 C0 KN hA _ _ (fl_X9_reads_115 k256 n) ih _ _ _ _ _ _ _ _ hf _ _ _ X (lv_sub hl [1, 2, 3, 4, 5, 6, 0] rfl)
set_option maxHeartbeats 4000000 in
set_option maxRecDepth 100000 in
theorem lb_X9_reads_61 {l : Launch} {p : Program} {e : Env} {s : State} {m : MethodId} {args : Array Value} {below : List Frame} {meth : Method} {c : Code} {G : xG} {A : Nat → Prop} {a : Nat → Nat} (C0 : xC p s m meth c cX9_reads 13 (some .int) RX9 args) (KN : xKN G s) (hA : ∀ q, s.heap.size ≤ q → A q) (ro : Int32) (So0 : tt_Model) : ∀ (S0 : tt_Model), fn_X9_reads_61 S0 = some (ro, So0) → ∀ (H : Heap) (locs : List Loc) (ls : Array Slot), xS G A s.heap (wd_Model G a S0) H locs → lv_has ls 13 [(0, .ref (a 0))] → W p l e ({ frames := 6, cells := 0, slots := 0, locals := 140 }) s m args below meth c H locs 0 0 (MQ below (xQo G (some (.int ro)) A (wd_Model G a So0)) args s 0 0 A) (F0 m 61 ls []) := by
  have hx := C0.1
  have hb := C0.2.1
  intro S0 hf H locs ls X hl
  unfold fn_X9_reads_61 at hf
  refine lv_lconst (pc := 61) (v := 0) hx hb dX9_reads_61 (by decide) ?_
  refine lv_lstore_n (pc := 62) (lv' := [(3, .long (0 : Int64)), (0, .ref (a 0))]) hx hb dX9_reads_62 rfl hl (by decide) rfl (fun ls hl => ?_)
  refine x_ldc2 (pc := 63) C0 kw_25_17 dX9_reads_63 ?_
  refine lv_lstore (pc := 66) (lv' := [(5, .long (4294967296 : Int64)), (3, .long (0 : Int64)), (0, .ref (a 0))]) hx hb dX9_reads_66 hl (by decide) rfl (fun ls hl => ?_)
  refine lv_iconst (pc := 68) (v := 0) hx hb dX9_reads_68 (by decide) ?_
  refine lv_istore (pc := 69) (lv' := [(7, .int (0 : Int32)), (5, .long (4294967296 : Int64)), (3, .long (0 : Int64)), (0, .ref (a 0))]) hx hb dX9_reads_69 hl (by decide) rfl (fun ls hl => ?_)
  refine lb_X9_reads_71 C0 KN hA _ _ _ ?_ _ _ _ _ _ hf _ _ _ X (lv_sub hl [3, 2, 1, 0] rfl)
  · intro S0_e97_16 x3_e97_16 x5_e97_16 x7_e97_16 hf H locs ls X hl
    refine lv_iconst (pc := 97) (v := 0) hx hb dX9_reads_97 (by decide) ?_
    refine lv_istore (pc := 98) (lv' := [(8, .int (0 : Int32)), (0, .ref (a 0)), (3, .long x3_e97_16), (5, .long x5_e97_16), (7, .int x7_e97_16)]) hx hb dX9_reads_98 hl (by decide) rfl (fun ls hl => ?_)
    refine lv_aload_n (pc := 100) hx hb dX9_reads_100 rfl (lv_at hl 1 rfl) ?_
    refine lv_aload_n (pc := 101) hx hb dX9_reads_101 rfl (lv_at hl 1 rfl) ?_
    obtain ⟨r_17, h_18, hf⟩ := bd_e hf
    refine x_cv (pc := 102) (ws' := wd_Model G a S0_e97_16) (As := []) (rest := [.ref (a 0)]) (ci := 9) (qr := 0) C0 KN X hA [0, 1, 2, 3, 4, 5, 6, 7, 8, 9, 10, 11, 12, 13, 14, 15, 16, 17, 18] [] [0, 1, 2, 3, 4, 5, 6, 7, 8, 9, 10, 11, 12, 13, 14, 15, 16, 17, 18] cu_C49 rfl cu_R49 rfl (by decide) (cu_J49 (S0 := S0_e97_16)) rfl (ct_X9_depth l G a S0_e97_16 r_17 h_18) rfl rfl rfl kw_12_6 kw_12_3 kw_12_4 kw_12_5 kw_1_5 hd_X9_depth ⟨by decide, by decide⟩ hl.1 rfl (Nat.le_of_ble_eq_true rfl) ⟨Nat.zero_le _, Nat.zero_le _⟩ dX9_reads_102 (fun H locs X => ?_)
    refine W.eq (g2 := F0 m 105 ls [.int r_17, .ref (a 0)]) rfl ?_
    refine lv_aload_n (pc := 105) hx hb dX9_reads_105 rfl (lv_at hl 1 rfl) ?_
    obtain ⟨r_19, h_20, hf⟩ := bd_e hf
    refine x_cv (pc := 106) (ws' := wd_Model G a S0_e97_16) (As := []) (rest := [.int r_17, .ref (a 0)]) (ci := 9) (qr := 0) C0 KN X hA [0, 1, 2, 3, 4, 5, 6, 7, 8, 9, 10, 11, 12, 13, 14, 15, 16, 17, 18] [] [0, 1, 2, 3, 4, 5, 6, 7, 8, 9, 10, 11, 12, 13, 14, 15, 16, 17, 18] cu_C49 rfl cu_R49 rfl (by decide) (cu_J49 (S0 := S0_e97_16)) rfl (ct_X9_guesser l G a S0_e97_16 r_19 h_20) rfl rfl rfl kw_12_10 kw_12_7 kw_12_8 kw_12_9 kw_1_5 hd_X9_guesser ⟨by decide, by decide⟩ hl.1 rfl (Nat.le_of_ble_eq_true rfl) ⟨Nat.zero_le _, Nat.zero_le _⟩ dX9_reads_106 (fun H locs X => ?_)
    refine W.eq (g2 := F0 m 109 ls [.int r_19, .int r_17, .ref (a 0)]) rfl ?_
    obtain ⟨P_21, h_22, hf⟩ := bd_e hf
    refine x_cv (pc := 109) (ws' := wd_Model G a P_21) (As := [.int r_17, .int r_19]) (rest := []) (ci := 9) (qr := 0) C0 KN X hA [0, 1, 2, 3, 4, 5, 6, 7, 8, 9, 10, 11, 12, 13, 14, 15, 16, 17, 18] [] [0, 1, 2, 3, 4, 5, 6, 7, 8, 9, 10, 11, 12, 13, 14, 15, 16, 17, 18] cu_C50 rfl cu_R50 rfl (by decide) (cu_J50 (S0 := S0_e97_16)) rfl (ct_X9_begins l G a S0_e97_16 r_17 r_19 P_21 h_22) rfl rfl rfl kw_12_18 kw_12_15 kw_12_16 kw_12_17 kw_1_5 hd_X9_begins ⟨by decide, by decide⟩ hl.1 rfl (Nat.le_of_ble_eq_true rfl) ⟨Nat.zero_le _, Nat.zero_le _⟩ dX9_reads_109 (fun H locs X => ?_)
    refine W.eq (g2 := F0 m 112 ls []) rfl ?_
    refine lv_iconst (pc := 112) (v := 0) hx hb dX9_reads_112 (by decide) ?_
    refine lv_istore (pc := 113) (lv' := [(9, .int (0 : Int32)), (8, .int (0 : Int32)), (0, .ref (a 0)), (3, .long x3_e97_16), (5, .long x5_e97_16), (7, .int x7_e97_16)]) hx hb dX9_reads_113 hl (by decide) rfl (fun ls hl => ?_)
    refine lb_X9_reads_115 C0 KN hA _ _ _ ?_ _ _ _ _ _ _ _ hf _ _ _ X (lv_sub hl [2, 3, 4, 5, 1, 0] rfl)
    · intro S0_e256_47 x8_e256_47 hf H locs ls X hl
      refine lv_iload (pc := 256) hx hb dX9_reads_256 (lv_at hl 1 rfl) ?_
      obtain ⟨rfl, rfl⟩ := so_2 hf
      exact x_iret (pc := 258) C0 X dX9_reads_258
set_option maxHeartbeats 4000000 in
set_option maxRecDepth 100000 in
theorem lb_X9_reads_46 {l : Launch} {p : Program} {e : Env} {s : State} {m : MethodId} {args : Array Value} {below : List Frame} {meth : Method} {c : Code} {G : xG} {A : Nat → Prop} {a : Nat → Nat} (C0 : xC p s m meth c cX9_reads 13 (some .int) RX9 args) (KN : xKN G s) (hA : ∀ q, s.heap.size ≤ q → A q) (ro : Int32) (So0 : tt_Model) : ∀ (S0 : tt_Model) (x1 : Int32) (x2 : Int32), fn_X9_reads_46 S0 x1 x2 = some (ro, So0) → ∀ (H : Heap) (locs : List Loc) (ls : Array Slot), xS G A s.heap (wd_Model G a S0) H locs → lv_has ls 13 [(0, .ref (a 0)), (1, .int x1), (2, .int x2)] → W p l e ({ frames := 6, cells := 0, slots := 0, locals := 140 }) s m args below meth c H locs 0 0 (MQ below (xQo G (some (.int ro)) A (wd_Model G a So0)) args s 0 0 A) (F0 m 46 ls []) := by
  have hx := C0.1
  have hb := C0.2.1
  intro S0 x1 x2 hf H locs ls X hl
  unfold fn_X9_reads_46 at hf
  refine lv_iload_n (pc := 46) hx hb dX9_reads_46 rfl (lv_at hl 1 rfl) ?_
  refine lv_iconst (pc := 47) (v := (-1)) hx hb dX9_reads_47 (by decide) ?_
  refine lv_icmp_eq (pc := 48) (tgt := 61) hx hb dX9_reads_48 (by decide) (fun c_10 => ?_) (fun c_10 => ?_)
  · have hf := it_p hf c_10
    exact lb_X9_reads_61 C0 KN hA _ _  _ hf _ _ _ X (lv_sub hl [0] rfl)
  · have hf := it_n hf c_10
    refine lv_aload_n (pc := 51) hx hb dX9_reads_51 rfl (lv_at hl 0 rfl) ?_
    refine x_get (pc := 52) (ci := 9) C0 KN X 0 rfl rfl inlX9 19 (by decide) kw_8_1 rfl dX9_reads_52 ?_
    refine lv_iload_n (pc := 55) hx hb dX9_reads_55 rfl (lv_at hl 1 rfl) ?_
    refine lv_dup2_11 (pc := 56) hx hb dX9_reads_56 rfl rfl ?_
    obtain ⟨g_48, hf⟩ := gd_e hf
    refine x_ald (pc := 57) C0 KN X 16 rfl g_48 dX9_reads_57 ?_
    refine W.eq (g2 := F0 m 58 ls [.int ((gf_Model_out S0) x1.toNatClampNeg), .int x1, .ref (a 16)]) rfl ?_
    refine lv_iload_n (pc := 58) hx hb dX9_reads_58 rfl (lv_at hl 2 rfl) ?_
    refine lv_ixor (pc := 59) hx hb dX9_reads_59 ?_
    refine lv_topi (fun y_49 ey_49 => ?_)
    have hf := lt_sb hf ey_49
    obtain ⟨g_50, hf⟩ := gd_e hf
    obtain ⟨S_51, eS_51, hf⟩ := lt_e hf
    refine x_ast (pc := 60) (ws' := wd_Model G a S_51) C0 KN X 16 rfl g_50 (by subst eS_51; rfl) dX9_reads_60 (fun H locs X => ?_)
    exact lb_X9_reads_61 C0 KN hA _ _  _ hf _ _ _ X (lv_sub hl [0] rfl)
theorem hd_X9_reads : yX9_reads.cls ≠ "java/lang/invoke/MethodHandle" ∧ yX9_reads.cls ≠ "java/lang/invoke/VarHandle" ∧ (parseMethodDescriptor yX9_reads.desc).map (fun d => d.parameters.length) = some 2 := by decide +kernel
set_option maxHeartbeats 4000000 in
set_option maxRecDepth 100000 in
theorem ct_X9_reads (l : Launch) (G : xG) (a : Nat → Nat) (S0 : tt_Model) (x1 : Int32) (x2 : Int32) (ro : Int32) (So0 : tt_Model) (hf : fn_X9_reads S0 x1 x2 = some (ro, So0)) : xM l yX9_reads cX9_reads 13 (some .int) 6 140 G [.ref (a 0), .int x1, .int x2] (wd_Model G a S0) (wd_Model G a So0) (some (.int ro)) := by
  refine xMi (by decide) (Nat.le_of_ble_eq_true rfl) ?_
  intro p e s m below meth c A C0 KN hA X ls hl
  have hx := C0.1
  have hb := C0.2.1
  have C0 : xC p s m meth c cX9_reads 13 (some .int) RX9 _ := C0
  have hl : lv_has ls 13 [(0, .ref (a 0)), (1, .int x1), (2, .int x2)] := hl
  unfold fn_X9_reads at hf
  refine lv_aload_n (pc := 0) hx hb dX9_reads_0 rfl (lv_at hl 0 rfl) ?_
  obtain ⟨P_1, h_2, hf⟩ := bd_e hf
  refine x_cv (pc := 1) (ws' := wd_Model G a P_1) (As := []) (rest := []) (ci := 9) (qr := 0) C0 KN X hA [0, 1, 2, 3, 4, 5, 6, 7, 8, 9, 10, 11, 12, 13, 14, 15, 16, 17, 18] [] [0, 1, 2, 3, 4, 5, 6, 7, 8, 9, 10, 11, 12, 13, 14, 15, 16, 17, 18] cu_C50 rfl cu_R50 rfl (by decide) (cu_J50 (S0 := S0)) rfl (ct_X9_writes l G a S0 P_1 h_2) rfl rfl rfl kw_25_16 kw_25_13 kw_25_14 kw_25_15 kw_1_5 hd_X9_writes ⟨by decide, by decide⟩ hl.1 rfl (Nat.le_of_ble_eq_true rfl) ⟨Nat.zero_le _, Nat.zero_le _⟩ dX9_reads_1 (fun H locs X => ?_)
  refine W.eq (g2 := F0 m 4 ls []) rfl ?_
  refine lv_iload_n (pc := 4) hx hb dX9_reads_4 rfl (lv_at hl 1 rfl) ?_
  refine lv_i2l (pc := 5) (v := x1.toInt64) hx hb dX9_reads_5 rfl ?_
  refine x_ldc2 (pc := 6) C0 kw_27_9 dX9_reads_6 ?_
  refine lv_aload_n (pc := 9) hx hb dX9_reads_9 rfl (lv_at hl 0 rfl) ?_
  refine x_get (pc := 10) (ci := 9) C0 KN X 0 rfl rfl inlX9 20 (by decide) kw_25_12 rfl dX9_reads_10 ?_
  refine W.eq (g2 := F0 m 13 ls [.int (gf_Model_outLong P_1), .long (-1 : Int64), .long x1.toInt64]) rfl ?_
  refine lv_iconst (pc := 13) (v := 1) hx hb dX9_reads_13 (by decide) ?_
  refine lv_isub (pc := 14) hx hb dX9_reads_14 ?_
  refine lv_i2l (pc := 15) (v := ((gf_Model_outLong P_1) - (1 : Int32)).toInt64) hx hb dX9_reads_15 rfl ?_
  obtain ⟨r_3, h_4, hf⟩ := bd_e hf
  refine x_cs (pc := 16) (As := [.long x1.toInt64, .long (-1 : Int64), .long (((gf_Model_outLong P_1) - (1 : Int32)).toInt64)]) (rest := []) C0 (ct_X9_in l x1.toInt64 (-1 : Int64) (((gf_Model_outLong P_1) - (1 : Int32)).toInt64) r_3 h_4) kw_10_21 kw_10_19 kw_10_20 kw_1_5 hd_X9_in ⟨by decide, by decide⟩ hl.1 rfl (Nat.le_of_ble_eq_true rfl) ⟨Nat.zero_le _, Nat.zero_le _⟩ dX9_reads_16 ?_
  refine W.eq (g2 := F0 m 19 ls [.int r_3]) rfl ?_
  refine lv_if_eq (pc := 19) (tgt := 39) hx hb dX9_reads_19 (by decide) (fun c_5 => ?_) (fun c_5 => ?_)
  · have hf := it_p hf c_5
    exact lb_X9_reads_39 C0 KN hA _ _  _ hf _ _ _ X (lv_sub hl [0] rfl)
  · have hf := it_n hf c_5
    refine lv_iload_n (pc := 22) hx hb dX9_reads_22 rfl (lv_at hl 1 rfl) ?_
    refine lv_iconst (pc := 23) (v := (-1)) hx hb dX9_reads_23 (by decide) ?_
    refine lv_icmp_eq (pc := 24) (tgt := 46) hx hb dX9_reads_24 (by decide) (fun c_9 => ?_) (fun c_9 => ?_)
    · have hf := it_p hf c_9
      exact lb_X9_reads_46 C0 KN hA _ _  _ _ _ hf _ _ _ X (lv_sub hl [0, 1, 2] rfl)
    · have hf := it_n hf c_9
      refine lv_iload_n (pc := 27) hx hb dX9_reads_27 rfl (lv_at hl 2 rfl) ?_
      refine lv_i2l (pc := 28) (v := x2.toInt64) hx hb dX9_reads_28 rfl ?_
      refine lv_lconst (pc := 29) (v := 1) hx hb dX9_reads_29 (by decide) ?_
      refine x_ldc2 (pc := 30) C0 kw_26_1 dX9_reads_30 ?_
      obtain ⟨r_52, h_53, hf⟩ := bd_e hf
      refine x_cs (pc := 33) (As := [.long x2.toInt64, .long (1 : Int64), .long (255 : Int64)]) (rest := []) C0 (ct_X9_in l x2.toInt64 (1 : Int64) (255 : Int64) r_52 h_53) kw_10_21 kw_10_19 kw_10_20 kw_1_5 hd_X9_in ⟨by decide, by decide⟩ hl.1 rfl (Nat.le_of_ble_eq_true rfl) ⟨Nat.zero_le _, Nat.zero_le _⟩ dX9_reads_33 ?_
      refine W.eq (g2 := F0 m 36 ls [.int r_52]) rfl ?_
      refine lv_if_ne (pc := 36) (tgt := 46) hx hb dX9_reads_36 (by decide) (fun c_54 => ?_) (fun c_54 => ?_)
      · have hf := it_n hf c_54
        exact lb_X9_reads_46 C0 KN hA _ _  _ _ _ hf _ _ _ X (lv_sub hl [0, 1, 2] rfl)
      · have hf := it_p hf c_54
        exact lb_X9_reads_39 C0 KN hA _ _  _ hf _ _ _ X (lv_sub hl [0] rfl)
