theorem xarr {ty : FieldType} {args : Array Value} {s : State} (h : (Cond.arrayClass ty).before args s = true) : ∃ cA : ClassId, s.vm.findClass ("[" ++ ty.toString) = some cA ∧ ArrOfT s cA ty := by
  obtain ⟨cA, kA, comp, h1, h2, h3⟩ := Cond.arrayClass_spec (show (Cond.arrayClass ty).holds args s none s [] = true from h)
  exact ⟨cA, h1, fun n z => ⟨fun k h => (by cases h), kA, h2, comp, h3⟩⟩
set_option maxRecDepth 100000 in
theorem xnst {args : Array Value} {s : State} (hts : ∀ w ∈ lw_tbl, w.before args s = true) : xN s := by
  intro q hq
  have key : Cond.methodLinkNest q.1 q.2.1 q.2.2 RX8 ∈ lw_tbl := by
    revert q hq
    exact List.forall_mem_cons.mpr ⟨tb_1 _ (List.mem_of_getElem? (i := 22) rfl), List.forall_mem_cons.mpr ⟨tb_1 _ (List.mem_of_getElem? (i := 36) rfl), List.forall_mem_cons.mpr ⟨tb_1 _ (List.mem_of_getElem? (i := 39) rfl), List.forall_mem_cons.mpr ⟨tb_1 _ (List.mem_of_getElem? (i := 48) rfl), List.forall_mem_cons.mpr ⟨tb_1 _ (List.mem_of_getElem? (i := 140) rfl), List.forall_mem_cons.mpr ⟨tb_1 _ (List.mem_of_getElem? (i := 165) rfl), List.forall_mem_cons.mpr ⟨tb_1 _ (List.mem_of_getElem? (i := 187) rfl), List.forall_mem_cons.mpr ⟨tb_1 _ (List.mem_of_getElem? (i := 214) rfl), List.forall_mem_cons.mpr ⟨tb_2 _ (List.mem_of_getElem? (i := 16) rfl), List.forall_mem_cons.mpr ⟨tb_2 _ (List.mem_of_getElem? (i := 108) rfl), List.forall_mem_cons.mpr ⟨tb_2 _ (List.mem_of_getElem? (i := 113) rfl), List.forall_mem_cons.mpr ⟨tb_2 _ (List.mem_of_getElem? (i := 117) rfl), List.forall_mem_cons.mpr ⟨tb_2 _ (List.mem_of_getElem? (i := 124) rfl), List.forall_mem_cons.mpr ⟨tb_2 _ (List.mem_of_getElem? (i := 125) rfl), List.forall_mem_cons.mpr ⟨tb_2 _ (List.mem_of_getElem? (i := 130) rfl), List.forall_mem_cons.mpr ⟨tb_2 _ (List.mem_of_getElem? (i := 157) rfl), List.forall_mem_cons.mpr ⟨tb_2 _ (List.mem_of_getElem? (i := 193) rfl), List.forall_mem_cons.mpr ⟨tb_2 _ (List.mem_of_getElem? (i := 239) rfl), List.forall_mem_cons.mpr ⟨tb_3 _ (List.mem_of_getElem? (i := 39) rfl), List.forall_mem_cons.mpr ⟨tb_3 _ (List.mem_of_getElem? (i := 77) rfl), List.forall_mem_cons.mpr ⟨tb_3 _ (List.mem_of_getElem? (i := 90) rfl), fun _ h => absurd h List.not_mem_nil⟩⟩⟩⟩⟩⟩⟩⟩⟩⟩⟩⟩⟩⟩⟩⟩⟩⟩⟩⟩⟩
  exact va_Nw.of rfl (hts _ key)

set_option maxHeartbeats 8000000 in
set_option maxRecDepth 100000 in
theorem xkn_start {args : Array Value} {s : State} (hts : ∀ w ∈ lw_tbl, w.before args s = true) : ∃ G : xG, xKN G s := by
  obtain ⟨c0, i0, h0⟩ := u_known (C := RX0) (T := TX0) (N := 4) (n := 4) hts xl_in0 (hts (.instantiable RX0 4) (wsL_law_in _ kw_2_2))
  obtain ⟨c1, i1, h1⟩ := u_known (C := RX1) (T := TX1) (N := 5) (n := 5) hts xl_in1 (hts (.instantiable RX1 5) (wsL_law_in _ kw_1_22))
  obtain ⟨c2, i2, h2⟩ := u_known (C := RX2) (T := TX2) (N := 9) (n := 9) hts xl_in2 (hts (.instantiable RX2 9) (wsL_law_in _ kw_1_18))
  obtain ⟨c3, i3, h3⟩ := u_known (C := RX3) (T := TX3) (N := 6) (n := 6) hts xl_in3 (hts (.instantiable RX3 6) (wsL_law_in _ kw_1_14))
  obtain ⟨c4, i4, h4⟩ := u_known (C := RX4) (T := TX4) (N := 4) (n := 4) hts xl_in4 (hts (.instantiable RX4 4) (wsL_law_in _ kw_6_20))
  obtain ⟨c5, i5, h5⟩ := u_known (C := RX5) (T := TX5) (N := 3) (n := 3) hts xl_in5 (hts (.instantiable RX5 3) (wsL_law_in _ kw_2_14))
  obtain ⟨c6, i6, h6⟩ := u_known (C := RX6) (T := TX6) (N := 8) (n := 8) hts xl_in6 (hts (.instantiable RX6 8) (wsL_law_in _ kw_2_10))
  obtain ⟨c7, i7, h7⟩ := u_known (C := RX7) (T := TX7) (N := 6) (n := 6) hts xl_in7 (hts (.instantiable RX7 6) (wsL_law_in _ kw_2_6))
  obtain ⟨c8, i8, h8⟩ := u_known (C := RX8) (T := TX8) (N := 10) (n := 10) hts xl_in8 (hts (.instantiable RX8 10) (wsL_law_in _ kw_1_1))
  obtain ⟨c9, i9, h9⟩ := u_known (C := RX9) (T := TX9) (N := 27) (n := 27) hts xl_in9 (hts (.instantiable RX9 27) (wsL_law_in _ kw_1_4))
  obtain ⟨cI, f1, g1⟩ := xarr (hts (.arrayClass .int) (wsL_law_in _ kw_2_23))
  obtain ⟨cZ, f2, g2⟩ := xarr (hts (.arrayClass .boolean) (wsL_law_in _ kw_7_22))
  have hao : va_AO "TreeOdds$State" s := va_AO.of (hts (.arrayOver (.object "TreeOdds$State")) (tb_2 _ (List.mem_of_getElem? (i := 14) rfl)))
  obtain ⟨comp, cS, kS, e1, e2, e3, e4, e5⟩ := Cond.arrayOver_spec (show (Cond.arrayOver (.object "TreeOdds$State")).holds #[] s none s [] = true from hao.use)
  refine ⟨((fun k => ([c0, c1, c2, c3, c4, c5, c6, c7, c8, c9] : List ClassId).getD k c9, fun k => ([i0, i1, i2, i3, i4, i5, i6, i7, i8, i9] : List (Nat → Nat)).getD k i9), cI, cZ, cS), ⟨fun k q hq => ?_, fun k q hq => ?_⟩, xnst hts, hao⟩
  · match k, hq with
    | 0, hq => cases hq; exact h0
    | 1, hq => cases hq; exact h1
    | 2, hq => cases hq; exact h2
    | 3, hq => cases hq; exact h3
    | 4, hq => cases hq; exact h4
    | 5, hq => cases hq; exact h5
    | 6, hq => cases hq; exact h6
    | 7, hq => cases hq; exact h7
    | 8, hq => cases hq; exact h8
    | 9, hq => cases hq; exact h9
    | k + 10, hq => simp [vwCl] at hq
  · match k, hq with
    | 0, hq => cases hq; exact ⟨g1, f1⟩
    | 1, hq => cases hq; exact ⟨g2, f2⟩
    | 2, hq => cases hq; exact ⟨fun n z => ⟨fun k h => (by cases h), kS, e3, comp, e4⟩, kS, comp, e3, e4, e1, e5⟩
    | k + 3, hq => simp [xT] at hq
set_option maxHeartbeats 8000000 in
set_option maxRecDepth 100000 in
theorem whole_start {p : Program} {e : Env} {s : State} {m : MethodId} {below : List Frame} {meth : Method} {c : Code} (l : Launch) (hflags : l.flags = flags0) {b L : Nat} {xs : Nat → Int32} (hL : L ≤ 2048) (C0 : lw_At p s m meth c b L xs) : W p l e room_1 s m #[Value.ref b] below meth c s.heap [] 0 0 (lw_Z below #[Value.ref b] s) (entryFrame m ([Value.ref b] : List Value).toArray 4) := by
  obtain ⟨hx, hb, hr, hml, hown, hts, hX, hbl, hlocks, hgv⟩ := C0
  obtain ⟨G, KN⟩ := xkn_start hts
  obtain ⟨P0, hP0, hpure⟩ := law_pure xs L hL
  have C0 : xC p s m meth c cL_law 4 ret RL #[Value.ref b] := ⟨hx, hb, hml, hown, fun w hw => hts w (wsL_law_in w hw), hr, hlocks⟩
  have hA : ∀ q : Nat, s.heap.size ≤ q → (fun q : Nat => s.heap.size ≤ q) q := fun _ h => h
  have X : xS G (fun q : Nat => s.heap.size ≤ q) s.heap [] s.heap [] := ⟨fun k q h => by simp at h, ⟨fun i j p q h => by simp at h, fun k q h => by simp at h⟩, va_S.rf⟩
  have hl := lv_entry ([.ref b]) (n := 4) (Nat.le_of_ble_eq_true rfl)
  rw [lg_entry_eq]
  generalize (lg_sl ([.ref b]) ++ List.replicate (4 - (lg_sl ([.ref b])).length) Slot.unset).toArray = ls at hl ⊢
  have hl : lv_has ls 4 [(0, .ref b)] := hl
  refine x_new (pc := 0) (ci := 8) (fs := [.null, .null, .null, .null, .null, .null, .null, .int 0, .int 0, .int 0]) C0 KN X hA rfl inlX8 tyX8_ok kw_1_0 kw_1_1 kw_1_2 nf_X8 (Nat.le_of_ble_eq_true rfl) (Nat.le_of_ble_eq_true rfl) dL_law_0 (fun q1 H X => ?_)
  refine lv_dup (pc := 3) hx hb dL_law_3 rfl ?_
  refine x_ci2 (pc := 4) (wr := []) (wd := fun a => wd_TreeOdds G a (st_X0 P0)) (rest := [.ref q1]) C0 KN X hA (ci_X8 l G _ P0 hP0) kw_1_9 kw_1_7 kw_1_8 kw_1_2 rfl hd_X8_init ⟨Nat.le_of_ble_eq_true rfl, Nat.le_of_ble_eq_true rfl⟩ hl.1 rfl (Nat.le_of_ble_eq_true rfl) ⟨Nat.le_of_ble_eq_true rfl, Nat.le_of_ble_eq_true rfl⟩ dL_law_4 (fun a1 H locs h1 X9 => ?_)
  subst h1
  have X : xS G (fun q : Nat => s.heap.size ≤ q) s.heap (wd_TreeOdds G a1 (st_X0 P0)) H locs := X9
  refine lv_astore_n (pc := 7) (lv' := [(1, .ref (a1 0)), (0, .ref b)]) hx hb dL_law_7 rfl hl (by decide) rfl (fun ls hl => ?_)
  refine x_new (pc := 8) (ci := 9) (fs := [.null, .null, .int 0, .null, .null, .int 0, .int 0, .int 0, .null, .null, .null, .null, .null, .null, .null, .null, .null, .null, .null, .null, .int 0, .long 0, .null, .int 0, .int 0, .null, .int 0]) C0 KN X hA rfl inlX9 tyX9_ok kw_1_3 kw_1_4 kw_1_5 nf_X9 (Nat.le_of_ble_eq_true rfl) (Nat.le_of_ble_eq_true rfl) dL_law_8 (fun q2 H X => ?_)
  refine lv_dup (pc := 11) hx hb dL_law_11 rfl ?_
  refine x_ci2 (pc := 12) (wr := wd_TreeOdds G a1 (st_X0 P0)) (wd := fun a => wd_Model G a st_Y0) (rest := [.ref q2]) C0 KN X hA (ci_X9 l G _) kw_7_7 kw_7_5 kw_7_6 kw_1_5 rfl hd_X9_init ⟨Nat.le_of_ble_eq_true rfl, Nat.le_of_ble_eq_true rfl⟩ hl.1 rfl (Nat.le_of_ble_eq_true rfl) ⟨Nat.le_of_ble_eq_true rfl, Nat.le_of_ble_eq_true rfl⟩ dL_law_12 (fun b1 H locs h1 X9 => ?_)
  subst h1
  have X : xS G (fun q : Nat => s.heap.size ≤ q) s.heap (wd_TreeOdds G a1 (st_X0 P0) ++ wd_Model G b1 st_Y0) H locs := X9
  refine lv_astore_n (pc := 15) (lv' := [(2, .ref (b1 0)), (1, .ref (a1 0)), (0, .ref b)]) hx hb dL_law_15 rfl hl (by decide) rfl (fun ls hl => ?_)
  refine lv_iconst (pc := 16) (v := 0) hx hb dL_law_16 (by decide) ?_
  refine lv_istore_n (pc := 17) (lv' := [(3, .int 0), (2, .ref (b1 0)), (1, .ref (a1 0)), (0, .ref b)]) hx hb dL_law_17 rfl hl (by decide) rfl (fun ls hl => ?_)
  refine W.widen (k := 62) (n := 5243) (Nat.le_of_ble_eq_true rfl) (Nat.le_of_ble_eq_true rfl) ?_
  exact lb_L_law_18 C0 KN hA xs L hX hbl _ _ _ _ hpure _ _ _ X (lv_sub hl [3, 2, 1, 0] rfl)
