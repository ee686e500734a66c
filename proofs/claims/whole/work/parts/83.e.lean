/-! ===== pure part: the reference's comes, counts ===== -/
theorem t0_m {s z : Int32} (hs : s = 0 ∨ s = 1) : z + ((1 : Int32) - s) = t0_ s z := by
  rcases hs with rfl | rfl
  · rw [t0_, if_neg (by decide), show (1 : Int32) - 0 = 1 by decide +kernel]
  · rw [t0_, if_pos rfl, show (1 : Int32) - 1 = 0 by decide +kernel, Int32.add_zero]
theorem t1_m {s z : Int32} (hs : s = 0 ∨ s = 1) : z + s = t1_ s z := by
  rcases hs with rfl | rfl
  · rw [t1_, if_neg (by decide), Int32.add_zero]
  · rw [t1_, if_pos rfl]
def mc_ (d : Nat) (q : s4_) (Y : tt_Model) : Prop := ∀ v, 1 ≤ v → v < 2 ^ (d + 1) → gf_Model_noughts Y (v - 1) = q.1 v ∧ gf_Model_ones Y (v - 1) = q.2.1 v ∧ gf_Model_ownCost Y (v - 1) = q.2.2.2 v
theorem mc_upd {d v : Nat} {q q1 : s4_} {Y Y1 : tt_Model} {a b c : Int32} (hv : 1 ≤ v) (h : mc_ d q Y) (h1 : gf_Model_noughts Y1 = upd (gf_Model_noughts Y) (v - 1) a) (h2 : gf_Model_ones Y1 = upd (gf_Model_ones Y) (v - 1) b) (h3 : gf_Model_ownCost Y1 = upd (gf_Model_ownCost Y) (v - 1) c) (g1 : q1.1 = upd q.1 v a) (g2 : q1.2.1 = upd q.2.1 v b) (g3 : q1.2.2.2 = upd q.2.2.2 v c) : mc_ d q1 Y1 := by
  intro i i1 i2
  rw [h1, h2, h3, g1, g2, g3]
  by_cases hi : i = v
  · rw [hi, pk_us, pk_us, pk_us, pk_us, pk_us, pk_us]
    exact ⟨rfl, rfl, rfl⟩
  · rw [pk_un hi, pk_un hi, pk_un hi, pk_un (by omega), pk_un (by omega), pk_un (by omega)]
    exact h i i1 i2
theorem uu_ {f : Nat → Int32} {k : Nat} {a b : Int32} : upd (upd f k a) k b = upd f k b := by
  funext j
  by_cases hj : j = k <;> simp [upd, hj]
theorem cc_s {d : Nat} {g : Int32} {h : Nat} {q0 : s4_} {Y : tt_Model} (k : tt_Model → Int32 → Option tt_Model) (f : Nat) {s : Int32} (hs : s = 0 ∨ s = 1) (hd6 : d ≤ 6) {l : Nat} (hl : l ≤ d) (hD : gf_Model_byDepth Y = nI d) (hc : mc_ d (it_ g h d s q0 l) Y) (hy : ∀ i, i ≤ d → wy_ g h q0 Y i) :
    ∃ Y1, fl_X9_comes_125 k (f + 1) Y s (nI l) = fl_X9_comes_125 k f Y1 s (nI (l + 1)) ∧ kC Y1 Y ∧ mc_ d (it_ g h d s q0 (l + 1)) Y1 := by
  have hv := vN_128 (l := l) (h := h) (by omega)
  have hr := vN_r (h := h) hl
  have c1 : (nI l).toNatClampNeg = l := na_cl (by omega)
  have c2 : (nI (vN l h - 1)).toNatClampNeg = vN l h - 1 := na_cl (by omega)
  have hx : ix_ (nI l) 7 := na_ix (by omega) (by decide)
  have hxw : ix_ (nI (vN l h - 1)) 127 := na_ix (by omega) (by decide)
  obtain ⟨w1, w2⟩ := hy l hl
  obtain ⟨n1, n2, n4⟩ := hc _ hr.1 hr.2
  have hb : fn_X9_bitsOf (of_ s (ow_ g q0.1 q0.2.1 h l)) = some (bt_ (of_ s (ow_ g q0.1 q0.2.1 h l))) := by
    obtain ⟨x, x1, x2, ex⟩ := un_of (s := s) (un_ow g q0.1 q0.2.1 h l)
    rw [ex]
    exact bm_e x1 (by omega)
  rw [fl_X9_comes_125]
  simp only [hD, if_neg (nI_nlt hl (show d < 2 ^ 31 by omega)), gd_p hx, c1, w1, lt_v, gd_p hxw, w2, od_e, bd_s, hb, c2, n4]
  generalize hY0 : sf_Model_ownCost Y _ = Y0
  have a1 : kC Y0 Y := by subst hY0; exact (kC_c _ _).1
  have a2 : gf_Model_ownCost Y0 = upd (gf_Model_ownCost Y) (vN l h - 1) ((it_ g h d s q0 l).2.2.2 (vN l h) + bt_ (of_ s (ow_ g q0.1 q0.2.1 h l))) := by subst hY0; exact (kC_c _ _).2.1
  have a3 : gf_Model_noughts Y0 = gf_Model_noughts Y := by subst hY0; exact (kC_c _ _).2.2.1
  have a4 : gf_Model_ones Y0 = gf_Model_ones Y := by subst hY0; exact (kC_c _ _).2.2.2
  simp only [a3, n1, t0_m hs]
  generalize hY1 : sf_Model_noughts Y0 _ = Y1
  have b1 : kC Y1 Y := by subst hY1; exact (kC_z _ _).1.tr a1
  have b2 : gf_Model_ownCost Y1 = gf_Model_ownCost Y0 := by subst hY1; exact (kC_z _ _).2.2.2
  have b3 : gf_Model_noughts Y1 = upd (gf_Model_noughts Y) (vN l h - 1) (t0_ s ((it_ g h d s q0 l).1 (vN l h))) := by subst hY1; exact (kC_z _ _).2.1
  have b4 : gf_Model_ones Y1 = gf_Model_ones Y := by subst hY1; exact (kC_z _ _).2.2.1.trans a4
  simp only [b4, n2, t1_m hs]
  generalize hY2 : sf_Model_ones Y1 _ = Y2
  have d1 : kC Y2 Y := by subst hY2; exact (kC_o _ _).1.tr b1
  have d2 : gf_Model_ownCost Y2 = upd (gf_Model_ownCost Y) (vN l h - 1) ((it_ g h d s q0 l).2.2.2 (vN l h) + bt_ (of_ s (ow_ g q0.1 q0.2.1 h l))) := by subst hY2; exact (kC_o _ _).2.2.2.trans (b2.trans a2)
  have d3 : gf_Model_noughts Y2 = upd (gf_Model_noughts Y) (vN l h - 1) (t0_ s ((it_ g h d s q0 l).1 (vN l h))) := by subst hY2; exact (kC_o _ _).2.2.1.trans b3
  have d4 : gf_Model_ones Y2 = upd (gf_Model_ones Y) (vN l h - 1) (t1_ s ((it_ g h d s q0 l).2.1 (vN l h))) := by subst hY2; exact (kC_o _ _).2.1
  have z1 : gf_Model_noughts Y2 (vN l h - 1) = t0_ s ((it_ g h d s q0 l).1 (vN l h)) := by rw [d3, pk_us]
  have z2 : gf_Model_ones Y2 (vN l h - 1) = t1_ s ((it_ g h d s q0 l).2.1 (vN l h)) := by rw [d4, pk_us]
  simp only [z1, z2]
  have fin : ∀ Y3 : tt_Model, kC Y3 Y → gf_Model_ownCost Y3 = upd (gf_Model_ownCost Y) (vN l h - 1) ((it_ g h d s q0 l).2.2.2 (vN l h) + bt_ (of_ s (ow_ g q0.1 q0.2.1 h l))) → gf_Model_noughts Y3 = upd (gf_Model_noughts Y) (vN l h - 1) (tz_ s ((it_ g h d s q0 l).1 (vN l h)) ((it_ g h d s q0 l).2.1 (vN l h))) → gf_Model_ones Y3 = upd (gf_Model_ones Y) (vN l h - 1) (to_ s ((it_ g h d s q0 l).1 (vN l h)) ((it_ g h d s q0 l).2.1 (vN l h))) →
      ∃ Y4, fn_X9_comes_226 (fl_X9_comes_125 k f) Y3 s (nI l) = fl_X9_comes_125 k f Y4 s (nI (l + 1)) ∧ kC Y4 Y ∧ mc_ d (it_ g h d s q0 (l + 1)) Y4 := by
    intro Y3 e1 e2 e3 e4
    refine ⟨Y3, ?_, e1, mc_upd hr.1 hc e3 e4 e2 rfl rfl rfl⟩
    unfold fn_X9_comes_226
    rw [lt_v, show nI l + (1 : Int32) = nI (l + 1) from nI_1 l]
  have half : (60 < t0_ s ((it_ g h d s q0 l).1 (vN l h)) ∨ 60 < t1_ s ((it_ g h d s q0 l).2.1 (vN l h))) → ∃ Y4, fn_X9_comes_206 (fl_X9_comes_125 k f) Y2 s (nI l) (nI (vN l h - 1)) = fl_X9_comes_125 k f Y4 s (nI (l + 1)) ∧ kC Y4 Y ∧ mc_ d (it_ g h d s q0 (l + 1)) Y4 := by
    intro hh
    unfold fn_X9_comes_206
    simp only [gd_p hxw, lt_v, c2, z1]
    generalize hY3 : sf_Model_noughts Y2 _ = Y3
    have e1 : kC Y3 Y := by subst hY3; exact (kC_z _ _).1.tr d1
    have e2 : gf_Model_ownCost Y3 = gf_Model_ownCost Y2 := by subst hY3; exact (kC_z _ _).2.2.2
    have e3 : gf_Model_noughts Y3 = upd (gf_Model_noughts Y) (vN l h - 1) (tz_ s ((it_ g h d s q0 l).1 (vN l h)) ((it_ g h d s q0 l).2.1 (vN l h))) := by subst hY3; rw [(kC_z _ _).2.1, d3, uu_, tz_, if_pos hh]
    have e4 : gf_Model_ones Y3 = gf_Model_ones Y2 := by subst hY3; exact (kC_z _ _).2.2.1
    simp only [e4, z2]
    generalize hY4 : sf_Model_ones Y3 _ = Y4
    refine fin Y4 (by subst hY4; exact (kC_o _ _).1.tr e1) (by subst hY4; exact (kC_o _ _).2.2.2.trans (e2.trans d2)) (by subst hY4; exact (kC_o _ _).2.2.1.trans e3) ?_
    subst hY4
    rw [(kC_o _ _).2.1, d4, uu_, to_, if_pos hh]
  by_cases h1 : 60 < t0_ s ((it_ g h d s q0 l).1 (vN l h))
  · rw [if_pos h1]
    exact half (Or.inl h1)
  · rw [if_neg h1]
    by_cases h2 : t1_ s ((it_ g h d s q0 l).2.1 (vN l h)) ≤ 60
    · rw [if_pos h2]
      have hh : ¬ (60 < t0_ s ((it_ g h d s q0 l).1 (vN l h)) ∨ 60 < t1_ s ((it_ g h d s q0 l).2.1 (vN l h))) := by
        rintro (x | x)
        · exact h1 x
        · rw [Int32.lt_iff_toInt_lt] at x
          rw [Int32.le_iff_toInt_le] at h2
          omega
      exact fin Y2 d1 d2 (by rw [d3, tz_, if_neg hh]) (by rw [d4, to_, if_neg hh])
    · rw [if_neg h2]
      refine half (Or.inr ?_)
      rw [Int32.le_iff_toInt_le] at h2
      rw [Int32.lt_iff_toInt_lt]
      omega
theorem cc_l {d : Nat} {g : Int32} {h : Nat} {q0 : s4_} (k : tt_Model → Int32 → Option tt_Model) {s : Int32} (hs : s = 0 ∨ s = 1) (hd6 : d ≤ 6) : ∀ (m l f : Nat) (Y : tt_Model), l + m = d + 1 → gf_Model_byDepth Y = nI d → mc_ d (it_ g h d s q0 l) Y → (∀ i, i ≤ d → wy_ g h q0 Y i) →
    ∃ Y1, fl_X9_comes_125 k (f + m + 1) Y s (nI l) = k Y1 s ∧ kC Y1 Y ∧ mc_ d (it_ g h d s q0 (d + 1)) Y1 := by
  intro m
  induction m with
  | zero =>
    intro l f Y hl hD hc hy
    obtain rfl : l = d + 1 := by omega
    refine ⟨Y, ?_, kC.rf, hc⟩
    rw [fl_X9_comes_125, hD, if_pos (nI_lt (by omega) (by omega))]
  | succ m ih =>
    intro l f Y hl hD hc hy
    obtain ⟨Y1, e1, e2, e3⟩ := cc_s k (f + m + 1) hs hd6 (show l ≤ d by omega) hD hc hy
    obtain ⟨b0, b1, b2, b3, b4, b5, b6, b7, b8, b9⟩ := id e2
    obtain ⟨Y2, f1, f2, f3⟩ := ih (l + 1) f Y1 (by omega) (by rw [b5]; exact hD) e3 (fun i hi => by unfold wy_; rw [b7, b8]; exact hy i hi)
    exact ⟨Y2, by rw [show f + (m + 1) + 1 = f + m + 1 + 1 by omega, e1, f1], f2.tr e2, f3⟩
theorem nx_b : ∀ h, h < 64 → ∀ b, b < 2 → ∀ j, j < 5 → ((2 * h + b) % 64) / 2 ^ (j + 1) % 2 = h / 2 ^ j % 2 := by decide +kernel
theorem nx_0 : ∀ h, h < 64 → ∀ b, b < 2 → ((2 * h + b) % 64) % 2 = b := by decide +kernel
theorem bN_lt (s : Int32) : bN s < 2 := by unfold bN; split <;> decide
theorem bN_s {s : Int32} (hs : s = 0 ∨ s = 1) : nI (bN s) = s := by rcases hs with rfl | rfl <;> decide +kernel
theorem km_f (Y : tt_Model) (v w : Nat → Int32) (c : Int32) : rs_ (sf_Model_came (sf_Model_line (sf_Model_guessAt Y v) w) c) = rs_ Y ∧ gf_Model_noughts (sf_Model_came (sf_Model_line (sf_Model_guessAt Y v) w) c) = gf_Model_noughts Y ∧ gf_Model_ones (sf_Model_came (sf_Model_line (sf_Model_guessAt Y v) w) c) = gf_Model_ones Y ∧ gf_Model_weights (sf_Model_came (sf_Model_line (sf_Model_guessAt Y v) w) c) = gf_Model_weights Y ∧ gf_Model_ownCost (sf_Model_came (sf_Model_line (sf_Model_guessAt Y v) w) c) = gf_Model_ownCost Y ∧ gf_Model_byDepth (sf_Model_came (sf_Model_line (sf_Model_guessAt Y v) w) c) = gf_Model_byDepth Y ∧ gf_Model_byGuesser (sf_Model_came (sf_Model_line (sf_Model_guessAt Y v) w) c) = gf_Model_byGuesser Y ∧ gf_Model_line (sf_Model_came (sf_Model_line (sf_Model_guessAt Y v) w) c) = w ∧ gf_Model_guessAt (sf_Model_came (sf_Model_line (sf_Model_guessAt Y v) w) c) = v ∧ gf_Model_came (sf_Model_came (sf_Model_line (sf_Model_guessAt Y v) w) c) = c := ⟨rfl, rfl, rfl, rfl, rfl, rfl, rfl, rfl, rfl, rfl⟩
/-- comes(s), once guesses() was -/
theorem com_e {d : Nat} {g : Int32} {h n : Nat} {q : s4_} {Y : tt_Model} {s : Int32} (hs : s = 0 ∨ s = 1) (hd6 : d ≤ 6) (hh : h < 64) (hB : BD q) (hn : n < 120) (hM : MG d g h n q Y) (hy : ∀ i, i ≤ d → wy_ g h q Y i) (hm : ∀ i, i ≤ d → gf_Model_mixed Y i = mx_ g q.1 q.2.1 q.2.2.1 h d (d - i)) :
    ∃ Y1, fn_X9_comes Y s = some Y1 ∧ rs_ Y1 = rs_ Y ∧ MG d g (nx_h h s) (n + 1) (it_ g h d s q (d + 1)) Y1 ∧ gf_Model_guessAt Y1 = upd (gf_Model_guessAt Y) n (mx_ g q.1 q.2.1 q.2.2.1 h d d) ∧ gf_Model_line Y1 = upd (gf_Model_line Y) n s := by
  obtain ⟨m1, m2, m3, m4, m5⟩ := hM
  have hf1 : (4999 - d) + d + 1 = fu_ := by unfold fu_; omega
  have hf2 : (4998 - d) + (d + 1) + 1 = fu_ := by unfold fu_; omega
  have hx0 : ix_ (0 : Int32) 7 := by decide +kernel
  have c0 : (0 : Int32).toNatClampNeg = 0 := by decide +kernel
  have hxn : ix_ (nI n) 128 := na_ix (by omega) (by decide)
  have cn : (nI n).toNatClampNeg = n := na_cl (by omega)
  obtain ⟨Y1, e1, e2, e3⟩ := co_l (g := g) (h := h) (q0 := q) (fun (S : tt_Model) (x : Int32) => fl_X9_comes_125 (fun (S0 : tt_Model) (x1 : Int32) => gd_ (ix_ (0 : Int32) 7) (lt_ ((gf_Model_mixed S0) (0 : Int32).toNatClampNeg) fun y_57 => gd_ (ix_ (gf_Model_came S0) 128) (lt_ (sf_Model_guessAt S0 (upd (gf_Model_guessAt S0) (gf_Model_came S0).toNatClampNeg y_57)) fun S_59 => gd_ (ix_ (gf_Model_came S_59) 128) (lt_ (sf_Model_line S_59 (upd (gf_Model_line S_59) (gf_Model_came S_59).toNatClampNeg x1)) fun S_61 => lt_ ((gf_Model_came S_61) + (1 : Int32)) fun y_62 => lt_ (sf_Model_came S_61 y_62) fun S_63 => some S_63)))) fu_ S x (0 : Int32)) s hd6 hB d 0 (4999 - d) Y (by omega) m2 (fun v a b => (m1 v a b).2.2.1) hy hm
  rw [nI_0, hf1] at e1
  obtain ⟨a0, a1, a2, a3, a4, a5, a6, a7, a8, a9, a10, a11⟩ := id e2
  obtain ⟨Y2, f1, f2, f3⟩ := cc_l (g := g) (h := h) (q0 := q) (fun (S0 : tt_Model) (x1 : Int32) => gd_ (ix_ (0 : Int32) 7) (lt_ ((gf_Model_mixed S0) (0 : Int32).toNatClampNeg) fun y_57 => gd_ (ix_ (gf_Model_came S0) 128) (lt_ (sf_Model_guessAt S0 (upd (gf_Model_guessAt S0) (gf_Model_came S0).toNatClampNeg y_57)) fun S_59 => gd_ (ix_ (gf_Model_came S_59) 128) (lt_ (sf_Model_line S_59 (upd (gf_Model_line S_59) (gf_Model_came S_59).toNatClampNeg x1)) fun S_61 => lt_ ((gf_Model_came S_61) + (1 : Int32)) fun y_62 => lt_ (sf_Model_came S_61 y_62) fun S_63 => some S_63)))) hs hd6 (d + 1) 0 (4998 - d) Y1 (by omega) (by rw [a7]; exact m2) (fun v x y => by rw [a1, a2, a3]; exact ⟨(m1 v x y).1, (m1 v x y).2.1, (m1 v x y).2.2.2⟩) (fun i hi => by unfold wy_; rw [a9, a10]; exact hy i hi)
  rw [nI_0, hf2] at f1
  obtain ⟨b0, b1, b2, b3, b4, b5, b6, b7, b8, b9⟩ := id f2
  have hc2 : gf_Model_came Y2 = nI n := by rw [b4, a6]; exact m4
  have hmx : gf_Model_mixed Y2 0 = mx_ g q.1 q.2.1 q.2.2.1 h d d := by rw [b9, a11, hm 0 (by omega), Nat.sub_zero]
  have hk : ∀ (S : tt_Model) (v w : Nat → Int32), gf_Model_came (sf_Model_guessAt S v) = gf_Model_came S ∧ gf_Model_line (sf_Model_guessAt S v) = gf_Model_line S ∧ gf_Model_came (sf_Model_line (sf_Model_guessAt S v) w) = gf_Model_came S := fun _ _ _ => ⟨rfl, rfl, rfl⟩
  unfold fn_X9_comes
  rw [e1, f1]
  simp only [gd_p hx0, c0, hmx, lt_v, hc2, gd_p hxn, cn, (hk _ _ z0_).1, (hk _ _ z0_).2.1, (hk _ _ _).2.2, show nI n + (1 : Int32) = nI (n + 1) from nI_1 n]
  generalize hv1 : upd (gf_Model_guessAt Y2) n _ = v1
  generalize hv2 : upd (gf_Model_line Y2) n s = v2
  obtain ⟨k0, k1, k2, k3, k4, k5, k6, k7, k8, k9⟩ := km_f Y2 v1 v2 (nI (n + 1))
  refine ⟨_, rfl, k0.trans (b0.trans a0), ⟨fun v x y => ?_, k5.trans (b5.trans (a7.trans m2)), k6.trans (b6.trans (a8.trans m3)), k9, fun l hl => ?_⟩, ?_, ?_⟩
  · rw [k1, k2, k3, k4, b1]
    obtain ⟨x1, x2, x3⟩ := f3 v x y
    exact ⟨x1, x2, e3 v x y, x3⟩
  · rw [k7, ← hv2, b2, a4]
    have hb := bN_lt s
    by_cases hl0 : l = 0
    · subst hl0
      rw [if_pos (by omega), show n + 1 - 1 - 0 = n by omega, pk_us, Nat.pow_zero, Nat.div_one, nx_h, nx_0 h hh _ hb, bN_s hs]
    · obtain ⟨j, rfl⟩ : ∃ j, l = j + 1 := ⟨l - 1, by omega⟩
      have hj := m5 j (by omega)
      rw [nx_h, nx_b h hh _ hb j (by omega)]
      by_cases hjn : j < n
      · rw [if_pos hjn] at hj
        rw [if_pos (by omega), pk_un (by omega), show n + 1 - 1 - (j + 1) = n - 1 - j by omega]
        exact hj
      · rw [if_neg hjn] at hj
        rw [if_neg (by omega)]
        exact hj
  · rw [k8, ← hv1, b3, a5]
  · rw [k7, ← hv2, b2, a4]
