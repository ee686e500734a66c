/-! ===== pure part: the reference goes through the row ===== -/
theorem rs_now {A B : tt_Model} (h : rs_ A = rs_ B) : gf_Model_now A = gf_Model_now B := congrArg (fun x => x.1) h
theorem bg_f (Y : tt_Model) (z o w c : Nat → Int32) : rs_ (sf_Model_ownCost (sf_Model_weights (sf_Model_ones (sf_Model_noughts Y z) o) w) c) = rs_ Y ∧ gf_Model_noughts (sf_Model_ownCost (sf_Model_weights (sf_Model_ones (sf_Model_noughts Y z) o) w) c) = z ∧ gf_Model_ones (sf_Model_ownCost (sf_Model_weights (sf_Model_ones (sf_Model_noughts Y z) o) w) c) = o ∧ gf_Model_weights (sf_Model_ownCost (sf_Model_weights (sf_Model_ones (sf_Model_noughts Y z) o) w) c) = w ∧ gf_Model_ownCost (sf_Model_ownCost (sf_Model_weights (sf_Model_ones (sf_Model_noughts Y z) o) w) c) = c ∧ gf_Model_came (sf_Model_ownCost (sf_Model_weights (sf_Model_ones (sf_Model_noughts Y z) o) w) c) = gf_Model_came Y ∧ gf_Model_byDepth (sf_Model_ownCost (sf_Model_weights (sf_Model_ones (sf_Model_noughts Y z) o) w) c) = gf_Model_byDepth Y ∧ gf_Model_byGuesser (sf_Model_ownCost (sf_Model_weights (sf_Model_ones (sf_Model_noughts Y z) o) w) c) = gf_Model_byGuesser Y := ⟨rfl, rfl, rfl, rfl, rfl, rfl, rfl, rfl⟩
theorem bg_g (Y : tt_Model) (z o w : Nat → Int32) : gf_Model_ones (sf_Model_noughts Y z) = gf_Model_ones Y ∧ gf_Model_weights (sf_Model_ones (sf_Model_noughts Y z) o) = gf_Model_weights Y ∧ gf_Model_ownCost (sf_Model_weights (sf_Model_ones (sf_Model_noughts Y z) o) w) = gf_Model_ownCost Y := ⟨rfl, rfl, rfl⟩
theorem bg_l (k : tt_Model → Option tt_Model) : ∀ (m v f : Nat) (Y : tt_Model), v + m = 127 → ∃ Y1, fl_X9_begins_17 k (f + m + 1) Y (nI v) = k Y1 ∧ rs_ Y1 = rs_ Y ∧ gf_Model_came Y1 = gf_Model_came Y ∧ gf_Model_byDepth Y1 = gf_Model_byDepth Y ∧ gf_Model_byGuesser Y1 = gf_Model_byGuesser Y ∧ (∀ i, v ≤ i → i < 127 → gf_Model_noughts Y1 i = 0 ∧ gf_Model_ones Y1 i = 0 ∧ gf_Model_weights Y1 i = 32768 ∧ gf_Model_ownCost Y1 i = 0) ∧ ∀ i, i < v → gf_Model_noughts Y1 i = gf_Model_noughts Y i ∧ gf_Model_ones Y1 i = gf_Model_ones Y i ∧ gf_Model_weights Y1 i = gf_Model_weights Y i ∧ gf_Model_ownCost Y1 i = gf_Model_ownCost Y i := by
  intro m
  induction m with
  | zero =>
    intro v f Y hv
    refine ⟨Y, ?_, rfl, rfl, rfl, rfl, fun i h1 h2 => absurd h2 (by omega), fun i _ => ⟨rfl, rfl, rfl, rfl⟩⟩
    have hle : (127 : Int32) ≤ nI v := nI_le (a := 127) (by omega) (by omega)
    rw [fl_X9_begins_17, if_pos hle]
  | succ m ih =>
    intro v f Y hv
    have hx : ix_ (nI v) 127 := na_ix (by omega) (by decide)
    have c1 : (nI v).toNatClampNeg = v := na_cl (by omega)
    have hge : ¬ (127 : Int32) ≤ nI v := nI_ge (b := 127) (by omega) (by decide)
    rw [show f + (m + 1) + 1 = (f + m + 1) + 1 by omega, fl_X9_begins_17, if_neg hge, gd_p hx, lt_v, gd_p hx, lt_v, gd_p hx, lt_v, gd_p hx, lt_v, lt_v]
    simp only [c1, (bg_g _ _ z0_ z0_).1, (bg_g _ _ _ z0_).2.1, (bg_g _ _ _ _).2.2]
    rw [show nI v + (1 : Int32) = nI (v + 1) from nI_1 v]
    obtain ⟨k0, k1, k2, k3, k4, k5, k6, k7⟩ := bg_f Y (upd (gf_Model_noughts Y) v 0) (upd (gf_Model_ones Y) v 0) (upd (gf_Model_weights Y) v 32768) (upd (gf_Model_ownCost Y) v 0)
    generalize sf_Model_ownCost _ _ = Y0 at k0 k1 k2 k3 k4 k5 k6 k7 ⊢
    obtain ⟨Y1, e1, e2, e3, e4, e5, e6, e7⟩ := ih (v + 1) f Y0 (by omega)
    refine ⟨Y1, e1, e2.trans k0, e3.trans k5, e4.trans k6, e5.trans k7, fun i h1 h2 => ?_, fun i h1 => ?_⟩
    · by_cases hi : i = v
      · obtain ⟨g1, g2, g3, g4⟩ := e7 i (by omega)
        rw [g1, g2, g3, g4, k1, k2, k3, k4, hi, pk_us, pk_us, pk_us, pk_us]
        exact ⟨rfl, rfl, rfl, rfl⟩
      · exact e6 i (by omega) h2
    · obtain ⟨g1, g2, g3, g4⟩ := e7 i (by omega)
      rw [g1, g2, g3, g4, k1, k2, k3, k4, pk_un (by omega), pk_un (by omega), pk_un (by omega), pk_un (by omega)]
      exact ⟨rfl, rfl, rfl, rfl⟩
theorem bg_h (Y : tt_Model) (a b c : Int32) : rs_ (sf_Model_byGuesser (sf_Model_byDepth (sf_Model_came Y a) b) c) = rs_ Y ∧ gf_Model_came (sf_Model_byGuesser (sf_Model_byDepth (sf_Model_came Y a) b) c) = a ∧ gf_Model_byDepth (sf_Model_byGuesser (sf_Model_byDepth (sf_Model_came Y a) b) c) = b ∧ gf_Model_byGuesser (sf_Model_byGuesser (sf_Model_byDepth (sf_Model_came Y a) b) c) = c := ⟨rfl, rfl, rfl, rfl⟩
/-- the reference, having gone through n signs of r -/
def MR (r : Nat → Int32) (g : Int32) (d n : Nat) (Y : tt_Model) : Prop := MG d g (hh_ r n) n (sq_ r g d n) Y ∧ ∀ k, k < n → gf_Model_guessAt Y k = gs_ r g d k
theorem bg_e {d : Nat} {g : Int32} (r : Nat → Int32) (Y : tt_Model) (hd6 : d ≤ 6) : ∃ Y1, fn_X9_begins Y (nI d) g = some Y1 ∧ rs_ Y1 = rs_ Y ∧ MR r g d 0 Y1 := by
  have h128 := p_128 hd6
  unfold fn_X9_begins
  rw [lt_v, lt_v, lt_v]
  obtain ⟨k0, k1, k2, k3⟩ := bg_h Y 0 (nI d) g
  generalize sf_Model_byGuesser _ _ = Y0 at k0 k1 k2 k3 ⊢
  obtain ⟨Y1, e1, e2, e3, e4, e5, e6, -⟩ := bg_l (fun S => some S) 127 0 4872 Y0 (by omega)
  rw [nI_0, show 4872 + 127 + 1 = fu_ from rfl] at e1
  refine ⟨Y1, e1, e2.trans k0, ⟨fun v a b => ?_, e4.trans k2, e5.trans k3, (e3.trans k1).trans nI_0.symm, fun l hl => ?_⟩, fun k hk => absurd hk (by omega)⟩
  · obtain ⟨x1, x2, x3, x4⟩ := e6 (v - 1) (by omega) (by omega)
    exact ⟨x1, x2, x3, x4⟩
  · rw [if_neg (by omega)]
    show 0 / 2 ^ l % 2 = 0
    rw [Nat.zero_div]
theorem MR_g {r : Nat → Int32} {g : Int32} {d n : Nat} {Y : tt_Model} (hd6 : d ≤ 6) (hn : n < 120) (hM : MR r g d n Y) : ∃ Y1, fn_X9_guesses Y = some (gs_ r g d n, Y1) ∧ rs_ Y1 = rs_ Y ∧ MR r g d n Y1 ∧ (∀ i, i ≤ d → wy_ g (hh_ r n) (sq_ r g d n) Y1 i) ∧ ∀ i, i ≤ d → gf_Model_mixed Y1 i = mx_ g (sq_ r g d n).1 (sq_ r g d n).2.1 (sq_ r g d n).2.2.1 (hh_ r n) d (d - i) := by
  obtain ⟨Y1, e1, e2, e3, e4⟩ := gu_e hd6 (BD_sq r g d n) hn hM.1
  exact ⟨Y1, e1, e2.1, ⟨hM.1.same e2, fun k hk => by rw [e2.2.2.2.2.2.2.1]; exact hM.2 k hk⟩, e3, e4⟩
theorem MR_c {r : Nat → Int32} {g : Int32} {d n : Nat} {Y : tt_Model} (hd6 : d ≤ 6) (hn : n < 120) (hr : r n = 0 ∨ r n = 1) (hM : MR r g d n Y) (hy : ∀ i, i ≤ d → wy_ g (hh_ r n) (sq_ r g d n) Y i) (hm : ∀ i, i ≤ d → gf_Model_mixed Y i = mx_ g (sq_ r g d n).1 (sq_ r g d n).2.1 (sq_ r g d n).2.2.1 (hh_ r n) d (d - i)) : ∃ Y1, fn_X9_comes Y (r n) = some Y1 ∧ rs_ Y1 = rs_ Y ∧ MR r g d (n + 1) Y1 := by
  obtain ⟨Y1, e1, e2, e3, e4, e5⟩ := com_e hr hd6 (hh_lt r n) (BD_sq r g d n) hn hM.1 hy hm
  refine ⟨Y1, e1, e2, e3, fun k hk => ?_⟩
  rw [e4]
  by_cases hkn : k = n
  · rw [hkn, pk_us]; rfl
  · rw [pk_un hkn]; exact hM.2 k (by omega)
theorem mb_e {r : Nat → Int32} {g : Int32} {d n : Nat} : fn_X9_bitsOf (of_ (r n) (gs_ r g d n)) = some (pd_ r g d n) := by
  obtain ⟨x, x1, x2, ex⟩ := un_of (s := r n) (un_gs r g d n)
  unfold pd_
  rw [ex]
  exact bm_e x1 (by omega)
theorem many_e {Y : tt_Model} {N : Nat} (h : gf_Model_now Y 100 = nI N) : fn_X9_many Y = some (nI N) := by
  unfold fn_X9_many
  rw [gd_p (by decide +kernel), show (100 : Int32).toNatClampNeg = 100 by decide +kernel, h]
theorem go_l {r : Nat → Int32} {g : Int32} {d : Nat} (k : tt_Model → Int32 → Option (Int32 × tt_Model)) (hd6 : d ≤ 6) (N : Nat) (hN : N ≤ 100) (hr : b01 r N) : ∀ (m n f : Nat) (Y : tt_Model), n + m = N → gf_Model_now Y 100 = nI N → (∀ i, i < N → gf_Model_now Y i = r i) → MR r g d n Y → ∃ Y1, fl_X9_goes_11 k (f + m + 1) Y (cs_ r g d n) (nI n) = k Y1 (cs_ r g d N) ∧ rs_ Y1 = rs_ Y ∧ MR r g d N Y1 := by
  intro m
  induction m with
  | zero =>
    intro n f Y h1 h2 h3 hM
    obtain rfl : n = N := by omega
    refine ⟨Y, ?_, rfl, hM⟩
    rw [fl_X9_goes_11, many_e h2, bd_s, if_pos (Int32.le_refl _)]
  | succ m ih =>
    intro n f Y h1 h2 h3 hM
    obtain ⟨Y1, a1, a2, a3, a4, a5⟩ := MR_g hd6 (show n < 120 by omega) hM
    have hw : gf_Model_now Y1 = gf_Model_now Y := rs_now a2
    obtain ⟨Y2, b1, b2, b3⟩ := MR_c hd6 (show n < 120 by omega) (hr n (by omega)) a3 a4 a5
    have hw2 : gf_Model_now Y2 = gf_Model_now Y := (rs_now b2).trans hw
    obtain ⟨Y3, c1, c2, c3⟩ := ih (n + 1) f Y2 (by omega) (by rw [hw2]; exact h2) (fun i hi => by rw [hw2]; exact h3 i hi) b3
    have hx : ix_ (nI n) 103 := na_ix (show n < 103 by omega) (by decide)
    rw [show cs_ r g d (n + 1) = cs_ r g d n + pd_ r g d n by rw [cs_]] at c1
    refine ⟨Y3, ?_, c2.trans (b2.trans a2), c3⟩
    rw [show f + (m + 1) + 1 = f + m + 1 + 1 by omega, fl_X9_goes_11, many_e h2, bd_s, if_neg (nI_ge (by omega) (by omega)), a1, b2_s]
    have cn : (nI n).toNatClampNeg = n := na_cl (by omega)
    simp only [gd_p hx, cn]
    rw [hw, h3 n (by omega), od_e, bd_s, mb_e, bd_s, lt_v, b1, bd_s, lt_v, show nI n + (1 : Int32) = nI (n + 1) from nI_1 n]
    exact c1
/-- goes(d, g) -/
theorem go_e {r : Nat → Int32} {d g N : Nat} {Y : tt_Model} (hd6 : d ≤ 6) (hN : N ≤ 100) (hr : b01 r N) (h2 : gf_Model_now Y 100 = nI N) (h3 : ∀ i, i < N → gf_Model_now Y i = r i) : ∃ Y1, fn_X9_goes Y (nI d) (nI g) = some (cs_ r (nI g) d N, Y1) ∧ rs_ Y1 = rs_ Y ∧ MR r (nI g) d N Y1 := by
  obtain ⟨Y1, a1, a2, a3⟩ := bg_e (g := nI g) r Y hd6
  have hw := rs_now a2
  obtain ⟨Y2, b1, b2, b3⟩ := go_l (r := r) (g := nI g) (fun (S : tt_Model) (x : Int32) => some (x, S)) hd6 N hN hr N 0 (4999 - N) Y1 (by omega) (by rw [hw]; exact h2) (fun i hi => by rw [hw]; exact h3 i hi) a3
  refine ⟨Y2, ?_, b2.trans a2, b3⟩
  unfold fn_X9_goes
  rw [a1, bd_s]
  rw [nI_0, show 4999 - N + N + 1 = fu_ by unfold fu_; omega] at b1
  exact b1
theorem gn_e {r : Nat → Int32} {d g N : Nat} {Y : tt_Model} (hd6 : d ≤ 6) (hN : N ≤ 100) (hr : b01 r N) (h2 : gf_Model_now Y 100 = nI N) (h4 : gf_Model_now Y 101 = nI d) (h5 : gf_Model_now Y 102 = nI g) (h3 : ∀ i, i < N → gf_Model_now Y i = r i) : ∃ Y1, fn_X9_goesNow Y = some (cs_ r (nI g) d N, Y1) ∧ rs_ Y1 = rs_ Y ∧ MR r (nI g) d N Y1 := by
  obtain ⟨Y1, a1, a2, a3⟩ := go_e (g := g) hd6 hN hr h2 h3
  refine ⟨Y1, ?_, a2, a3⟩
  unfold fn_X9_goesNow fn_X9_depth fn_X9_guesser
  rw [gd_p (by decide +kernel), show (101 : Int32).toNatClampNeg = 101 by decide +kernel, h4, bd_s, gd_p (by decide +kernel), show (102 : Int32).toNatClampNeg = 102 by decide +kernel, h5, bd_s, a1, b2_s]
-- costFrom
def sf_ (r : Nat → Int32) (g : Int32) (d k : Nat) : Nat → Int32
  | 0 => 0
  | m + 1 => sf_ r g d k m + pd_ r g d (k + m)
theorem ct_e {r : Nat → Int32} {g : Int32} {d n N : Nat} {Y : tt_Model} (hN : N ≤ 100) (hn : n < N) (h3 : ∀ i, i < N → gf_Model_now Y i = r i) (hM : MR r g d N Y) : fn_X9_costAt Y (nI n) = some (pd_ r g d n) := by
  unfold fn_X9_costAt
  rw [gd_p (na_ix (show n < 128 by omega) (by decide)), gd_p (na_ix (show n < 103 by omega) (by decide)), na_cl (by omega), hM.2 n hn, h3 n hn, od_e, bd_s, mb_e, bd_s]
theorem cf_l {r : Nat → Int32} {g : Int32} {d N K : Nat} {Y : tt_Model} (k : tt_Model → Int32 → Option (Int32 × tt_Model)) (hN : N ≤ 100) (h2 : gf_Model_now Y 100 = nI N) (h3 : ∀ i, i < N → gf_Model_now Y i = r i) (hM : MR r g d N Y) : ∀ (m j f : Nat), K + j + m = N → fl_X9_costFrom_10 k (f + m + 1) Y (sf_ r g d K j) (nI (K + j)) = k Y (sf_ r g d K (j + m)) := by
  intro m
  induction m with
  | zero =>
    intro j f h1
    rw [fl_X9_costFrom_10, many_e h2, bd_s, if_pos (nI_le (by omega) (by omega)), Nat.add_zero]
  | succ m ih =>
    intro j f h1
    rw [show f + (m + 1) + 1 = f + m + 1 + 1 by omega, fl_X9_costFrom_10, many_e h2, bd_s, if_neg (nI_ge (by omega) (by omega)), ct_e hN (by omega) h3 hM, bd_s, lt_v, lt_v, show nI (K + j) + (1 : Int32) = nI (K + (j + 1)) from nI_1 _]
    have t := ih (j + 1) f (by omega)
    rw [show j + (m + 1) = j + 1 + m by omega]
    exact t
theorem cf_e {r : Nat → Int32} {d g N K : Nat} {Y : tt_Model} (hd6 : d ≤ 6) (hN : N ≤ 100) (hK : K ≤ N) (hr : b01 r N) (h2 : gf_Model_now Y 100 = nI N) (h4 : gf_Model_now Y 101 = nI d) (h5 : gf_Model_now Y 102 = nI g) (h3 : ∀ i, i < N → gf_Model_now Y i = r i) : ∃ Y1, fn_X9_costFrom Y (nI K) = some (sf_ r (nI g) d K (N - K), Y1) ∧ rs_ Y1 = rs_ Y := by
  obtain ⟨Y1, a1, a2, a3⟩ := gn_e hd6 hN hr h2 h4 h5 h3
  have hw := rs_now a2
  refine ⟨Y1, ?_, a2⟩
  unfold fn_X9_costFrom
  rw [a1, b2_s]
  have t := cf_l (K := K) (fun (S : tt_Model) (x : Int32) => some (x, S)) hN (by rw [hw]; exact h2) (fun i hi => by rw [hw]; exact h3 i hi) a3 (N - K) 0 (4999 - (N - K)) (by omega)
  rw [show 4999 - (N - K) + (N - K) + 1 = fu_ by unfold fu_; omega, Nat.add_zero, Nat.zero_add] at t
  exact t
