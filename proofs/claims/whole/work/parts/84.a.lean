/-! ===== pure part: the row as it was; the class's Row ===== -/
def hh_ (r : Nat → Int32) : Nat → Nat
  | 0 => 0
  | n + 1 => nx_h (hh_ r n) (r n)
def sq_ (r : Nat → Int32) (g : Int32) (d : Nat) : Nat → s4_
  | 0 => (z0_, z0_, w0_, z0_)
  | n + 1 => it_ g (hh_ r n) d (r n) (sq_ r g d n) (d + 1)
def gs_ (r : Nat → Int32) (g : Int32) (d n : Nat) : Int32 := mx_ g (sq_ r g d n).1 (sq_ r g d n).2.1 (sq_ r g d n).2.2.1 (hh_ r n) d d
def pd_ (r : Nat → Int32) (g : Int32) (d n : Nat) : Int32 := bt_ (of_ (r n) (gs_ r g d n))
def cs_ (r : Nat → Int32) (g : Int32) (d : Nat) : Nat → Int32
  | 0 => 0
  | n + 1 => cs_ r g d n + pd_ r g d n
theorem hh_lt (r : Nat → Int32) (n : Nat) : hh_ r n < 64 := by
  cases n with
  | zero => exact (by decide : 0 < 64)
  | succ n => exact nx_lt _ _
theorem BD_sq (r : Nat → Int32) (g : Int32) (d n : Nat) : BD (sq_ r g d n) := by
  induction n with
  | zero => exact BD_0
  | succ n ih => exact BD_it ih _
theorem hq_c {r r' : Nat → Int32} {n : Nat} (h : ∀ k, k < n → r k = r' k) (g : Int32) (d : Nat) : ∀ k, k ≤ n → hh_ r k = hh_ r' k ∧ sq_ r g d k = sq_ r' g d k := by
  intro k
  induction k with
  | zero => intro _; exact ⟨rfl, rfl⟩
  | succ k ih =>
    intro hk
    obtain ⟨a, b⟩ := ih (by omega)
    constructor
    · show nx_h _ _ = nx_h _ _
      rw [a, h k (by omega)]
    · show it_ _ _ _ _ _ _ = it_ _ _ _ _ _ _
      rw [a, b, h k (by omega)]
theorem gs_c {r r' : Nat → Int32} {n : Nat} (h : ∀ k, k < n → r k = r' k) (g : Int32) (d : Nat) {k : Nat} (hk : k ≤ n) : gs_ r g d k = gs_ r' g d k := by
  obtain ⟨a, b⟩ := hq_c h g d k hk
  unfold gs_
  rw [a, b]
theorem pd_c {r r' : Nat → Int32} {n : Nat} (h : ∀ k, k < n → r k = r' k) (g : Int32) (d : Nat) {k : Nat} (hk : k < n) : pd_ r g d k = pd_ r' g d k := by
  unfold pd_
  rw [gs_c h g d (Nat.le_of_lt hk), h k hk]
theorem cs_c {r r' : Nat → Int32} {n : Nat} (h : ∀ k, k < n → r k = r' k) (g : Int32) (d : Nat) : ∀ {k : Nat}, k ≤ n → cs_ r g d k = cs_ r' g d k := by
  intro k
  induction k with
  | zero => intro _; rfl
  | succ k ih =>
    intro hk
    show cs_ r g d k + pd_ r g d k = cs_ r' g d k + pd_ r' g d k
    rw [ih (by omega), pd_c h g d (by omega)]
theorem un_gs (r : Nat → Int32) (g : Int32) (d n : Nat) : un_ (gs_ r g d n) := un_mx _ _ _ _ _ _ _
-- signs are 0 or 1
def b01 (r : Nat → Int32) (n : Nat) : Prop := ∀ k, k < n → r k = 0 ∨ r k = 1
def PR (r : Nat → Int32) (g : Int32) (d n : Nat) (P : tt_Pasts) : Prop := RP d g (hh_ r n) (sq_ r g d n).1 (sq_ r g d n).2.1 (sq_ r g d n).2.2.1 (sq_ r g d n).2.2.2 P
theorem PR_c {r r' : Nat → Int32} {g : Int32} {d n : Nat} {P : tt_Pasts} (h : ∀ k, k < n → r k = r' k) (hP : PR r g d n P) : PR r' g d n P := by
  obtain ⟨a, b⟩ := hq_c h g d n (Nat.le_refl n)
  unfold PR at *
  rw [← a, ← b]
  exact hP
theorem PR_0 {d g : Nat} (r : Nat → Int32) (P : tt_Pasts) (hd6 : d ≤ 6) (hg : g ≤ 3) : ∃ Q, fn_X2_begin P (nI d) (nI g) = some Q ∧ PR r (nI g) d 0 Q := be_e P hd6 hg
theorem nx_e {r : Nat → Int32} {g : Int32} {d n : Nat} {P : tt_Pasts} (hP : PR r g d n P) : fn_X2_next P = some (gs_ r g d n) := by
  unfold fn_X2_next
  rw [gd_p (by decide +kernel), show (0 : Int32).toNatClampNeg = 0 by decide +kernel, (hP.2.2 0 (by omega)).2, Nat.sub_zero]
  rfl
theorem PR_s {r : Nat → Int32} {g : Int32} {d n : Nat} {P : tt_Pasts} (hd6 : d ≤ 6) (hr : r n = 0 ∨ r n = 1) (hP : PR r g d n P) : ∃ Q, fn_X2_take P (r n) = some Q ∧ PR r g d (n + 1) Q := tk_e hd6 (hh_lt r n) hr hP
theorem wi_e (x a b : Int32) : fn_X8_within x a b = some (if x < a ∨ b < x then 0 else 1) := by
  unfold fn_X8_within
  by_cases h1 : x < a
  · rw [if_pos h1, if_pos (Or.inl h1)]
  · by_cases h2 : b < x
    · rw [if_neg h1, if_pos h2, if_pos (Or.inr h2)]
    · rw [if_neg h1, if_neg h2, if_neg (by rintro (h | h); exact h1 h; exact h2 h)]
theorem wi_99 : ∀ n, n < 100 → fn_X8_within (nI n) 0 99 = some 1 := by decide +kernel
/-- the class's row -/
def RW (r : Nat → Int32) (g : Int32) (d n : Nat) (R : tt_Row) : Prop := gf_Row_length R = nI n ∧ (∀ k, k < n → gf_Row_signs R k = r k ∧ gf_Row_foretold R k = gs_ r g d k ∧ gf_Row_paid R k = pd_ r g d k) ∧ gf_Row_paidInAll R = cs_ r g d n ∧ PR r g d n (gf_Row_pasts R)
theorem RW_c {r r' : Nat → Int32} {g : Int32} {d n : Nat} {R : tt_Row} (h : ∀ k, k < n → r k = r' k) (hR : RW r g d n R) : RW r' g d n R := by
  obtain ⟨a, b, c, e⟩ := hR
  refine ⟨a, fun k hk => ?_, by rw [c]; exact cs_c h g d (Nat.le_refl n), PR_c h e⟩
  obtain ⟨x, y, z⟩ := b k hk
  exact ⟨x.trans (h k hk), y.trans (gs_c h g d (by omega)), z.trans (pd_c h g d hk)⟩
theorem pu_e {r : Nat → Int32} {g : Int32} {d n : Nat} {R : tt_Row} (hd6 : d ≤ 6) (hn : n < 100) (hr : r n = 0 ∨ r n = 1) (hR : RW r g d n R) : ∃ Q, fn_X3_put R (r n) = some (pd_ r g d n, Q) ∧ RW r g d (n + 1) Q ∧ gf_Row_signs Q = upd (gf_Row_signs R) n (r n) := by
  obtain ⟨a, b, c, e⟩ := hR
  have hx : ix_ (nI n) 100 := na_ix hn (by decide)
  have cn : (nI n).toNatClampNeg = n := na_cl (by omega)
  obtain ⟨P1, p1, p2⟩ := PR_s hd6 hr e
  unfold fn_X3_put
  rw [a, wi_99 n hn, bd_s, if_neg (by decide), gd_p hx, lt_v, cn]
  generalize hA : sf_Row_signs R _ = A
  have a1 : gf_Row_pasts A = gf_Row_pasts R ∧ gf_Row_length A = nI n ∧ gf_Row_foretold A = gf_Row_foretold R ∧ gf_Row_paid A = gf_Row_paid R ∧ gf_Row_paidInAll A = gf_Row_paidInAll R ∧ gf_Row_signs A = upd (gf_Row_signs R) n (r n) := by subst hA; exact ⟨rfl, a, rfl, rfl, rfl, rfl⟩
  obtain ⟨a1, a2, a3, a4, a5, a6⟩ := a1
  rw [a1, nx_e e, bd_s, a2, gd_p hx, lt_v, cn]
  generalize hB : sf_Row_foretold A _ = B
  have b1 : gf_Row_pasts B = gf_Row_pasts R ∧ gf_Row_length B = nI n ∧ gf_Row_foretold B = upd (gf_Row_foretold R) n (gs_ r g d n) ∧ gf_Row_paid B = gf_Row_paid R ∧ gf_Row_paidInAll B = gf_Row_paidInAll R ∧ gf_Row_signs B = upd (gf_Row_signs R) n (r n) := by subst hB; exact ⟨a1, a2, by rw [← a3]; rfl, a4, a5, a6⟩
  obtain ⟨b1, b2, b3, b4, b5, b6⟩ := b1
  rw [b1, nx_e e, bd_s, of_e, bd_s, bt_e, bd_s, b2, gd_p hx, lt_v, cn]
  generalize hC : sf_Row_paid B _ = C
  have c1 : gf_Row_pasts C = gf_Row_pasts R ∧ gf_Row_length C = nI n ∧ gf_Row_foretold C = upd (gf_Row_foretold R) n (gs_ r g d n) ∧ gf_Row_paid C = upd (gf_Row_paid R) n (pd_ r g d n) ∧ gf_Row_paidInAll C = gf_Row_paidInAll R ∧ gf_Row_signs C = upd (gf_Row_signs R) n (r n) := by subst hC; exact ⟨b1, b2, b3, by rw [← b4]; rfl, b5, b6⟩
  obtain ⟨c1, c2, c3, c4, c5, c6⟩ := c1
  rw [c2, gd_p hx, lt_v, lt_v, cn, c4, pk_us, c5, c]
  generalize hD : sf_Row_paidInAll C _ = D
  have d1 : gf_Row_pasts D = gf_Row_pasts R ∧ gf_Row_length D = nI n ∧ gf_Row_foretold D = upd (gf_Row_foretold R) n (gs_ r g d n) ∧ gf_Row_paid D = upd (gf_Row_paid R) n (pd_ r g d n) ∧ gf_Row_paidInAll D = cs_ r g d n + pd_ r g d n ∧ gf_Row_signs D = upd (gf_Row_signs R) n (r n) := by subst hD; exact ⟨c1, c2, c3, c4, rfl, c6⟩
  obtain ⟨d1, d2, d3, d4, d5, d6⟩ := d1
  rw [d1, p1, bd_s, lt_v]
  generalize hE : sf_Row_pasts D P1 = E
  have e1 : gf_Row_pasts E = P1 ∧ gf_Row_length E = nI n ∧ gf_Row_foretold E = upd (gf_Row_foretold R) n (gs_ r g d n) ∧ gf_Row_paid E = upd (gf_Row_paid R) n (pd_ r g d n) ∧ gf_Row_paidInAll E = cs_ r g d n + pd_ r g d n ∧ gf_Row_signs E = upd (gf_Row_signs R) n (r n) := by subst hE; exact ⟨rfl, d2, d3, d4, d5, d6⟩
  obtain ⟨e1, e2, e3, e4, e5, e6⟩ := e1
  rw [lt_v, lt_v, e2, show nI n + (1 : Int32) = nI (n + 1) from nI_1 n]
  generalize hF : sf_Row_length E _ = F
  have f1 : gf_Row_pasts F = P1 ∧ gf_Row_length F = nI (n + 1) ∧ gf_Row_foretold F = upd (gf_Row_foretold R) n (gs_ r g d n) ∧ gf_Row_paid F = upd (gf_Row_paid R) n (pd_ r g d n) ∧ gf_Row_paidInAll F = cs_ r g d n + pd_ r g d n ∧ gf_Row_signs F = upd (gf_Row_signs R) n (r n) := by subst hF; exact ⟨e1, rfl, e3, e4, e5, e6⟩
  obtain ⟨f1, f2, f3, f4, f5, f6⟩ := f1
  rw [f2, show nI (n + 1) - (1 : Int32) = nI n from nI_pred n, gd_p hx, cn, f4, pk_us]
  refine ⟨F, rfl, ⟨f2, fun k hk => ?_, f5, by rw [f1]; exact p2⟩, f6⟩
  rw [f3, f4, f6]
  by_cases hkn : k = n
  · rw [hkn, pk_us, pk_us, pk_us]; exact ⟨rfl, rfl, rfl⟩
  · rw [pk_un hkn, pk_un hkn, pk_un hkn]; exact b k (by omega)
theorem ca_l {r : Nat → Int32} {g : Int32} {d : Nat} (k : tt_Row → Option tt_Row) (hd6 : d ≤ 6) (N : Nat) (hN : N ≤ 100) (hr : b01 r N) : ∀ (m n f : Nat) (R : tt_Row), n + m = N → RW r g d n R → (∀ i, i < N → gf_Row_signs R i = r i) → ∃ Q, fl_X3_comeAnew_32 k (f + m + 1) R (nI N) (nI n) = k Q ∧ RW r g d N Q ∧ ∀ i, i < N → gf_Row_signs Q i = r i := by
  intro m
  induction m with
  | zero =>
    intro n f R h1 hR hs
    obtain rfl : n = N := by omega
    refine ⟨R, ?_, hR, hs⟩
    rw [fl_X3_comeAnew_32, if_pos (Int32.le_refl _)]
  | succ m ih =>
    intro n f R h1 hR hs
    obtain ⟨Q, q1, q2, q3⟩ := pu_e hd6 (show n < 100 by omega) (hr n (by omega)) hR
    obtain ⟨Q2, s1, s2, s3⟩ := ih (n + 1) f Q (by omega) q2 (fun i hi => by
      rw [q3]
      by_cases hin : i = n
      · rw [hin, pk_us]
      · rw [pk_un hin]; exact hs i hi)
    refine ⟨Q2, ?_, s2, s3⟩
    rw [show f + (m + 1) + 1 = f + m + 1 + 1 by omega, fl_X3_comeAnew_32, if_neg (nI_ge (by omega) (by omega)), gd_p (na_ix (show n < 100 by omega) (by decide)), na_cl (by omega), hs n (by omega), q1, b2_s, lt_v, show nI n + (1 : Int32) = nI (n + 1) from nI_1 n, s1]
/-- comeAnew -/
theorem ca_e {r : Nat → Int32} {d g N : Nat} {R : tt_Row} (hd6 : d ≤ 6) (hg : g ≤ 3) (hN : N ≤ 100) (hr : b01 r N) (hs : ∀ i, i < N → gf_Row_signs R i = r i) : ∃ Q, fn_X3_comeAnew R (nI N) (nI d) (nI g) = some Q ∧ RW r (nI g) d N Q := by
  unfold fn_X3_comeAnew
  rw [kp_e, bd_s, kp_100 N (by omega), lt_v, lt_v]
  generalize hA : sf_Row_paidInAll _ _ = A
  have a1 : gf_Row_length A = nI 0 ∧ gf_Row_paidInAll A = 0 ∧ gf_Row_signs A = gf_Row_signs R := by subst hA; exact ⟨nI_0.symm, rfl, rfl⟩
  obtain ⟨a1, a2, a3⟩ := a1
  obtain ⟨P, p1, p2⟩ := PR_0 r (gf_Row_pasts A) hd6 hg
  rw [p1, bd_s, lt_v]
  generalize hB : sf_Row_pasts A P = B
  have b1 : gf_Row_length B = nI 0 ∧ gf_Row_paidInAll B = 0 ∧ gf_Row_signs B = gf_Row_signs R ∧ gf_Row_pasts B = P := by subst hB; exact ⟨a1, a2, a3, rfl⟩
  obtain ⟨b1, b2, b3, b4⟩ := b1
  obtain ⟨Q, q1, q2, -⟩ := ca_l (fun S => some S) hd6 N hN hr N 0 (4999 - N) B (by omega) ⟨b1, fun k hk => absurd hk (by omega), b2, by rw [b4]; exact p2⟩ (fun i hi => by rw [b3]; exact hs i hi)
  refine ⟨Q, ?_, q2⟩
  rw [nI_0, show 4999 - N + N + 1 = fu_ by unfold fu_; omega] at q1
  exact q1
theorem pr_l {r : Nat → Int32} {g : Int32} {d : Nat} {R : tt_Row} (k : tt_Pasts → Int32 → Option (Int32 × tt_Pasts)) (hd6 : d ≤ 6) (N : Nat) (hN : N ≤ 100) (hr : b01 r N) (hl : gf_Row_length R = nI N) (hs : ∀ i, i < N → gf_Row_signs R i = r i) : ∀ (m n f : Nat) (P : tt_Pasts), n + m = N → PR r g d n P → ∃ Q, fl_X3_priceBy_12 k R (f + m + 1) P (cs_ r g d n) (nI n) = k Q (cs_ r g d N) ∧ PR r g d N Q := by
  intro m
  induction m with
  | zero =>
    intro n f P h1 hP
    obtain rfl : n = N := by omega
    refine ⟨P, ?_, hP⟩
    rw [fl_X3_priceBy_12, hl, if_pos (Int32.le_refl _)]
  | succ m ih =>
    intro n f P h1 hP
    obtain ⟨Q, q1, q2⟩ := PR_s hd6 (hr n (by omega)) hP
    obtain ⟨Q2, s1, s2⟩ := ih (n + 1) f Q (by omega) q2
    refine ⟨Q2, ?_, s2⟩
    have hx : ix_ (nI n) 100 := na_ix (show n < 100 by omega) (by decide)
    rw [show f + (m + 1) + 1 = f + m + 1 + 1 by omega, fl_X3_priceBy_12, hl, if_neg (nI_ge (by omega) (by omega)), gd_p hx, nx_e hP, bd_s, of_e, bd_s, bt_e, bd_s, lt_v, gd_p hx, na_cl (by omega), hs n (by omega), q1, bd_s, lt_v, show nI n + (1 : Int32) = nI (n + 1) from nI_1 n]
    exact s1
/-- priceBy -/
theorem pr_e {r : Nat → Int32} {d g N : Nat} {R : tt_Row} (P : tt_Pasts) (hd6 : d ≤ 6) (hg : g ≤ 3) (hN : N ≤ 100) (hr : b01 r N) (hl : gf_Row_length R = nI N) (hs : ∀ i, i < N → gf_Row_signs R i = r i) : ∃ Q, fn_X3_priceBy R P (nI d) (nI g) = some (cs_ r (nI g) d N, Q) ∧ PR r (nI g) d N Q := by
  obtain ⟨P1, p1, p2⟩ := PR_0 r P hd6 hg
  obtain ⟨Q, q1, q2⟩ := pr_l (r := r) (g := nI g) (fun (S : tt_Pasts) (x : Int32) => some (x, S)) hd6 N hN hr hl hs N 0 (4999 - N) P1 (by omega) p2
  refine ⟨Q, ?_, q2⟩
  unfold fn_X3_priceBy
  rw [p1, bd_s]
  rw [nI_0, show 4999 - N + N + 1 = fu_ by unfold fu_; omega] at q1
  exact q1
