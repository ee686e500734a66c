/-! ===== pure part: bounds; the reference's own guess ===== -/
theorem un_kp (x : Int64) : un_ (kp_ x 1 65535) := nt_of (lo := 1) (hi := 65535) (by decide) (by decide) (kp_r x (by decide)).1 (kp_r x (by decide)).2
theorem wn_kp (x : Int64) : wn_ (kp_ x 64 65472) := nt_of (lo := 64) (hi := 65472) (by decide) (by decide) (kp_r x (by decide)).1 (kp_r x (by decide)).2
theorem un_op (g a b : Int32) : un_ (op_ g a b) := by
  unfold op_
  split
  · exact un_kp _
  · split
    · exact un_kp _
    · split <;> exact un_kp _
theorem un_ow (g : Int32) (z o : Nat → Int32) (h l : Nat) : un_ (ow_ g z o h l) := un_op _ _ _
theorem un_mx (g : Int32) (z o w : Nat → Int32) (h d j : Nat) : un_ (mx_ g z o w h d j) := by
  cases j with
  | zero => exact un_op _ _ _
  | succ j => exact un_kp _
theorem un_of {s q : Int32} (hq : un_ q) : un_ (of_ s q) := by
  obtain ⟨a, h1, h2, rfl⟩ := hq
  unfold of_
  split
  · exact ⟨a, h1, h2, rfl⟩
  · exact ⟨65536 - a, by omega, by omega, pk_sub (a := 65536) (by omega)⟩
theorem cn_t0 {s a : Int32} (h : cn_ a) : ∃ n, n ≤ 61 ∧ t0_ s a = nI n := by
  obtain ⟨n, h1, rfl⟩ := h
  unfold t0_
  split
  · exact ⟨n, by omega, rfl⟩
  · exact ⟨n + 1, by omega, nI_1 n⟩
theorem cn_t1 {s a : Int32} (h : cn_ a) : ∃ n, n ≤ 61 ∧ t1_ s a = nI n := by
  obtain ⟨n, h1, rfl⟩ := h
  unfold t1_
  split
  · exact ⟨n + 1, by omega, nI_1 n⟩
  · exact ⟨n, by omega, rfl⟩
theorem cn_tz {s a b : Int32} (h1 : cn_ a) (h2 : cn_ b) : cn_ (tz_ s a b) ∧ cn_ (to_ s a b) := by
  obtain ⟨n, n1, n2⟩ := cn_t0 (s := s) h1
  obtain ⟨m, m1, m2⟩ := cn_t1 (s := s) h2
  have d1 : nI n / (2 : Int32) = nI (n / 2) := pk_div (d := 2) (by omega) (by decide) (by decide)
  have d2 : nI m / (2 : Int32) = nI (m / 2) := pk_div (d := 2) (by omega) (by decide) (by decide)
  unfold tz_ to_
  rw [n2, m2]
  by_cases hc : (60 : Int32) < nI n ∨ (60 : Int32) < nI m
  · rw [if_pos hc, if_pos hc, d1, d2]
    exact ⟨⟨n / 2, by omega, rfl⟩, ⟨m / 2, by omega, rfl⟩⟩
  · rw [if_neg hc, if_neg hc]
    have e1 : ¬ 60 < n := fun x => hc (Or.inl (nI_lt (a := 60) x (by omega)))
    have e2 : ¬ 60 < m := fun x => hc (Or.inr (nI_lt (a := 60) x (by omega)))
    exact ⟨⟨n, by omega, rfl⟩, ⟨m, by omega, rfl⟩⟩
/-- the bounds of all nodes -/
def BD (q : s4_) : Prop := ∀ v, cn_ (q.1 v) ∧ cn_ (q.2.1 v) ∧ wn_ (q.2.2.1 v)
theorem BD_0 : BD (z0_, z0_, w0_, z0_) := fun v => ⟨⟨0, by decide, rfl⟩, ⟨0, by decide, rfl⟩, ⟨32768, by decide, by decide, rfl⟩⟩
theorem BD_s1 {g : Int32} {h d l : Nat} {s own up : Int32} {q : s4_} (hq : BD q) : BD (s1_ g h d s own up l q) := by
  intro v
  obtain ⟨a1, a2, a3⟩ := hq v
  obtain ⟨b1, b2, b3⟩ := hq (vN l h)
  have c := cn_tz (s := s) b1 b2
  refine ⟨?_, ?_, ?_⟩
  · show cn_ (upd q.1 (vN l h) _ v)
    unfold upd
    split
    · exact c.1
    · exact a1
  · show cn_ (upd q.2.1 (vN l h) _ v)
    unfold upd
    split
    · exact c.2
    · exact a2
  · show wn_ ((if l < d then upd q.2.2.1 (vN l h) _ else q.2.2.1 : Nat → Int32) v)
    split
    · unfold upd
      split
      · exact wn_kp _
      · exact a3
    · exact a3
theorem BD_it {g : Int32} {h d : Nat} {s : Int32} {q : s4_} (hq : BD q) : ∀ l, BD (it_ g h d s q l) := by
  intro l
  induction l with
  | zero => exact hq
  | succ l ih => exact BD_s1 ih
theorem n64 {m : Nat} (h1 : 1 ≤ m) (h2 : m < 2 ^ 31) : ¬ (nI m).toInt64 = 0 ∧ (1 : Int64) ≤ (nI m).toInt64 := by
  rw [nI_l h2]
  constructor
  · intro e
    rw [show (0 : Int64) = lN 0 from rfl, lN_eq h2 (by decide)] at e
    omega
  · rw [show (1 : Int64) = lN 1 from rfl, lN_le (by decide) h2]
    exact h1
theorem o134 {Y : tt_Model} {m : Nat} (h1 : 1 ≤ m) (h2 : m < 2 ^ 31) (x4 t0 : Int32) (ht : t0 = nI m) : fn_X9_ownOf_134 Y x4 t0 = some (kp_ (qt_ (65536 * x4.toInt64) t0.toInt64) 1 65535) := by
  subst ht
  have h := n64 h1 h2
  unfold fn_X9_ownOf_134
  rw [gd_p h.1, he_e, bd_s, qt_, if_pos h.2]
theorem oo_e {Y : tt_Model} {g : Int32} {v : Nat} (hg : gf_Model_byGuesser Y = g) (hv : v < 127) (ha : cn_ (gf_Model_noughts Y v)) (hb : cn_ (gf_Model_ones Y v)) : fn_X9_ownOf Y (nI v) = some (op_ g (gf_Model_noughts Y v) (gf_Model_ones Y v)) := by
  have hx : ix_ (nI v) 127 := na_ix hv (by decide)
  have c1 : (nI v).toNatClampNeg = v := na_cl (by omega)
  obtain ⟨a, a1, a2⟩ := ha
  obtain ⟨b, b1, b2⟩ := hb
  have da : nI a / (2 : Int32) = nI (a / 2) := pk_div (d := 2) (by omega) (by decide) (by decide)
  have db : nI b / (2 : Int32) = nI (b / 2) := pk_div (d := 2) (by omega) (by decide) (by decide)
  have m1 : (nI a + nI b) + (2 : Int32) = nI (a + b + 2) := by rw [nI_add, show (2 : Int32) = nI 2 from rfl, nI_add]
  have m2 : ((4 : Int32) * nI a + (4 : Int32) * nI b) + (2 : Int32) = nI (4 * a + 4 * b + 2) := by rw [show (4 : Int32) = nI 4 from rfl, show (2 : Int32) = nI 2 from rfl, pk_mul, pk_mul, nI_add, nI_add]
  have m3 : ∀ a b : Nat, ((2 : Int32) * nI a + (2 : Int32) * nI b) + (2 : Int32) = nI (2 * a + 2 * b + 2) := fun a b => by rw [show (2 : Int32) = nI 2 from rfl, pk_mul, pk_mul, nI_add, nI_add]
  unfold fn_X9_ownOf fn_X9_ownOf_25 fn_X9_ownOf_51 fn_X9_ownOf_87 op_
  simp only [gd_p hx, c1, hg, a2, b2]
  by_cases h3 : g = 3
  · subst h3
    have f1 : ((3 : Int32) = 1) = False := eq_false (by decide)
    have f2 : ((3 : Int32) = 2) = False := eq_false (by decide)
    simp only [f1, f2, if_false, if_true, da, db]
    exact o134 (m := 2 * (a / 2) + 2 * (b / 2) + 2) (by omega) (by omega) _ _ (m3 _ _)
  · by_cases h1 : g = 1
    · subst h1
      have f1 : ((1 : Int32) = 3) = False := eq_false (by decide)
      simp only [f1, if_false, if_true]
      exact o134 (m := a + b + 2) (by omega) (by omega) _ _ m1
    · by_cases h2 : g = 2
      · subst h2
        have f1 : ((2 : Int32) = 3) = False := eq_false (by decide)
        have f2 : ((2 : Int32) = 1) = False := eq_false (by decide)
        simp only [f1, f2, if_false, if_true]
        exact o134 (m := 4 * a + 4 * b + 2) (by omega) (by omega) _ _ m2
      · simp only [if_neg h1, if_neg h2, if_neg h3]
        exact o134 (m := 2 * a + 2 * b + 2) (by omega) (by omega) _ _ (m3 _ _)
