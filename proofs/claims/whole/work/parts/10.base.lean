/-! ===== the base: pure programs' words, contracts' forms, rows in this claim's forms ===== -/
-- pure programs: a value with a name, a guard, a call
def lt_ {α β : Type} (a : α) (f : α → β) : β := f a
def gd_ {β : Type} (P : Prop) [Decidable P] (x : Option β) : Option β := if P then x else none
def bd_ {α β : Type} (o : Option α) (f : α → Option β) : Option β := o.bind f
def b2_ {α γ β : Type} (o : Option (α × γ)) (f : α → γ → Option β) : Option β := o.bind (fun u => f u.1 u.2)
def b3_ {α γ δ β : Type} (o : Option (α × γ × δ)) (f : α → γ → δ → Option β) : Option β := o.bind (fun u => f u.1 u.2.1 u.2.2)
theorem lt_e {α β : Type} {a : α} {f : α → Option β} {r : β} (h : lt_ a f = some r) : ∃ x, x = a ∧ f x = some r := ⟨a, rfl, h⟩
theorem gd_e {β : Type} {P : Prop} [Decidable P] {x : Option β} {r : β} (h : gd_ P x = some r) : P ∧ x = some r := by
  unfold gd_ at h
  by_cases hp : P
  · rw [if_pos hp] at h; exact ⟨hp, h⟩
  · rw [if_neg hp] at h; cases h
theorem bd_e {α β : Type} {o : Option α} {f : α → Option β} {r : β} (h : bd_ o f = some r) : ∃ u, o = some u ∧ f u = some r := by
  cases o with
  | none => cases h
  | some u => exact ⟨u, rfl, h⟩
theorem b2_e {α γ β : Type} {o : Option (α × γ)} {f : α → γ → Option β} {r : β} (h : b2_ o f = some r) : ∃ u v, o = some (u, v) ∧ f u v = some r := by
  cases o with
  | none => cases h
  | some u => exact ⟨u.1, u.2, rfl, h⟩
theorem b3_e {α γ δ β : Type} {o : Option (α × γ × δ)} {f : α → γ → δ → Option β} {r : β} (h : b3_ o f = some r) : ∃ u v w, o = some (u, v, w) ∧ f u v w = some r := by
  cases o with
  | none => cases h
  | some u => exact ⟨u.1, u.2.1, u.2.2, rfl, h⟩
theorem it_p {β : Type} {P : Prop} [Decidable P] {x y : Option β} {r : β} (h : (if P then x else y) = some r) (hp : P) : x = some r := by rw [if_pos hp] at h; exact h
theorem it_n {β : Type} {P : Prop} [Decidable P] {x y : Option β} {r : β} (h : (if P then x else y) = some r) (hp : ¬ P) : y = some r := by rw [if_neg hp] at h; exact h
theorem so_1 {α : Type} {a b : α} (h : some a = some b) : a = b := Option.some.inj h
theorem so_2 {α β : Type} {a c : α} {b d : β} (h : some (a, b) = some (c, d)) : a = c ∧ b = d := ⟨congrArg Prod.fst (Option.some.inj h), congrArg Prod.snd (Option.some.inj h)⟩
theorem so_3 {α β γ : Type} {a c : α} {b d : β} {x y : γ} (h : some (a, b, x) = some (c, d, y)) : a = c ∧ b = d ∧ x = y := ⟨congrArg Prod.fst (Option.some.inj h), congrArg (fun z => z.2.1) (Option.some.inj h), congrArg (fun z => z.2.2) (Option.some.inj h)⟩
theorem lt6_ {j : Nat} (h : j < 6) : j = 0 ∨ j = 1 ∨ j = 2 ∨ j = 3 ∨ j = 4 ∨ j = 5 := by omega
abbrev ix_ (i : Int32) (n : Nat) : Prop := ¬ (i < 0 ∨ n ≤ i.toNatClampNeg)
def fu_ : Nat := 5000
theorem lt_sb {α β : Type} {a x : α} {f : α → Option β} {r : β} (h : lt_ a f = some r) (e : x = a) : f x = some r := by subst e; exact h
theorem sw_ne {x k : Int32} (h : ¬ x = k) : x.toInt ≠ k.toInt := fun e => h (Int32.toInt_inj.mp e)
theorem sw_0 : (0 : Int32).toInt = 0 := by decide
theorem sw_1 : (1 : Int32).toInt = 1 := by decide
theorem sw_2 : (2 : Int32).toInt = 2 := by decide
theorem sw_3 : (3 : Int32).toInt = 3 := by decide
theorem sw_4 : (4 : Int32).toInt = 4 := by decide
theorem sw_5 : (5 : Int32).toInt = 5 := by decide
theorem sw_6 : (6 : Int32).toInt = 6 := by decide
theorem sw_7 : (7 : Int32).toInt = 7 := by decide
-- the run's data: the classes' numbers and slots, the array classes
abbrev xG : Type := va_G × ClassId × ClassId × ClassId
def xT (G : xG) : List (ClassId × FieldType) := [(G.2.1, .int), (G.2.2.1, .boolean), (G.2.2.2, .object "TreeOdds$State")]
def nst_ : List (String × Nat × MethodName) := [(RX8, 11, yX3_init), (RX2, 44, yX8_kept), (RX2, 48, yX8_nodeOf), (RX2, 74, yX8_opinion), (RX8, 25, yX1_init), (RX8, 32, yX0_init), (RX8, 39, yX7_init), (RX8, 46, yX6_init), (RX5, 24, yX4_init), (RX3, 35, yX8_within), (RX3, 43, yX8_ofSign), (RX3, 47, yX8_bitsOf), (RX2, 60, yX8_ofSign), (RX2, 63, yX8_bitsOf), (RX2, 84, yX8_quotient), (RX3, 55, yX8_kept), (RX2, 56, yX8_within), (RX0, 38, yX8_nodeOf), (RX7, 50, yX8_within), (RX6, 37, yX8_within), (RX6, 41, yX8_kept)]
def xN (U : State) : Prop := ∀ q ∈ nst_, va_Nw (.methodLinkNest q.1 q.2.1 q.2.2 RX8) U
def xKN (G : xG) (U : State) : Prop := va_K G.1 vwCl (xT G) U ∧ xN U ∧ va_AO "TreeOdds$State" U
theorem xKN.moved {G : xG} {s U : State} (hW : s.WarmedH U.vm) (h : xKN G s) : xKN G U := ⟨va_K.moved hW.alike h.1, fun q hq => va_Nw.warmM hW (h.2.1 q hq), va_AO.moved hW.alike h.2.2⟩
theorem xKN.calling {G : xG} {U : State} {g : JFrame} {mk : MethodId} {a : Array Value} (h : xKN G U) : xKN G (U.calling g mk a) := ⟨va_K.moved (u := U) (U := U.calling g mk a) (Vm.Alike.refl U.vm) h.1, fun q hq => va_Nw.same (u := U) (U := U.calling g mk a) rfl rfl (h.2.1 q hq), va_AO.moved (u := U) (U := U.calling g mk a) (Vm.Alike.refl U.vm) h.2.2⟩
-- contracts' forms
def xPc (G : xG) (av : List Value) (ws : va_W) (sz : Nat) : Array Value → State → Prop := va_Pc av (fun U => U.heap.size = sz ∧ va_P G.1 vwCl ws U.heap ∧ xKN G U ∧ va_D (fun _ => True) ws)
def xB (G : xG) (A : Nat → Prop) (ws' : va_W) : Unit → State → Prop := fun _ t => va_P G.1 vwCl ws' t.heap ∧ va_D A ws'
def xQo (G : xG) (o : Option Value) (A : Nat → Prop) (ws' : va_W) : Array Value → State → Outcome → State → Prop := fun _ st oc t => oc = .returned o ∧ (va_P G.1 vwCl ws' t.heap ∧ va_D A ws') ∧ va_F A st t
def xPs (av : List Value) : Array Value → State → Prop := fun v _ => v = av.toArray
def xQs (o : Option Value) : Array Value → State → Outcome → State → Prop := fun _ st oc t => oc = .returned o ∧ t.heap = st.heap
def xWs (y : MethodName) (bytes : ByteArray) (n : Nat) (ret : Option FieldType) : List Cond := .code y bytes n ret :: wsL_law
/-- a contract over a world: from ws to ws', the answer o, nothing made -/
def xM (l : Launch) (y : MethodName) (bytes : ByteArray) (n : Nat) (ret : Option FieldType) (fr lo : Nat) (G : xG) (av : List Value) (ws ws' : va_W) (o : Option Value) : Prop :=
  ∀ sz : Nat, Met l y (xWs y bytes n ret) { frames := fr, cells := 0, slots := 0, locals := lo } (xPc G av ws sz) (xQo G o (va_A ws sz) ws') 0 0 (va_A ws sz)
/-- a contract of a method without a world -/
def xMs (l : Launch) (y : MethodName) (bytes : ByteArray) (n : Nat) (ret : Option FieldType) (fr lo : Nat) (av : List Value) (o : Option Value) : Prop :=
  Met l y (xWs y bytes n ret) { frames := fr, cells := 0, slots := 0, locals := lo } (xPs av) (xQs o) 0 0 (fun _ => False)
-- what holds of the method that runs
def xC (p : Program) (s : State) (m : MethodId) (meth : Method) (c : Code) (cc : ByteArray) (nL : Nat) (ret : Option FieldType) (own : String) (args : Array Value) : Prop :=
  p.tables.exec = Jvm.exec ∧ c.code = cc ∧ c.maxLocals = nL ∧ s.vm.findClass own = some m.cls ∧ (∀ w ∈ wsL_law, w.before args s = true) ∧ meth.sig.returnType = ret ∧ meth.locks = false
def xS (G : xG) (A : Nat → Prop) (H0 : Heap) (ws : va_W) (H : Heap) (locs : List Loc) : Prop := va_P G.1 vwCl ws H ∧ va_D A ws ∧ va_S A H0 H locs
set_option maxRecDepth 100000 in
theorem xgood : wsL_law.all goodWord = true := by decide +kernel
theorem xws_ok {y : MethodName} {bytes : ByteArray} {n : Nat} {ret : Option FieldType} {args : Array Value} {s : State} (hts : ∀ w ∈ wsL_law, w.before args s = true) (hc : Cond.code y bytes n ret ∈ wsL_law) : ∀ w ∈ xWs y bytes n ret, ∀ (a' : Array Value) (U : State), s.WarmedH U.vm → w.before a' U = true := by
  intro w hw a' U hW
  have hm : w ∈ wsL_law := by
    rcases List.mem_cons.mp hw with h | h
    · rw [h]; exact hc
    · exact h
  exact word_at hW (good_of_word (List.all_eq_true.mp xgood w hm)) (hts w hm)
theorem xMi {l : Launch} {y : MethodName} {cc : ByteArray} {n : Nat} {ret : Option FieldType} {fr lo : Nat} {G : xG} {av : List Value} {ws ws' : va_W} {o : Option Value} (hy : plainName y.cls = true) (hlen : (lg_sl av).length ≤ n)
    (body : ∀ (p : Program) (e : Env) (s : State) (m : MethodId) (below : List Frame) (meth : Method) (c : Code) (A : Nat → Prop), xC p s m meth c cc n ret y.cls av.toArray → xKN G s → (∀ q, s.heap.size ≤ q → A q) → xS G A s.heap ws s.heap [] → ∀ ls : Array Slot, lv_has ls n (lv_args 0 av) → W p l e { frames := fr, cells := 0, slots := 0, locals := lo } s m av.toArray below meth c s.heap [] 0 0 (MQ below (xQo G o A ws') av.toArray s 0 0 A) (F0 m 0 ls [])) : xM l y cc n ret fr lo G av ws ws' o := by
  intro sz
  refine Met.ofW (cc := cc) (maxL := n) (ret := ret) hy rfl ?_
  intro p e s m args below meth c s₁ B hml hv
  obtain ⟨rfl, hsz, hP, hK, hD0⟩ := hv
  subst hsz
  have hts := atoms_spec (ws := xWs y cc n ret) B.pre
  have hl := lv_entry av (n := n) hlen
  rw [lg_entry_eq]
  refine body p e s m below meth c (va_A ws s.heap.size) ⟨B.exec, B.bytes, hml, findClass_of_methodNamed B.named, fun w hw => hts w (List.mem_cons_of_mem _ hw), B.returns, B.notSynchronized⟩ hK (fun q h => Or.inr h) ⟨hP, hD0.self, va_S.rf⟩ _ hl
theorem xMsi {l : Launch} {y : MethodName} {cc : ByteArray} {n : Nat} {ret : Option FieldType} {fr lo : Nat} {av : List Value} {o : Option Value} (hy : plainName y.cls = true) (hlen : (lg_sl av).length ≤ n)
    (body : ∀ (p : Program) (e : Env) (s : State) (m : MethodId) (below : List Frame) (meth : Method) (c : Code), xC p s m meth c cc n ret y.cls av.toArray → ∀ ls : Array Slot, lv_has ls n (lv_args 0 av) → W p l e { frames := fr, cells := 0, slots := 0, locals := lo } s m av.toArray below meth c s.heap [] 0 0 (MQ below (xQs o) av.toArray s 0 0 (fun _ => False)) (F0 m 0 ls [])) : xMs l y cc n ret fr lo av o := by
  refine Met.ofW (cc := cc) (maxL := n) (ret := ret) hy rfl ?_
  intro p e s m args below meth c s₁ B hml hv
  have hv : args = av.toArray := hv
  subst hv
  have hts := atoms_spec (ws := xWs y cc n ret) B.pre
  have hl := lv_entry av (n := n) hlen
  rw [lg_entry_eq]
  exact body p e s m below meth c ⟨B.exec, B.bytes, hml, findClass_of_methodNamed B.named, fun w hw => hts w (List.mem_cons_of_mem _ hw), B.returns, B.notSynchronized⟩ _ hl
section XR
variable {p : Program} {l : Launch} {e : Env} {R : Room} {s : State} {m : MethodId} {args : Array Value} {below : List Frame} {meth : Method} {c : Code} {H H0 : Heap} {locs : List Loc} {cells slots : Nat} {Q : State → Prop} {cc : ByteArray} {nL pc index : Nat} {ret : Option FieldType} {own : String} {G : xG} {A : Nat → Prop} {ws ws' : va_W} {ls : Array Slot} {rest : List Value} {a ci : Nat} {fs : List Value} {C : String} {T : u_T} {N : Nat} {v : Value}
theorem x_get (C0 : xC p s m meth c cc nL ret own args) (KN : xKN G s) (X : xS G A H0 ws H locs) (q0 : Nat) (he : ws[q0]? = some (a, .inr (ci, fs))) (hc : vwCl[ci]? = some (C, T, N)) (hin : ∀ w ∈ u_ws C T N, w ∈ wsL_law) (k : Nat) (hk : k < N) (hw : Cond.fieldLink own index (T k).1 (T k).2.1 (T k).2.2.1 ∈ wsL_law) (hv : fs[k]? = some v) (hdg : decode cc pc = .ok (.getfield index, 3))
    (kk : W p l e R s m args below meth c H locs cells slots Q (F0 m (pc + 3) ls (v :: rest))) : W p l e R s m args below meth c H locs cells slots Q (F0 m pc ls (.ref a :: rest)) :=
  va_get C0.1 C0.2.1 C0.2.2.2.2.1 hin C0.2.2.2.1 KN.1 X.1 q0 he hc k hk (C0.2.2.2.2.1 _ hw) (fun _ h => h) hv hdg kk
theorem x_put (C0 : xC p s m meth c cc nL ret own args) (KN : xKN G s) (X : xS G A H0 ws H locs) (q0 : Nat) (he : ws[q0]? = some (a, .inr (ci, fs))) (hc : vwCl[ci]? = some (C, T, N)) (hin : ∀ w ∈ u_ws C T N, w ∈ wsL_law) {ty0 : Nat → FieldType} (hty : ∀ k, k < N → parseFieldDescriptor (T k).2.2.1 = some (ty0 k)) (hnm : ∀ a, a < N → ∀ b, b < N → a ≠ b → (T a).2.1 ≠ (T b).2.1) (k : Nat) (hk : k < N) (hw : Cond.fieldLink own index (T k).1 (T k).2.1 (T k).2.2.1 ∈ wsL_law) (hfin : (T k).2.2.2 = false) (hn : narrow (ty0 k) v = v) (hfit : fits (ty0 k) v = true) (hl : k < fs.length) (hs : ws.set q0 (a, .inr (ci, fs.set k v)) = ws') (hdg : decode cc pc = .ok (.putfield index, 3))
    (kk : ∀ (H1 : Heap) (locs1 : List Loc), xS G A H0 ws' H1 locs1 → W p l e R s m args below meth c H1 locs1 cells slots Q (F0 m (pc + 3) ls rest)) : W p l e R s m args below meth c H locs cells slots Q (F0 m pc ls (v :: .ref a :: rest)) := by
  subst hs
  exact va_put C0.1 C0.2.1 C0.2.2.2.2.1 hin ty0 hty hnm C0.2.2.2.1 KN.1 X.1 X.2.1 X.2.2 q0 he hc k hk (C0.2.2.2.2.1 _ hw) (fun _ h => h) hfin (hty k hk) hn hfit hl hdg (fun H1 locs1 h1 h2 h3 => kk H1 locs1 ⟨h1, h2, h3⟩)
theorem x_ald (C0 : xC p s m meth c cc nL ret own args) (KN : xKN G s) (X : xS G A H0 ws H locs) (q0 : Nat) {n : Nat} {f : Nat → Int32} (ha : ws[q0]? = some (a, .inl (G.2.1, n, .inl f))) {i : Int32} (hin : ix_ i n) (hdg : decode cc pc = .ok (.iaload, 1))
    (kk : W p l e R s m args below meth c H locs cells slots Q (F0 m (pc + 1) ls (.int (f i.toNatClampNeg) :: rest))) : W p l e R s m args below meth c H locs cells slots Q (F0 m pc ls (.int i :: .ref a :: rest)) :=
  va_iald C0.1 C0.2.1 KN.1 X.1 q0 0 ha rfl hin hdg kk
theorem x_zld (C0 : xC p s m meth c cc nL ret own args) (KN : xKN G s) (X : xS G A H0 ws H locs) (q0 : Nat) {n : Nat} {f : Nat → Int32} (ha : ws[q0]? = some (a, .inl (G.2.2.1, n, .inl f))) {i : Int32} (hin : ix_ i n) (hdg : decode cc pc = .ok (.baload, 1))
    (kk : W p l e R s m args below meth c H locs cells slots Q (F0 m (pc + 1) ls (.int (f i.toNatClampNeg) :: rest))) : W p l e R s m args below meth c H locs cells slots Q (F0 m pc ls (.int i :: .ref a :: rest)) :=
  va_zald C0.1 C0.2.1 KN.1 X.1 q0 1 ha rfl hin hdg kk
theorem x_ast (C0 : xC p s m meth c cc nL ret own args) (KN : xKN G s) (X : xS G A H0 ws H locs) (q0 : Nat) {n : Nat} {f : Nat → Int32} (ha : ws[q0]? = some (a, .inl (G.2.1, n, .inl f))) {i x : Int32} (hin : ix_ i n) (hs : ws.set q0 (a, .inl (G.2.1, n, .inl (upd f i.toNatClampNeg x))) = ws') (hdg : decode cc pc = .ok (.iastore, 1))
    (kk : ∀ (H1 : Heap) (locs1 : List Loc), xS G A H0 ws' H1 locs1 → W p l e R s m args below meth c H1 locs1 cells slots Q (F0 m (pc + 1) ls rest)) : W p l e R s m args below meth c H locs cells slots Q (F0 m pc ls (.int x :: .int i :: .ref a :: rest)) := by
  subst hs
  exact va_iast C0.1 C0.2.1 KN.1 X.1 X.2.1 X.2.2 q0 0 ha rfl hin hdg (fun H1 locs1 h1 h2 h3 => kk H1 locs1 ⟨h1, h2, h3⟩)
theorem x_zst (C0 : xC p s m meth c cc nL ret own args) (KN : xKN G s) (X : xS G A H0 ws H locs) (q0 : Nat) {n : Nat} {f : Nat → Int32} (ha : ws[q0]? = some (a, .inl (G.2.2.1, n, .inl f))) {i x : Int32} (hin : ix_ i n) (hs : ws.set q0 (a, .inl (G.2.2.1, n, .inl (upd f i.toNatClampNeg (vp_nar .boolean x)))) = ws') (hdg : decode cc pc = .ok (.bastore, 1))
    (kk : ∀ (H1 : Heap) (locs1 : List Loc), xS G A H0 ws' H1 locs1 → W p l e R s m args below meth c H1 locs1 cells slots Q (F0 m (pc + 1) ls rest)) : W p l e R s m args below meth c H locs cells slots Q (F0 m pc ls (.int x :: .int i :: .ref a :: rest)) := by
  subst hs
  exact va_zast C0.1 C0.2.1 KN.1 X.1 X.2.1 X.2.2 q0 1 ha rfl hin hdg (fun H1 locs1 h1 h2 h3 => kk H1 locs1 ⟨h1, h2, h3⟩)
theorem x_ldc (C0 : xC p s m meth c cc nL ret own args) {v : Int32} (hw : Cond.constant own index v ∈ wsL_law) (hdg : decode cc pc = .ok (.ldc index, 2)) (k : W p l e R s m args below meth c H locs cells slots Q (F0 m (pc + 2) ls (.int v :: rest))) : W p l e R s m args below meth c H locs cells slots Q (F0 m pc ls rest) := lv_ldc C0.1 C0.2.1 C0.2.2.2.1 (C0.2.2.2.2.1 _ hw) hdg k
theorem x_ldc2 (C0 : xC p s m meth c cc nL ret own args) {v : Int64} (hw : Cond.constantLong own index v ∈ wsL_law) (hdg : decode cc pc = .ok (.ldc2_w index, 3)) (k : W p l e R s m args below meth c H locs cells slots Q (F0 m (pc + 3) ls (.long v :: rest))) : W p l e R s m args below meth c H locs cells slots Q (F0 m pc ls rest) := lv_ldc2 C0.1 C0.2.1 C0.2.2.2.1 (C0.2.2.2.2.1 _ hw) hdg k
theorem x_ldcw (C0 : xC p s m meth c cc nL ret own args) {v : Int32} (hw : Cond.constant own index v ∈ wsL_law) (hdg : decode cc pc = .ok (.ldc_w index, 3)) (k : W p l e R s m args below meth c H locs cells slots Q (F0 m (pc + 3) ls (.int v :: rest))) : W p l e R s m args below meth c H locs cells slots Q (F0 m pc ls rest) := lv_ldcw C0.1 C0.2.1 C0.2.2.2.1 (C0.2.2.2.2.1 _ hw) hdg k
theorem x_mmax (C0 : xC p s m meth c cc nL ret own args) (hsz : ls.size = nL) (hl : Cond.methodLink own index Lib.Math.max.name ∈ wsL_law) (hs : Cond.static Lib.Math.max.name ∈ wsL_law) (hi : Cond.initialized "java/lang/Math" ∈ wsL_law) (hc : Cond.code Lib.Math.max.name Lib.Math.max.code 2 (some .int) ∈ wsL_law) (hf : 1 ≤ R.frames) (hlo : (rest.map fun v => v.category).sum + 13 ≤ R.locals) (hcs : cells ≤ R.cells ∧ slots ≤ R.slots) {x y : Int32} (hdg : decode cc pc = .ok (.invokestatic index, 3)) (kk : W p l e R s m args below meth c H locs cells slots Q (F0 m (pc + 3) ls (.int (if x < y then y else x) :: rest))) : W p l e R s m args below meth c H locs cells slots Q (F0 m pc ls (.int y :: .int x :: rest)) :=
  va_mmax C0.1 C0.2.1 (by rw [C0.2.2.1, hsz]) C0.2.2.2.1 (C0.2.2.2.2.1 _ hl) (C0.2.2.2.2.1 _ hs) (C0.2.2.2.2.1 _ hi) (C0.2.2.2.2.1 _ hc) hf hlo hcs.1 hcs.2 hdg kk
theorem x_mmin (C0 : xC p s m meth c cc nL ret own args) (hsz : ls.size = nL) (hl : Cond.methodLink own index Lib.Math.min.name ∈ wsL_law) (hs : Cond.static Lib.Math.min.name ∈ wsL_law) (hi : Cond.initialized "java/lang/Math" ∈ wsL_law) (hc : Cond.code Lib.Math.min.name Lib.Math.min.code 2 (some .int) ∈ wsL_law) (hf : 1 ≤ R.frames) (hlo : (rest.map fun v => v.category).sum + 13 ≤ R.locals) (hcs : cells ≤ R.cells ∧ slots ≤ R.slots) {x y : Int32} (hdg : decode cc pc = .ok (.invokestatic index, 3)) (kk : W p l e R s m args below meth c H locs cells slots Q (F0 m (pc + 3) ls (.int (if y < x then y else x) :: rest))) : W p l e R s m args below meth c H locs cells slots Q (F0 m pc ls (.int y :: .int x :: rest)) :=
  va_mmin C0.1 C0.2.1 (by rw [C0.2.2.1, hsz]) C0.2.2.2.1 (C0.2.2.2.2.1 _ hl) (C0.2.2.2.2.1 _ hs) (C0.2.2.2.2.1 _ hi) (C0.2.2.2.2.1 _ hc) hf hlo hcs.1 hcs.2 hdg kk
theorem x_aldq (C0 : xC p s m meth c cc nL ret own args) (KN : xKN G s) (X : xS G A H0 ws H locs) (q0 : Nat) {n : Nat} {f : Nat → Option Nat} (ha : ws[q0]? = some (a, .inl (G.2.2.2, n, .inr (.inr (.inr (.inr f)))))) {i : Int32} (hin : ix_ i n) (hdg : decode cc pc = .ok (.aaload, 1))
    (kk : W p l e R s m args below meth c H locs cells slots Q (F0 m (pc + 1) ls (va_rf (f i.toNatClampNeg) :: rest))) : W p l e R s m args below meth c H locs cells slots Q (F0 m pc ls (.int i :: .ref a :: rest)) :=
  va_aldq C0.1 C0.2.1 KN.1 X.1 q0 2 ha rfl hin hdg kk
theorem x_aret {b : Nat} (C0 : xC p s m meth c cc nL (some (.object "TreeOdds$State")) own args) (X : xS G A s.heap ws H locs) (hdg : decode cc pc = .ok (.areturn, 1)) : W p l e R s m args below meth c H locs cells slots (MQ below (xQo G (some (.ref b)) A ws) args s cells slots A) (F0 m pc ls [.ref b]) :=
  W.aret C0.1 C0.2.1 C0.2.2.2.2.2.1 (Or.inl ⟨_, rfl⟩) (Or.inr ⟨_, rfl⟩) (fun t ht _ => ⟨rfl, ⟨by rw [ht]; exact X.1, X.2.1⟩, X.2.2.F ht⟩) X.2.2.2.2 hdg (hlocks := C0.2.2.2.2.2.2)
-- ends
theorem x_iret (C0 : xC p s m meth c cc nL (some .int) own args) (X : xS G A s.heap ws H locs) {v : Int32} (hdg : decode cc pc = .ok (.ireturn, 1)) : W p l e R s m args below meth c H locs cells slots (MQ below (xQo G (some (.int v)) A ws) args s cells slots A) (F0 m pc ls [.int v]) :=
  W.iret C0.1 C0.2.1 C0.2.2.2.2.2.1 (fun t ht _ => ⟨rfl, ⟨by rw [ht]; exact X.1, X.2.1⟩, X.2.2.F ht⟩) X.2.2.2.2 hdg (hlocks := C0.2.2.2.2.2.2)
theorem x_lret (C0 : xC p s m meth c cc nL (some .long) own args) (X : xS G A s.heap ws H locs) {v : Int64} (hdg : decode cc pc = .ok (.lreturn, 1)) : W p l e R s m args below meth c H locs cells slots (MQ below (xQo G (some (.long v)) A ws) args s cells slots A) (F0 m pc ls [.long v]) :=
  W.lret C0.1 C0.2.1 C0.2.2.2.2.2.1 (fun t ht _ => ⟨rfl, ⟨by rw [ht]; exact X.1, X.2.1⟩, X.2.2.F ht⟩) X.2.2.2.2 hdg (hlocks := C0.2.2.2.2.2.2)
theorem x_zret (C0 : xC p s m meth c cc nL (some .boolean) own args) (X : xS G A s.heap ws H locs) {v : Int32} (hz : v = 0 ∨ v = 1) (hdg : decode cc pc = .ok (.ireturn, 1)) : W p l e R s m args below meth c H locs cells slots (MQ below (xQo G (some (.int v)) A ws) args s cells slots A) (F0 m pc ls [.int v]) :=
  W.zret C0.1 C0.2.1 C0.2.2.2.2.2.1 (by rcases hz with rfl | rfl <;> rfl) (fun t ht _ => ⟨rfl, ⟨by rw [ht]; exact X.1, X.2.1⟩, X.2.2.F ht⟩) X.2.2.2.2 hdg (hlocks := C0.2.2.2.2.2.2)
theorem x_vret (C0 : xC p s m meth c cc nL none own args) (X : xS G A s.heap ws H locs) (hdg : decode cc pc = .ok (.return_, 1)) : W p l e R s m args below meth c H locs cells slots (MQ below (xQo G none A ws) args s cells slots A) (F0 m pc ls []) :=
  W.vret C0.1 C0.2.1 C0.2.2.2.2.2.1 (fun t ht _ => ⟨rfl, ⟨by rw [ht]; exact X.1, X.2.1⟩, X.2.2.F ht⟩) X.2.2.2.2 hdg (hlocks := C0.2.2.2.2.2.2)
theorem s_iret (C0 : xC p s m meth c cc nL (some .int) own args) {v : Int32} (hdg : decode cc pc = .ok (.ireturn, 1)) : W p l e R s m args below meth c s.heap [] cells slots (MQ below (xQs (some (.int v))) args s cells slots (fun _ => False)) (F0 m pc ls [.int v]) :=
  W.iret C0.1 C0.2.1 C0.2.2.2.2.2.1 (fun t ht _ => ⟨rfl, ht⟩) (fun q h => by cases h) hdg (hlocks := C0.2.2.2.2.2.2)
theorem s_zret (C0 : xC p s m meth c cc nL (some .boolean) own args) {v : Int32} (hz : v = 0 ∨ v = 1) (hdg : decode cc pc = .ok (.ireturn, 1)) : W p l e R s m args below meth c s.heap [] cells slots (MQ below (xQs (some (.int v))) args s cells slots (fun _ => False)) (F0 m pc ls [.int v]) :=
  W.zret C0.1 C0.2.1 C0.2.2.2.2.2.1 (by rcases hz with rfl | rfl <;> rfl) (fun t ht _ => ⟨rfl, ht⟩) (fun q h => by cases h) hdg (hlocks := C0.2.2.2.2.2.2)
theorem s_lret (C0 : xC p s m meth c cc nL (some .long) own args) {v : Int64} (hdg : decode cc pc = .ok (.lreturn, 1)) : W p l e R s m args below meth c s.heap [] cells slots (MQ below (xQs (some (.long v))) args s cells slots (fun _ => False)) (F0 m pc ls [.long v]) :=
  W.lret C0.1 C0.2.1 C0.2.2.2.2.2.1 (fun t ht _ => ⟨rfl, ht⟩) (fun q h => by cases h) hdg (hlocks := C0.2.2.2.2.2.2)
-- calls
variable {y : MethodName} {bytes : ByteArray} {mL : Nat} {rt : Option FieldType} {fr lo : Nat} {As : List Value} {o : Option Value} {st0 : List Value}
theorem xpre_s : PreS s H (xPs As) As := ⟨fun _ _ _ _ q => q, fun _ _ _ => rfl⟩
theorem xgo_s (hr : va_Run p l e R s m args below meth c H locs cells slots 0 0 (F0 m pc ls st0) rest (xQs o As.toArray) (fun _ => False)) (kk : W p l e R s m args below meth c H locs cells slots Q (F0 m (pc + 3) ls (o.toList ++ rest))) : W p l e R s m args below meth c H locs cells slots Q (F0 m pc ls st0) := by
  intro T hT X
  obtain ⟨v, st₀, t, T', L, h0, X', hL, e1, e2, ⟨hv, hh⟩, st⟩ := hr T hT X
  cases hv
  obtain ⟨t2, a1, b1⟩ := kk T' (by rw [e1, hh, h0]) (Stand.forget X' (fun q h => (hL q h).elim))
  exact ⟨t2, st t2 a1, b1⟩
/-- a static method of the own class -/
theorem x_cs (C0 : xC p s m meth c cc nL ret own args) (hM : xMs l y bytes mL rt fr lo As o) (hc : Cond.code y bytes mL rt ∈ wsL_law) (hl : Cond.methodLink own index y ∈ wsL_law) (hs : Cond.static y ∈ wsL_law) (hi : Cond.initialized y.cls ∈ wsL_law) (hd : y.cls ≠ "java/lang/invoke/MethodHandle" ∧ y.cls ≠ "java/lang/invoke/VarHandle" ∧ (parseMethodDescriptor y.desc).map (fun d => d.parameters.length) = some As.length) (hR : fr + 1 ≤ R.frames ∧ 8 + (mL + 11) + lo ≤ R.locals) (hsz : ls.size = nL) (hst : st0 = As.reverse ++ rest) (hrm : (rest.map fun v => v.category).sum ≤ 8) (hcs : cells ≤ R.cells ∧ slots ≤ R.slots) (hdg : decode cc pc = .ok (.invokestatic index, 3))
    (kk : W p l e R s m args below meth c H locs cells slots Q (F0 m (pc + 3) ls (o.toList ++ rest))) : W p l e R s m args below meth c H locs cells slots Q (F0 m pc ls st0) := by
  have hts := C0.2.2.2.2.1
  refine xgo_s (As := As) (va_runS (n := As.length) (Ts := wsL_law) (own := own) ⟨C0.1, C0.2.1, C0.2.2.1, C0.2.2.2.1, hts⟩ hM ⟨⟨rfl, rfl, hR.1, hR.2, xws_ok hts hc, List.mem_cons_self, hts _ hc, hts _ hi, ⟨hd.1, hd.2.1⟩, fun sig h => ?_, hts _ hl⟩, hts _ hs⟩ xpre_s rfl rfl hsz hst (lv_room hrm) hdg hcs) kk
  have h2 := hd.2.2
  rw [h] at h2
  exact (Option.some.inj h2).symm
/-- a static method of a nest mate -/
theorem x_csN (C0 : xC p s m meth c cc nL ret own args) (KN : xKN G s) (hM : xMs l y bytes mL rt fr lo As o) (hc : Cond.code y bytes mL rt ∈ wsL_law) (hl : (own, index, y) ∈ nst_) (hs : Cond.static y ∈ wsL_law) (hi : Cond.initialized y.cls ∈ wsL_law) (hd : y.cls ≠ "java/lang/invoke/MethodHandle" ∧ y.cls ≠ "java/lang/invoke/VarHandle" ∧ (parseMethodDescriptor y.desc).map (fun d => d.parameters.length) = some As.length) (hR : fr + 1 ≤ R.frames ∧ 8 + (mL + 11) + lo ≤ R.locals) (hsz : ls.size = nL) (hst : st0 = As.reverse ++ rest) (hrm : (rest.map fun v => v.category).sum ≤ 8) (hcs : cells ≤ R.cells ∧ slots ≤ R.slots) (hdg : decode cc pc = .ok (.invokestatic index, 3))
    (kk : W p l e R s m args below meth c H locs cells slots Q (F0 m (pc + 3) ls (o.toList ++ rest))) : W p l e R s m args below meth c H locs cells slots Q (F0 m pc ls st0) := by
  have hts := C0.2.2.2.2.1
  refine xgo_s (As := As) (va_runSN (n := As.length) (Ts := wsL_law) (own := own) (host := RX8) ⟨C0.1, C0.2.1, C0.2.2.1, C0.2.2.2.1, hts⟩ hM ⟨⟨⟨rfl, rfl, hR.1, hR.2, xws_ok hts hc, List.mem_cons_self⟩, hts _ hc, hts _ hi, ⟨hd.1, hd.2.1⟩, fun sig h => ?_, va_Nw.use rfl (KN.2.1 _ hl)⟩, hts _ hs, trivial⟩ xpre_s rfl rfl hsz hst (lv_room hrm) hdg hcs) kk
  have h2 := hd.2.2
  rw [h] at h2
  exact (Option.some.inj h2).symm
theorem xblind {G : xG} {av : List Value} {ws : va_W} {sz : Nat} : FrameBlind (xPc G av ws sz) := fun a U g mk q => by
  obtain ⟨q0, q1, qP, qK, qD⟩ := q
  exact ⟨q0, q1, qP, qK.calling, qD⟩
/-- behind a call over a part of the world -/
theorem xgo_w {wc wc' wr : va_W} (X : xS G A H0 ws H locs) (hA : ∀ q, H0.size ≤ q → A q) (isC isR isJ : List Nat) (hC : isC.map (fun i => ws[i]?) = wc.map some) (hR : isR.map (fun i => ws[i]?) = wr.map some) (hn : va_nd isR = true) (hdis : ∀ i ∈ isR, i ∉ isC) (hJ : isJ.map (fun i => (wr ++ wc')[i]?) = ws'.map some) (hnJ : va_nd isJ = true) {av : Array Value}
    (hr : va_Run p l e R s m args below meth c H locs cells slots 0 0 (F0 m pc ls st0) rest (xQo G o (va_A wc H.size) wc' av) (va_A wc H.size)) (kk : ∀ (H1 : Heap) (locs1 : List Loc), xS G A H0 ws' H1 locs1 → W p l e R s m args below meth c H1 locs1 cells slots Q (F0 m (pc + 3) ls (o.toList ++ rest))) : W p l e R s m args below meth c H locs cells slots Q (F0 m pc ls st0) := by
  intro T hT Xt
  obtain ⟨v, st₀, t, T', L, h0, X', hL, e1, e2, ⟨hv, ⟨hP1, hD1⟩, hz, hk⟩, st⟩ := hr T hT Xt
  cases hv
  rw [h0] at hz hk
  have hF := va_free X.2.1 X.2.2 hA isC hC
  have hS := X.2.2
  rw [← e1] at hP1
  obtain ⟨hPj, hDj⟩ := va_join (wr := wr) (w1 := wc') X.1 X.2.1 isC isR hC hR hn hdis (H1 := T'.heap) (fun q h1 h2 => by rw [e1]; exact hk q h1 h2) hF hP1 hD1
  have hPs : va_P G.1 vwCl ws' T'.heap := by
    intro k q hq
    have h1 : (isJ.map (fun i => (wr ++ wc')[i]?))[k]? = some (some q) := by rw [hJ, List.getElem?_map, hq]; rfl
    rw [List.getElem?_map] at h1
    cases hi : isJ[k]? with
    | none => rw [hi] at h1; cases h1
    | some i => rw [hi] at h1; exact hPj i q (Option.some.inj h1)
  obtain ⟨t2, a1, b1⟩ := kk T'.heap (locs ++ L) ⟨hPs, hDj.sub isJ hnJ hJ, ⟨Nat.le_trans hS.1 (by rw [e1]; exact hz), fun q h1 h2 => by rw [e1, hk q (Nat.lt_of_lt_of_le h1 hS.1) (fun z => h2 (hF q z))]; exact hS.2.1 q h1 h2, fun q hq => by
      rcases List.mem_append.mp hq with h | h
      · exact hS.2.2 q h
      · exact hF _ (hL q h)⟩⟩ T' rfl X'
  exact ⟨t2, st t2 a1, b1⟩
/-- an instance method, over a part of the world -/
theorem x_cv {wc wc' wr : va_W} {b qr : Nat} {Cr : vw_C} (C0 : xC p s m meth c cc nL ret own args) (KN : xKN G s) (X : xS G A H0 ws H locs) (hA : ∀ q, H0.size ≤ q → A q) (isC isR isJ : List Nat) (hC : isC.map (fun i => ws[i]?) = wc.map some) (hnC : va_nd isC = true) (hRr : isR.map (fun i => ws[i]?) = wr.map some) (hn : va_nd isR = true) (hdis : ∀ i ∈ isR, i ∉ isC) (hJ : isJ.map (fun i => (wr ++ wc')[i]?) = ws'.map some) (hnJ : va_nd isJ = true)
    (hM : xM l y bytes mL rt fr lo G (.ref b :: As) wc wc' o) (hrc : vwCl[ci]? = some Cr) (hre : ws[qr]? = some (b, .inr (ci, fs))) (hcl : y.cls = Cr.1) (hc : Cond.code y bytes mL rt ∈ wsL_law) (hl : Cond.methodLink own index y ∈ wsL_law) (hin : Cond.instanceMethod y ∈ wsL_law) (hse : Cond.selects y.cls y y ∈ wsL_law) (hi : Cond.initialized y.cls ∈ wsL_law) (hd : y.cls ≠ "java/lang/invoke/MethodHandle" ∧ y.cls ≠ "java/lang/invoke/VarHandle" ∧ (parseMethodDescriptor y.desc).map (fun d => d.parameters.length) = some As.length) (hR : fr + 1 ≤ R.frames ∧ 8 + (mL + 11) + lo ≤ R.locals) (hsz : ls.size = nL) (hst : st0 = As.reverse ++ .ref b :: rest) (hrm : (rest.map fun v => v.category).sum ≤ 8) (hcs : cells ≤ R.cells ∧ slots ≤ R.slots) (hdg : decode cc pc = .ok (.invokevirtual index, 3))
    (kk : ∀ (H1 : Heap) (locs1 : List Loc), xS G A H0 ws' H1 locs1 → W p l e R s m args below meth c H1 locs1 cells slots Q (F0 m (pc + 3) ls (o.toList ++ rest))) : W p l e R s m args below meth c H locs cells slots Q (F0 m pc ls st0) := by
  have hts := C0.2.2.2.2.1
  have hPc : va_P G.1 vwCl wc H := by
    intro k q hq
    have h1 : (isC.map (fun i => ws[i]?))[k]? = some (some q) := by rw [hC, List.getElem?_map, hq]; rfl
    rw [List.getElem?_map] at h1
    cases hi : isC[k]? with
    | none => rw [hi] at h1; cases h1
    | some i => rw [hi] at h1; exact X.1 i q (Option.some.inj h1)
  have hDc : va_D (fun _ => True) wc := (X.2.1.sub isC hnC hC).weaken (fun _ _ _ _ => trivial)
  have hlen : ∀ sig, parseMethodDescriptor y.desc = some sig → As.length = sig.parameters.length := fun sig h => by
    have h2 := hd.2.2
    rw [h] at h2
    exact (Option.some.inj h2).symm
  have hrv : ∃ cell : Cell, H[b]? = some cell ∧ cell.vm.isStatics = false ∧ s.vm.findClass y.cls = some cell.cls := by
    rw [hcl]
    exact va_recv KN.1 X.1 hrc hre
  exact xgo_w X hA isC isR isJ hC hRr hn hdis hJ hnJ (va_runV (n := As.length) (Ts := wsL_law) (own := own) (C := y.cls) (As := As) (rest := rest) ⟨C0.1, C0.2.1, C0.2.2.1, C0.2.2.2.1, hts⟩ (hM H.size) ⟨⟨rfl, rfl, hR.1, hR.2, xws_ok hts hc, List.mem_cons_self, hts _ hc, hts _ hi, ⟨hd.1, hd.2.1⟩, hlen, hts _ hl⟩, hts _ hin, hts _ hse⟩ ⟨xblind, hrv, fun U hU hW => ⟨rfl, by rw [hU], by rw [hU]; exact hPc, KN.moved hW, hDc⟩⟩ rfl rfl hsz hst (lv_room hrm) hdg hcs) kk
end XR
