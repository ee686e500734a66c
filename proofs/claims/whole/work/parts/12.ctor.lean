/-! ===== constructors: forms and rows ===== -/
def xQc (G : xG) (h0 : Nat) (A : Nat → Prop) (wd : (Nat → Nat) → va_W) : Array Value → State → Outcome → State → Prop := fun _ st oc t => oc = .returned none ∧ (∃ a : Nat → Nat, a 0 = h0 ∧ va_P G.1 vwCl (wd a) t.heap ∧ va_D A (wd a)) ∧ va_F A st t
def xMc (l : Launch) (y : MethodName) (bytes : ByteArray) (n : Nat) (fr lo mc ms : Nat) (G : xG) (h0 ci : Nat) (fs : List Value) (wd : (Nat → Nat) → va_W) : Prop :=
  ∀ sz : Nat, Met l y (xWs y bytes n none) { frames := fr, cells := mc, slots := ms, locals := lo } (xPc G [.ref h0] [(h0, .inr (ci, fs))] sz) (xQc G h0 (va_A [(h0, .inr (ci, fs))] sz) wd) mc ms (va_A [(h0, .inr (ci, fs))] sz)
theorem xMci {l : Launch} {y : MethodName} {cc : ByteArray} {n : Nat} {fr lo mc ms : Nat} {G : xG} {h0 ci : Nat} {fs : List Value} {wd : (Nat → Nat) → va_W} (hy : plainName y.cls = true) (hyn : y.name = "<init>") (hlen : 1 ≤ n)
    (body : ∀ (p : Program) (e : Env) (s : State) (m : MethodId) (below : List Frame) (meth : Method) (c : Code) (A : Nat → Prop), meth.name = "<init>" → xC p s m meth c cc n none y.cls #[Value.ref h0] → xKN G s → (∀ q, s.heap.size ≤ q → A q) → xS G A s.heap [(h0, .inr (ci, fs))] s.heap [] → ∀ ls : Array Slot, lv_has ls n [(0, .ref h0)] → W p l e { frames := fr, cells := mc, slots := ms, locals := lo } s m #[Value.ref h0] below meth c s.heap [] 0 0 (MQ below (xQc G h0 A wd) #[Value.ref h0] s mc ms A) (F0 m 0 ls [])) : xMc l y cc n fr lo mc ms G h0 ci fs wd := by
  intro sz
  refine Met.ofW (cc := cc) (maxL := n) (ret := none) hy rfl ?_
  intro p e s m args below meth c s₁ B hml hv
  obtain ⟨rfl, hsz, hP, hK, hD0⟩ := hv
  subst hsz
  have hts := atoms_spec (ws := xWs y cc n none) B.pre
  have hl := lv_entry [.ref h0] (n := n) (show (lg_sl [Value.ref h0]).length ≤ n from hlen)
  have hin : meth.name = "<init>" := (name_of_methodNamed B.named B.method).1.trans hyn
  rw [lg_entry_eq]
  exact body p e s m below meth c (va_A [(h0, .inr (ci, fs))] s.heap.size) hin ⟨B.exec, B.bytes, hml, findClass_of_methodNamed B.named, fun w hw => hts w (List.mem_cons_of_mem _ hw), B.returns, B.notSynchronized⟩ hK (fun q h => Or.inr h) ⟨hP, hD0.self, va_S.rf⟩ _ hl
section XC
variable {p : Program} {l : Launch} {e : Env} {R : Room} {s : State} {m : MethodId} {args : Array Value} {below : List Frame} {meth : Method} {c : Code} {H H0 : Heap} {locs : List Loc} {cells slots : Nat} {Q : State → Prop} {cc : ByteArray} {nL pc index : Nat} {ret : Option FieldType} {own : String} {G : xG} {A : Nat → Prop} {ws ws' : va_W} {ls : Array Slot} {rest : List Value} {a ci : Nat} {fs : List Value} {C : String} {T : u_T} {N : Nat} {v : Value}
theorem x_newI (C0 : xC p s m meth c cc nL ret own args) (KN : xKN G s) (X : xS G A H0 ws H locs) (hA : ∀ q, H0.size ≤ q → A q) (hw : Cond.arrayClass .int ∈ wsL_law) {n : Int32} {N : Nat} (hn : ¬ n < 0) (hN : n.toNatClampNeg = N) (hby : N * 4 ≤ 536870912) (hc : cells + 1 ≤ R.cells) (hs : slots + N ≤ R.slots) (hdg : decode cc pc = .ok (.newarray .int, 2))
    (kk : ∀ (q : Nat) (H1 : Heap), xS G A H0 (ws ++ [(q, .inl (G.2.1, N, .inl (fun _ => 0)))]) H1 locs → W p l e R s m args below meth c H1 locs (cells + 1) (slots + N) Q (F0 m (pc + 2) ls (.ref q :: rest))) : W p l e R s m args below meth c H locs cells slots Q (F0 m pc ls (.int n :: rest)) := by
  refine va_newa (atype := .int) (ty := .int) (a0 := (N, .inl (fun _ => 0))) C0.1 C0.2.1 (C0.2.2.2.2.1 _ hw) rfl KN.1 X.1 X.2.1 X.2.2 hA (fun cA => rfl) hn hN hby hc hs hdg (fun q cA H1 hK hP hD hS => ?_)
  have e1 : s.vm.findClass ("[" ++ FieldType.int.toString) = some cA := (hK.2 3 (cA, .int) rfl).2
  have e2 : s.vm.findClass ("[" ++ FieldType.int.toString) = some G.2.1 := (KN.1.2 0 (G.2.1, .int) rfl).2
  have e3 : cA = G.2.1 := Option.some.inj (e1.symm.trans e2)
  subst e3
  exact kk q H1 ⟨hP, hD, hS⟩
theorem x_newZ (C0 : xC p s m meth c cc nL ret own args) (KN : xKN G s) (X : xS G A H0 ws H locs) (hA : ∀ q, H0.size ≤ q → A q) (hw : Cond.arrayClass .boolean ∈ wsL_law) {n : Int32} {N : Nat} (hn : ¬ n < 0) (hN : n.toNatClampNeg = N) (hby : N * 1 ≤ 536870912) (hc : cells + 1 ≤ R.cells) (hs : slots + N ≤ R.slots) (hdg : decode cc pc = .ok (.newarray .boolean, 2))
    (kk : ∀ (q : Nat) (H1 : Heap), xS G A H0 (ws ++ [(q, .inl (G.2.2.1, N, .inl (fun _ => 0)))]) H1 locs → W p l e R s m args below meth c H1 locs (cells + 1) (slots + N) Q (F0 m (pc + 2) ls (.ref q :: rest))) : W p l e R s m args below meth c H locs cells slots Q (F0 m pc ls (.int n :: rest)) := by
  refine va_newa (atype := .boolean) (ty := .boolean) (a0 := (N, .inl (fun _ => 0))) C0.1 C0.2.1 (C0.2.2.2.2.1 _ hw) rfl KN.1 X.1 X.2.1 X.2.2 hA (fun cA => rfl) hn hN hby hc hs hdg (fun q cA H1 hK hP hD hS => ?_)
  have e1 : s.vm.findClass ("[" ++ FieldType.boolean.toString) = some cA := (hK.2 3 (cA, .boolean) rfl).2
  have e2 : s.vm.findClass ("[" ++ FieldType.boolean.toString) = some G.2.2.1 := (KN.1.2 1 (G.2.2.1, .boolean) rfl).2
  have e3 : cA = G.2.2.1 := Option.some.inj (e1.symm.trans e2)
  subst e3
  exact kk q H1 ⟨hP, hD, hS⟩
theorem x_newQ (C0 : xC p s m meth c cc nL ret own args) (KN : xKN G s) (X : xS G A H0 ws H locs) (hA : ∀ q, H0.size ≤ q → A q) (hw : Cond.classLink own index "TreeOdds$State" ∈ wsL_law) {n : Int32} {N : Nat} (hn : ¬ n < 0) (hN : n.toNatClampNeg = N) (hby : N * 4 ≤ 536870912) (hc : cells + 1 ≤ R.cells) (hs : slots + N ≤ R.slots) (hdg : decode cc pc = .ok (.anewarray index, 3))
    (kk : ∀ (q : Nat) (H1 : Heap), xS G A H0 (ws ++ [(q, .inl (G.2.2.2, N, .inr (.inr (.inr (.inr (fun _ => none))))))]) H1 locs → W p l e R s m args below meth c H1 locs (cells + 1) (slots + N) Q (F0 m (pc + 3) ls (.ref q :: rest))) : W p l e R s m args below meth c H locs cells slots Q (F0 m pc ls (.int n :: rest)) := by
  refine va_newq C0.1 C0.2.1 C0.2.2.2.1 (C0.2.2.2.2.1 _ hw) KN.2.2 KN.1 X.1 X.2.1 X.2.2 hA hn hN hby hc hs hdg (fun q cA H1 hK hP hD hS => ?_)
  obtain ⟨_, _, _, _, _, e1⟩ := (hK.2 3 (cA, .object "TreeOdds$State") rfl).2
  obtain ⟨_, _, _, _, _, e2⟩ := (KN.1.2 2 (G.2.2.2, .object "TreeOdds$State") rfl).2
  have e3 : cA = G.2.2.2 := Option.some.inj (e1.symm.trans e2)
  subst e3
  exact kk q H1 ⟨hP, hD, hS⟩
theorem x_astq {qk n v : Nat} {vs : List Value} {f : Nat → Option Nat} (C0 : xC p s m meth c cc nL ret own args) (KN : xKN G s) (X : xS G A H0 ws H locs) (q0 : Nat) (ha : ws[q0]? = some (a, .inl (G.2.2.2, n, .inr (.inr (.inr (.inr f)))))) (hv : ws[qk]? = some (v, .inr (4, vs))) {i : Int32} (hin : ix_ i n) (hs : ws.set q0 (a, .inl (G.2.2.2, n, .inr (.inr (.inr (.inr (va_up f i.toNatClampNeg (some v))))))) = ws') (hdg : decode cc pc = .ok (.aastore, 1))
    (kk : ∀ (H1 : Heap) (locs1 : List Loc), xS G A H0 ws' H1 locs1 → W p l e R s m args below meth c H1 locs1 cells slots Q (F0 m (pc + 1) ls rest)) : W p l e R s m args below meth c H locs cells slots Q (F0 m pc ls (.ref v :: .int i :: .ref a :: rest)) := by
  subst hs
  exact va_astq (r := (RX4, TX4, 4)) C0.1 C0.2.1 KN.1 X.1 X.2.1 X.2.2 q0 2 qk 4 ha rfl hv rfl hin hdg (fun H1 locs1 h1 h2 h3 => kk H1 locs1 ⟨h1, h2, h3⟩)
theorem x_new (C0 : xC p s m meth c cc nL ret own args) (KN : xKN G s) (X : xS G A H0 ws H locs) (hA : ∀ q, H0.size ≤ q → A q) (hc : vwCl[ci]? = some (C, T, N)) (hin : ∀ w ∈ u_ws C T N, w ∈ wsL_law) {ty0 : Nat → FieldType} (hty : ∀ k, k < N → parseFieldDescriptor (T k).2.2.1 = some (ty0 k)) (hcl : Cond.classLink own index C ∈ wsL_law) (hinst : Cond.instantiable C N ∈ wsL_law) (hini : Cond.initialized C ∈ wsL_law) (hfs : ∀ j, j < N → defaultValue (ty0 j) = vp_V fs j) (hcc : cells + 1 ≤ R.cells) (hs : slots + N ≤ R.slots) (hdg : decode cc pc = .ok (.new index, 3))
    (kk : ∀ (q : Nat) (H1 : Heap), xS G A H0 (ws ++ [(q, .inr (ci, fs))]) H1 locs → W p l e R s m args below meth c H1 locs (cells + 1) (slots + N) Q (F0 m (pc + 3) ls (.ref q :: rest))) : W p l e R s m args below meth c H locs cells slots Q (F0 m pc ls rest) :=
  va_new C0.1 C0.2.1 C0.2.2.2.2.1 hin ty0 hty C0.2.2.2.1 (C0.2.2.2.2.1 _ hcl) (C0.2.2.2.2.1 _ hinst) (C0.2.2.2.2.1 _ hini) KN.1 X.1 X.2.1 X.2.2 hA hc hfs hcc hs hdg (fun q H1 h1 h2 h3 => kk q H1 ⟨h1, h2, h3⟩)
theorem x_putF (hin2 : meth.name = "<init>") (C0 : xC p s m meth c cc nL ret own args) (KN : xKN G s) (X : xS G A H0 ws H locs) (q0 : Nat) (he : ws[q0]? = some (a, .inr (ci, fs))) (hc : vwCl[ci]? = some (C, T, N)) (hin : ∀ w ∈ u_ws C T N, w ∈ wsL_law) {ty0 : Nat → FieldType} (hty : ∀ k, k < N → parseFieldDescriptor (T k).2.2.1 = some (ty0 k)) (hnm : ∀ a, a < N → ∀ b, b < N → a ≠ b → (T a).2.1 ≠ (T b).2.1) (k : Nat) (hk : k < N) (hw : Cond.fieldLink own index (T k).1 (T k).2.1 (T k).2.2.1 ∈ wsL_law) (hfin : (T k).2.2.2 = true) (hdecl : (T k).1 = own) (hn : narrow (ty0 k) v = v) (hfit : fits (ty0 k) v = true) (hl : k < fs.length) (hs : ws.set q0 (a, .inr (ci, fs.set k v)) = ws') (hdg : decode cc pc = .ok (.putfield index, 3))
    (kk : ∀ (H1 : Heap) (locs1 : List Loc), xS G A H0 ws' H1 locs1 → W p l e R s m args below meth c H1 locs1 cells slots Q (F0 m (pc + 3) ls rest)) : W p l e R s m args below meth c H locs cells slots Q (F0 m pc ls (v :: .ref a :: rest)) := by
  subst hs
  exact va_putF C0.1 C0.2.1 C0.2.2.2.2.1 hin ty0 hty hnm C0.2.2.2.1 KN.1 X.1 X.2.1 X.2.2 q0 he hc k hk (C0.2.2.2.2.1 _ hw) (fun _ h => h) hfin hin2 hdecl (hty k hk) hn hfit hl hdg (fun H1 locs1 h1 h2 h3 => kk H1 locs1 ⟨h1, h2, h3⟩)
theorem x_obj (C0 : xC p s m meth c cc nL ret own args) (hsz : ls.size = nL) (hl : Cond.methodLink own index objectInit ∈ wsL_law) (hi : Cond.instanceMethod objectInit ∈ wsL_law) (hc : Cond.code objectInit ⟨#[0xb1]⟩ 1 none ∈ wsL_law) (hdg : decode cc pc = .ok (.invokespecial index, 3)) (hf : 1 ≤ R.frames) (hlo : 12 ≤ R.locals) (kk : W p l e R s m args below meth c H locs cells slots Q (F0 m (pc + 3) ls [])) : W p l e R s m args below meth c H locs cells slots Q (F0 m pc ls [.ref a]) :=
  W.objInit C0.1 C0.2.1 C0.2.2.2.1 (C0.2.2.2.2.1 _ hl) (C0.2.2.2.2.1 _ hi) (C0.2.2.2.2.1 _ hc) rfl (by rw [C0.2.2.1]; exact hsz) rfl hdg hf (by show 2 * 0 + 0 + 12 ≤ _; omega) kk
theorem x_vretc {h0 : Nat} {wd : (Nat → Nat) → va_W} (ad : Nat → Nat) (h0e : ad 0 = h0) (C0 : xC p s m meth c cc nL none own args) (X : xS G A s.heap (wd ad) H locs) (hdg : decode cc pc = .ok (.return_, 1)) : W p l e R s m args below meth c H locs cells slots (MQ below (xQc G h0 A wd) args s cells slots A) (F0 m pc ls []) :=
  W.vret C0.1 C0.2.1 C0.2.2.2.2.2.1 (fun t ht _ => ⟨rfl, ⟨ad, h0e, by rw [ht]; exact X.1, X.2.1⟩, X.2.2.F ht⟩) X.2.2.2.2 hdg (hlocks := C0.2.2.2.2.2.2)
/-- behind a constructor: the object's cells stand behind the others -/
theorem xgo_c {wr : va_W} {wd : (Nat → Nat) → va_W} {h0 mc ms : Nat} {st0 : List Value} {o1 : va_E} (X : xS G A H0 ws H locs) (hA : ∀ q, H0.size ≤ q → A q) (isC isR : List Nat) (hC : isC.map (fun i => ws[i]?) = [(h0, o1)].map some) (hR : isR.map (fun i => ws[i]?) = wr.map some) (hn : va_nd isR = true) (hdis : ∀ i ∈ isR, i ∉ isC) {av : Array Value}
    (hr : va_Run p l e R s m args below meth c H locs cells slots mc ms (F0 m pc ls st0) rest (xQc G h0 (va_A [(h0, o1)] H.size) wd av) (va_A [(h0, o1)] H.size)) (kk : ∀ (ad : Nat → Nat) (H1 : Heap) (locs1 : List Loc), ad 0 = h0 → xS G A H0 (wr ++ wd ad) H1 locs1 → W p l e R s m args below meth c H1 locs1 (cells + mc) (slots + ms) Q (F0 m (pc + 3) ls rest)) : W p l e R s m args below meth c H locs cells slots Q (F0 m pc ls st0) := by
  intro T hT Xt
  obtain ⟨v, st₀, t, T', L, h0', X', hL, e1, e2, ⟨hv, ⟨ad, had, hP1, hD1⟩, hz, hk⟩, st⟩ := hr T hT Xt
  cases hv
  rw [h0'] at hz hk
  have hF := va_free X.2.1 X.2.2 hA isC hC
  have hS := X.2.2
  rw [← e1] at hP1
  obtain ⟨hPj, hDj⟩ := va_join (wr := wr) (w1 := wd ad) X.1 X.2.1 isC isR hC hR hn hdis (H1 := T'.heap) (fun q h1 h2 => by rw [e1]; exact hk q h1 h2) hF hP1 hD1
  obtain ⟨t2, a1, b1⟩ := kk ad T'.heap (locs ++ L) had ⟨hPj, hDj, ⟨Nat.le_trans hS.1 (by rw [e1]; exact hz), fun q h1 h2 => by rw [e1, hk q (Nat.lt_of_lt_of_le h1 hS.1) (fun z => h2 (hF q z))]; exact hS.2.1 q h1 h2, fun q hq => by
      rcases List.mem_append.mp hq with h | h
      · exact hS.2.2 q h
      · exact hF _ (hL q h)⟩⟩ T' rfl X'
  exact ⟨t2, st t2 a1, b1⟩
variable {y : MethodName} {bytes : ByteArray} {mL : Nat} {fr lo mc ms : Nat} {st0 : List Value}
theorem x_ci {wr : va_W} {wd : (Nat → Nat) → va_W} {h0 : Nat} (C0 : xC p s m meth c cc nL ret own args) (KN : xKN G s) (X : xS G A H0 ws H locs) (hA : ∀ q, H0.size ≤ q → A q) (isC isR : List Nat) (hC : isC.map (fun i => ws[i]?) = [(h0, .inr (ci, fs))].map some) (hnC : va_nd isC = true) (hRr : isR.map (fun i => ws[i]?) = wr.map some) (hn : va_nd isR = true) (hdis : ∀ i ∈ isR, i ∉ isC) (hM : xMc l y bytes mL fr lo mc ms G h0 ci fs wd) (hc : Cond.code y bytes mL none ∈ wsL_law) (hl : Cond.methodLink own index y ∈ wsL_law) (hin : Cond.instanceMethod y ∈ wsL_law) (hi : Cond.initialized y.cls ∈ wsL_law) (hyn : y.name = "<init>") (hd : y.cls ≠ "java/lang/invoke/MethodHandle" ∧ y.cls ≠ "java/lang/invoke/VarHandle" ∧ (parseMethodDescriptor y.desc).map (fun d => d.parameters.length) = some 0) (hR : fr + 1 ≤ R.frames ∧ 8 + (mL + 11) + lo ≤ R.locals) (hsz : ls.size = nL) (hst : st0 = .ref h0 :: rest) (hrm : (rest.map fun v => v.category).sum ≤ 8) (hcs : cells + mc ≤ R.cells ∧ slots + ms ≤ R.slots) (hdg : decode cc pc = .ok (.invokespecial index, 3))
    (kk : ∀ (ad : Nat → Nat) (H1 : Heap) (locs1 : List Loc), ad 0 = h0 → xS G A H0 (wr ++ wd ad) H1 locs1 → W p l e R s m args below meth c H1 locs1 (cells + mc) (slots + ms) Q (F0 m (pc + 3) ls rest)) : W p l e R s m args below meth c H locs cells slots Q (F0 m pc ls st0) := by
  have hts := C0.2.2.2.2.1
  have hPc : va_P G.1 vwCl [(h0, .inr (ci, fs))] H := by
    intro k q hq
    have h1 : (isC.map (fun i => ws[i]?))[k]? = some (some q) := by rw [hC, List.getElem?_map, hq]; rfl
    rw [List.getElem?_map] at h1
    cases hi : isC[k]? with
    | none => rw [hi] at h1; cases h1
    | some i => rw [hi] at h1; exact X.1 i q (Option.some.inj h1)
  have hDc : va_D (fun _ => True) [(h0, .inr (ci, fs))] := (X.2.1.sub isC hnC hC).weaken (fun _ _ _ _ => trivial)
  have hlen : ∀ sig, parseMethodDescriptor y.desc = some sig → 0 = sig.parameters.length := fun sig h => by
    have h2 := hd.2.2
    rw [h] at h2
    exact (Option.some.inj h2).symm
  exact xgo_c X hA isC isR hC hRr hn hdis (va_runI (n := 0) (Ts := wsL_law) (own := own) (As := []) (b := h0) (rest := rest) ⟨C0.1, C0.2.1, C0.2.2.1, C0.2.2.2.1, hts⟩ (hM H.size) ⟨⟨rfl, rfl, hR.1, hR.2, xws_ok hts hc, List.mem_cons_self, hts _ hc, hts _ hi, ⟨hd.1, hd.2.1⟩, hlen, hts _ hl⟩, hyn, hts _ hin⟩ ⟨xblind, fun U hU hW => ⟨rfl, by rw [hU], by rw [hU]; exact hPc, KN.moved hW, hDc⟩⟩ rfl rfl hsz hst (lv_room hrm) hdg hcs) kk
theorem x_ciN {wr : va_W} {wd : (Nat → Nat) → va_W} {h0 : Nat} (C0 : xC p s m meth c cc nL ret own args) (KN : xKN G s) (X : xS G A H0 ws H locs) (hA : ∀ q, H0.size ≤ q → A q) (isC isR : List Nat) (hC : isC.map (fun i => ws[i]?) = [(h0, .inr (ci, fs))].map some) (hnC : va_nd isC = true) (hRr : isR.map (fun i => ws[i]?) = wr.map some) (hn : va_nd isR = true) (hdis : ∀ i ∈ isR, i ∉ isC) (hM : xMc l y bytes mL fr lo mc ms G h0 ci fs wd) (hc : Cond.code y bytes mL none ∈ wsL_law) (hl : (own, index, y) ∈ nst_) (hin : Cond.instanceMethod y ∈ wsL_law) (hi : Cond.initialized y.cls ∈ wsL_law) (hyn : y.name = "<init>") (hd : y.cls ≠ "java/lang/invoke/MethodHandle" ∧ y.cls ≠ "java/lang/invoke/VarHandle" ∧ (parseMethodDescriptor y.desc).map (fun d => d.parameters.length) = some 0) (hR : fr + 1 ≤ R.frames ∧ 8 + (mL + 11) + lo ≤ R.locals) (hsz : ls.size = nL) (hst : st0 = .ref h0 :: rest) (hrm : (rest.map fun v => v.category).sum ≤ 8) (hcs : cells + mc ≤ R.cells ∧ slots + ms ≤ R.slots) (hdg : decode cc pc = .ok (.invokespecial index, 3))
    (kk : ∀ (ad : Nat → Nat) (H1 : Heap) (locs1 : List Loc), ad 0 = h0 → xS G A H0 (wr ++ wd ad) H1 locs1 → W p l e R s m args below meth c H1 locs1 (cells + mc) (slots + ms) Q (F0 m (pc + 3) ls rest)) : W p l e R s m args below meth c H locs cells slots Q (F0 m pc ls st0) := by
  have hts := C0.2.2.2.2.1
  have hPc : va_P G.1 vwCl [(h0, .inr (ci, fs))] H := by
    intro k q hq
    have h1 : (isC.map (fun i => ws[i]?))[k]? = some (some q) := by rw [hC, List.getElem?_map, hq]; rfl
    rw [List.getElem?_map] at h1
    cases hi : isC[k]? with
    | none => rw [hi] at h1; cases h1
    | some i => rw [hi] at h1; exact X.1 i q (Option.some.inj h1)
  have hDc : va_D (fun _ => True) [(h0, .inr (ci, fs))] := (X.2.1.sub isC hnC hC).weaken (fun _ _ _ _ => trivial)
  have hlen : ∀ sig, parseMethodDescriptor y.desc = some sig → 0 = sig.parameters.length := fun sig h => by
    have h2 := hd.2.2
    rw [h] at h2
    exact (Option.some.inj h2).symm
  exact xgo_c X hA isC isR hC hRr hn hdis (va_runIN (n := 0) (Ts := wsL_law) (own := own) (host := RX8) (As := []) (b := h0) (rest := rest) ⟨C0.1, C0.2.1, C0.2.2.1, C0.2.2.2.1, hts⟩ (hM H.size) ⟨⟨⟨rfl, rfl, hR.1, hR.2, xws_ok hts hc, List.mem_cons_self⟩, hts _ hc, hts _ hi, ⟨hd.1, hd.2.1⟩, hlen, va_Nw.use rfl (KN.2.1 _ hl)⟩, hyn, hts _ hin⟩ ⟨xblind, fun U hU hW => ⟨rfl, by rw [hU], by rw [hU]; exact hPc, KN.moved hW, hDc⟩⟩ rfl rfl hsz hst (lv_room hrm) hdg hcs) kk
end XC
theorem xS_ring {G : xG} {A : Nat → Prop} {H0 H : Heap} {locs : List Loc} {ws ws' : va_W} {a n : Nat} {cA : ClassId} {f g : Nat → Option Nat} (X : xS G A H0 ws H locs) (q0 : Nat) (ha : ws[q0]? = some (a, .inl (cA, n, .inr (.inr (.inr (.inr f)))))) (h : ∀ j, j < n → f j = g j) (hs : ws.set q0 (a, .inl (cA, n, .inr (.inr (.inr (.inr g))))) = ws') : xS G A H0 ws' H locs := by
  subst hs
  refine ⟨X.1.set X.2.1 ha ?_ (fun _ _ => rfl), X.2.1.set ha, X.2.2⟩
  have h1 : H[a]? = some (vp_cell cA (n, .inr (.inr (.inr (.inr f))))) := X.1 q0 _ ha
  show H[a]? = some (vp_cell cA (n, .inr (.inr (.inr (.inr g)))))
  rw [h1, vp_cell_q, vp_cell_q]
  have e : (Array.ofFn (n := n) fun j => va_rf (f j.val)) = (Array.ofFn (n := n) fun j => va_rf (g j.val)) := by
    congr 1
    funext j
    rw [h j.val j.isLt]
  unfold arrV
  rw [e]
theorem xnd_of {l : List Nat} (h : l.Nodup) : va_nd l = true := by
  induction l with
  | nil => rfl
  | cons a l ih =>
    rw [List.nodup_cons] at h
    simp [va_nd, h.1, ih h.2]
theorem xcat_C {wr : va_W} {x : Nat × va_E} : ([wr.length] : List Nat).map (fun i => (wr ++ [x])[i]?) = [x].map some := by simp
theorem xcat_R {wr : va_W} {x : Nat × va_E} : (List.range wr.length).map (fun i => (wr ++ [x])[i]?) = wr.map some := by
  apply List.ext_getElem?
  intro i
  by_cases h : i < wr.length
  · simp [h, List.getElem?_append_left h]
  · simp [h, Nat.not_lt.mp h]
section XC2
variable {p : Program} {l : Launch} {e : Env} {R : Room} {s : State} {m : MethodId} {args : Array Value} {below : List Frame} {meth : Method} {c : Code} {H H0 : Heap} {locs : List Loc} {cells slots : Nat} {Q : State → Prop} {cc : ByteArray} {nL pc index : Nat} {ret : Option FieldType} {own : String} {G : xG} {A : Nat → Prop} {ls : Array Slot} {rest : List Value} {ci : Nat} {fs : List Value}
variable {y : MethodName} {bytes : ByteArray} {mL : Nat} {fr lo mc ms : Nat} {st0 : List Value}
theorem x_ci2 {wr : va_W} {wd : (Nat → Nat) → va_W} {h0 : Nat} (C0 : xC p s m meth c cc nL ret own args) (KN : xKN G s) (X : xS G A H0 (wr ++ [(h0, .inr (ci, fs))]) H locs) (hA : ∀ q, H0.size ≤ q → A q) (hM : xMc l y bytes mL fr lo mc ms G h0 ci fs wd) (hc : Cond.code y bytes mL none ∈ wsL_law) (hl : Cond.methodLink own index y ∈ wsL_law) (hin : Cond.instanceMethod y ∈ wsL_law) (hi : Cond.initialized y.cls ∈ wsL_law) (hyn : y.name = "<init>") (hd : y.cls ≠ "java/lang/invoke/MethodHandle" ∧ y.cls ≠ "java/lang/invoke/VarHandle" ∧ (parseMethodDescriptor y.desc).map (fun d => d.parameters.length) = some 0) (hR : fr + 1 ≤ R.frames ∧ 8 + (mL + 11) + lo ≤ R.locals) (hsz : ls.size = nL) (hst : st0 = .ref h0 :: rest) (hrm : (rest.map fun v => v.category).sum ≤ 8) (hcs : cells + mc ≤ R.cells ∧ slots + ms ≤ R.slots) (hdg : decode cc pc = .ok (.invokespecial index, 3))
    (kk : ∀ (ad : Nat → Nat) (H1 : Heap) (locs1 : List Loc), ad 0 = h0 → xS G A H0 (wr ++ wd ad) H1 locs1 → W p l e R s m args below meth c H1 locs1 (cells + mc) (slots + ms) Q (F0 m (pc + 3) ls rest)) : W p l e R s m args below meth c H locs cells slots Q (F0 m pc ls st0) :=
  x_ci C0 KN X hA [wr.length] (List.range wr.length) xcat_C rfl xcat_R (xnd_of List.nodup_range) (fun i hi hj => by simp at hi hj; omega) hM hc hl hin hi hyn hd hR hsz hst hrm hcs hdg kk
theorem x_ci2N {wr : va_W} {wd : (Nat → Nat) → va_W} {h0 : Nat} (C0 : xC p s m meth c cc nL ret own args) (KN : xKN G s) (X : xS G A H0 (wr ++ [(h0, .inr (ci, fs))]) H locs) (hA : ∀ q, H0.size ≤ q → A q) (hM : xMc l y bytes mL fr lo mc ms G h0 ci fs wd) (hc : Cond.code y bytes mL none ∈ wsL_law) (hl : (own, index, y) ∈ nst_) (hin : Cond.instanceMethod y ∈ wsL_law) (hi : Cond.initialized y.cls ∈ wsL_law) (hyn : y.name = "<init>") (hd : y.cls ≠ "java/lang/invoke/MethodHandle" ∧ y.cls ≠ "java/lang/invoke/VarHandle" ∧ (parseMethodDescriptor y.desc).map (fun d => d.parameters.length) = some 0) (hR : fr + 1 ≤ R.frames ∧ 8 + (mL + 11) + lo ≤ R.locals) (hsz : ls.size = nL) (hst : st0 = .ref h0 :: rest) (hrm : (rest.map fun v => v.category).sum ≤ 8) (hcs : cells + mc ≤ R.cells ∧ slots + ms ≤ R.slots) (hdg : decode cc pc = .ok (.invokespecial index, 3))
    (kk : ∀ (ad : Nat → Nat) (H1 : Heap) (locs1 : List Loc), ad 0 = h0 → xS G A H0 (wr ++ wd ad) H1 locs1 → W p l e R s m args below meth c H1 locs1 (cells + mc) (slots + ms) Q (F0 m (pc + 3) ls rest)) : W p l e R s m args below meth c H locs cells slots Q (F0 m pc ls st0) :=
  x_ciN C0 KN X hA [wr.length] (List.range wr.length) xcat_C rfl xcat_R (xnd_of List.nodup_range) (fun i hi hj => by simp at hi hj; omega) hM hc hl hin hi hyn hd hR hsz hst hrm hcs hdg kk
end XC2
