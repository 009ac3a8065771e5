/-! methods that may throw: contract mX, walks that end in mXQ -/
def xN : List String := ["java/lang/RuntimeException", "java/lang/Exception"]
def xB : List Cond := [.castable "java/lang/IllegalArgumentException" "java/lang/IllegalArgumentException", .castable "java/lang/IndexOutOfBoundsException" "java/lang/IndexOutOfBoundsException", .castable "java/lang/UnsupportedOperationException" "java/lang/UnsupportedOperationException", .castable "java/util/NoSuchElementException" "java/util/NoSuchElementException", .declares (Bundle.initS "java/lang/RuntimeException"), .declares (Bundle.initS "java/lang/Exception"), .declares (Bundle.initS Bundle.tN)]
theorem xB_1 : ∀ w ∈ (vx_atS RX3 52 "java/lang/IllegalArgumentException" xN).filter (fun w => !goodWord w), w ∈ xB := by decide +kernel
theorem xB_2 : ∀ w ∈ (vx_atS RX3 121 "java/lang/IndexOutOfBoundsException" xN).filter (fun w => !goodWord w), w ∈ xB := by decide +kernel
theorem xB_3 : ∀ w ∈ (vx_atS RX3 73 "java/lang/UnsupportedOperationException" xN).filter (fun w => !goodWord w), w ∈ xB := by decide +kernel
theorem xB_4 : ∀ w ∈ (vx_atS RX3 138 "java/util/NoSuchElementException" xN).filter (fun w => !goodWord w), w ∈ xB := by decide +kernel
def xStr : List (Nat × String) := [(50, "bits must be 1 .. 8"), (55, "least must be 1 .. 32"), (57, "most must be least .. 64"), (67, "many must be 1 .. 4"), (71, "more than 1500 bytes at hand"), (85, "the file has no such bytes"), (87, "more than 1500 bytes in a file"), (119, "no such byte"), (130, "no such part"), (145, "what must be 0 .. 2"), (154, "no such file"), (160, "more than 400 parts")]
/-- what a throw needs beside the words: Throwable's two statics, the texts, each class's cast to itself -/
def xK (A : Nat → Prop) (sA : Nat → Nat) (U : State) (H : Heap) : Prop := vx_Zq Bundle.tN "UNASSIGNED_STACK" Bundle.steD A U H ∧ vx_Zq Bundle.tN "SUPPRESSED_SENTINEL" Bundle.listD A U H ∧ (∀ q ∈ xStr, vk_R "CutYard" q.1 q.2 (sA q.1) U) ∧ ∀ w ∈ xB, va_Nw w U
theorem xK.to {A B : Nat → Prop} {sA : Nat → Nat} {s U : State} {locs : List Loc} {H1 : Heap} (h : xK A sA s s.heap) (hW : s.WarmedH U.vm) (hS : va_S A s.heap H1 locs) (hU : U.heap = H1) (hAB : ∀ q, B q → A q) : xK B sA U U.heap := by
  rw [hU]
  refine ⟨((h.1.kept hS.2.1).moved hW.alike).narrow hAB, ((h.2.1.kept hS.2.1).moved hW.alike).narrow hAB, fun q hq => (h.2.2.1 q hq).warm hW, fun w hw => ?_⟩
  have h1 := h.2.2.2 w hw
  simp only [xB, List.mem_cons, List.not_mem_nil, or_false] at hw
  rcases hw with rfl | rfl | rfl | rfl | rfl | rfl | rfl <;> first | exact va_Nw.warmC hW h1 | exact va_Nw.warmD hW h1
theorem xK.call {A : Nat → Prop} {sA : Nat → Nat} {U : State} {g : JFrame} {mk : MethodId} {a : Array Value} (h : xK A sA U U.heap) : xK A sA (U.calling g mk a) (U.calling g mk a).heap :=
  h.to (U := U.calling g mk a) (State.WarmedH.refl U) (va_S.rf (H0 := U.heap)) rfl (fun _ q => q)
def mXQ (D : va_G) (Φ : Option Value → va_W → Prop) (Ψ : String → va_W → Prop) (A : Nat → Prop) (below : List Frame) (args : Array Value) (s : State) (mc ms : Nat) : State → Prop :=
  vx_MQ below (fun _ st oc t => (∃ (r : Option Value) (w' : va_W), oc = .returned r ∧ Φ r w' ∧ va_P D vwCl w' t.heap ∧ va_D A w') ∧ va_F A st t) (fun E st t => (∃ w' : va_W, Ψ E w' ∧ va_P D vwCl w' t.heap ∧ va_D A w') ∧ va_F A st t) args s mc ms A
def mX (l : Launch) (D : va_G) (cy : Nat → ClassId) (sA : Nat → Nat) (y : MethodName) (ws : List Cond) (d mc ms : Nat) (av : List Value) (w : va_W) (Φ : Option Value → va_W → Prop) (Ψ : String → va_W → Prop) : Prop :=
  ∀ sz : Nat, vx_Met l y ws { frames := d, cells := mc, slots := ms, locals := 40 * d } (va_Pc av (fun U => U.heap.size = sz ∧ va_P D vwCl w U.heap ∧ va_K D vwCl (mTy cy) U ∧ va_D (fun _ => True) w ∧ nK U ∧ xK (va_A w sz) sA U U.heap)) (fun _ st oc t => (∃ (r : Option Value) (w' : va_W), oc = .returned r ∧ Φ r w' ∧ va_P D vwCl w' t.heap ∧ va_D (va_A w sz) w') ∧ va_F (va_A w sz) st t) (fun E st t => (∃ w' : va_W, Ψ E w' ∧ va_P D vwCl w' t.heap ∧ va_D (va_A w sz) w') ∧ va_F (va_A w sz) st t) mc ms (va_A w sz)
section MX
variable {p : Program} {l : Launch} {e : Env} {R : Room} {s : State} {m : MethodId} {args : Array Value} {below : List Frame} {meth : Method} {c : Code} {D : va_G} {cy : Nat → ClassId} {sA : Nat → Nat} {A : Nat → Prop} {cc : ByteArray} {nL kc ks : Nat} {own : String} {Ts : List Cond} {ret0 : Option FieldType} {w w' : va_W} {pc : Nat} {lv lv' : List (Nat × Value)} {rest : List Value} {Φ : Option Value → va_W → Prop} {Ψ : String → va_W → Prop} {mc ms : Nat}
theorem mX.of {y : MethodName} {ws ws' : List Cond} {d mc ms : Nat} {av : List Value} (hy : plainName y.cls = true) (hw : ws = Cond.code y cc nL ret0 :: ws') (hlen : (lg_sl av).length ≤ nL)
    (body : ∀ (p : Program) (e : Env) (s : State) (m : MethodId) (args : Array Value) (below : List Frame) (meth : Method) (c : Code) (A : Nat → Prop), mC p s m args meth c D cy A cc nL y.cls ws ret0 → (∀ x ∈ c.exceptionTable.toList, False) → xK A sA s s.heap → mW p l e { frames := d, cells := mc, slots := ms, locals := 40 * d } s m args below meth c D A nL 0 0 (mXQ D Φ Ψ A below args s mc ms) w 0 (lv_args 0 av) []) : mX l D cy sA y ws d mc ms av w Φ Ψ := by
  intro sz
  refine vx_ofW (cc := cc) (maxL := nL) (ret := ret0) hy hw ?_
  intro p e s m args below meth c s₁ B hml hT hv
  obtain ⟨rfl, hsz, hP, hK, hD0, hNk, hXk⟩ := hv
  subst hsz
  have hl := lv_entry av (n := nL) hlen
  rw [lg_entry_eq]
  have hC : mC p s m av.toArray meth c D cy (va_A w s.heap.size) cc nL y.cls ws ret0 := ⟨B.exec, B.bytes, hml, findClass_of_methodNamed B.named, atoms_spec (ws := ws) B.pre, hK, fun q h => Or.inr h, B.returns, B.notSynchronized, hNk⟩
  exact body p e s m av.toArray below meth c (va_A w s.heap.size) hC hT hXk s.heap [] _ hP hD0.self va_S.rf hl
theorem m_xr {st : List Value} (k : mW p l e R s m args below meth c D A nL kc ks (mQ D Φ A below args s mc ms) w pc lv st) : mW p l e R s m args below meth c D A nL kc ks (mXQ D Φ Ψ A below args s mc ms) w pc lv st := fun H locs ls a1 a2 a3 a4 => vx_ret (k H locs ls a1 a2 a3 a4)
theorem m_throw (C : mC p s m args meth c D cy A cc nL "CutYard" Ts ret0) (hl : l.stackTraces = false) (hT : ∀ x ∈ c.exceptionTable.toList, False) (hX : xK A sA s s.heap) {cls text : String} {ik is ic : Nat} (hcls : Bundle.fit cls = true) (hk : Cond.classLink "CutYard" ik cls ∈ Ts) (hini : Cond.initialized cls ∈ Ts) (hstr : (is, text) ∈ xStr) (hat : ∀ w ∈ (vx_atS "CutYard" ic cls xN).filter goodWord, w ∈ Ts) (hat2 : ∀ w ∈ (vx_atS "CutYard" ic cls xN).filter (fun w => !goodWord w), w ∈ xB)
    (hgood : ∀ w ∈ Cond.classLink "CutYard" ik cls :: Cond.initialized cls :: vx_atS "CutYard" ic cls xN, vx_ot w = true)
    (d0 : decode cc pc = .ok (.new ik, 3)) (d3 : decode cc (pc + 3) = .ok (.dup, 1)) (d4 : decode cc (pc + 4) = .ok (.ldc is, 2)) (d6 : decode cc (pc + 6) = .ok (.invokespecial ic, 3)) (d9 : decode cc (pc + 9) = .ok (.athrow, 1))
    (hRf : 6 ≤ R.frames) (hRl : (rest.map fun v => v.category).sum + 82 ≤ R.locals) (hRc : kc + 1 ≤ R.cells) (hRs : ks + 6 ≤ R.slots) (hc : kc + 1 ≤ mc) (hs : ks + 6 ≤ ms) (hΨ : Ψ cls w) : mW p l e R s m args below meth c D A nL kc ks (mXQ D Φ Ψ A below args s mc ms) w pc lv rest := by
  intro H locs ls a1 a2 a3 a4
  refine vx_throwS (names := xN) C.1 C.2.1 hl C.2.2.2.1 hcls (by decide) (C.2.2.2.2.1 _ hk) (C.2.2.2.2.1 _ hini) (hX.2.2.1 _ hstr) ?_ hgood hX.1 hX.2.1 a3 (by rw [a4.1]; exact C.2.2.1.symm) d0 d3 d4 d6 d9 (fun x hx => (hT x hx).elim) (by show 2 + 3 < _; omega) (by show _ + (13 * 3 + 43) ≤ _; omega) hRc hRs C.2.2.2.2.2.2.2.2.1 ?_ a3.2.2 hc hs
  · exact vx_hat (fun w hw => C.2.2.2.2.1 w (hat w hw)) hat2 (fun w hw => by
      have h1 := hX.2.2.2 w hw
      simp only [xB, List.mem_cons, List.not_mem_nil, or_false] at hw
      rcases hw with rfl | rfl | rfl | rfl | rfl | rfl | rfl <;> exact va_any rfl h1)
  · intro t hvm hz hk2
    refine ⟨⟨w, hΨ, a1.kept (fun k q h => hk2 q.1 (va_at.lt (a1 k q h))), a2⟩, Nat.le_trans a3.1 hz, fun q h1 h2 => ?_⟩
    rw [hk2 q (Nat.lt_of_lt_of_le h1 a3.1)]
    exact a3.2.1 q h1 h2
theorem m_blindX {av : List Value} {sz : Nat} : FrameBlind (va_Pc av (fun U => U.heap.size = sz ∧ va_P D vwCl w U.heap ∧ va_K D vwCl (mTy cy) U ∧ va_D (fun _ => True) w ∧ nK U ∧ xK (va_A w sz) sA U U.heap)) := by
  intro a U g mk q
  obtain ⟨q0, q1, qP, qK, qD, qN, qX⟩ := q
  exact ⟨q0, q1, qP, va_K.moved (u := U) (U := U.calling g mk a) (Vm.Alike.refl U.vm) qK, qD, nK.warm (s := U) (U := U.calling g mk a) (State.WarmedH.refl U) qN, qX.call⟩
theorem m_frA {H : Heap} {locs : List Loc} (C : mC p s m args meth c D cy A cc nL own Ts ret0) (a2 : va_D A w) (a3 : va_S A s.heap H locs) : ∀ q, va_A w H.size q → A q := fun q hq => by
  rcases hq with ⟨k, e9, hk⟩ | hq
  · exact a2.2 k _ hk
  · exact C.2.2.2.2.2.2.1 q (Nat.le_trans a3.1 hq)
/-- a call of a method that may throw, in a method that doesn't catch -/
theorem m_callVX (C : mC p s m args meth c D cy A cc nL own Ts ret0) (hT : ∀ x ∈ c.exceptionTable.toList, False) (hX : xK A sA s s.heap) {y : MethodName} {ws' : List Cond} {d' mc' ms' n index maxL : Nat} {bytes : ByteArray} {ret : Option FieldType} {b : Nat} {As : List Value} {Φ' : Option Value → va_W → Prop} {Ψ' : String → va_W → Prop} (hM : mX l D cy sA y ws' d' mc' ms' (.ref b :: As) w Φ' Ψ') {Cn : String} {T : u_T} {N ci : Nat} {fs : List Value} (cw : CallW R s args own Cn index y bytes maxL ret ws' { frames := d', cells := mc', slots := ms', locals := 40 * d' } mc' ms' n) (q0 : Nat) (he : w[q0]? = some (b, .inr (ci, fs))) (hc : vwCl[ci]? = some (Cn, T, N)) (hn : As.length = n) {st0 : List Value} (hst : st0 = As.reverse ++ .ref b :: rest) (hrm : (rest.map fun v => v.category).sum ≤ 8) (hdg : decode cc pc = .ok (.invokevirtual index, 3)) (hf : kc + mc' ≤ R.cells ∧ ks + ms' ≤ R.slots) (hmc : kc + mc' ≤ mc ∧ ks + ms' ≤ ms)
    (hΨ : ∀ (E : String) (w' : va_W), Ψ' E w' → Ψ E w')
    (kk : ∀ (r : Option Value) (w' : va_W), Φ' r w' → mW p l e R s m args below meth c D A nL (kc + mc') (ks + ms') (mXQ D Φ Ψ A below args s mc ms) w' (pc + 3) lv (r.toList ++ rest)) : mW p l e R s m args below meth c D A nL kc ks (mXQ D Φ Ψ A below args s mc ms) w pc lv st0 := by
  intro H locs ls a1 a2 a3 a4
  have hK := C.2.2.2.2.2.1
  have hfr := m_frA C a2 a3
  have hr := vx_runV (e := e) (below := below) (meth := meth) (locs := locs) (cells := kc) (slots := ks) (rest := rest) (g := F0 m pc ls st0) ⟨C.1, C.2.1, C.2.2.1, C.2.2.2.1, C.2.2.2.2.1⟩ (hM H.size) cw ⟨m_blindX, va_recv hK a1 hc he, fun U hU hW => ⟨rfl, by rw [hU], by rw [hU]; exact a1, va_K.moved hW.alike hK, a2.weaken (fun _ _ _ _ => trivial), nK.warm hW C.2.2.2.2.2.2.2.2.2, hX.to hW a3 hU hfr⟩⟩ rfl hn a4.1 hst (lv_room (m := m) (pc := pc) (ls := ls) (rest := st0) hrm) hdg hf
  intro T hT0 X
  rcases hr T hT0 X with ⟨v, st₀, t, T', L, h0, X', hL, e1, e2, ⟨⟨r, w', hv, hp, hb, hd⟩, hz, hk⟩, st⟩ | ⟨q, st₀, t, T', L, E, ce, h0, X', hL, e1, e2, ⟨⟨w', hp, hb, hd⟩, hz, hk⟩, hce, hcv, hcl, st⟩
  · cases hv
    rw [h0] at hz hk
    obtain ⟨t2, b1, b2⟩ := kk v w' hp T'.heap (locs ++ L) ls (by rw [e1]; exact hb) ⟨hd.1, fun k q h9 => hfr _ (hd.2 k q h9)⟩
      ⟨Nat.le_trans a3.1 (by rw [e1]; exact hz), fun q h1 h2 => by rw [e1, hk q (Nat.lt_of_lt_of_le h1 a3.1) (fun z => h2 (hfr q z))]; exact a3.2.1 q h1 h2, fun q hq => by
        rcases List.mem_append.mp hq with h | h
        · exact a3.2.2 q h
        · exact hfr _ (hL q h)⟩ a4 T' rfl X'
    exact ⟨t2, st t2 b1, b2⟩
  · rw [h0] at hz hk
    have hS' : va_S A s.heap T'.heap (locs ++ L) := ⟨Nat.le_trans a3.1 (by rw [e1]; exact hz), fun q h1 h2 => by rw [e1, hk q (Nat.lt_of_lt_of_le h1 a3.1) (fun z => h2 (hfr q z))]; exact a3.2.1 q h1 h2, fun q hq => by
        rcases List.mem_append.mp hq with h | h
        · exact a3.2.2 q h
        · exact hfr _ (hL q h)⟩
    have hout := vx_out (p := p) (l := l) (e := e) (R := R) (s := s) (m := m) (args := args) (below := below) (meth := meth) (c := c) (H := T'.heap) (locs := locs ++ L) (cells := kc + mc') (slots := ks + ms') (free := A) (ls := ls) (rest := rest) (Qc := fun _ st oc t => (∃ (r : Option Value) (w' : va_W), oc = .returned r ∧ Φ r w' ∧ va_P D vwCl w' t.heap ∧ va_D A w') ∧ va_F A st t) (XC := fun E st t => (∃ w' : va_W, Ψ E w' ∧ va_P D vwCl w' t.heap ∧ va_D A w') ∧ va_F A st t) (pc := pc) (E := E) (ce := ce) (q := q) (mc := mc) (ms := ms) (fun x hx => (hT x hx).elim) C.2.2.2.2.2.2.2.2.1 (by rw [e1]; exact hce) hcv hcl (fun t9 ht9 _ => ⟨⟨w', hΨ E w' hp, by rw [ht9, e1]; exact hb, ⟨hd.1, fun k q h9 => hfr _ (hd.2 k q h9)⟩⟩, hS'.F ht9⟩) hS'.2.2 hmc.1 hmc.2
    obtain ⟨t2, b1, b2⟩ := hout T' rfl X'
    exact ⟨t2, st.trans b1, b2⟩
end MX
