/-! the law's twelve wrappers: calls that catch -/
def xC : List (String × String) := [("java/lang/UnsupportedOperationException", "java/lang/IllegalArgumentException"), ("java/lang/UnsupportedOperationException", "java/lang/IndexOutOfBoundsException"), ("java/lang/IllegalArgumentException", "java/lang/IndexOutOfBoundsException"), ("java/lang/IllegalArgumentException", "java/util/NoSuchElementException")]
def cK (U : State) : Prop := ∀ q ∈ xC, va_Nc q.1 q.2 U
theorem cK.moved {u U : State} (hvm : u.vm.Alike U.vm) (h : cK u) : cK U := fun q hq => (h q hq).moved hvm
def mL (l : Launch) (D : va_G) (cy : Nat → ClassId) (sA : Nat → Nat) (y : MethodName) (ws : List Cond) (d mc ms : Nat) (av : List Value) (w : va_W) (Φ : Option Value → va_W → Prop) : Prop :=
  ∀ sz : Nat, Met l y ws { frames := d, cells := mc, slots := ms, locals := 40 * d } (va_Pc av (fun U => U.heap.size = sz ∧ va_P D vwCl w U.heap ∧ va_K D vwCl (mTy cy) U ∧ va_D (fun _ => True) w ∧ nK U ∧ xK (va_A w sz) sA U U.heap ∧ cK U)) (fun _ st oc t => (∃ (r : Option Value) (w' : va_W), oc = .returned r ∧ Φ r w' ∧ va_P D vwCl w' t.heap ∧ va_D (va_A w sz) w') ∧ va_F (va_A w sz) st t) mc ms (va_A w sz)
section MLL
variable {p : Program} {l : Launch} {e : Env} {R : Room} {s : State} {m : MethodId} {args : Array Value} {below : List Frame} {meth : Method} {c : Code} {D : va_G} {cy : Nat → ClassId} {sA : Nat → Nat} {A : Nat → Prop} {cc : ByteArray} {nL kc ks : Nat} {own : String} {Ts : List Cond} {ret0 : Option FieldType} {Q : State → Prop} {w w' : va_W} {pc : Nat} {lv lv' : List (Nat × Value)} {rest : List Value} {Φ : Option Value → va_W → Prop}
theorem mL.of {y : MethodName} {ws ws' : List Cond} {d mc ms : Nat} {av : List Value} {hh : List (Nat × Nat × Nat × Nat)} (hy : plainName y.cls = true) (hw : ws = Cond.codeWith y cc nL ret0 hh :: ws') (hlen : (lg_sl av).length ≤ nL)
    (body : ∀ (p : Program) (e : Env) (s : State) (m : MethodId) (args : Array Value) (below : List Frame) (meth : Method) (c : Code) (A : Nat → Prop), mC p s m args meth c D cy A cc nL y.cls ws ret0 → c.exceptionTable.toList = tableOf hh → xK A sA s s.heap → cK s → mW p l e { frames := d, cells := mc, slots := ms, locals := 40 * d } s m args below meth c D A nL 0 0 (mQ D Φ A below args s mc ms) w 0 (lv_args 0 av) []) : mL l D cy sA y ws d mc ms av w Φ := by
  intro sz
  refine va_MetW (cc := cc) (maxL := nL) (ret := ret0) (hh := hh) hy hw ?_
  intro p e s m args below meth c s₁ B hml hv
  obtain ⟨rfl, hsz, hP, hK, hD0, hNk, hXk, hCk⟩ := hv
  subst hsz
  have hl := lv_entry av (n := nL) hlen
  rw [lg_entry_eq]
  have hpre := atoms_spec (ws := ws) B.pre
  have htab : c.exceptionTable.toList = tableOf hh := vx_table (x := y) B (hpre _ (by rw [hw]; exact List.mem_cons_self))
  have hC : mC p s m av.toArray meth c D cy (va_A w s.heap.size) cc nL y.cls ws ret0 := ⟨B.exec, B.bytes, hml, findClass_of_methodNamed B.named, hpre, hK, fun q h => Or.inr h, B.returns, B.notSynchronized, hNk⟩
  exact body p e s m av.toArray below meth c (va_A w s.heap.size) hC htab hXk hCk s.heap [] _ hP hD0.self va_S.rf hl
/-- a call of a method that may throw, where each throw is caught -/
theorem m_callVC (C : mC p s m args meth c D cy A cc nL own Ts ret0) (hX : xK A sA s s.heap) {y : MethodName} {ws' : List Cond} {d' mc' ms' n index maxL : Nat} {bytes : ByteArray} {ret : Option FieldType} {b : Nat} {As : List Value} {Φ' : Option Value → va_W → Prop} {Ψ' : String → va_W → Prop} (hM : mX l D cy sA y ws' d' mc' ms' (.ref b :: As) w Φ' Ψ') {Cn : String} {T : u_T} {N ci : Nat} {fs : List Value} (cw : CallW R s args own Cn index y bytes maxL ret ws' { frames := d', cells := mc', slots := ms', locals := 40 * d' } mc' ms' n) (q0 : Nat) (he : w[q0]? = some (b, .inr (ci, fs))) (hc : vwCl[ci]? = some (Cn, T, N)) (hn : As.length = n) {st0 : List Value} (hst : st0 = As.reverse ++ .ref b :: rest) (hrm : (rest.map fun v => v.category).sum ≤ 8) (hdg : decode cc pc = .ok (.invokevirtual index, 3)) (hf : kc + mc' ≤ R.cells ∧ ks + ms' ≤ R.slots)
    (kx : ∀ (E : String) (w' : va_W) (q : Nat), Ψ' E w' → ∃ (pre : List ExceptionTableEntry) (x : ExceptionTableEntry) (suf : List ExceptionTableEntry) (name : String), c.exceptionTable.toList = pre ++ x :: suf ∧ (∀ z ∈ pre, covers z pc = false ∨ (z.catchType ≠ 0 ∧ ∃ nm : String, (Cond.classLink own z.catchType nm).before args s = true ∧ va_Nc E nm s)) ∧ covers x pc = true ∧ x.catchType ≠ 0 ∧ (Cond.classLink own x.catchType name).before args s = true ∧ (Cond.castable E name).before args s = true ∧ mW p l e R s m args below meth c D A nL (kc + mc') (ks + ms') Q w' x.handlerPc lv [.ref q])
    (kk : ∀ (r : Option Value) (w' : va_W), Φ' r w' → mW p l e R s m args below meth c D A nL (kc + mc') (ks + ms') Q w' (pc + 3) lv (r.toList ++ rest)) : mW p l e R s m args below meth c D A nL kc ks Q w pc lv st0 := by
  intro H locs ls a1 a2 a3 a4
  have hK := C.2.2.2.2.2.1
  have hfr := m_frA C a2 a3
  have hr := vx_runV (e := e) (below := below) (meth := meth) (locs := locs) (cells := kc) (slots := ks) (rest := rest) (g := F0 m pc ls st0) ⟨C.1, C.2.1, C.2.2.1, C.2.2.2.1, C.2.2.2.2.1⟩ (hM H.size) cw ⟨m_blindX, va_recv hK a1 hc he, fun U hU hW => ⟨rfl, by rw [hU], by rw [hU]; exact a1, va_K.moved hW.alike hK, a2.weaken (fun _ _ _ _ => trivial), nK.warm hW C.2.2.2.2.2.2.2.2.2, hX.to hW a3 hU hfr⟩⟩ rfl hn a4.1 hst (lv_room (m := m) (pc := pc) (ls := ls) (rest := st0) hrm) hdg hf
  intro T hT0 X
  rcases hr T hT0 X with ⟨v, st₀, t, T', L, h0, X', hL, e1, e2, ⟨⟨r, w', hv, hp, hb, hd⟩, hz, hk⟩, st⟩ | ⟨q, st₀, t, T', L, E, ce, h0, X', hL, e1, e2, ⟨⟨w', hp, hb, hd⟩, hz, hk⟩, hce, hcv, hcl, st⟩
  · cases hv
    rw [h0] at hz hk
    obtain ⟨t2, b1, b2⟩ := kk v w' hp T'.heap (locs ++ L) ls (by rw [e1]; exact hb) ⟨hd.1, fun k q h9 => hfr _ (hd.2 k q h9)⟩
      ⟨Nat.le_trans a3.1 (by rw [e1]; exact hz), fun q h1 h2 => by rw [e1, hk q (Nat.lt_of_lt_of_le h1 a3.1) (fun z => h2 (hfr q z))]; exact a3.2.1 q h1 h2, fun q hq => by
        rcases List.mem_append.mp hq with h | h
        · exact a3.2.2 q h
        · exact hfr _ (hL q h)⟩ a4 T' rfl X'
    exact ⟨t2, st t2 b1, b2⟩
  · rw [h0] at hz hk
    have hS' : va_S A s.heap T'.heap (locs ++ L) := ⟨Nat.le_trans a3.1 (by rw [e1]; exact hz), fun q h1 h2 => by rw [e1, hk q (Nat.lt_of_lt_of_le h1 a3.1) (fun z => h2 (hfr q z))]; exact a3.2.1 q h1 h2, fun q hq => by
        rcases List.mem_append.mp hq with h | h
        · exact a3.2.2 q h
        · exact hfr _ (hL q h)⟩
    obtain ⟨pre, x, suf, name, c1, c2, c3, c4, c5, c6, c7⟩ := kx E w' q hp
    have hcat := vx_catch (l := l) (e := e) (R := R) (below := below) (meth := meth) (locs := locs ++ L) (cells := kc + mc') (slots := ks + ms') (Q := Q) (ls := ls) (rest := rest) C.2.2.2.1 pre x suf c1 c2 c3 c4 c5 c6 (show T'.heap[q]? = some ce by rw [e1]; exact hce) hcv hcl (c7 T'.heap (locs ++ L) ls (by rw [e1]; exact hb) ⟨hd.1, fun k q h9 => hfr _ (hd.2 k q h9)⟩ hS' a4)
    obtain ⟨t2, b1, b2⟩ := hcat T' rfl X'
    exact ⟨t2, st.trans b1, b2⟩
end MLL
theorem gp_59 {cy : Nat → ClassId} {ad ln : Nat → Nat} {v : gV} {ou : Nat → Int64} : (gW cy ad ln v ou)[59]? = some (ad 59, .inl (cy 4, 1, .inr (.inl ou))) := rfl
theorem gs_59 {cy : Nat → ClassId} {ad ln : Nat → Nat} {v : gV} {ou ou' : Nat → Int64} : (gW cy ad ln v ou).set 59 (ad 59, .inl (cy 4, 1, .inr (.inl ou'))) = gW cy ad ln v ou' := by
  apply List.ext_getElem?
  intro j
  by_cases hj : j = 59
  · subst hj
    rw [List.getElem?_set_self (by simp [gW])]
    rfl
  · rw [List.getElem?_set_ne (fun q => hj q.symm)]
    by_cases hj60 : j < 60
    · rw [gW_at _ hj60, gW_at _ hj60]
      have : gE cy ad ln v ou j = gE cy ad ln v ou' j := by
        unfold gE
        by_cases h1 : gIs j = true
        · rw [if_pos h1, if_pos h1]
        by_cases h2 : gBs j = true
        · rw [if_neg h1, if_neg h1, if_pos h2, if_pos h2]
        by_cases h3 : 14 ≤ j ∧ j < 30
        · rw [if_neg h1, if_neg h1, if_neg h2, if_neg h2, if_pos h3, if_pos h3]
        have h4 : j = 0 ∨ j = 1 ∨ j = 2 ∨ j = 3 ∨ j = 46 ∨ j = 51 := by
          simp [gIs] at h1
          simp [gBs] at h2
          omega
        rcases h4 with rfl | rfl | rfl | rfl | rfl | rfl <;> rfl
      rw [this]
    · rw [List.getElem?_eq_none (by simp [gW]; omega), List.getElem?_eq_none (by simp [gW]; omega)]
