/-! rows of the law's body -/
section LR
variable {p : Program} {l : Launch} {e : Env} {R : Room} {s : State} {m : MethodId} {args : Array Value} {below : List Frame} {meth : Method} {c : Code} {D : va_G} {cy : Nat → ClassId} {sA : Nat → Nat} {A : Nat → Prop} {cc : ByteArray} {nL kc ks : Nat} {own : String} {Ts : List Cond} {ret0 : Option FieldType} {Q : State → Prop} {w w' : va_W} {pc : Nat} {lv lv' : List (Nat × Value)} {rest : List Value} {b L : Nat} {xs : Nat → Int32}
theorem m_sld (C : mC p s m args meth c D cy A cc nL own Ts ret0) (hX : va_X b L xs s s.heap) (hbl : b < s.heap.size) (hbA : ¬ A b) {i : Int32} (hin : vp_in i L) (hdg : decode cc pc = .ok (.iaload, 1)) (kk : mW p l e R s m args below meth c D A nL kc ks Q w (pc + 1) lv (.int (xs i.toNatClampNeg) :: rest)) : mW p l e R s m args below meth c D A nL kc ks Q w pc lv (.int i :: .ref b :: rest) := fun H locs ls a1 a2 a3 a4 => va_sld C.1 C.2.1 hX hbl hbA a3 hin hdg (kk H locs ls a1 a2 a3 a4)
theorem m_slen (C : mC p s m args meth c D cy A cc nL own Ts ret0) (hX : va_X b L xs s s.heap) (hbl : b < s.heap.size) (hbA : ¬ A b) (hdg : decode cc pc = .ok (.arraylength, 1)) (kk : mW p l e R s m args below meth c D A nL kc ks Q w (pc + 1) lv (.int (Int32.ofNat L) :: rest)) : mW p l e R s m args below meth c D A nL kc ks Q w pc lv (.ref b :: rest) := fun H locs ls a1 a2 a3 a4 => va_slen C.1 C.2.1 hX hbl hbA a3 hdg (kk H locs ls a1 a2 a3 a4)
theorem m_lcmp (C : mC p s m args meth c D cy A cc nL own Ts ret0) {x y : Int64} (hdg : decode cc pc = .ok (.lcmp, 1)) (kk : mW p l e R s m args below meth c D A nL kc ks Q w (pc + 1) lv (.int (lg_cmp x y) :: rest)) : mW p l e R s m args below meth c D A nL kc ks Q w pc lv (.long y :: .long x :: rest) := fun H locs ls a1 a2 a3 a4 => W.lcmp C.1 C.2.1 hdg (kk H locs ls a1 a2 a3 a4)
theorem m_sw (C : mC p s m args meth c D cy A cc nL own Ts ret0) {dflt : Int} {offs : Array Int} {len td n : Nat} {x : Int32} (tg : Nat → Nat) (hn31 : n < 2 ^ 31) (hdg : decode cc pc = .ok (.tableswitch dflt 0 (n : Int) offs, len)) (ht : ∀ i, i ≤ n → ∃ off : Int, offs[i]? = some off ∧ (pc : Int) + off = (tg i : Int)) (ed : (pc : Int) + dflt = (td : Int))
    (k : ∀ i, i ≤ n → x = nI i → mW p l e R s m args below meth c D A nL kc ks Q w (tg i) lv rest) (kd : (∀ i, i ≤ n → x ≠ nI i) → mW p l e R s m args below meth c D A nL kc ks Q w td lv rest) : mW p l e R s m args below meth c D A nL kc ks Q w pc lv (.int x :: rest) := by
  by_cases h : 0 ≤ x.toInt ∧ x.toInt ≤ (n : Int)
  · obtain ⟨i, hi⟩ : ∃ i : Nat, (i : Int) = x.toInt := ⟨x.toInt.toNat, by omega⟩
    have hin : i ≤ n := by omega
    have hlt : i < 2 ^ 31 := by
      have := Int32.toInt_lt x
      omega
    have hx : x = nI i := Int32.toInt_inj.mp (by rw [nI_toInt hlt]; exact hi.symm)
    obtain ⟨off, h1, h2⟩ := ht i hin
    exact m_tableIn C hdg (by omega) (by omega) (by rw [← hi]; simpa using h1) h2 (k i hin hx)
  · refine m_tableOut C hdg (by omega) ed (kd ?_)
    intro i hi hx
    apply h
    rw [hx, nI_toInt (by omega)]
    omega
theorem m_blindL {av : List Value} {sz : Nat} : FrameBlind (va_Pc av (fun U => U.heap.size = sz ∧ va_P D vwCl w U.heap ∧ va_K D vwCl (mTy cy) U ∧ va_D (fun _ => True) w ∧ nK U ∧ xK (va_A w sz) sA U U.heap ∧ cK U)) := by
  intro a U g mk q
  obtain ⟨q0, q1, qP, qK, qD, qN, qX, qC⟩ := q
  exact ⟨q0, q1, qP, va_K.moved (u := U) (U := U.calling g mk a) (Vm.Alike.refl U.vm) qK, qD, nK.warm (s := U) (U := U.calling g mk a) (State.WarmedH.refl U) qN, qX.call, cK.moved (U := U.calling g mk a) (Vm.Alike.refl U.vm) qC⟩
theorem m_callSL (C : mC p s m args meth c D cy A cc nL own Ts ret0) (hX : xK A sA s s.heap) (hC : cK s) {y : MethodName} {ws' : List Cond} {d' mc' ms' n index maxL : Nat} {bytes : ByteArray} {ret : Option FieldType} {hh : List (Nat × Nat × Nat × Nat)} {As : List Value} {Φ : Option Value → va_W → Prop} (hM : mL l D cy sA y ws' d' mc' ms' As w Φ) (cw : vx_CSW R s args own index y bytes maxL ret hh ws' { frames := d', cells := mc', slots := ms', locals := 40 * d' } mc' ms' n) (hn : As.length = n) {st0 : List Value} (hst : st0 = As.reverse ++ rest) (hrm : (rest.map fun v => v.category).sum ≤ 8) (hdg : decode cc pc = .ok (.invokestatic index, 3)) (hf : kc + mc' ≤ R.cells ∧ ks + ms' ≤ R.slots)
    (kk : ∀ (r : Option Value) (w' : va_W), Φ r w' → mW p l e R s m args below meth c D A nL (kc + mc') (ks + ms') Q w' (pc + 3) lv (r.toList ++ rest)) : mW p l e R s m args below meth c D A nL kc ks Q w pc lv st0 := by
  intro H locs ls a1 a2 a3 a4
  have hK := C.2.2.2.2.2.1
  exact m_behind C a1 a2 a3 a4 (vx_runSW (g := F0 m pc ls st0) ⟨C.1, C.2.1, C.2.2.1, C.2.2.2.1, C.2.2.2.2.1⟩ (hM H.size) cw ⟨m_blindL, fun U hU hW => ⟨rfl, by rw [hU], by rw [hU]; exact a1, va_K.moved hW.alike hK, a2.weaken (fun _ _ _ _ => trivial), nK.warm hW C.2.2.2.2.2.2.2.2.2, hX.to hW a3 hU (m_frA C a2 a3), cK.moved hW.alike hC⟩⟩ rfl hn a4.1 hst (lv_room (m := m) (pc := pc) (ls := ls) (rest := st0) hrm) hdg hf) kk
end LR
theorem lg_cmp0 {x y : Int64} (h : x = y) : lg_cmp x y = 0 := by
  subst h
  simp [lg_cmp]
