theorem mM.mono {l : Launch} {D : va_G} {cy : Nat → ClassId} {y : MethodName} {ws : List Cond} {d mc ms : Nat} {av : List Value} {w : va_W} {Φ Φ' : Option Value → va_W → Prop} (h : mM l D cy y ws d mc ms av w Φ) (hq : ∀ (r : Option Value) (w' : va_W), Φ r w' → Φ' r w') : mM l D cy y ws d mc ms av w Φ' := by
  intro sz p e ha hc hk s m args below hf happ hP hK
  obtain ⟨n, o, h1, h2, h3, ⟨⟨⟨r, w', e1, e2, e3, e4⟩, hF⟩, h5⟩⟩ := h sz p e ha hc hk s m args below hf happ hP hK
  exact ⟨n, o, h1, h2, h3, ⟨⟨⟨r, w', e1, hq _ _ e2, e3, e4⟩, hF⟩, h5⟩⟩
section PU
variable {l : Launch} {D : va_G} {cy : Nat → ClassId} {y : MethodName} {ws : List Cond} {d mc ms : Nat} {av : List Value} {w : va_W} {ad ln : Nat → Nat} {ou : Nat → Int64}
theorem pu_i {x0 : Int32} {v0 : gV} (h : mM l D cy y ws d mc ms av w (fun r w1 => ∃ (x1 : Int32) (v1 : gV), r = some (.int x1) ∧ (x1 = x0 ∧ v1 = v0) ∧ w1 = gW cy ad ln v1 ou)) : mM l D cy y ws d mc ms av w (fun r w1 => r = some (.int x0) ∧ w1 = gW cy ad ln v0 ou) :=
  h.mono (fun r w1 q => by obtain ⟨x1, v1, e1, ⟨e2, e3⟩, e4⟩ := q; subst e2; subst e3; exact ⟨e1, e4⟩)
theorem pu_v {v0 : gV} (h : mM l D cy y ws d mc ms av w (fun r w1 => ∃ v1 : gV, r = none ∧ v1 = v0 ∧ w1 = gW cy ad ln v1 ou)) : mM l D cy y ws d mc ms av w (fun r w1 => r = none ∧ w1 = gW cy ad ln v0 ou) :=
  h.mono (fun r w1 q => by obtain ⟨v1, e1, e3, e4⟩ := q; subst e3; exact ⟨e1, e4⟩)
end PU
theorem nz0 : narrow .boolean (.int 0) = .int 0 := rfl
theorem nz1 : narrow .boolean (.int 1) = .int 1 := rfl
theorem nz_if {c : Prop} [Decidable c] {a b : Int32} (ha : narrow .boolean (.int a) = .int a) (hb : narrow .boolean (.int b) = .int b) : narrow .boolean (.int (if c then a else b)) = .int (if c then a else b) := by
  split
  · exact ha
  · exact hb
theorem gC_lo (i : Nat) : 14 ≤ 14 + i % 16 := Nat.le_add_right _ _
theorem gC_hi (i : Nat) : 14 + i % 16 < 30 := by
  have := Nat.mod_lt i (show 0 < 16 by decide)
  omega
theorem gIs_N {k : Nat} (h1 : 14 ≤ k) (h2 : k < 30) : gIs (k + 16) = true := by simp [gIs]; omega
/-! closed forms of the leaves -/
def pmk (b : Int32) : Int32 := ((b + 1) * (-1640531527)) ^^^ ius ((b + 1) * (-1640531527)) 15
def ptn (x k : Int32) : Int32 := (x <<< (k &&& 31)) ||| ius x (32 - k)
def pin (a b c : Int32) : Int32 := if a < b then 0 else if c < a then 0 else 1
def phs (v : gV) (n : Int32) : Int32 := if n < 0 then 0 else if 400 ≤ n then 0 else if v 8 n.toNatClampNeg ≤ 0 then 0 else 1
def ptr (a b c : Int32) : Int32 := if a = 0 then (if b = 0 then (if c = 0 then 0 else 3) else 2) else 1
def prf (a b c : Int32) : Int32 := if ptr a b c ≤ 0 then 0 else 1
def vrf (v : gV) (a b c : Int32) : gV := va_up v 46 (upd (v 46) 0 (ptr a b c))
theorem pin_nz (a b c : Int32) : narrow .boolean (.int (pin a b c)) = .int (pin a b c) := nz_if nz0 (nz_if nz0 nz1)
theorem phs_nz (v : gV) (n : Int32) : narrow .boolean (.int (phs v n)) = .int (phs v n) := nz_if nz0 (nz_if nz0 (nz_if nz0 nz1))
theorem ph_in {n : Int32} (h1 : ¬ n < 0) (h2 : ¬ 400 ≤ n) : vp_in n 400 := by
  rw [vp_in_iff]
  rw [Int32.lt_iff_toInt_lt, Int32.toInt_zero] at h1
  rw [Int32.le_iff_toInt_le] at h2
  have : (400 : Int32).toInt = 400 := rfl
  omega
def pus (v : gV) (n : Int32) : Int32 := if phs v n = 0 then 0 else v 8 n.toNatClampNeg
def plo (v : gV) (n : Int32) : Int32 := if phs v n = 0 then 0 else v 9 n.toNatClampNeg
theorem phs_in {v : gV} {n : Int32} (h : ¬ phs v n = 0) : vp_in n 400 := by
  unfold phs at h
  split at h
  · exact absurd rfl h
  · rename_i h1
    split at h
    · exact absurd rfl h
    · rename_i h2
      exact ph_in h1 h2
