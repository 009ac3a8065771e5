/-! pure: the reference's isPart, numberOf -/
variable {ln : Nat → Nat} {v : gV} {us us0 : Nat → Nat} {bs : Nat → Byt} {fl : Nat → List Nat} {hd : Byt} {b l m : Nat} {ou : Nat → Int64}
theorem msk_inj {x y : Int32} (hx : fits .byte (.int x) = true) (hy : fits .byte (.int y) = true) (h : x &&& 255 = y &&& 255) : x = y := by
  have hx' : (-128 : Int32) ≤ x ∧ x ≤ 127 := by simpa [fits] using hx
  have hy' : (-128 : Int32) ≤ y ∧ y ≤ 127 := by simpa [fits] using hy
  rw [Int32.le_iff_toInt_le, Int32.le_iff_toInt_le] at hx' hy'
  have e1 : (-128 : Int32).toInt = -128 := rfl
  have e2 : (127 : Int32).toInt = 127 := rfl
  rw [e1, e2] at hx' hy'
  rw [pk_and x (m := 255) 8 (by decide), pk_and y (m := 255) 8 (by decide), nI_eq (by omega) (by omega)] at h
  have ex : x.toInt = if 2 * x.toBitVec.toNat < 2 ^ 32 then (x.toBitVec.toNat : Int) else (x.toBitVec.toNat : Int) - (2 ^ 32 : Nat) := BitVec.toInt_eq_toNat_cond x.toBitVec
  have ey : y.toInt = if 2 * y.toBitVec.toNat < 2 ^ 32 then (y.toBitVec.toNat : Int) else (y.toBitVec.toNat : Int) - (2 ^ 32 : Nat) := BitVec.toInt_eq_toNat_cond y.toBitVec
  have bx := x.toBitVec.isLt
  have by' := y.toBitVec.isLt
  apply Int32.toBitVec_inj.mp
  apply BitVec.eq_of_toNat_eq
  by_cases qx : 2 * x.toBitVec.toNat < 2 ^ 32
  · rw [if_pos qx] at ex
    by_cases qy : 2 * y.toBitVec.toNat < 2 ^ 32
    · rw [if_pos qy] at ey; omega
    · rw [if_neg qy] at ey; omega
  · rw [if_neg qx] at ex
    by_cases qy : 2 * y.toBitVec.toNat < 2 ^ 32
    · rw [if_pos qy] at ey; omega
    · rw [if_neg qy] at ey; omega
def BF (p : Byt) : Prop := ∀ i, i < p.length → fits .byte (.int (p.getD i 0)) = true
/-- the reference while it numbers the parts of a row: us0 at the beginning, us and bs now -/
def RG (v : gV) (us0 us : Nat → Nat) (bs : Nat → Byt) : Prop := ∀ n, n < 400 → v 56 n = nI (us0 n) ∧ us0 n < 2 ^ 30 ∧ (v 51 n = 0 ∨ v 51 n = 1) ∧ (0 < us n ↔ 0 < us0 n ∨ v 51 n = 1) ∧ (0 < us0 n → v 51 n = 0) ∧ (0 < us n → v 57 n = nI (bs n).length ∧ (bs n).length ≤ 64 ∧ BF (bs n) ∧ ∀ i, i < (bs n).length → v 58 (64 * n + i) = (bs n).getD i 0 &&& 255)
theorem w_isPart {c : Nat → Int32} {n a e : Nat} {post : Int32 → gV → Prop} (hL : RLn ln) (hG : RG v us0 us bs) (hn : n < 400) (hae : a < e) (he : e ≤ 1500) (h64 : e - a ≤ 64) (hrow : ∀ i, i < e → v 48 i = c i &&& 255) (hfit : ∀ i, i < e → fits .byte (.int (c i)) = true) (h1 : 0 < us n ∧ bs n = slc c a (e - a) → post 1 v) (h0 : ¬ (0 < us n ∧ bs n = slc c a (e - a)) → post 0 v) : wp_X4_isPart ln v (nI n) (nI a) (nI e) post := by
  obtain ⟨g1, g2, g3, g4, g5, g6⟩ := hG n hn
  obtain ⟨l47, l48, l49, l50, l51, l52, l53, l54, l55, l56, l57, l58⟩ := hL
  unfold wp_X4_isPart
  rw [nI_clamp (n := n) (by omega), pk_sub (Nat.le_of_lt hae), l56, l57, l51, g1]
  refine ⟨pk_in n _ hn, fun _ => pk_in n _ hn, fun _ => pk_in n _ hn, fun _ _ => pk_in n _ hn, ?_⟩
  intro x10 e10
  have hx10 : (x10 = 1 ∧ 0 < us n ∧ (bs n).length = e - a) ∨ (x10 = 0 ∧ ¬ (0 < us n ∧ bs n = slc c a (e - a))) := by
    have hlen : 0 < us n → (x10 = if nI (bs n).length = nI (e - a) then 1 else 0) → (x10 = 1 ∧ 0 < us n ∧ (bs n).length = e - a) ∨ (x10 = 0 ∧ ¬ (0 < us n ∧ bs n = slc c a (e - a))) := by
      intro hu q
      have h6 := g6 hu
      by_cases z : (bs n).length = e - a
      · rw [if_pos (by rw [z])] at q
        exact Or.inl ⟨q, hu, z⟩
      · rw [if_neg (by rw [nI_eq (by omega) (by omega)]; exact z)] at q
        refine Or.inr ⟨q, fun y => z ?_⟩
        rw [y.2, slc_len]
    by_cases hu0 : 0 < us0 n
    · rw [if_pos (show (0 : Int32) < nI (us0 n) from nI_lt (a := 0) hu0 (by omega))] at e10
      have hu := g4.mpr (Or.inl hu0)
      rw [(g6 hu).1] at e10
      exact hlen hu e10
    · rw [if_neg (show ¬ (0 : Int32) < nI (us0 n) from nI_nlt (b := us0 n) (a := 0) (by omega) (by omega))] at e10
      rcases g3 with q | q
      · rw [if_pos q] at e10
        refine Or.inr ⟨e10, fun y => ?_⟩
        rcases g4.mp y.1 with z | z
        · exact hu0 z
        · rw [q] at z; exact absurd z (by decide)
      · have hu := g4.mpr (Or.inr q)
        rw [if_neg (by rw [q]; decide), (g6 hu).1] at e10
        exact hlen hu e10
  refine ⟨fun k x11 x12 => ∃ i, i ≤ e - a ∧ k = e - a - i ∧ x12 = nI i ∧ ((x11 = 1 ∧ 0 < us n ∧ (bs n).length = e - a ∧ ∀ j, j < i → (bs n).getD j 0 = c (a + j)) ∨ (x11 = 0 ∧ ¬ (0 < us n ∧ bs n = slc c a (e - a)))), ⟨e - a, 0, by omega, rfl, rfl, ?_⟩, ?_⟩
  · rcases hx10 with ⟨q1, q2, q3⟩ | q
    · exact Or.inl ⟨q1, q2, q3, fun j hj => by omega⟩
    · exact Or.inr q
  rintro k x11 x12 ⟨i, hi, rfl, rfl, hx⟩
  refine pk_le (e - a) i (fun q => ?_) (fun q => ?_)
  · rcases hx with ⟨rfl, q2, q3, q4⟩ | ⟨rfl, q2⟩
    · refine ⟨nz1, h1 ⟨q2, lext (by rw [slc_len]; exact q3) (fun j hj => ?_)⟩⟩
      rw [slc_get _ _ _ _ (by omega)]
      exact q4 j (by omega)
    · exact ⟨nz0, h0 q2⟩
  · rcases hx with ⟨rfl, q2, q3, q4⟩ | ⟨rfl, q2⟩
    · refine ⟨fun z => absurd z one0, fun _ => ?_⟩
      obtain ⟨k1, k2, k3, k4⟩ := g6 q2
      have e64 : 64 * nI n + nI i = nI (64 * n + i) := by rw [show (64 : Int32) = nI 64 from rfl, pk_mul, nI_add]
      rw [e64, nI_add, nI_clamp (n := 64 * n + i) (by omega), nI_clamp (n := a + i) (by omega), l58, l48, k4 i (by omega), hrow (a + i) (by omega)]
      refine ⟨pk_in (64 * n + i) _ (by omega), pk_in (a + i) _ (by omega), ?_⟩
      intro x19 e19
      refine ⟨e - a - (i + 1), by omega, i + 1, by omega, rfl, nI_1 i, ?_⟩
      by_cases z : (bs n).getD i 0 = c (a + i)
      · rw [if_pos (by rw [z])] at e19
        refine Or.inl ⟨e19, q2, q3, fun j hj => ?_⟩
        by_cases y : j = i
        · subst y; exact z
        · exact q4 j (by omega)
      · rw [if_neg (fun y => z (msk_inj (k3 i (by omega)) (hfit _ (by omega)) y))] at e19
        refine Or.inr ⟨e19, fun y => z ?_⟩
        rw [y.2, slc_get _ _ _ _ q]
    · exact ⟨fun _ => ⟨nz0, h0 q2⟩, fun z => absurd rfl z⟩
theorem RG.same {n : Nat} {p : Byt} (hG : RG v us0 us bs) (hu : 0 < us n) (hb : bs n = p) : RG v us0 (va_up us n (us n + 1)) (va_up bs n p) := by
  have e : va_up bs n p = bs := by rw [← hb]; exact vu_id bs n
  rw [e]
  intro k hk
  obtain ⟨g1, g2, g3, g4, g5, g6⟩ := hG k hk
  by_cases z : k = n
  · subst z
    rw [va_up_self]
    exact ⟨g1, g2, g3, ⟨fun _ => g4.mp hu, fun _ => by omega⟩, g5, fun _ => g6 hu⟩
  · rw [va_up_ne _ _ z]
    exact ⟨g1, g2, g3, g4, g5, g6⟩
theorem vn1 : vp_nar .boolean 1 = 1 := rfl
theorem vn0 : vp_nar .boolean 0 = 0 := rfl
theorem w_numberOf {c : Nat → Int32} {a e : Nat} {post : Int32 → gV → Prop} (hL : RLn ln) (hG : RG v us0 us bs) (hae : a < e) (he : e ≤ 1500) (h64 : e - a ≤ 64) (hrow : ∀ i, i < e → v 48 i = c i &&& 255) (hfit : ∀ i, i < e → fits .byte (.int (c i)) = true)
    (h1 : ∀ n, num us bs (slc c a (e - a)) = some n → ∀ v', Fr [51, 57, 58] v v' → RG v' us0 (va_up us n (us n + 1)) (va_up bs n (slc c a (e - a))) → post (nI n) v')
    (h0 : num us bs (slc c a (e - a)) = none → post (-1) v) : wp_X4_numberOf ln v (nI a) (nI e) post := by
  obtain ⟨l47, l48, l49, l50, l51, l52, l53, l54, l55, l56, l57, l58⟩ := id hL
  unfold wp_X4_numberOf
  refine ⟨fun k x1 x2 v3 => ∃ i, i ≤ 400 ∧ k = 400 - i ∧ x2 = nI i ∧ v3 = v ∧ (∀ j, j < i → ¬ (0 < us j ∧ bs j = slc c a (e - a))) ∧ ((x1 = -1 ∧ ∀ j, j < i → ¬ us j = 0) ∨ (∃ q, q < i ∧ x1 = nI q ∧ us q = 0 ∧ ∀ j, j < q → ¬ us j = 0)), ⟨400, 0, by omega, rfl, rfl, rfl, fun j hj => by omega, Or.inl ⟨rfl, fun j hj => by omega⟩⟩, ?_⟩
  rintro k x1 x2 v3 ⟨i, hi, rfl, rfl, rfl, hno, hfree⟩
  refine pk_le 400 i (fun q => ?_) (fun q => ?_)
  · have hi4 : i = 400 := by omega
    subst hi4
    rcases hfree with ⟨rfl, hf⟩ | ⟨n, hn, rfl, hu, hlow⟩
    · refine ⟨fun _ => h0 ?_, fun z => absurd (by decide) z⟩
      rcases num_cases us bs (slc c a (e - a)) with ⟨j, e1, i1, i2, i3, i4⟩ | ⟨_, ⟨j, e1, i1, i2, i3⟩ | ⟨e1, i1⟩⟩
      · exact absurd ⟨i2, i3⟩ (hno j i1)
      · exact absurd i2 (hf j i1)
      · exact e1
    · have hnum : num us bs (slc c a (e - a)) = some n := by
        rcases num_cases us bs (slc c a (e - a)) with ⟨j, e1, i1, i2, i3, i4⟩ | ⟨_, ⟨j, e1, i1, i2, i3⟩ | ⟨e1, i1⟩⟩
        · exact absurd ⟨i2, i3⟩ (hno j i1)
        · rw [e1]
          congr 1
          rcases Nat.lt_trichotomy j n with z | z | z
          · exact absurd i2 (hlow j z)
          · exact z
          · exact absurd hu (i3 n z)
        · exact absurd hu (i1 n hn)
      refine ⟨fun z => absurd z (nI_pos (by omega)), fun _ => ?_⟩
      rw [l51, l57, l58, l48, nI_clamp (n := n) (by omega), pk_sub (Nat.le_of_lt hae), vn1]
      refine ⟨pk_in n _ hn, fun v7 e7 => ⟨pk_in n _ hn, fun v9 e9 => ?_⟩⟩
      have hF9 : Fr [51, 57, 58] v3 v9 := Fr.tr (b := v7) (by rw [e7]; exact Fr.up (by simp)) (by rw [e9]; exact Fr.up (by simp))
      have g51 : v9 51 = upd (v3 51) n 1 := by rw [e9, va_up_ne _ _ (by decide), e7, va_up_self]
      have g57 : v9 57 = upd (v3 57) n (nI (e - a)) := by rw [e9, va_up_self, e7, va_up_ne _ _ (by decide)]
      have g58 : v9 58 = v3 58 := by rw [e9, va_up_ne _ _ (by decide), e7, va_up_ne _ _ (by decide)]
      refine ⟨fun k x10 w => ∃ i, i ≤ e - a ∧ k = e - a - i ∧ x10 = nI i ∧ Fr [58] v9 w ∧ (∀ j, j < i → w 58 (64 * n + j) = c (a + j) &&& 255) ∧ (∀ j, (j < 64 * n ∨ 64 * n + i ≤ j) → w 58 j = v3 58 j), ⟨e - a, 0, by omega, rfl, rfl, Fr.rf, fun j hj => by omega, fun j _ => by rw [g58]⟩, ?_⟩
      rintro k x10 w ⟨i, hi, rfl, rfl, hFw, hw1, hw2⟩
      refine pk_le (e - a) i (fun q => ?_) (fun q => ?_)
      · have hie : i = e - a := by omega
        subst hie
        refine h1 n hnum w (hF9.tr (hFw.mono (by decide))) ?_
        intro k hk
        obtain ⟨k1, k2, k3, k4, k5, k6⟩ := hG k hk
        have w56 : w 56 = v3 56 := by rw [hFw 56 (by decide), hF9 56 (by decide)]
        have w51 : w 51 = upd (v3 51) n 1 := by rw [hFw 51 (by decide), g51]
        have w57 : w 57 = upd (v3 57) n (nI (e - a)) := by rw [hFw 57 (by decide), g57]
        rw [w56, w51, w57]
        by_cases z : k = n
        · subst z
          rw [va_up_self, va_up_self, pk_us, pk_us, slc_len]
          have hz : ¬ 0 < us0 k := fun y => by have := k4.mpr (Or.inl y); omega
          refine ⟨k1, k2, Or.inr rfl, ⟨fun _ => Or.inr rfl, fun _ => by omega⟩, fun y => absurd y hz, fun _ => ⟨rfl, h64, fun j hj => ?_, fun j hj => ?_⟩⟩
          · rw [slc_len] at hj
            rw [slc_get _ _ _ _ hj]
            exact hfit _ (by omega)
          · rw [slc_get _ _ _ _ hj]
            exact hw1 j hj
        · rw [va_up_ne _ _ z, va_up_ne _ _ z, pk_un z, pk_un z]
          refine ⟨k1, k2, k3, k4, k5, fun y => ⟨(k6 y).1, (k6 y).2.1, (k6 y).2.2.1, fun j hj => ?_⟩⟩
          have := (k6 y).2.1
          rw [hw2 _ (by omega)]
          exact (k6 y).2.2.2 j hj
      · have e64 : 64 * nI n + nI i = nI (64 * n + i) := by rw [show (64 : Int32) = nI 64 from rfl, pk_mul, nI_add]
        rw [e64, nI_add, nI_clamp (n := 64 * n + i) (by omega), nI_clamp (n := a + i) (by omega)]
        refine ⟨pk_in (a + i) _ (by omega), pk_in (64 * n + i) _ (by omega), fun v15 e15 => ?_⟩
        refine ⟨e - a - (i + 1), by omega, i + 1, by omega, rfl, nI_1 i, hFw.tr (by rw [e15]; exact Fr.up (by simp)), fun j hj => ?_, fun j hj => ?_⟩
        · rw [e15, va_up_self]
          by_cases z : j = i
          · subst z
            rw [pk_us, hFw 48 (by decide), hF9 48 (by decide), hrow _ (by omega)]
          · rw [pk_un (by omega)]; exact hw1 j (by omega)
        · rw [e15, va_up_self, pk_un (by omega)]
          exact hw2 j (by omega)
  · obtain ⟨g1, g2, g3, g4, g5, g6⟩ := hG i q
    refine w_isPart hL hG q hae he h64 hrow hfit (fun hy => ⟨fun z => absurd z one0, fun _ => ?_⟩) (fun hy => ⟨fun _ => ?_, fun z => absurd rfl z⟩)
    · have hnum : num us bs (slc c a (e - a)) = some i := by
        rcases num_cases us bs (slc c a (e - a)) with ⟨j, e1, i1, i2, i3, i4⟩ | ⟨h9, _⟩
        · rw [e1]
          congr 1
          rcases Nat.lt_trichotomy j i with z | z | z
          · exact absurd ⟨i2, i3⟩ (hno j z)
          · exact z
          · exact absurd hy (i4 i z)
        · exact absurd hy (h9 i q)
      exact h1 i hnum v3 Fr.rf (hG.same hy.1 hy.2)
    · rw [l56, l51, nI_clamp (n := i) (by omega), g1]
      refine ⟨fun _ => pk_in i _ q, fun _ _ => pk_in i _ q, fun x26 e26 => ?_⟩
      refine ⟨400 - (i + 1), by omega, i + 1, by omega, rfl, nI_1 i, rfl, fun j hj => ?_, ?_⟩
      · by_cases z : j = i
        · subst z; exact hy
        · exact hno j (by omega)
      · rcases hfree with ⟨rfl, hf⟩ | ⟨n, hn, rfl, hu, hlow⟩
        · rw [if_neg (by decide)] at e26
          have hstay : ¬ us i = 0 → x26 = -1 → (x26 = -1 ∧ ∀ j, j < i + 1 → ¬ us j = 0) ∨ (∃ q, q < i + 1 ∧ x26 = nI q ∧ us q = 0 ∧ ∀ j, j < q → ¬ us j = 0) := fun z1 z2 => Or.inl ⟨z2, fun j hj => by
            by_cases z : j = i
            · subst z; exact z1
            · exact hf j (by omega)⟩
          by_cases hu0 : us0 i = 0
          · rw [if_pos (by rw [hu0]; rfl)] at e26
            rcases g3 with z | z
            · rw [if_pos z] at e26
              refine Or.inr ⟨i, by omega, e26, ?_, hf⟩
              rcases Nat.eq_zero_or_pos (us i) with y | y
              · exact y
              · rcases g4.mp y with x | x
                · omega
                · rw [z] at x; exact absurd x (by decide)
            · rw [if_neg (by rw [z]; decide)] at e26
              exact hstay (by have := g4.mpr (Or.inr z); omega) e26
          · rw [if_neg (nI_ne0 (by omega) (by omega))] at e26
            exact hstay (by have := g4.mpr (Or.inl (by omega)); omega) e26
        · rw [if_pos (nI_pos' (by omega))] at e26
          exact Or.inr ⟨n, by omega, e26, hu, hlow⟩
