/-! pure: what the small loops answer -/
def hsN (f : Nat → Int32) (a : Nat) : Nat → Int32
  | 0 => 0
  | n + 1 => hsN f a n * 31 + f (a + n)
def hsh (f : Nat → Int32) (a n : Nat) : Int32 := hsN f a n ^^^ ius (hsN f a n) 9
theorem w_hashOf {ln : Nat → Nat} {v : gV} {r a b : Nat} {post : Int32 → gV → Prop} (hab : a ≤ b) (hb : b ≤ ln r) (hl : ln r < 2 ^ 31) (h : post (hsh (v r) a (b - a)) v) : wp_X2_hashOf ln v r (nI a) (nI b) post := by
  unfold wp_X2_hashOf
  refine ⟨fun n x1 x2 => ∃ i, i ≤ b - a ∧ n = b - a - i ∧ x2 = nI (a + i) ∧ x1 = hsN (v r) a i, ⟨b - a, 0, Nat.zero_le _, rfl, rfl, rfl⟩, ?_⟩
  rintro n x1 x2 ⟨i, hi, rfl, rfl, rfl⟩
  refine ⟨fun hc => ?_, fun hc => ?_⟩
  · have hc := (nI_leI (by omega) (by omega)).mp hc
    have : i = b - a := by omega
    subst this
    exact h
  · have hc : ¬ b ≤ a + i := fun q => hc ((nI_leI (by omega) (by omega)).mpr q)
    refine ⟨vp_in_nI (by omega) hl, ?_⟩
    intro x5 e5
    refine ⟨b - a - (i + 1), by omega, i + 1, by omega, rfl, ?_, ?_⟩
    · rw [nI_1]; rfl
    · rw [e5, nI_clamp (by omega)]; rfl
/-- has a row the number x among its first n places from base on -/
def hasL (g : Nat → Int32) (base : Nat) (x : Int32) : Nat → Int32
  | 0 => 0
  | n + 1 => if hasL g base x n = 0 then (if g (base + n) = x then 1 else 0) else 1
theorem hasL_nz (g : Nat → Int32) (base : Nat) (x : Int32) (n : Nat) : narrow .boolean (.int (hasL g base x n)) = .int (hasL g base x n) := by
  cases n with
  | zero => exact nz0
  | succ n => exact nz_if (nz_if nz1 nz0) nz1
theorem hasL_iff (g : Nat → Int32) (base : Nat) (x : Int32) (n : Nat) : hasL g base x n = 0 ↔ ∀ k, k < n → g (base + k) ≠ x := by
  induction n with
  | zero => simp [hasL]
  | succ n ih =>
    unfold hasL
    by_cases h0 : hasL g base x n = 0
    · rw [if_pos h0]
      have h1 := ih.mp h0
      by_cases h2 : g (base + n) = x
      · rw [if_pos h2]
        constructor
        · intro h; exact absurd h (by decide)
        · intro h; exact absurd h2 (h n (by omega))
      · rw [if_neg h2]
        refine ⟨fun _ k hk => ?_, fun _ => rfl⟩
        rcases Nat.lt_or_ge k n with hkn | hkn
        · exact h1 k hkn
        · have : k = n := by omega
          rw [this]; exact h2
    · rw [if_neg h0]
      constructor
      · intro h; exact absurd h (by decide)
      · intro h; exact absurd (ih.mpr (fun k hk => h k (by omega))) h0
theorem w_X4_has {ln : Nat → Nat} {v : gV} {f c : Nat} {x : Int32} {post : Int32 → gV → Prop} (hf : f < 16) (h54 : ln 54 = 16) (hc : v 54 f = nI c) (hc2 : c ≤ 1500) (h55 : ln 55 = 24000) (h : post (hasL (v 55) (1500 * f) x c) v) : wp_X4_has ln v (nI f) x post := by
  unfold wp_X4_has
  have ef : (nI f).toNatClampNeg = f := nI_clamp (by omega)
  refine ⟨fun n x1 x2 => ∃ i, i ≤ c ∧ n = c - i ∧ x2 = nI i ∧ x1 = hasL (v 55) (1500 * f) x i, ⟨c, 0, Nat.zero_le _, rfl, rfl, rfl⟩, ?_⟩
  rintro n x1 x2 ⟨i, hi, rfl, rfl, rfl⟩
  rw [ef, hc, h54, h55]
  have ei : (1500 : Int32) * nI f + nI i = nI (1500 * f + i) := by
    rw [show (1500 : Int32) = nI 1500 from rfl, pk_mul, nI_add]
  rw [ei, nI_clamp (show 1500 * f + i < 2 ^ 31 by omega)]
  refine ⟨vp_in_nI hf (by decide), fun hq => ?_, fun hq => ?_⟩
  · have hq := (nI_leI (by omega) (by omega)).mp hq
    have : i = c := by omega
    subst this
    exact ⟨hasL_nz _ _ _ _, h⟩
  · have hq : ¬ c ≤ i := fun q => hq ((nI_leI (by omega) (by omega)).mpr q)
    refine ⟨fun _ => vp_in_nI (by omega) (by decide), ?_⟩
    intro x9 e9
    exact ⟨c - (i + 1), by omega, i + 1, by omega, rfl, nI_1 i, e9⟩
theorem w_X0_hasNumber {ln : Nat → Nat} {v : gV} {P c : Nat} {x : Int32} {post : Int32 → gV → Prop} (hc : v P 1 = nI c) (hc2 : c ≤ ln (P + 16)) (hl : ln (P + 16) < 2 ^ 31) (h : post (hasL (v (P + 16)) 0 x c) v) : wp_X0_hasNumber ln v P x post := by
  unfold wp_X0_hasNumber
  refine ⟨fun n x1 => ∃ i, i ≤ c ∧ n = c - i ∧ x1 = nI i ∧ hasL (v (P + 16)) 0 x i = 0, ⟨c, 0, Nat.zero_le _, rfl, rfl, rfl⟩, ?_⟩
  rintro n x1 ⟨i, hi, rfl, rfl, h0⟩
  rw [hc, nI_clamp (show i < 2 ^ 31 by omega)]
  refine ⟨fun hq => ?_, fun hq => ?_⟩
  · have hq := (nI_leI (by omega) (by omega)).mp hq
    have : i = c := by omega
    subst this
    rw [h0] at h
    exact ⟨nz0, h⟩
  · have hq : ¬ c ≤ i := fun q => hq ((nI_leI (by omega) (by omega)).mpr q)
    refine ⟨vp_in_nI (by omega) hl, fun he => ?_, fun he => ?_⟩
    · have : hasL (v (P + 16)) 0 x c = 1 := by
        have hnz : ¬ hasL (v (P + 16)) 0 x c = 0 := fun q => (hasL_iff _ _ _ _).mp q i (by omega) (by rw [Nat.zero_add]; exact he)
        cases c with
        | zero => exact absurd (Nat.zero_le i) hq
        | succ c =>
          unfold hasL at hnz ⊢
          split
          · rename_i h1
            rw [if_pos h1] at hnz
            split
            · rfl
            · rename_i h2
              rw [if_neg h2] at hnz
              exact absurd rfl hnz
          · rfl
      rw [this] at h
      exact ⟨nz1, h⟩
    · refine ⟨c - (i + 1), by omega, i + 1, by omega, rfl, nI_1 i, ?_⟩
      unfold hasL
      rw [if_pos h0, Nat.zero_add, if_neg he]
