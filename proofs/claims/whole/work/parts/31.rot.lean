/-! pure: turning words, the rolling sum against the sum of the last eight -/
def rt (k : Nat) (x : Int32) : Int32 := Int32.ofBitVec (x.toBitVec.rotateLeft k)
theorem rt_xor (k : Nat) (x y : Int32) : rt k (x ^^^ y) = rt k x ^^^ rt k y := by
  unfold rt
  apply Int32.toBitVec_inj.mp
  rw [Int32.toBitVec_xor, Int32.toBitVec_xor]
  show (x.toBitVec ^^^ y.toBitVec).rotateLeft k = x.toBitVec.rotateLeft k ^^^ y.toBitVec.rotateLeft k
  apply BitVec.eq_of_getLsbD_eq
  intro i hi
  rw [BitVec.getLsbD_xor, BitVec.getLsbD_rotateLeft, BitVec.getLsbD_rotateLeft, BitVec.getLsbD_rotateLeft, BitVec.getLsbD_xor, BitVec.getLsbD_xor]
  cases decide (i < k % 32) <;> simp <;> intros <;> first | rfl | (cases decide (i < 32) <;> simp)
theorem rt_0 (x : Int32) : rt 0 x = x := by
  unfold rt
  apply Int32.toBitVec_inj.mp
  show x.toBitVec.rotateLeft 0 = x.toBitVec
  apply BitVec.eq_of_getLsbD_eq
  intro i hi
  rw [BitVec.getLsbD_rotateLeft]
  simp [hi]
theorem rt_1 (k : Nat) (hk : k < 31) (x : Int32) : rt 1 (rt k x) = rt (k + 1) x := by
  unfold rt
  apply Int32.toBitVec_inj.mp
  show (x.toBitVec.rotateLeft k).rotateLeft 1 = x.toBitVec.rotateLeft (k + 1)
  apply BitVec.eq_of_getLsbD_eq
  intro i hi
  rw [BitVec.getLsbD_rotateLeft, BitVec.getLsbD_rotateLeft, BitVec.getLsbD_rotateLeft, BitVec.getLsbD_rotateLeft]
  rw [show k % 32 = k by omega, show (k + 1) % 32 = k + 1 by omega, show 1 % 32 = 1 by rfl]
  by_cases h1 : i < 1
  · have : i = 0 := by omega
    subst this
    simp only [show decide (0 < 1) = true from rfl, cond_true, show decide (32 - 1 + 0 < k) = false from decide_eq_false (by omega), cond_false, show decide (0 < k + 1) = true from decide_eq_true (by omega), show decide (32 - 1 + 0 < 32) = true from rfl, Bool.true_and]
    congr 1
    omega
  · simp only [show decide (i < 1) = false from decide_eq_false h1, cond_false, show decide (i < 32) = true from decide_eq_true hi, Bool.true_and]
    by_cases h2 : i - 1 < k
    · simp only [show decide (i - 1 < k) = true from decide_eq_true h2, show decide (i < k + 1) = true from decide_eq_true (by omega), cond_true]
      congr 1
      omega
    · simp only [show decide (i - 1 < k) = false from decide_eq_false h2, show decide (i < k + 1) = false from decide_eq_false (by omega), cond_false, show decide (i - 1 < 32) = true from decide_eq_true (by omega), Bool.true_and]
      congr 1
      omega
theorem ptn_1 (x : Int32) : ptn x 1 = rt 1 x := rfl
theorem ptn_8 (x : Int32) : ptn x 8 = rt 8 x := rfl
theorem shk (k : Nat) (hk : k < 8) (x : Int32) : (x <<< (nI k &&& 31)) ||| (if nI k = 0 then 0 else ius x (32 - nI k)) = rt k x := by
  rcases (show k = 0 ∨ k = 1 ∨ k = 2 ∨ k = 3 ∨ k = 4 ∨ k = 5 ∨ k = 6 ∨ k = 7 by omega) with rfl | rfl | rfl | rfl | rfl | rfl | rfl | rfl
  · rw [if_pos nI_0, rt_0]
    apply Int32.toBitVec_inj.mp
    show x.toBitVec <<< 0 ||| 0#32 = x.toBitVec
    simp
  all_goals rw [if_neg (by decide)]
  all_goals rfl
/-- the sum of the last k before e: each turned as often as bytes follow it -/
def xs8 (g : Nat → Int32) (e : Nat) : Nat → Int32
  | 0 => 0
  | k + 1 => xs8 g e k ^^^ rt k (g (e - 1 - k))
theorem xs8_roll (g : Nat → Int32) (e k : Nat) (hk : k < 31) : rt 1 (xs8 g e k) ^^^ g e = xs8 g (e + 1) (k + 1) := by
  induction k with
  | zero =>
    show rt 1 0 ^^^ g e = 0 ^^^ rt 0 (g (e + 1 - 1 - 0))
    rw [rt_0, Nat.sub_zero, Nat.add_sub_cancel]
    rfl
  | succ k ih =>
    have h := ih (by omega)
    show rt 1 (xs8 g e k ^^^ rt k (g (e - 1 - k))) ^^^ g e = xs8 g (e + 1) (k + 1) ^^^ rt (k + 1) (g (e + 1 - 1 - (k + 1)))
    rw [rt_xor, rt_1 k (by omega), ← h, show e + 1 - 1 - (k + 1) = e - 1 - k by omega, Int32.xor_assoc, Int32.xor_assoc, Int32.xor_comm (rt (k + 1) _)]
/-- the sum behind m bytes from a on -/
def sm8 (g : Nat → Int32) (a m : Nat) : Int32 := xs8 g (a + m) (min 8 m)
theorem sm8_roll (g : Nat → Int32) (a m : Nat) : sm8 g a (m + 1) = (if m < 8 then rt 1 (sm8 g a m) ^^^ g (a + m) else rt 1 (sm8 g a m) ^^^ g (a + m) ^^^ rt 8 (g (a + m - 8))) := by
  unfold sm8
  by_cases h : m < 8
  · rw [if_pos h, show min 8 m = m by omega, show min 8 (m + 1) = m + 1 by omega, xs8_roll g _ m (by omega)]
    rfl
  · rw [if_neg h, show min 8 m = 8 by omega, show min 8 (m + 1) = 8 by omega, xs8_roll g _ 8 (by omega)]
    show xs8 g (a + m + 1) 8 = xs8 g (a + m + 1) 8 ^^^ rt 8 (g (a + m + 1 - 1 - 8)) ^^^ rt 8 (g (a + m - 8))
    rw [show a + m + 1 - 1 - 8 = a + m - 8 by omega, Int32.xor_assoc, Int32.xor_self, Int32.xor_zero]
/-- where a part ends that begins at a, in a row of N bytes whose marks are g -/
def stp (g : Nat → Int32) (N least most : Nat) (mask : Int32) (a t : Nat) : Prop := t = N ∨ t - a = most ∨ (least ≤ t - a ∧ sm8 g a (t - a) &&& mask = 0)
def isEnd (g : Nat → Int32) (N least most : Nat) (mask : Int32) (a e : Nat) : Prop := a < e ∧ e ≤ N ∧ stp g N least most mask a e ∧ ∀ t, a < t → t < e → ¬ stp g N least most mask a t
/-- the ends of the parts from a on -/
def cuts (g : Nat → Int32) (N least most : Nat) (mask : Int32) : Nat → List Nat → Prop
  | a, [] => a = N
  | a, e :: E => isEnd g N least most mask a e ∧ cuts g N least most mask e E
theorem isEnd_ex (g : Nat → Int32) (N least most : Nat) (mask : Int32) (a : Nat) (h : a < N) : ∃ e, isEnd g N least most mask a e := by
  classical
  have key : ∀ n t, a < t → t + n = N → (∀ u, a < u → u < t → ¬ stp g N least most mask a u) → ∃ e, isEnd g N least most mask a e := by
    intro n
    induction n with
    | zero => intro t h1 h2 h3; exact ⟨t, h1, by omega, Or.inl (by omega), h3⟩
    | succ n ih =>
      intro t h1 h2 h3
      by_cases hs : stp g N least most mask a t
      · exact ⟨t, h1, by omega, hs, h3⟩
      · refine ih (t + 1) (by omega) (by omega) (fun u u1 u2 => ?_)
        rcases Nat.lt_or_ge u t with q | q
        · exact h3 u u1 q
        · rw [show u = t by omega]; exact hs
  exact key (N - (a + 1)) (a + 1) (by omega) (by omega) (fun u u1 u2 => by omega)
theorem cuts_ex (g : Nat → Int32) (N least most : Nat) (mask : Int32) : ∀ (n a : Nat), a ≤ N → N - a ≤ n → ∃ E, cuts g N least most mask a E := by
  intro n
  induction n with
  | zero => intro a h1 h2; exact ⟨[], show a = N by omega⟩
  | succ n ih =>
    intro a h1 h2
    by_cases h : a = N
    · exact ⟨[], h⟩
    · obtain ⟨e, he⟩ := isEnd_ex g N least most mask a (by omega)
      obtain ⟨E, hE⟩ := ih e he.2.1 (by have := he.1; omega)
      exact ⟨e :: E, he, hE⟩
theorem cuts_len {g : Nat → Int32} {N least most : Nat} {mask : Int32} : ∀ {E : List Nat} {a : Nat}, cuts g N least most mask a E → a + E.length ≤ N := by
  intro E
  induction E with
  | nil => intro a h; exact Nat.le_of_eq h
  | cons e E ih => intro a h; have h1 := ih h.2; have h2 := h.1.1; simp; omega
theorem isEnd_most {g : Nat → Int32} {N least most : Nat} {mask : Int32} {a e : Nat} (hm : 1 ≤ most) (h : isEnd g N least most mask a e) : e - a ≤ most := by
  by_cases h1 : a + most < e
  · exact absurd (Or.inr (Or.inl (by omega))) (h.2.2.2 (a + most) (by omega) h1)
  · omega
