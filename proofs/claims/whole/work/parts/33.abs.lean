/-! pure: the abstract stock: us n how often part n is in use, bs n its bytes -/
abbrev Byt : Type := List Int32
def sumTo (f : Nat → Nat) : Nat → Nat
  | 0 => 0
  | n + 1 => sumTo f n + f n
theorem sumTo_congr {f g : Nat → Nat} {N : Nat} (h : ∀ i, i < N → f i = g i) : sumTo f N = sumTo g N := by
  induction N with
  | zero => rfl
  | succ N ih =>
    unfold sumTo
    rw [ih (fun i hi => h i (by omega)), h N (by omega)]
theorem sumTo_one {f g : Nat → Nat} {N m : Nat} (hm : m < N) (h : ∀ i, i < N → i ≠ m → g i = f i) : sumTo g N + f m = sumTo f N + g m := by
  induction N with
  | zero => omega
  | succ N ih =>
    unfold sumTo
    by_cases q : m = N
    · subst q
      rw [sumTo_congr (fun i hi => h i (by omega) (by omega))]
      omega
    · have h1 := ih (by omega) (fun i hi hne => h i (by omega) hne)
      have h2 := h N (by omega) (fun z => q z.symm)
      omega
theorem sumTo_le {f g : Nat → Nat} {N : Nat} (h : ∀ i, i < N → f i ≤ g i) : sumTo f N ≤ sumTo g N := by
  induction N with
  | zero => exact Nat.le_refl _
  | succ N ih =>
    unfold sumTo
    have h1 := ih (fun i hi => h i (by omega))
    have h2 := h N (by omega)
    omega
theorem sumTo_const {N c : Nat} : sumTo (fun _ => c) N = N * c := by
  induction N with
  | zero => simp [sumTo]
  | succ N ih => unfold sumTo; rw [ih, Nat.succ_mul]
theorem sumTo_mem {f : Nat → Nat} {N m : Nat} (h : m < N) : f m ≤ sumTo f N := by
  induction N with
  | zero => omega
  | succ N ih =>
    unfold sumTo
    by_cases q : m = N
    · subst q; omega
    · have := ih (by omega); omega
theorem lext {p q : Byt} (h1 : p.length = q.length) (h2 : ∀ i, i < p.length → p.getD i 0 = q.getD i 0) : p = q := by
  apply List.ext_getElem h1
  intro i a b
  have h := h2 i a
  rw [List.getD_eq_getElem?_getD, List.getD_eq_getElem?_getD, List.getElem?_eq_getElem a, List.getElem?_eq_getElem b] at h
  exact h
theorem nd_len : ∀ (N : Nat) (l : List Nat), l.Nodup → (∀ n, n ∈ l → n < N) → l.length ≤ N := by
  intro N
  induction N with
  | zero =>
    intro l _ h
    cases l with
    | nil => exact Nat.le_refl _
    | cons a t => exact absurd (h a (by simp)) (by omega)
  | succ N ih =>
    intro l hd h
    by_cases q : N ∈ l
    · have h1 := ih (l.erase N) (hd.erase N) (fun n hn => by
        have h2 := (hd.mem_erase_iff).mp hn
        have h3 := h n h2.2
        have h4 := h2.1
        omega)
      rw [List.length_erase_of_mem q] at h1
      omega
    · have h1 := ih l hd (fun n hn => by
        have h3 := h n hn
        have h4 : n ≠ N := fun z => q (z ▸ hn)
        omega)
      omega
/-- the bytes of a row from a on -/
def slc (f : Nat → Int32) (a n : Nat) : Byt := (List.range n).map (fun i => f (a + i))
theorem slc_len (f : Nat → Int32) (a n : Nat) : (slc f a n).length = n := by simp [slc]
theorem slc_get (f : Nat → Int32) (a n i : Nat) (h : i < n) : (slc f a n).getD i 0 = f (a + i) := by
  simp [slc, List.getD_eq_getElem?_getD, h]
def hL (p : Byt) : Int32 := hsh (fun i => p.getD i 0) 0 p.length
theorem hsN_congr {f g : Nat → Int32} {a b n : Nat} (h : ∀ i, i < n → f (a + i) = g (b + i)) : hsN f a n = hsN g b n := by
  induction n with
  | zero => rfl
  | succ n ih =>
    unfold hsN
    rw [ih (fun i hi => h i (by omega)), h n (by omega)]
theorem hL_of {f : Nat → Int32} {a : Nat} {p : Byt} (h : ∀ i, i < p.length → f (a + i) = p.getD i 0) : hsh f a p.length = hL p := by
  unfold hL hsh
  rw [hsN_congr (g := fun i => p.getD i 0) (b := 0) (fun i hi => by rw [Nat.zero_add]; exact h i hi)]
/-- the chain of a part -/
def hC (p : Byt) : Nat := (hL p &&& 511).toNatClampNeg
theorem hC_spec (p : Byt) : hL p &&& 511 = nI (hC p) ∧ hC p < 512 := by
  obtain ⟨j, h1, h2⟩ := pk_andE (hL p) (m := 511) 9 (by decide)
  unfold hC
  rw [h2, pk_cl j]
  exact ⟨rfl, h1⟩
def lk (nx : Nat → Int32) : Int32 → List Nat → Prop
  | x, [] => x = -1
  | x, n :: t => x = nI n ∧ lk nx (nx n) t
theorem lk_congr {nx nx' : Nat → Int32} : ∀ {l : List Nat} {x : Int32}, (∀ n, n ∈ l → nx' n = nx n) → lk nx x l → lk nx' x l := by
  intro l
  induction l with
  | nil => intro x _ h; exact h
  | cons n t ih =>
    intro x hc h
    refine ⟨h.1, ?_⟩
    rw [hc n (by simp)]
    exact ih (fun m hm => hc m (by simp [hm])) h.2
theorem lk_splice {nx : Nat → Int32} {m n : Nat} {l2 : List Nat} : ∀ {p : List Nat} {x : Int32}, (p ++ m :: n :: l2).Nodup → lk nx x (p ++ m :: n :: l2) → lk (upd nx m (nx n)) x (p ++ m :: l2) := by
  intro p
  induction p with
  | nil =>
    intro x hd h
    refine ⟨h.1, ?_⟩
    rw [pk_us]
    have h2 := h.2.2
    refine lk_congr (fun j hj => pk_un ?_) h2
    intro q
    subst q
    simp at hd
    exact hd.1.2 hj
  | cons a p ih =>
    intro x hd h
    have hd' : (p ++ m :: n :: l2).Nodup := (List.nodup_cons.mp hd).2
    have ha : a ≠ m := by
      intro q
      subst q
      exact (List.nodup_cons.mp hd).1 (by simp)
    refine ⟨h.1, ?_⟩
    rw [pk_un ha]
    exact ih hd' h.2
/-- how many parts are in use, and how many bytes they have -/
def cnt (us : Nat → Nat) : Nat := sumTo (fun n => if 0 < us n then 1 else 0) 400
def tot (us : Nat → Nat) (bs : Nat → Byt) : Nat := sumTo (fun n => if 0 < us n then (bs n).length else 0) 400
def CL (ln : Nat → Nat) : Prop := ln 8 = 400 ∧ ln 9 = 400 ∧ ln 10 = 400 ∧ ln 11 = 400 ∧ ln 12 = 512 ∧ 1024 ≤ ln 13 ∧ ln 13 ≤ 25600
def CU (v : gV) (us : Nat → Nat) : Prop := ∀ n, n < 400 → v 8 n = nI (us n) ∧ us n < 2 ^ 30
def CB (ln : Nat → Nat) (v : gV) (us : Nat → Nat) (bs : Nat → Byt) : Prop := ∀ n, n < 400 → 0 < us n → v 9 n = nI (bs n).length ∧ 1 ≤ (bs n).length ∧ (bs n).length ≤ 64 ∧ (n + 1) * 64 ≤ ln 13 ∧ v 10 n = hL (bs n) ∧ ∀ i, i < (bs n).length → v 13 (n * 64 + i) = (bs n).getD i 0
def CF (ln : Nat → Nat) (v : gV) : Prop := ∀ i, i < ln 13 → fits .byte (.int (v 13 i)) = true
def CI (us : Nat → Nat) (bs : Nat → Byt) : Prop := ∀ n m, n < 400 → m < 400 → 0 < us n → 0 < us m → bs n = bs m → n = m
def CO (v : gV) (us : Nat → Nat) : Prop := ∃ lo, v 2 6 = nI lo ∧ lo ≤ 400 ∧ ∀ n, n < lo → 0 < us n
def CH (v : gV) (us : Nat → Nat) (bs : Nat → Byt) : Prop := ∃ ch : Nat → List Nat, ∀ c, c < 512 → lk (v 11) (v 12 c) (ch c) ∧ (ch c).Nodup ∧ ∀ n, n ∈ ch c ↔ n < 400 ∧ 0 < us n ∧ hC (bs n) = c
/-- the class's stock holds (us, bs) -/
def CS (ln : Nat → Nat) (v : gV) (us : Nat → Nat) (bs : Nat → Byt) : Prop := CL ln ∧ CU v us ∧ CB ln v us bs ∧ CF ln v ∧ CI us bs ∧ CO v us ∧ v 2 7 = nI (cnt us) ∧ v 2 8 = nI (tot us bs) ∧ CH v us bs
theorem CS.fr {ln : Nat → Nat} {v v' : gV} {us : Nat → Nat} {bs : Nat → Byt} (h : CS ln v us bs) (e2 : v' 2 = v 2) (e8 : v' 8 = v 8) (e9 : v' 9 = v 9) (e10 : v' 10 = v 10) (e11 : v' 11 = v 11) (e12 : v' 12 = v 12) (e13 : v' 13 = v 13) : CS ln v' us bs := by
  unfold CS CU CB CF CO CH at h ⊢
  rw [e2, e8, e9, e10, e11, e12, e13]
  exact h
theorem CS.ln {ln ln' : Nat → Nat} {v : gV} {us : Nat → Nat} {bs : Nat → Byt} (h : CS ln v us bs) (e : ∀ k, 8 ≤ k → k ≤ 13 → ln' k = ln k) : CS ln' v us bs := by
  unfold CS CL CB CF at h ⊢
  rw [e 8 (by omega) (by omega), e 9 (by omega) (by omega), e 10 (by omega) (by omega), e 11 (by omega) (by omega), e 12 (by omega) (by omega), e 13 (by omega) (by omega)]
  exact h
theorem CS.bs {ln : Nat → Nat} {v : gV} {us : Nat → Nat} {bs bs' : Nat → Byt} (h : CS ln v us bs) (e : ∀ n, n < 400 → 0 < us n → bs' n = bs n) : CS ln v us bs' := by
  obtain ⟨h1, h2, h3, h4, h5, h6, h7, h8, ch, h9⟩ := h
  refine ⟨h1, h2, fun n hn hu => by rw [e n hn hu]; exact h3 n hn hu, h4, fun n m hn hm hu hv q => h5 n m hn hm hu hv (by rw [← e n hn hu, ← e m hm hv]; exact q), h6, h7, ?_, ch, fun c hc => ⟨(h9 c hc).1, (h9 c hc).2.1, fun n => ?_⟩⟩
  · have ht : tot us bs = tot us bs' := by
      refine sumTo_congr (fun n hn => ?_)
      by_cases q : 0 < us n
      · rw [if_pos q, if_pos q, e n hn q]
      · rw [if_neg q, if_neg q]
    rw [h8, ht]
  · rw [(h9 c hc).2.2 n]
    constructor
    · rintro ⟨a, b, d⟩
      exact ⟨a, b, by rw [e n a b]; exact d⟩
    · rintro ⟨a, b, d⟩
      exact ⟨a, b, by rw [← e n a b]; exact d⟩
/-- the number of a part: that of the part with the same bytes, else the least free one -/
def num (us : Nat → Nat) (bs : Nat → Byt) (p : Byt) : Option Nat := ((List.range 400).find? (fun n => decide (0 < us n ∧ bs n = p))).or ((List.range 400).find? (fun n => decide (us n = 0)))
theorem num_cases (us : Nat → Nat) (bs : Nat → Byt) (p : Byt) : (∃ n, num us bs p = some n ∧ n < 400 ∧ 0 < us n ∧ bs n = p ∧ ∀ m, m < n → ¬ (0 < us m ∧ bs m = p)) ∨ ((∀ m, m < 400 → ¬ (0 < us m ∧ bs m = p)) ∧ ((∃ n, num us bs p = some n ∧ n < 400 ∧ us n = 0 ∧ ∀ m, m < n → ¬ us m = 0) ∨ (num us bs p = none ∧ ∀ m, m < 400 → ¬ us m = 0))) := by
  unfold num
  cases h1 : (List.range 400).find? (fun n => decide (0 < us n ∧ bs n = p)) with
  | some n =>
    left
    have h := List.find?_range_eq_some.mp h1
    refine ⟨n, rfl, by simpa using h.2.1, (of_decide_eq_true h.1).1, (of_decide_eq_true h.1).2, fun m hm q => ?_⟩
    have h3 := h.2.2 m hm
    simp at h3
    rcases h3 with z | z
    · exact absurd q.1 (by omega)
    · exact z q.2
  | none =>
    right
    have h := List.find?_range_eq_none.mp h1
    refine ⟨fun m hm q => ?_, ?_⟩
    · have h3 := h m hm
      simp at h3
      rcases h3 with z | z
      · exact absurd q.1 (by omega)
      · exact z q.2
    · cases h2 : (List.range 400).find? (fun n => decide (us n = 0)) with
      | some n =>
        left
        have h := List.find?_range_eq_some.mp h2
        refine ⟨n, rfl, by simpa using h.2.1, of_decide_eq_true h.1, fun m hm q => ?_⟩
        have h3 := h.2.2 m hm
        simp at h3
        exact h3 q
      | none =>
        right
        have h := List.find?_range_eq_none.mp h2
        refine ⟨rfl, fun m hm q => ?_⟩
        have h3 := h m hm
        simp at h3
        exact h3 q
/-- the room behind a number -/
def rmx (R n : Nat) : Nat := if R < (n + 1) * 64 then min 25600 (max ((n + 1) * 64) (2 * R)) else R
/-- the numbers that parts get, one after another; ok: there was one for each -/
def Asg : List Byt → (Nat → Nat) → (Nat → Byt) → Nat → List Nat → (Nat → Nat) → (Nat → Byt) → Nat → Bool → Prop
  | [], us, bs, R, ns, us', bs', R', ok => ns = [] ∧ us' = us ∧ bs' = bs ∧ R' = R ∧ ok = true
  | p :: ps, us, bs, R, ns, us', bs', R', ok => (num us bs p = none ∧ ns = [] ∧ us' = us ∧ bs' = bs ∧ R' = R ∧ ok = false) ∨ ∃ n t, num us bs p = some n ∧ ns = n :: t ∧ Asg ps (va_up us n (us n + 1)) (va_up bs n p) (rmx R n) t us' bs' R' ok
theorem Asg.ex : ∀ (ps : List Byt) (us : Nat → Nat) (bs : Nat → Byt) (R : Nat), ∃ ns us' bs' R' ok, Asg ps us bs R ns us' bs' R' ok := by
  intro ps
  induction ps with
  | nil => intro us bs R; exact ⟨[], us, bs, R, true, rfl, rfl, rfl, rfl, rfl⟩
  | cons p ps ih =>
    intro us bs R
    cases h : num us bs p with
    | none => exact ⟨[], us, bs, R, false, Or.inl ⟨h, rfl, rfl, rfl, rfl, rfl⟩⟩
    | some n =>
      obtain ⟨t, us', bs', R', ok, hA⟩ := ih (va_up us n (us n + 1)) (va_up bs n p) (rmx R n)
      exact ⟨n :: t, us', bs', R', ok, Or.inr ⟨n, t, h, rfl, hA⟩⟩
