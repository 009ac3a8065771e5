/-! pure: cutting and numbering depend on the content alone; the files -/
theorem xs8_congr {g g' : Nat → Int32} {e : Nat} : ∀ {k : Nat}, k ≤ e → (∀ i, e - k ≤ i → i < e → g i = g' i) → xs8 g e k = xs8 g' e k := by
  intro k
  induction k with
  | zero => intro _ _; rfl
  | succ k ih =>
    intro hk h
    show xs8 g e k ^^^ rt k (g (e - 1 - k)) = xs8 g' e k ^^^ rt k (g' (e - 1 - k))
    rw [ih (by omega) (fun i a b => h i (by omega) b), h (e - 1 - k) (by omega) (by omega)]
theorem stp_congr {g g' : Nat → Int32} {N least most a t : Nat} {mask : Int32} (hat : a < t) (ht : t ≤ N) (h : ∀ i, i < N → g i = g' i) : stp g N least most mask a t ↔ stp g' N least most mask a t := by
  have e : sm8 g a (t - a) = sm8 g' a (t - a) := xs8_congr (by omega) (fun i a b => h i (by omega))
  unfold stp
  rw [e]
theorem isEnd_congr {g g' : Nat → Int32} {N least most a e : Nat} {mask : Int32} (h : ∀ i, i < N → g i = g' i) (H : isEnd g N least most mask a e) : isEnd g' N least most mask a e := by
  obtain ⟨h1, h2, h3, h4⟩ := H
  refine ⟨h1, h2, (stp_congr h1 h2 h).mp h3, fun t t1 t2 q => h4 t t1 t2 ((stp_congr t1 (by omega) h).mpr q)⟩
theorem cuts_congr {g g' : Nat → Int32} {N least most : Nat} {mask : Int32} (h : ∀ i, i < N → g i = g' i) : ∀ {E : List Nat} {a : Nat}, cuts g N least most mask a E → cuts g' N least most mask a E := by
  intro E
  induction E with
  | nil => intro a q; exact q
  | cons e E ih => intro a q; exact ⟨isEnd_congr h q.1, ih q.2⟩
theorem prts_congr {g : Nat → Int32} {N least most : Nat} {mask : Int32} {f f' : Nat → Int32} (h : ∀ i, i < N → f i = f' i) : ∀ {E : List Nat} {a : Nat}, cuts g N least most mask a E → prts f a E = prts f' a E := by
  intro E
  induction E with
  | nil => intro a q; rfl
  | cons e E ih =>
    intro a q
    have h1 := q.1.1
    have h2 := q.1.2.1
    show slc f a (e - a) :: prts f e E = slc f' a (e - a) :: prts f' e E
    rw [ih q.2]
    congr 1
    refine lext (by rw [slc_len, slc_len]) (fun i hi => ?_)
    rw [slc_len] at hi
    rw [slc_get _ _ _ _ hi, slc_get _ _ _ _ hi, h (a + i) (by omega)]
theorem prts_len (f : Nat → Int32) : ∀ (E : List Nat) (a : Nat), (prts f a E).length = E.length := by
  intro E
  induction E with
  | nil => intro a; rfl
  | cons e E ih => intro a; show (prts f e E).length + 1 = E.length + 1; rw [ih]
theorem slc_app (f : Nat → Int32) (a m n : Nat) : slc f a m ++ slc f (a + m) n = slc f a (m + n) := by
  refine lext (by simp [slc_len]) (fun i hi => ?_)
  rw [List.length_append, slc_len, slc_len] at hi
  rw [slc_get f a (m + n) i hi]
  by_cases q : i < m
  · rw [gd_app _ _ _ _ (by rw [slc_len]; exact q), slc_get _ _ _ _ q]
  · rw [List.getD_eq_getElem?_getD, List.getElem?_append_right (by rw [slc_len]; omega), ← List.getD_eq_getElem?_getD, slc_len, slc_get _ _ _ _ (by omega)]
    congr 1
    omega
theorem prts_flat {g : Nat → Int32} {N least most : Nat} {mask : Int32} {f : Nat → Int32} : ∀ {E : List Nat} {a : Nat}, cuts g N least most mask a E → (prts f a E).flatten = slc f a (N - a) := by
  intro E
  induction E with
  | nil => intro a q; have : a = N := q; subst this; simp [prts, slc]
  | cons e E ih =>
    intro a q
    have h1 := q.1.1
    have h2 := q.1.2.1
    show slc f a (e - a) ++ (prts f e E).flatten = _
    rw [ih q.2]
    have := slc_app f a (e - a) (N - e)
    rw [show a + (e - a) = e by omega, show e - a + (N - e) = N - a by omega] at this
    exact this
theorem slc_all (c : Byt) : slc (fun i => c.getD i 0) 0 c.length = c := by
  refine lext (slc_len _ _ _) (fun i hi => ?_)
  rw [slc_len] at hi
  rw [slc_get _ _ _ _ hi, Nat.zero_add]
/-- the bytes of a row of numbers -/
def cat (bs : Nat → Byt) : List Nat → Byt
  | [] => []
  | n :: t => bs n ++ cat bs t
theorem cat_congr {bs bs' : Nat → Byt} : ∀ {l : List Nat}, (∀ n, n ∈ l → bs' n = bs n) → cat bs' l = cat bs l := by
  intro l
  induction l with
  | nil => intro _; rfl
  | cons n t ih =>
    intro h
    show bs' n ++ cat bs' t = bs n ++ cat bs t
    rw [h n (by simp), ih (fun m hm => h m (by simp [hm]))]
theorem cat_app (bs : Nat → Byt) : ∀ (l m : List Nat), cat bs (l ++ m) = cat bs l ++ cat bs m := by
  intro l
  induction l with
  | nil => intro m; rfl
  | cons n t ih => intro m; show bs n ++ cat bs (t ++ m) = (bs n ++ cat bs t) ++ cat bs m; rw [ih, List.append_assoc]
theorem cat_map (bs : Nat → Byt) : ∀ (l : List Nat), cat bs l = (l.map bs).flatten := by
  intro l
  induction l with
  | nil => rfl
  | cons n t ih => show bs n ++ cat bs t = _; rw [ih]; simp
theorem cat_len {bs : Nat → Byt} : ∀ {l : List Nat}, (∀ n, n ∈ l → 1 ≤ (bs n).length) → l.length ≤ (cat bs l).length := by
  intro l
  induction l with
  | nil => intro _; exact Nat.zero_le _
  | cons n t ih =>
    intro h
    have h1 := ih (fun m hm => h m (by simp [hm]))
    have h2 := h n (by simp)
    show t.length + 1 ≤ (bs n ++ cat bs t).length
    rw [List.length_append]
    omega
theorem Asg.facts : ∀ {ps : List Byt} {us : Nat → Nat} {bs : Nat → Byt} {R : Nat} {ns : List Nat} {us' : Nat → Nat} {bs' : Nat → Byt} {R' : Nat} {ok : Bool}, Asg ps us bs R ns us' bs' R' ok → us' = uAdd us ns ∧ (∀ n, 0 < us n → bs' n = bs n) ∧ (∀ n, n ∈ ns → n < 400) ∧ (ok = true → ns.map bs' = ps) := by
  intro ps
  induction ps with
  | nil =>
    rintro us bs R ns us' bs' R' ok ⟨rfl, rfl, rfl, rfl, rfl⟩
    exact ⟨(uAdd_nil _).symm, fun _ _ => rfl, fun n hn => by simp at hn, fun _ => rfl⟩
  | cons p ps ih =>
    rintro us bs R ns us' bs' R' ok (⟨_, rfl, rfl, rfl, rfl, rfl⟩ | ⟨n, t, hn, rfl, hA⟩)
    · exact ⟨(uAdd_nil _).symm, fun _ _ => rfl, fun n hn => by simp at hn, fun q => by cases q⟩
    · obtain ⟨h1, h2, h3, h4⟩ := ih hA
      refine ⟨by rw [h1, uAdd_cons], fun m hm => ?_, fun m hm => ?_, fun q => ?_⟩
      · rw [h2 m (by by_cases z : m = n
                     · subst z; rw [va_up_self]; omega
                     · rw [va_up_ne _ _ z]; exact hm)]
        by_cases z : m = n
        · subst z
          rw [va_up_self]
          rcases num_cases us bs p with ⟨i, e1, i1, i2, i3, i4⟩ | ⟨_, ⟨i, e1, i1, i2, i3⟩ | ⟨e1, i1⟩⟩
          · rw [hn] at e1; cases e1; exact i3.symm
          · rw [hn] at e1; cases e1; omega
          · rw [hn] at e1; cases e1
        · rw [va_up_ne _ _ z]
      · rcases List.mem_cons.mp hm with z | z
        · subst z; exact num_lt hn
        · exact h3 m z
      · rw [List.map_cons, h4 q, h2 n (by rw [va_up_self]; omega), va_up_self]
theorem cnt_mono {us us' : Nat → Nat} (h : ∀ n, us n ≤ us' n) : cnt us ≤ cnt us' := by
  refine sumTo_le (fun n hn => ?_)
  have := h n
  by_cases q : 0 < us n
  · rw [if_pos q, if_pos (by omega)]
    exact Nat.le_refl _
  · rw [if_neg q]
    exact Nat.zero_le _
theorem cnt_le (us : Nat → Nat) : cnt us ≤ 400 := by
  have h : cnt us ≤ sumTo (fun _ => 1) 400 := sumTo_le (fun n hn => by by_cases q : 0 < us n <;> simp [q])
  rw [sumTo_const] at h
  omega
/-- what holds of the abstract state -/
def AB (us : Nat → Nat) (bs : Nat → Byt) (fl : Nat → List Nat) (hd : Byt) (b l m : Nat) : Prop :=
  (∀ n, us n = sumTo (fun f => (fl f).count n) 16) ∧ (∀ f, f < 16 → (∀ n, n ∈ fl f → n < 400) ∧ (cat bs (fl f)).length ≤ 1500) ∧ hd.length ≤ 1500 ∧ 1 ≤ b ∧ b ≤ 8 ∧ 1 ≤ l ∧ l ≤ 32 ∧ l ≤ m ∧ m ≤ 64
theorem AB.cnt {us : Nat → Nat} {bs : Nat → Byt} {fl : Nat → List Nat} {hd : Byt} {b l m : Nat} (h : AB us bs fl hd b l m) {f : Nat} (hf : f < 16) (n : Nat) : (fl f).count n ≤ us n := by
  rw [h.1 n]
  exact sumTo_mem (f := fun f => (fl f).count n) hf
theorem AB.pos {us : Nat → Nat} {bs : Nat → Byt} {fl : Nat → List Nat} {hd : Byt} {b l m : Nat} (h : AB us bs fl hd b l m) {f : Nat} (hf : f < 16) {n : Nat} (hn : n ∈ fl f) : 0 < us n := by
  have h1 := h.cnt hf n
  have h2 := List.count_pos_iff.mpr hn
  omega
/-- the new state behind a file's filling -/
theorem AB.fill {us : Nat → Nat} {bs : Nat → Byt} {fl : Nat → List Nat} {hd hd' : Byt} {b l m : Nat} (h : AB us bs fl hd b l m) {f : Nat} (hf : f < 16) {ns : List Nat} {bs' : Nat → Byt} (h1 : ∀ n, 0 < us n → bs' n = bs n) (h2 : ∀ n, n ∈ ns → n < 400) (h3 : (cat bs' ns).length ≤ 1500) (h4 : hd'.length ≤ 1500) : AB (uSub (uAdd us ns) (fl f)) bs' (va_up fl f ns) hd' b l m := by
  refine ⟨fun n => ?_, fun g hg => ?_, h4, h.2.2.2⟩
  · have e := sumTo_one (f := fun g => (fl g).count n) (g := fun g => (va_up fl f ns g).count n) hf (fun i _ hi => by simp only [va_up_ne _ _ hi])
    simp only [va_up_self] at e
    rw [← h.1 n] at e
    have := h.cnt hf n
    unfold uSub uAdd
    omega
  · by_cases q : g = f
    · subst q; rw [va_up_self]; exact ⟨h2, h3⟩
    · rw [va_up_ne _ _ q, cat_congr (fun n hn => h1 n (h.pos hg hn))]
      exact h.2.1 g hg
theorem count_le_len (l : List Nat) (n : Nat) : l.count n ≤ l.length := List.count_le_length
