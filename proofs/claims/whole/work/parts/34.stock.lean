/-! pure: the class's stock, method by method -/
theorem phs_n {v : gV} {us : Nat → Nat} {n : Nat} (hU : CU v us) (hn : n < 400) : phs v (nI n) = if 0 < us n then 1 else 0 := by
  obtain ⟨h1, h2⟩ := hU n hn
  unfold phs
  rw [if_neg (nI_pos (by omega)), if_neg (show ¬ (400 : Int32) ≤ nI n from fun q => by have := (nI_leI (a := 400) (by omega) (by omega)).mp q; omega), pk_cl n, h1]
  by_cases q : 0 < us n
  · rw [if_pos q, if_neg (nI_nle q (by omega))]
  · rw [if_neg q, show us n = 0 by omega, if_pos (by decide)]
theorem phs_p {v : gV} {us : Nat → Nat} {n : Nat} (hU : CU v us) (hn : n < 400) (h : 0 < us n) : phs v (nI n) = 1 := by rw [phs_n hU hn, if_pos h]
theorem phs_m1 (v : gV) : phs v (-1) = 0 := rfl
theorem plo_p {ln : Nat → Nat} {v : gV} {us : Nat → Nat} {bs : Nat → Byt} {n : Nat} (h : CS ln v us bs) (hn : n < 400) (hu : 0 < us n) : plo v (nI n) = nI (bs n).length := by
  unfold plo
  rw [phs_p h.2.1 hn hu, if_neg (by decide), pk_cl n]
  exact (h.2.2.1 n hn hu).1
theorem w_sameBytes {ln : Nat → Nat} {v : gV} {us : Nat → Nat} {bs : Nat → Byt} {r a m : Nat} {p : Byt} {post : Int32 → gV → Prop} (hS : CS ln v us bs) (hm : m < 400) (hu : 0 < us m) (hlen : (bs m).length = p.length) (hr : a + p.length ≤ ln r) (hrl : ln r ≤ 1500) (hp : ∀ i, i < p.length → v r (a + i) = p.getD i 0) (h1 : bs m = p → post 1 v) (h0 : bs m ≠ p → post 0 v) : wp_X2_sameBytes ln v (nI m) r (nI a) post := by
  obtain ⟨b1, b2, b3, b4, b5, b6⟩ := hS.2.2.1 m hm hu
  have l9 : ln 9 = 400 := hS.1.2.1
  have l13 : ln 13 ≤ 25600 := hS.1.2.2.2.2.2.2
  unfold wp_X2_sameBytes
  refine ⟨fun n x1 => ∃ i, i ≤ p.length ∧ n = p.length - i ∧ x1 = nI i ∧ ∀ j, j < i → (bs m).getD j 0 = p.getD j 0, ⟨p.length, 0, Nat.zero_le _, rfl, rfl, fun j hj => by omega⟩, ?_⟩
  rintro n x1 ⟨i, hi, rfl, rfl, hs⟩
  rw [pk_cl m, b1, hlen, l9]
  refine ⟨pk_in m _ (by omega), ?_⟩
  refine pk_le p.length i (fun q => ?_) (fun q => ?_)
  · exact ⟨nz1, h1 (lext hlen (fun j hj => hs j (by omega)))⟩
  · have e1 : nI m * 64 + nI i = nI (m * 64 + i) := by rw [show (64 : Int32) = nI 64 from rfl, pk_mul, nI_add]
    rw [e1, nI_add, pk_cl (m * 64 + i), pk_cl (a + i), b6 i (by omega), hp i (by omega)]
    refine ⟨pk_in (m * 64 + i) _ (by omega), pk_in (a + i) _ (by omega), fun z => ?_, fun z => ?_⟩
    · refine ⟨p.length - (i + 1), by omega, i + 1, by omega, rfl, nI_1 i, fun j hj => ?_⟩
      by_cases y : j = i
      · rw [y]; exact z
      · exact hs j (by omega)
    · exact ⟨nz0, h0 (fun y => z (by rw [y]))⟩
theorem w_find {ln : Nat → Nat} {v : gV} {us : Nat → Nat} {bs : Nat → Byt} {r a : Nat} {p : Byt} {post : Int32 → gV → Prop} (hS : CS ln v us bs) (hpl : p.length ≤ 64) (hr : a + p.length ≤ ln r) (hrl : ln r ≤ 1500) (hp : ∀ i, i < p.length → v r (a + i) = p.getD i 0) (h1 : ∀ n, n < 400 → 0 < us n → bs n = p → post (nI n) v) (h0 : (∀ n, n < 400 → ¬ (0 < us n ∧ bs n = p)) → post (-1) v) : wp_X2_find ln v (hL p) r (nI a) (nI p.length) post := by
  obtain ⟨hl, hU, hB, -, -, -, -, -, ch, hch⟩ := id hS
  obtain ⟨c1, c2⟩ := hC_spec p
  obtain ⟨k1, k2, k3⟩ := hch (hC p) c2
  have hlen : (ch (hC p)).length ≤ 400 := nd_len 400 _ k2 (fun n hn => ((k3 n).mp hn).1)
  unfold wp_X2_find
  rw [c1, hl.2.2.2.2.1, hl.1, hl.2.2.1, hl.2.1, hl.2.2.2.1]
  refine ⟨pk_in (hC p) _ c2, ?_⟩
  intro x2 e2
  rw [pk_cl (hC p)] at e2
  refine ⟨fun n x3 x4 v5 => ∃ l1 l2, ch (hC p) = l1 ++ l2 ∧ lk (v 11) x3 l2 ∧ x4 = nI l1.length ∧ v5 = v ∧ n = 401 - l1.length ∧ ∀ m, m ∈ l1 → bs m ≠ p, ⟨401, [], ch (hC p), rfl, by rw [e2]; exact k1, rfl, rfl, rfl, fun m hm => by simp at hm⟩, ?_⟩
  rintro n x3 x4 v5 ⟨l1, l2, hl12, hlk, rfl, rfl, rfl, hne⟩
  have hll : l1.length + l2.length ≤ 400 := by rw [hl12, List.length_append] at hlen; exact hlen
  have hend : l2 = [] → post (-1) v5 := by
    rintro rfl
    rw [List.append_nil] at hl12
    refine h0 (fun m hm q => ?_)
    have : m ∈ ch (hC p) := (k3 m).mpr ⟨hm, q.1, by rw [q.2]⟩
    exact hne m (hl12 ▸ this) q.2
  refine pk_le 400 l1.length (fun q => hend (List.eq_nil_of_length_eq_zero (by omega))) (fun q => ⟨rfl, ?_⟩)
  cases l2 with
  | nil =>
    have : x3 = -1 := hlk
    subst this
    exact ⟨fun _ => hend rfl, fun z => absurd (phs_m1 v5) z⟩
  | cons m t =>
    obtain ⟨rfl, hlk⟩ := hlk
    obtain ⟨m1, m2, m3⟩ := (k3 m).mp (by rw [hl12]; simp)
    obtain ⟨b1, b2, b3, b4, b5, b6⟩ := hB m m1 m2
    have hcont : bs m ≠ p → ∃ n', n' < 401 - l1.length ∧ ∃ l1' l2', ch (hC p) = l1' ++ l2' ∧ lk (v5 11) (v5 11 m) l2' ∧ nI l1.length + 1 = nI l1'.length ∧ v5 = v5 ∧ n' = 401 - l1'.length ∧ ∀ m, m ∈ l1' → bs m ≠ p := by
      intro z
      refine ⟨401 - (l1 ++ [m]).length, by simp; omega, l1 ++ [m], t, by rw [hl12]; simp, hlk, by simp [nI_1], rfl, rfl, fun j hj => ?_⟩
      rcases List.mem_append.mp hj with y | y
      · exact hne j y
      · rw [List.mem_singleton.mp y]; exact z
    rw [phs_p hU m1 m2, pk_cl m, b5, b1]
    refine ⟨fun z => absurd z (by decide), fun _ => ⟨pk_in m _ (by omega), fun z => ⟨pk_in m _ (by omega), ?_⟩, fun z => ⟨pk_in m _ (by omega), hcont (fun y => z (by rw [y]))⟩⟩⟩
    refine pk_eq (bs m).length p.length (fun y => ?_) (fun y => ⟨pk_in m _ (by omega), hcont (fun x => y (by rw [x]))⟩)
    refine w_sameBytes hS m1 m2 y hr hrl hp (fun x => ⟨fun w => absurd w (by decide), fun _ => h1 m m1 m2 x⟩) (fun x => ⟨fun _ => ⟨pk_in m _ (by omega), hcont x⟩, fun w => absurd rfl w⟩)
theorem w_useAgain {ln : Nat → Nat} {v : gV} {us : Nat → Nat} {bs : Nat → Byt} {n : Nat} {post : gV → Prop} (hS : CS ln v us bs) (hn : n < 400) (hu : 0 < us n) (hb : us n + 1 < 2 ^ 30) (h : ∀ v', Fr [8] v v' → CS ln v' (va_up us n (us n + 1)) bs → post v') : wp_X2_useAgain ln v (nI n) post := by
  unfold wp_X2_useAgain
  obtain ⟨hl, hU, hB, hF, hI, hO, h7, h8, ch, hch⟩ := id hS
  refine ⟨hl.1, fun z => absurd z (by rw [phs_p hU hn hu]; decide), fun _ => ?_⟩
  rw [hl.1, pk_cl n, (hU n hn).1, nI_1]
  refine ⟨pk_in n _ (by omega), pk_in n _ (by omega), ?_⟩
  intro v5 e5
  have hpos : ∀ m, (0 < va_up us n (us n + 1) m) ↔ 0 < us m := by
    intro m
    by_cases q : m = n
    · subst q; rw [va_up_self]; omega
    · rw [va_up_ne _ _ q]
  have hF5 : Fr [8] v v5 := by rw [e5]; exact Fr.up (by simp)
  refine h v5 hF5 ⟨hl, ?_, ?_, ?_, ?_, ?_, ?_, ?_, ch, ?_⟩
  · intro m hm
    rw [e5, va_up_self]
    by_cases q : m = n
    · subst q; rw [pk_us, va_up_self]; exact ⟨rfl, hb⟩
    · rw [pk_un q, va_up_ne _ _ q]; exact hU m hm
  · intro m hm hp
    rw [hF5 9 (by simp), hF5 10 (by simp), hF5 13 (by simp)]
    exact hB m hm ((hpos m).mp hp)
  · intro i hi; rw [hF5 13 (by simp)]; exact hF i hi
  · intro i j hi hj pi pj e; exact hI i j hi hj ((hpos i).mp pi) ((hpos j).mp pj) e
  · obtain ⟨lo, o1, o2, o3⟩ := hO
    exact ⟨lo, by rw [hF5 2 (by simp)]; exact o1, o2, fun m hm => (hpos m).mpr (o3 m hm)⟩
  · rw [hF5 2 (by simp), h7]
    have : cnt us = cnt (va_up us n (us n + 1)) := sumTo_congr (fun m _ => by simp only [hpos m])
    rw [this]
  · rw [hF5 2 (by simp), h8]
    have : tot us bs = tot (va_up us n (us n + 1)) bs := sumTo_congr (fun m _ => by simp only [hpos m])
    rw [this]
  · intro c hc
    rw [hF5 11 (by simp), hF5 12 (by simp)]
    refine ⟨(hch c hc).1, (hch c hc).2.1, fun m => ?_⟩
    rw [(hch c hc).2.2 m, hpos m]
theorem upd_id (f : Nat → Int32) (k : Nat) : upd f k (f k) = f := by
  funext j
  unfold upd
  by_cases q : j = k
  · rw [if_pos q, q]
  · rw [if_neg q]
theorem upd_upd (f : Nat → Int32) (k : Nat) (x y : Int32) : upd (upd f k x) k y = upd f k y := by
  funext j
  unfold upd
  by_cases q : j = k
  · rw [if_pos q, if_pos q]
  · rw [if_neg q, if_neg q, if_neg q]
theorem vu_vu {α : Type} (f : Nat → α) (k : Nat) (x y : α) : va_up (va_up f k x) k y = va_up f k y := by
  funext j
  unfold va_up
  by_cases q : j = k
  · rw [if_pos q, if_pos q]
  · rw [if_neg q, if_neg q, if_neg q]
theorem w_leastFree {ln : Nat → Nat} {v : gV} {us : Nat → Nat} {bs : Nat → Byt} {post : Int32 → gV → Prop} (hS : CS ln v us bs) (h1 : ∀ n, n < 400 → us n = 0 → (∀ m, m < n → 0 < us m) → post (nI n) (va_up v 2 (upd (v 2) 6 (nI n)))) (h0 : (∀ n, n < 400 → 0 < us n) → post (-1) (va_up v 2 (upd (v 2) 6 (nI 400)))) : wp_X2_leastFree ln v post := by
  obtain ⟨hl, hU, hB, hF, hI, ⟨lo, o1, o2, o3⟩, -⟩ := id hS
  unfold wp_X2_leastFree
  rw [hl.1]
  refine ⟨fun n v1 => ∃ k, k ≤ 400 ∧ n = 400 - k ∧ v1 = va_up v 2 (upd (v 2) 6 (nI k)) ∧ ∀ m, m < k → 0 < us m, ⟨400 - lo, lo, o2, rfl, by rw [← o1, upd_id, va_up_id], o3⟩, ?_⟩
  rintro n v1 ⟨k, hk, rfl, rfl, hb⟩
  have e6 : va_up v 2 (upd (v 2) 6 (nI k)) 2 6 = nI k := by rw [va_up_self, pk_us]
  have e8 : va_up v 2 (upd (v 2) 6 (nI k)) 8 = v 8 := va_up_ne _ _ (by decide)
  rw [e6, e8, pk_cl k]
  refine pk_le 400 k (fun q => ?_) (fun q => ?_)
  · rw [if_pos (show (400 : Int32) ≤ nI k by rw [show k = 400 by omega]; decide), show k = 400 by omega]
    exact h0 (fun m hm => hb m (by omega))
  · rw [if_neg (show ¬ (400 : Int32) ≤ nI k from fun z => by have := (nI_leI (a := 400) (by omega) (by omega)).mp z; omega), (hU k q).1]
    refine ⟨pk_in k _ q, ?_⟩
    have := (hU k q).2
    refine pk_le (us k) 0 (fun z => h1 k q (by omega) hb) (fun z => ?_)
    intro v9 e9
    refine ⟨400 - (k + 1), by omega, k + 1, by omega, rfl, ?_, fun m hm => ?_⟩
    · rw [e9, va_up_self, vu_vu, upd_upd, nI_1]
    · by_cases y : m = k
      · rw [y]; exact z
      · exact hb m (by omega)
