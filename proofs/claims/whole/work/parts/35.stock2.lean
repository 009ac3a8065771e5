/-! pure: the class's stock: unchain, giveBack, add, take -/
theorem w_unchain {ln : Nat → Nat} {v : gV} {us : Nat → Nat} {n c : Nat} {l : List Nat} {post : gV → Prop} (hl : CL ln) (hU : CU v us) (hn : n < 400) (hc : c < 512) (hh : v 10 n &&& 511 = nI c) (hlk : lk (v 11) (v 12 c) l) (hd : l.Nodup) (hmem : n ∈ l) (hl4 : ∀ m, m ∈ l → m < 400) (hus : ∀ m, m ∈ l → m ≠ n → 0 < us m)
    (h : ∀ (v' : gV) (l' : List Nat), Fr [11, 12] v v' → lk (v' 11) (v' 12 c) l' → l'.Nodup → (∀ j, j ∈ l' ↔ j ∈ l ∧ j ≠ n) → (∀ c', c' ≠ c → v' 12 c' = v 12 c') → (∀ m, m ∉ l → v' 11 m = v 11 m) → post v') : wp_X2_unchain ln v (nI n) post := by
  have hlen : l.length ≤ 400 := nd_len 400 l hd hl4
  unfold wp_X2_unchain
  rw [hl.2.2.1, hl.2.2.2.1, hl.2.2.2.2.1, hl.1, pk_cl n, hh]
  refine ⟨pk_in n _ hn, ?_⟩
  intro x2 e2
  subst e2
  rw [pk_cl c]
  refine ⟨pk_in c _ hc, fun q => ⟨pk_in n _ hn, pk_in c _ hc, ?_⟩, fun q => ⟨pk_in c _ hc, ?_⟩⟩
  · intro v20 e20
    cases l with
    | nil => cases hmem
    | cons m t =>
      have e1 : nI n = nI m := q.symm.trans hlk.1
      have h4 := hl4 m (by simp)
      have : n = m := (nI_eq (by omega) (by omega)).mp e1
      subst this
      have hd2 := List.nodup_cons.mp hd
      refine h v20 t (by rw [e20]; exact Fr.up (by simp)) ?_ hd2.2 (fun j => ?_) (fun c' hc' => ?_) (fun m _ => ?_)
      · rw [e20, va_up_ne _ _ (by decide), va_up_self, pk_us]
        exact hlk.2
      · constructor
        · intro hj; exact ⟨by simp [hj], fun z => hd2.1 (z ▸ hj)⟩
        · rintro ⟨h1, h2⟩
          rcases List.mem_cons.mp h1 with z | z
          · exact absurd z h2
          · exact z
      · rw [e20, va_up_self, pk_un hc']
      · rw [e20, va_up_ne _ _ (by decide)]
  · refine ⟨fun k x6 x7 => ∃ (p : List Nat) (m : Nat) (t : List Nat), l = p ++ m :: t ∧ m ≠ n ∧ n ∈ t ∧ x6 = nI m ∧ lk (v 11) (v 11 m) t ∧ x7 = nI p.length ∧ k = 400 - p.length, ?_, ?_⟩
    · cases l with
      | nil => cases hmem
      | cons m t =>
        have hmn : m ≠ n := by
          rintro rfl
          exact q hlk.1
        refine ⟨400, [], m, t, rfl, hmn, ?_, hlk.1, hlk.2, rfl, rfl⟩
        rcases List.mem_cons.mp hmem with z | z
        · exact absurd z.symm hmn
        · exact z
    · rintro k x6 x7 ⟨p, m, t, rfl, hmn, hnt, rfl, hlt, rfl, rfl⟩
      have hpl : p.length + 1 < 400 := by
        have h1 : 0 < t.length := List.length_pos_of_mem hnt
        simp at hlen
        omega
      have hm4 := hl4 m (by simp)
      rw [phs_p hU hm4 (hus m (by simp) hmn), pk_cl m]
      refine pk_le 400 p.length (fun z => by omega) (fun z => ⟨rfl, fun y => absurd y (by decide), fun _ => ⟨pk_in m _ hm4, fun y => ⟨pk_in n _ hn, pk_in m _ hm4, ?_⟩, fun y => ⟨pk_in m _ hm4, ?_⟩⟩⟩)
      · intro v17 e17
        cases t with
        | nil => cases hnt
        | cons t0 t' =>
          have h4 := hl4 t0 (by simp)
          have : n = t0 := (nI_eq (by omega) (by omega)).mp (y.symm.trans hlt.1)
          subst this
          refine h v17 (p ++ m :: t') (by rw [e17]; exact Fr.up (by simp)) ?_ ?_ (fun j => ?_) (fun c' _ => ?_) (fun j hj => ?_)
          · rw [e17, va_up_self, va_up_ne _ _ (by decide)]
            exact lk_splice hd hlk
          · refine hd.sublist ?_
            exact List.Sublist.append (List.Sublist.refl p) (List.Sublist.cons_cons m (List.sublist_cons_self n t'))
          · have hdn : n ∉ p ∧ n ∉ t' := by
              rw [List.nodup_append] at hd
              refine ⟨fun z => hd.2.2 n z n (by simp) rfl, fun z => ?_⟩
              have := (List.nodup_cons.mp (List.nodup_cons.mp hd.2.1).2).1
              exact this z
            simp only [List.mem_append, List.mem_cons]
            constructor
            · rintro (z | z | z)
              · exact ⟨Or.inl z, fun w => hdn.1 (w ▸ z)⟩
              · exact ⟨Or.inr (Or.inl z), fun w => hmn (z ▸ w)⟩
              · exact ⟨Or.inr (Or.inr (Or.inr z)), fun w => hdn.2 (w ▸ z)⟩
            · rintro ⟨z | z | z | z, w⟩
              · exact Or.inl z
              · exact Or.inr (Or.inl z)
              · exact absurd z w
              · exact Or.inr (Or.inr z)
          · rw [e17, va_up_ne _ _ (by decide)]
          · rw [e17, va_up_self, pk_un (fun z => hj (by rw [z]; simp))]
      · cases t with
        | nil => cases hnt
        | cons t0 t' =>
          have h0n : t0 ≠ n := by
            rintro rfl
            exact y hlt.1
          refine ⟨400 - (p ++ [m]).length, by simp; omega, p ++ [m], t0, t', by simp, h0n, ?_, hlt.1, hlt.2, by simp [nI_1], rfl⟩
          rcases List.mem_cons.mp hnt with z | z
          · exact absurd z.symm h0n
          · exact z
theorem CS.us8 {ln : Nat → Nat} {v v' : gV} {us us' : Nat → Nat} {bs : Nat → Byt} (hS : CS ln v us bs) (hF5 : Fr [8] v v') (hU' : CU v' us') (hpos : ∀ m, m < 400 → (0 < us' m ↔ 0 < us m)) : CS ln v' us' bs := by
  obtain ⟨hl, hU, hB, hF, hI, hO, h7, h8, ch, hch⟩ := id hS
  refine ⟨hl, hU', ?_, ?_, ?_, ?_, ?_, ?_, ch, ?_⟩
  · intro m hm hp
    rw [hF5 9 (by simp), hF5 10 (by simp), hF5 13 (by simp)]
    exact hB m hm ((hpos m hm).mp hp)
  · intro i hi; rw [hF5 13 (by simp)]; exact hF i hi
  · intro i j hi hj pi pj e; exact hI i j hi hj ((hpos i hi).mp pi) ((hpos j hj).mp pj) e
  · obtain ⟨lo, o1, o2, o3⟩ := hO
    exact ⟨lo, by rw [hF5 2 (by simp)]; exact o1, o2, fun m hm => (hpos m (by omega)).mpr (o3 m hm)⟩
  · rw [hF5 2 (by simp), h7]
    have : cnt us = cnt us' := sumTo_congr (fun m hm => by simp only [hpos m hm])
    rw [this]
  · rw [hF5 2 (by simp), h8]
    have : tot us bs = tot us' bs := sumTo_congr (fun m hm => by simp only [hpos m hm])
    rw [this]
  · intro c hc
    rw [hF5 11 (by simp), hF5 12 (by simp)]
    refine ⟨(hch c hc).1, (hch c hc).2.1, fun m => ?_⟩
    rw [(hch c hc).2.2 m]
    constructor
    · rintro ⟨a, b, d⟩; exact ⟨a, (hpos m a).mpr b, d⟩
    · rintro ⟨a, b, d⟩; exact ⟨a, (hpos m a).mp b, d⟩
theorem CU.up {v : gV} {us : Nat → Nat} {n x : Nat} (hU : CU v us) (hx : x < 2 ^ 30) : CU (va_up v 8 (upd (v 8) n (nI x))) (va_up us n x) := by
  intro m hm
  rw [va_up_self]
  by_cases q : m = n
  · subst q; rw [pk_us, va_up_self]; exact ⟨rfl, hx⟩
  · rw [pk_un q, va_up_ne _ _ q]; exact hU m hm
theorem w_giveBack1 {ln : Nat → Nat} {v : gV} {us : Nat → Nat} {bs : Nat → Byt} {n : Nat} {post : gV → Prop} (hS : CS ln v us bs) (hn : n < 400) (hu : 0 < us n) (h : ∀ v', Fr [2, 8, 11, 12] v v' → CS ln v' (va_up us n (us n - 1)) bs → post v') : wp_X2_giveBack ln v (nI n) post := by
  obtain ⟨hl, hU, hB, hF, hI, hO, h7, h8, ch, hch⟩ := id hS
  have hu30 := (hU n hn).2
  unfold wp_X2_giveBack
  refine ⟨hl.1, fun z => absurd z (by rw [phs_p hU hn hu]; decide), fun _ => ?_⟩
  rw [hl.1, pk_cl n, (hU n hn).1, show (1 : Int32) = nI 1 from rfl, pk_sub (show 1 ≤ us n by omega)]
  refine ⟨pk_in n _ hn, pk_in n _ hn, ?_⟩
  intro v5 e5
  have hF5 : Fr [8] v v5 := by rw [e5]; exact Fr.up (by simp)
  have hU5 : CU v5 (va_up us n (us n - 1)) := by rw [e5]; exact hU.up (by omega)
  have e58 : v5 8 n = nI (us n - 1) := by rw [e5, va_up_self, pk_us]
  refine ⟨pk_in n _ hn, ?_⟩
  rw [e58]
  refine pk_eq (us n - 1) 0 (fun q => ?_) (fun q => ?_)
  · have hc0 := hC_spec (bs n)
    obtain ⟨k1, k2, k3⟩ := hch (hC (bs n)) hc0.2
    obtain ⟨b1, b2, b3, b4, b5, b6⟩ := hB n hn hu
    have hz : va_up us n (us n - 1) n = 0 := by rw [va_up_self]; exact q
    refine w_unchain hl hU5 hn hc0.2 (l := ch (hC (bs n))) (by rw [hF5 10 (by simp), b5]; exact hc0.1) (by rw [hF5 11 (by simp), hF5 12 (by simp)]; exact k1) k2 ((k3 n).mpr ⟨hn, hu, rfl⟩) (fun m hm => ((k3 m).mp hm).1) (fun m hm hmn => by rw [va_up_ne _ _ hmn]; exact ((k3 m).mp hm).2.1) ?_
    intro v9 l' hF9 hlk' hd' hmem' hoc hnx v10 e10 v11 e11
    have g9 : v9 2 = v 2 := (hF9 2 (by simp)).trans (hF5 2 (by simp))
    obtain ⟨lo, o1, o2, o3⟩ := hO
    have e10' : v10 = va_up v9 2 (upd (v 2) 6 (nI (min n lo))) := by
      rw [e10, g9, o1]
      by_cases z : n < lo
      · rw [if_pos ((nI_ltI (by omega) (by omega)).mpr z), show min n lo = n by omega]
      · rw [if_neg (fun y => z ((nI_ltI (by omega) (by omega)).mp y)), show min n lo = lo by omega]
    have hcnt : cnt us = cnt (va_up us n (us n - 1)) + 1 := by
      have h1 := sumTo_one (f := fun m => if 0 < us m then 1 else 0) (g := fun m => if 0 < va_up us n (us n - 1) m then 1 else 0) hn (fun i _ hi => by simp only [va_up_ne us _ hi])
      simp only [hz, if_pos hu, Nat.lt_irrefl, if_false] at h1
      unfold cnt
      omega
    have htot : tot us bs = tot (va_up us n (us n - 1)) bs + (bs n).length := by
      have h1 := sumTo_one (f := fun m => if 0 < us m then (bs m).length else 0) (g := fun m => if 0 < va_up us n (us n - 1) m then (bs m).length else 0) hn (fun i _ hi => by simp only [va_up_ne us _ hi])
      simp only [hz, if_pos hu, Nat.lt_irrefl, if_false] at h1
      unfold tot
      omega
    have f10 : v10 2 = upd (v 2) 6 (nI (min n lo)) := by rw [e10', va_up_self]
    have f11 : v11 2 = upd (upd (v 2) 6 (nI (min n lo))) 7 (nI (cnt (va_up us n (us n - 1)))) := by
      rw [e11, va_up_self, f10, pk_un (by decide), h7, pk_sub (by omega)]
      congr 2
      omega
    have f119 : v11 9 = v 9 := by rw [e11, va_up_ne _ _ (by decide), e10', va_up_ne _ _ (by decide), hF9 9 (by simp), hF5 9 (by simp)]
    refine ⟨by rw [hl.2.1]; exact pk_in n _ hn, ?_⟩
    intro v13 e13
    have f13 : v13 2 = upd (upd (upd (v 2) 6 (nI (min n lo))) 7 (nI (cnt (va_up us n (us n - 1))))) 8 (nI (tot (va_up us n (us n - 1)) bs)) := by
      rw [e13, va_up_self, f11, f119, pk_un (by decide), pk_un (by decide), h8, b1, pk_sub (by omega)]
      congr 2
      omega
    have g13 : ∀ k, k ≠ 2 → v13 k = v9 k := fun k hk => by rw [e13, va_up_ne _ _ hk, e11, va_up_ne _ _ hk, e10', va_up_ne _ _ hk]
    have hF13 : Fr [2, 8, 11, 12] v v13 := by
      intro k hk
      simp at hk
      rw [g13 k hk.1, hF9 k (by simp; omega), hF5 k (by simp; omega)]
    refine h v13 hF13 ⟨hl, ?_, ?_, ?_, ?_, ?_, ?_, ?_, ?_⟩
    · intro m hm
      rw [g13 8 (by decide), hF9 8 (by simp)]
      exact hU5 m hm
    · intro m hm hp
      have hmn : m ≠ n := fun z => by rw [z, hz] at hp; omega
      rw [va_up_ne _ _ hmn] at hp
      rw [hF13 9 (by simp), hF13 10 (by simp), hF13 13 (by simp)]
      exact hB m hm hp
    · intro i hi; rw [hF13 13 (by simp)]; exact hF i hi
    · intro i j hi hj pi pj e
      have hin : i ≠ n := fun z => by rw [z, hz] at pi; omega
      have hjn : j ≠ n := fun z => by rw [z, hz] at pj; omega
      rw [va_up_ne _ _ hin] at pi
      rw [va_up_ne _ _ hjn] at pj
      exact hI i j hi hj pi pj e
    · refine ⟨min n lo, by rw [f13, pk_un (by decide), pk_un (by decide), pk_us], by omega, fun m hm => ?_⟩
      rw [va_up_ne _ _ (by omega)]
      exact o3 m (by omega)
    · rw [f13, pk_un (by decide), pk_us]
    · rw [f13, pk_us]
    · refine ⟨va_up ch (hC (bs n)) l', fun c hc => ?_⟩
      rw [g13 11 (by decide), g13 12 (by decide)]
      by_cases z : c = hC (bs n)
      · subst z
        rw [va_up_self]
        refine ⟨hlk', hd', fun m => ?_⟩
        rw [hmem' m, k3 m]
        constructor
        · rintro ⟨⟨a1, a2, a3⟩, a4⟩; exact ⟨a1, by rw [va_up_ne _ _ a4]; exact a2, a3⟩
        · rintro ⟨a1, a2, a3⟩
          have hmn : m ≠ n := fun y => by rw [y, hz] at a2; omega
          rw [va_up_ne _ _ hmn] at a2
          exact ⟨⟨a1, a2, a3⟩, hmn⟩
      · rw [va_up_ne _ _ z]
        obtain ⟨j1, j2, j3⟩ := hch c hc
        refine ⟨?_, j2, fun m => ?_⟩
        · rw [hoc c z]
          refine lk_congr (nx := v5 11) (fun m hm => hnx m (fun y => z ?_)) ?_
          · exact ((j3 m).mp hm).2.2.symm.trans ((k3 m).mp y).2.2
          · rw [hF5 11 (by simp), hF5 12 (by simp)]; exact j1
        · rw [j3 m]
          constructor
          · rintro ⟨a1, a2, a3⟩
            have hmn : m ≠ n := fun y => z (by rw [← a3, y])
            exact ⟨a1, by rw [va_up_ne _ _ hmn]; exact a2, a3⟩
          · rintro ⟨a1, a2, a3⟩
            have hmn : m ≠ n := fun y => by rw [y, hz] at a2; omega
            rw [va_up_ne _ _ hmn] at a2
            exact ⟨a1, a2, a3⟩
  · refine h v5 (hF5.mono (by simp)) (hS.us8 hF5 hU5 (fun m hm => ?_))
    by_cases z : m = n
    · subst z; rw [va_up_self]; omega
    · rw [va_up_ne _ _ z]
