/-! pure: copy -/
variable {ln : Nat → Nat} {v w : gV} {us us0 : Nat → Nat} {bs : Nat → Byt} {fl : Nat → List Nat} {hd : Byt} {b l m : Nat} {ou : Nat → Int64}
set_option maxRecDepth 16384 in
theorem w_copy {f g mc ms : Nat} {post : (Nat → Nat) → gV → Prop} {pex : String → (Nat → Nat) → gV → Prop} (hT : ST ln v us bs fl hd b l m) (hf : f < 16) (hg : g < 16) (hmc : 3 ≤ mc) (hms : 1512 ≤ ms) (h : ∀ ln' v', (∀ k, 46 ≤ k → v' k = v k) → (∀ k, 46 ≤ k → ln' k = ln k) → ln' 13 = ln 13 → CY ln' v' (uSub (uAdd us (fl f)) (fl g)) bs (va_up fl g (fl f)) hd b l m → post ln' v') : wp_X3_copy mc ms ln v (nI f) (nI g) post pex := by
  obtain ⟨hS, hFi, hH, hR⟩ := hT.2.1
  obtain ⟨f1, f2, f3, f4, f5, f6⟩ := hFi f hf
  obtain ⟨g1, g2, g3, g4, g5, g6⟩ := hFi g hg
  unfold wp_X3_copy
  refine ⟨by omega, by omega, w_fAin hf ⟨by omega, by omega, w_fAin hg ?_⟩⟩
  rw [fmod hf, fmod hg, f16, f16]
  refine ⟨fun k x17 v18 => ∃ l1 l2, fl f = l1 ++ l2 ∧ k = l2.length ∧ x17 = nI l1.length ∧ Fr [8] v v18 ∧ CS ln v18 (uAdd us l1) bs, ⟨(fl f).length, [], fl f, rfl, rfl, rfl, Fr.rf, by rw [uAdd_nil]; exact hS⟩, ?_⟩
  rintro k x17 v18 ⟨l1, l2, hl, rfl, rfl, hF, hS18⟩
  have hlen : (fl f).length = l1.length + l2.length := by rw [hl, List.length_append]
  rw [hF (14 + f) (by simp; omega), f4, hF (30 + f) (by simp; omega), hF (14 + g) (by simp; omega), g4]
  refine pk_le (fl f).length l1.length (fun q => ?_) (fun q => ⟨pk_in l1.length _ (by omega), ?_⟩)
  · have : l2 = [] := List.eq_nil_of_length_eq_zero (by omega)
    subst this
    rw [List.append_nil] at hl
    subst hl
    refine w_gbAll hS18 (by simp; omega) g3 g2 (fun k hk => by rw [hF (30 + g) (by simp; omega)]; exact g6 k hk) (hT.1.2.1 g hg).1 (fun n => by have := hT.1.cnt hg n; unfold uAdd; omega) (fun v21 hF21 hS21 => ?_)
    have k21 : ∀ k, k ∉ [2, 8, 11, 12] → v21 k = v k := fun k hk => by rw [hF21 k hk, hF k (by simp at hk ⊢; omega)]
    obtain ⟨n1, n2, n3, n4, n5⟩ := bc_N (ln := ln) (P := 14 + g) (c := (fl f).length) (by rw [f16]; exact g1) (by rw [f16]; exact g2) (by omega)
    refine ⟨(fl f).length, by rw [k21 (14 + f) (by simp; omega)]; exact f4, f3, by omega, g1, g2, by omega, by omega, ?_⟩
    intro ln22 v23 e22 e23
    rw [k21 (14 + f) (by simp; omega), f5] at e23
    obtain ⟨c1, c2, c3, c4⟩ := bc_V (ln := ln) (v := v21) (P := 14 + g) (r := 30 + f) (c := (fl f).length) (x := nI (cat bs (fl f)).length) (by omega) (by
      by_cases z : f = g
      · subst z; exact Or.inr (by rw [f16]; exact f3)
      · exact Or.inl (by omega))
    rw [← e23] at c1 c2 c3 c4
    rw [f16] at c1 c4
    have lk22 : ∀ k, k ≠ 30 + g → ln22 k = ln k := fun k hk => by rw [e22, va_up_ne _ _ hk]
    have big : ∀ k, k ∉ [2, 8, 11, 12] → k ≠ 14 + g → k ≠ 30 + g → v23 k = v k := fun k q1 q2 q3 => by rw [c1 k q2 q3, k21 k q1]
    refine h ln22 v23 (fun k hk => big k (by simp; omega) (by omega) (by omega)) (fun k hk => lk22 k (by omega)) (lk22 13 (by omega)) ⟨?_, ?_, ?_, ?_⟩
    · have hS22 : CS ln22 v21 (uSub (uAdd us (fl f)) (fl g)) bs := hS21.ln (fun k q1 q2 => lk22 k (by omega))
      refine hS22.fr ?_ ?_ ?_ ?_ ?_ ?_ ?_
      all_goals exact c1 _ (by omega) (by omega)
    · intro j hj
      by_cases z : j = g
      · subst z
        rw [va_up_self, e22, va_up_self]
        refine ⟨n1, n2, n3, c2, c3, fun k hk => ?_⟩
        rw [c4 k hk, k21 (30 + f) (by simp; omega)]
        exact f6 k hk
      · rw [va_up_ne _ _ z, lk22 _ (by omega), big (14 + j) (by simp; omega) (by omega) (by omega), big (30 + j) (by simp; omega) (by omega) (by omega)]
        exact hFi j hj
    · refine hH.fr ?_ ?_ ?_ (fun k q1 q2 => lk22 k (by omega))
      all_goals exact big _ (by decide) (by omega) (by omega)
    · exact hR.fr (big 1 (by decide) (by omega) (by omega))
  · cases l2 with
    | nil => simp at hlen; omega
    | cons n t =>
      have hmem : n ∈ fl f := by rw [hl]; simp
      have hn := (hT.1.2.1 f hf).1 n hmem
      have hu := hT.1.pos hf hmem
      have hub := hT.usb n
      have e : v (30 + f) l1.length = nI n := by rw [f6 _ q, hl, gd_mid]
      rw [nI_clamp (by omega), e]
      have hct := List.count_le_length (a := n) (l := l1)
      refine w_useAgain hS18 hn (by unfold uAdd; omega) (by unfold uAdd; omega) (fun v33 hF33 hS33 => ?_)
      exact ⟨t.length, by simp, l1 ++ [n], t, by rw [hl]; simp, rfl, by rw [nI_1, List.length_append]; rfl, hF.tr hF33, by rw [uAdd_snoc]; exact hS33⟩
theorem r_copy {f g : Nat} {post : gV → Prop} (hB : AB us bs fl hd b l m) (hlen : ∀ g, g < 16 → (fl g).length ≤ 1500) (hR : RY ln v us bs fl hd b l m) (hf : f < 16) (hg : g < 16) (hp : pin (nI f) 0 15 = 1) (hq : pin (nI g) 0 15 = 1) (h : ∀ v', (∀ k, k < 46 → v' k = v k) → v' 46 0 = 0 → RY ln v' (uSub (uAdd us (fl f)) (fl g)) bs (va_up fl g (fl f)) hd b l m → post v') : wp_X4_copy ln v (nI f) (nI g) post := by
  obtain ⟨hL, hRA, hRF, hRP⟩ := id hR
  obtain ⟨r1, r2, r3, r4, r5⟩ := id hRA
  obtain ⟨f1, f2, f3, f4⟩ := hRF f hf
  obtain ⟨g1, g2, g3, g4⟩ := hRF g hg
  obtain ⟨l47, l48, l49, l50, l51, l52, l53, l54, l55, l56, l57, l58⟩ := id hL
  have hcl := (hB.2.1 f hf).2
  have hfl := hlen f hf
  unfold wp_X4_copy
  rw [hp, hq, if_neg one0, if_neg one0]
  intro v4 e4
  refine ⟨fun _ => ?_, fun q => absurd prf_0 q⟩
  refine pk_eq f g (fun hfg => ?_) (fun hfg => ?_)
  · subst hfg
    rw [e4]
    refine h _ (fun k hk => vrf_k _ _ _ _ (by omega)) (by rw [vrf_0, ptr_0]) ?_
    rw [uSub_uAdd, vu_id]
    exact hR.vrf 0 0 0
  · have k4 : ∀ k, k ≠ 46 → v4 k = v k := fun k hk => by rw [e4, vrf_k _ _ _ _ hk]
    have j4 : ∀ j, j ≠ 0 → v4 46 j = v 46 j := fun j hj => by rw [e4, vrf_j _ _ _ _ hj]
    rw [l48, l50, l52, l53, l54, l55, nI_clamp (n := f) (by omega)]
    refine ⟨pk_in f _ hf, fun v8 e8 => ⟨pk_in f _ hf, fun v10 e10 => ?_⟩⟩
    have k8 : ∀ k, k ≠ 46 → v8 k = v4 k := fun k hk => by rw [e8, va_up_ne _ _ hk]
    have k10 : ∀ k, k ≠ 46 → v10 k = v k := fun k hk => by rw [e10, va_up_ne _ _ hk, k8 k hk, k4 k hk]
    have j10 : ∀ j, j ≠ 0 → j ≠ 6 → j ≠ 8 → v10 46 j = v 46 j := fun j q1 q2 q3 => by rw [e10, va_up_self, pk_un q3, e8, va_up_self, pk_un q2, j4 j q1]
    have j0 : v10 46 0 = 0 := by rw [e10, va_up_self, pk_un (by decide), e8, va_up_self, pk_un (by decide), e4, vrf_0, ptr_0]
    have j6 : v10 46 6 = nI (cat bs (fl f)).length := by rw [e10, va_up_self, pk_un (by decide), e8, va_up_self, pk_us, k4 52 (by decide), f1]
    have j8 : v10 46 8 = nI (fl f).length := by rw [e10, va_up_self, pk_us, k8 54 (by decide), k4 54 (by decide), f3]
    refine ⟨fun k x11 v12 => ∃ i, i ≤ (cat bs (fl f)).length ∧ k = (cat bs (fl f)).length - i ∧ x11 = nI i ∧ Fr [48] v10 v12 ∧ ∀ j, j < i → v12 48 j = (cat bs (fl f)).getD j 0 &&& 255, ⟨(cat bs (fl f)).length, 0, by omega, rfl, rfl, Fr.rf, fun j hj => by omega⟩, ?_⟩
    rintro k x11 v12 ⟨i, hi, rfl, rfl, hF12, h12⟩
    rw [hF12 46 (by decide), j6, e1500]
    refine pk_le (cat bs (fl f)).length i (fun q => ?_) (fun q => ⟨pk_in (1500 * f + i) _ (by omega), pk_in i _ (by omega), fun v25 e25 => ?_⟩)
    · have hin : i = (cat bs (fl f)).length := by omega
      subst hin
      refine ⟨fun k x14 v15 => ∃ i, i ≤ (fl f).length ∧ k = (fl f).length - i ∧ x14 = nI i ∧ Fr [50] v12 v15 ∧ ∀ j, j < i → v15 50 j = nI ((fl f).getD j 0), ⟨(fl f).length, 0, by omega, rfl, rfl, Fr.rf, fun j hj => by omega⟩, ?_⟩
      rintro k x14 v15 ⟨i, hi, rfl, rfl, hF15, h15⟩
      have e46 : v15 46 = v10 46 := by rw [hF15 46 (by decide), hF12 46 (by decide)]
      rw [e46, j8, e1500]
      have k15 : ∀ k, k ≠ 46 → k ≠ 48 → k ≠ 50 → v15 k = v k := fun k q1 q2 q3 => by rw [hF15 k (by simp; exact q3), hF12 k (by simp; exact q2), k10 k q1]
      refine pk_le (fl f).length i (fun q => ?_) (fun q => ⟨pk_in (1500 * f + i) _ (by omega), pk_in i _ (by omega), fun v21 e21 => ?_⟩)
      · have hin : i = (fl f).length := by omega
        subst hin
        refine w_take4 (us := us) (ms := fl g) hL hg hcl hfl (hlen g hg) (by rw [e46]; exact j6) (by rw [e46]; exact j8) h15 (hB.2.1 f hf).1 (fun n hn => by rw [k15 56 (by decide) (by decide) (by decide)]; exact (hRP n hn).1) (by rw [k15 54 (by decide) (by decide) (by decide)]; exact g3) (fun k hk => by rw [k15 55 (by decide) (by decide) (by decide)]; exact g4 k hk) (hB.2.1 g hg).1 (fun n => hB.cnt hg n) (fun v16 t1 t2 t3 t4 t5 t6 t7 t8 => ?_)
        have e16 : v16 46 = v10 46 := by rw [t1 46 (by decide), e46]
        refine h v16 (fun k hk => by rw [t1 k (by simp; omega), k15 k (by omega) (by omega) (by omega)]) (by rw [e16]; exact j0) ⟨hL, hRA.fr (fun j q1 q2 => by rw [e16]; exact j10 j (by omega) (by omega) (by omega)) (by rw [t1 47 (by decide), k15 47 (by decide) (by decide) (by decide)]), fun a ha => ?_, fun n hn => ?_⟩
        · rw [t3, t4, k15 52 (by decide) (by decide) (by decide), k15 54 (by decide) (by decide) (by decide)]
          by_cases z : a = g
          · subst z
            rw [va_up_self, pk_us, pk_us]
            refine ⟨rfl, fun i hi => ?_, rfl, t7⟩
            rw [t5 i hi, hF15 48 (by decide)]
            exact h12 i hi
          · rw [va_up_ne _ _ z, pk_un z, pk_un z]
            obtain ⟨q1, q2, q3, q4⟩ := hRF a ha
            have cl := (hB.2.1 a ha).2
            have ll := hlen a ha
            refine ⟨q1, fun i hi => ?_, q3, fun k hk => ?_⟩
            · rw [t6 _ (by rcases Nat.lt_or_gt_of_ne z with p | p <;> omega), k15 53 (by decide) (by decide) (by decide)]; exact q2 i hi
            · rw [t8 _ (by rcases Nat.lt_or_gt_of_ne z with p | p <;> omega), k15 55 (by decide) (by decide) (by decide)]; exact q4 k hk
        · rw [t1 57 (by decide), t1 58 (by decide), k15 57 (by decide) (by decide) (by decide), k15 58 (by decide) (by decide) (by decide)]
          refine ⟨t2 n hn, fun hu => (hRP n hn).2 ?_⟩
          rcases Nat.eq_zero_or_pos (us n) with y | y
          · exfalso
            have : (fl f).count n = 0 := by
              have := hB.cnt hf n
              omega
            unfold uSub uAdd at hu
            omega
          · exact y
      · rw [nI_clamp (n := 1500 * f + i) (by omega), nI_clamp (n := i) (by omega), k15 55 (by decide) (by decide) (by decide), f4 i q] at e21
        refine ⟨(fl f).length - (i + 1), by omega, i + 1, by omega, rfl, nI_1 i, hF15.tr (by rw [e21]; exact Fr.up (by simp)), fun j hj => ?_⟩
        rw [e21, va_up_self]
        by_cases z : j = i
        · subst z; rw [pk_us]
        · rw [pk_un z]; exact h15 j (by omega)
    · rw [nI_clamp (n := 1500 * f + i) (by omega), nI_clamp (n := i) (by omega), hF12 53 (by decide), k10 53 (by decide), f2 i q] at e25
      refine ⟨(cat bs (fl f)).length - (i + 1), by omega, i + 1, by omega, rfl, nI_1 i, hF12.tr (by rw [e25]; exact Fr.up (by simp)), fun j hj => ?_⟩
      rw [e25, va_up_self]
      by_cases z : j = i
      · subst z; rw [pk_us]
      · rw [pk_un z]; exact h12 j (by omega)
theorem r_copy0 {a a2 : Int32} {post : gV → Prop} (hp : pin a 0 15 = 0 ∨ pin a2 0 15 = 0) (h : post (vrf v 1 0 0)) : wp_X4_copy ln v a a2 post := by
  have e : (if (pin a 0 15) = 0 then (1 : Int32) else if (pin a2 0 15) = 0 then 1 else 0) = 1 := by
    by_cases q : pin a 0 15 = 0
    · rw [if_pos q]
    · rw [if_neg q]
      rcases hp with z | z
      · exact absurd z q
      · rw [if_pos z]
  unfold wp_X4_copy
  rw [e]
  intro v4 e4
  subst e4
  exact ⟨fun z => absurd z (prf_1 0 0), fun _ => h⟩
theorem pl_copy {a a2 : Int32} {Bk : (Nat → Nat) → gV → (Nat → Int64) → Prop} (hT : ST ln v us bs fl hd b l m) (hBk : ∀ ln2 v2 ou1 us2 bs2 fl2 hd2, ST ln2 v2 us2 bs2 fl2 hd2 b l m → ln2 13 = ln 13 → Bk ln2 v2 ou1) : wp_L_copy 3 1512 ln v ou a a2 (fun k ln1 v1 ou1 => wp_X4_copy ln1 v1 a a2 (fun v2 => v2 46 0 = k ∧ Bk ln1 v2 ou1)) := by
  unfold wp_L_copy
  rcases file_cases a with ⟨f, hf, rfl, hp⟩ | ⟨hp, ho⟩
  · rcases file_cases a2 with ⟨g, hg, rfl, hq⟩ | ⟨hq, ho⟩
    · refine w_copy hT hf hg (Nat.le_refl _) (Nat.le_refl _) (fun ln1 v1 q1 q2 q3 q4 => ?_)
      refine r_copy hT.1 hT.lens (hT.2.2.fr q2 q1) hf hg hp hq (fun v2 p1 p2 p3 => ⟨p2, hBk _ _ _ _ _ _ _ ⟨?_, q4.fr p1, p3⟩ q3⟩)
      exact hT.1.fill hg (fun _ _ => rfl) (hT.1.2.1 f hf).1 (hT.1.2.1 f hf).2 hT.1.2.2.1
    · unfold wp_X3_copy
      refine ⟨by omega, by omega, w_fAin hf ⟨by omega, by omega, w_fAout ho ⟨rfl, ?_⟩⟩⟩
      exact r_copy0 (Or.inr hq) ⟨by rw [vrf_0, ptr_1], hBk _ _ _ _ _ _ _ (hT.vrf 1 0 0) rfl⟩
  · unfold wp_X3_copy
    refine ⟨by omega, by omega, w_fAout ho ⟨rfl, ?_⟩⟩
    exact r_copy0 (Or.inl hp) ⟨by rw [vrf_0, ptr_1], hBk _ _ _ _ _ _ _ (hT.vrf 1 0 0) rfl⟩
