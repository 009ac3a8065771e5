/-! pure: put, begin -/
variable {ln : Nat → Nat} {v : gV} {us : Nat → Nat} {bs : Nat → Byt} {fl : Nat → List Nat} {hd : Byt} {b l m : Nat} {ou : Nat → Int64}
theorem sh8c : ∀ i, i < 32 → 8 ≤ i → (255#32).getLsbD i = false := by decide
theorem sh8b (y : BitVec 32) (s : Nat) (hs : s ≤ 24) : ((y >>> s).signExtend 8).signExtend 32 &&& 255#32 = y.sshiftRight s &&& 255#32 := by
  apply BitVec.eq_of_getLsbD_eq
  intro i hi
  rw [BitVec.getLsbD_and, BitVec.getLsbD_and]
  by_cases h : i < 8
  · congr 1
    rw [BitVec.getLsbD_signExtend, if_pos h, BitVec.getLsbD_signExtend, if_pos hi, BitVec.getLsbD_ushiftRight, BitVec.getLsbD_sshiftRight, if_pos (show s + i < 32 by omega)]
    simp [hi, h, show ¬ 32 ≤ i by omega]
  · rw [sh8c i hi (by omega), Bool.and_false, Bool.and_false]
theorem sh8 (k : Nat) (hk : k < 4) (x : Int32) : (ius x (8 * nI k)).toInt8.toInt32 &&& 255 = (x >>> ((8 * nI k) &&& 31)) &&& 255 := by
  rcases (show k = 0 ∨ k = 1 ∨ k = 2 ∨ k = 3 by omega) with rfl | rfl | rfl | rfl
  all_goals apply Int32.toBitVec_inj.mp
  · exact sh8b x.toBitVec 0 (by decide)
  · exact sh8b x.toBitVec 8 (by decide)
  · exact sh8b x.toBitVec 16 (by decide)
  · exact sh8b x.toBitVec 24 (by decide)
theorem rng_cases (a lo hi : Int32) (p q : Nat) (hlo : lo = nI p) (hhi : hi = nI q) (hp : p < 2 ^ 31) (hq : q < 2 ^ 31) : (∃ n, p ≤ n ∧ n ≤ q ∧ a = nI n ∧ pin a lo hi = 1) ∨ (pin a lo hi = 0 ∧ (a < lo ∨ (¬ a < lo ∧ ¬ a ≤ hi))) := by
  have e1 : lo.toInt = p := by rw [hlo, nI_toInt hp]
  have e2 : hi.toInt = q := by rw [hhi, nI_toInt hq]
  by_cases h1 : a < lo
  · right
    exact ⟨by unfold pin; rw [if_pos h1], Or.inl h1⟩
  by_cases h2 : hi < a
  · right
    refine ⟨by unfold pin; rw [if_neg h1, if_pos h2], Or.inr ⟨h1, fun z => ?_⟩⟩
    rw [Int32.lt_iff_toInt_lt] at h2
    rw [Int32.le_iff_toInt_le] at z
    omega
  · left
    have h3 := h1
    have h4 := h2
    rw [Int32.lt_iff_toInt_lt, e1] at h3
    rw [Int32.lt_iff_toInt_lt, e2] at h4
    obtain ⟨j, hj, rfl⟩ := nI_of (x := a) (by rw [Int32.lt_iff_toInt_lt, Int32.toInt_zero]; omega)
    rw [nI_toInt hj] at h3 h4
    exact ⟨j, by omega, by omega, rfl, by unfold pin; rw [if_neg h1, if_neg h2]⟩
/-- the byte k of a word -/
def bt8 (a : Int32) (k : Nat) : Int32 := (ius a (8 * nI k)).toInt8.toInt32
def hput (hd : Byt) (a : Int32) (n : Nat) : Byt := hd ++ slc (bt8 a) 0 n
theorem hput_len (hd : Byt) (a : Int32) (n : Nat) : (hput hd a n).length = hd.length + n := by unfold hput; rw [List.length_append, slc_len]
theorem hput_lo {hd : Byt} {a : Int32} {n i : Nat} (h : i < hd.length) : (hput hd a n).getD i 0 = hd.getD i 0 := by unfold hput; rw [gd_app _ _ _ _ h]
theorem hput_hi {hd : Byt} {a : Int32} {n k : Nat} (h : k < n) : (hput hd a n).getD (hd.length + k) 0 = bt8 a k := by
  unfold hput
  rw [gd_app_r _ _ _ _ (by omega), Nat.add_sub_cancel_left, slc_get _ _ _ _ h, Nat.zero_add]
theorem w_put {n : Nat} {a2 : Int32} {post : Int32 → gV → Prop} {pex : String → gV → Prop} (hY : CY ln v us bs fl hd b l m) (h1 : 1 ≤ n) (h4 : n ≤ 4) (hl : hd.length + n ≤ 1500) (h : ∀ v', (∀ k, 46 ≤ k → v' k = v k) → CY ln v' us bs fl (hput hd a2 n) b l m → post (nI (hd.length + n)) v') : wp_X3_put ln v (nI n) a2 post pex := by
  obtain ⟨hS, hFi, hH, hR⟩ := id hY
  obtain ⟨l4, l5, l6, l7, hh, hhv, ft4, ft5⟩ := id hH
  unfold wp_X3_put
  rw [hh, nI_add]
  refine ⟨fun z => absurd z (nI_nlt (b := 1) h1 (by omega)), fun _ => ⟨fun _ => ⟨fun _ => ?_, fun z => absurd (nI_le (b := 1500) hl (by decide)) z⟩, fun z => absurd (nI_le (b := 4) h4 (by decide)) z⟩⟩
  refine ⟨fun k x4 v5 => ∃ i, i ≤ n ∧ k = n - i ∧ x4 = nI i ∧ Fr [4] v v5 ∧ (∀ j, j < hd.length → v5 4 j = hd.getD j 0) ∧ (∀ j, j < i → v5 4 (hd.length + j) = bt8 a2 j) ∧ (∀ j, j < 1500 → fits .byte (.int (v5 4 j)) = true), ⟨n, 0, by omega, rfl, rfl, Fr.rf, hhv, fun j hj => by omega, ft4⟩, ?_⟩
  rintro k x4 v5 ⟨i, hi, rfl, rfl, hF, c1, c2, c3⟩
  have e04 : v5 0 4 = nI hd.length := by rw [hF 0 (by decide), hh]
  rw [e04, l4]
  refine pk_le n i (fun q => ?_) (fun q => ?_)
  · have hin : i = n := by omega
    subst hin
    intro v7 e7
    have e74 : v7 0 4 = nI (hd.length + i) := by rw [e7, va_up_self, pk_us, nI_add]
    rw [e74]
    have g7 : ∀ k, k ≠ 0 → v7 k = v5 k := fun k hk => by rw [e7, va_up_ne _ _ hk]
    have big : ∀ k, k ≠ 0 → k ≠ 4 → v7 k = v k := fun k q1 q2 => by rw [g7 k q1, hF k (by simp; exact q2)]
    refine h v7 (fun k hk => big k (by omega) (by omega)) ⟨?_, ?_, ?_, ?_⟩
    · exact hS.fr (big 2 (by decide) (by decide)) (big 8 (by decide) (by decide)) (big 9 (by decide) (by decide)) (big 10 (by decide) (by decide)) (big 11 (by decide) (by decide)) (big 12 (by decide) (by decide)) (big 13 (by decide) (by decide))
    · exact hFi.fr (fun k q1 q2 => big k (by omega) (by omega)) (fun _ _ _ => rfl) (fun _ _ => rfl)
    · refine ⟨l4, l5, l6, l7, by rw [e74, hput_len], fun j hj => ?_, by rw [g7 4 (by decide)]; exact c3, by rw [big 5 (by decide) (by decide)]; exact ft5⟩
      rw [hput_len] at hj
      rw [g7 4 (by decide)]
      by_cases z : j < hd.length
      · rw [hput_lo z]; exact c1 j z
      · have := c2 (j - hd.length) (by omega)
        have e := hput_hi (hd := hd) (a := a2) (n := i) (k := j - hd.length) (by omega)
        rw [show hd.length + (j - hd.length) = j by omega] at this e
        rw [this, e]
    · exact hR.fr (big 1 (by decide) (by decide))
  · rw [nI_add]
    refine ⟨pk_in (hd.length + i) _ (by omega), ?_⟩
    intro v9 e9
    rw [nI_clamp (by omega), pk_vb] at e9
    refine ⟨n - (i + 1), by omega, i + 1, by omega, rfl, nI_1 i, hF.tr (by rw [e9]; exact Fr.up (by simp)), fun j hj => ?_, fun j hj => ?_, fun j hj => ?_⟩
    · rw [e9, va_up_self, pk_un (by omega)]; exact c1 j hj
    · rw [e9, va_up_self]
      by_cases z : j = i
      · subst z; rw [pk_us]; rfl
      · rw [pk_un (by omega)]; exact c2 j (by omega)
    · rw [e9, va_up_self]
      by_cases z : j = hd.length + i
      · subst z; rw [pk_us]; exact pk_fb _
      · rw [pk_un z]; exact c3 j hj
theorem r_put {n : Nat} {a2 : Int32} {post : Int32 → gV → Prop} (hR : RY ln v us bs fl hd b l m) (hp : pin (nI n) 1 4 = 1) (h4 : n ≤ 4) (hl : hd.length + n ≤ 1500) (h : ∀ v', (∀ k, k < 46 → v' k = v k) → v' 46 0 = 0 → RY ln v' us bs fl (hput hd a2 n) b l m → post (nI (hd.length + n)) v') : wp_X4_put ln v (nI n) a2 post := by
  obtain ⟨hL, ⟨r1, r2, r3, r4, r5⟩, hF, hP⟩ := id hR
  unfold wp_X4_put
  have e1 : (v 46 4) + nI n ≤ 1500 := by rw [r4, nI_add]; exact nI_le (b := 1500) hl (by decide)
  rw [hp, if_neg one0, if_neg one0, if_pos e1]
  intro v6 e6
  subst e6
  refine ⟨fun _ => ?_, fun z => absurd prf_0 z⟩
  refine ⟨fun k x8 v9 => ∃ i, i ≤ n ∧ k = n - i ∧ x8 = nI i ∧ Fr [46, 47] v v9 ∧ (∀ j, j ≠ 0 → j ≠ 4 → v9 46 j = v 46 j) ∧ v9 46 0 = 0 ∧ v9 46 4 = nI (hd.length + i) ∧ (∀ j, j < hd.length → v9 47 j = hd.getD j 0 &&& 255) ∧ (∀ j, j < i → v9 47 (hd.length + j) = bt8 a2 j &&& 255), ⟨n, 0, by omega, rfl, rfl, fun k hk => vrf_k _ _ _ _ (by simp at hk; exact hk.1), fun j j0 _ => vrf_j _ _ _ _ j0, by rw [vrf_0, ptr_0], by rw [vrf_j _ _ _ _ (by decide), r4]; rfl, fun j hj => by rw [vrf_k _ _ _ _ (by decide)]; exact r5 j hj, fun j hj => by omega⟩, ?_⟩
  rintro k x8 v9 ⟨i, hi, rfl, rfl, hFr, c1, c0, c4, c5, c6⟩
  rw [c4, hL.1]
  refine pk_le n i (fun q => ?_) (fun q => ⟨pk_in (hd.length + i) _ (by omega), ?_⟩)
  · have hin : i = n := by omega
    subst hin
    refine h v9 (fun k hk => hFr k (by simp; omega)) c0 ⟨hL, ⟨?_, ?_, ?_, ?_, ?_⟩, hF.fr (hFr 52 (by decide)) (hFr 53 (by decide)) (hFr 54 (by decide)) (hFr 55 (by decide)), hP.fr (hFr 56 (by decide)) (hFr 57 (by decide)) (hFr 58 (by decide))⟩
    · rw [c1 1 (by decide) (by decide)]; exact r1
    · rw [c1 2 (by decide) (by decide)]; exact r2
    · rw [c1 3 (by decide) (by decide)]; exact r3
    · rw [c4, hput_len]
    · intro j hj
      rw [hput_len] at hj
      by_cases z : j < hd.length
      · rw [hput_lo z]; exact c5 j z
      · have := c6 (j - hd.length) (by omega)
        have e := hput_hi (hd := hd) (a := a2) (n := i) (k := j - hd.length) (by omega)
        rw [show hd.length + (j - hd.length) = j by omega] at this e
        rw [this, e]
  · intro v12 e12 v13 e13
    rw [nI_clamp (by omega)] at e12
    have g47 : v13 47 = upd (v9 47) (hd.length + i) ((a2 >>> ((8 * nI i) &&& 31)) &&& 255) := by rw [e13, va_up_ne _ _ (by decide), e12, va_up_self]
    have g46 : v12 46 = v9 46 := by rw [e12, va_up_ne _ _ (by decide)]
    refine ⟨n - (i + 1), by omega, i + 1, by omega, rfl, nI_1 i, hFr.tr (Fr.tr (b := v12) (by rw [e12]; exact Fr.up (by simp)) (by rw [e13]; exact Fr.up (by simp))), fun j j0 j4 => ?_, ?_, ?_, fun j hj => ?_, fun j hj => ?_⟩
    · rw [e13, va_up_self, pk_un j4, g46]; exact c1 j j0 j4
    · rw [e13, va_up_self, pk_un (by decide), g46]; exact c0
    · rw [e13, va_up_self, pk_us, g46, c4, nI_1]; rfl
    · rw [g47, pk_un (by omega)]; exact c5 j hj
    · rw [g47]
      by_cases z : j = i
      · subst z; rw [pk_us]; exact (sh8 j (by omega) a2).symm
      · rw [pk_un (by omega)]; exact c6 j (by omega)
theorem r_put2 {n : Nat} {a2 : Int32} {post : Int32 → gV → Prop} (hp : pin (nI n) 1 4 = 1) (hgt : ¬ (v 46 4) + nI n ≤ 1500) (h : post 0 (vrf v 0 1 0)) : wp_X4_put ln v (nI n) a2 post := by
  unfold wp_X4_put
  rw [hp, if_neg one0, if_neg one0, if_neg hgt]
  intro v6 e6
  subst e6
  exact ⟨fun z => absurd z (prf_2 0), fun _ => h⟩
theorem pl_put {a a2 : Int32} {Bk : gV → (Nat → Int64) → Prop} (hT : ST ln v us bs fl hd b l m) (hB : ∀ v2 ou1 hd', ST ln v2 us bs fl hd' b l m → Bk v2 ou1) : wp_L_put ln v ou a a2 (fun k v1 ou1 => wp_X4_put ln v1 a a2 (fun bb v2 => v2 46 0 = k ∧ (k = 0 → ou1 0 = bb.toInt64) ∧ Bk v2 ou1)) := by
  have r4 := hT.2.2.2.1.2.2.2.1
  have hh := hT.2.1.2.2.1.2.2.2.2.1
  unfold wp_L_put
  rcases rng_cases a 1 4 1 4 rfl rfl (by decide) (by decide) with ⟨n, h1, h4, rfl, hp⟩ | ⟨hp, ho⟩
  · by_cases hl : hd.length + n ≤ 1500
    · refine w_put hT.2.1 h1 h4 hl (fun v1 hv1 hY1 => ?_)
      refine r_put (hT.2.2.fr (fun _ _ => rfl) hv1) hp h4 hl (fun v2 hv2 h0 hR2 => ⟨h0, fun _ => by rw [pk_uLs], hB _ _ _ ⟨?_, hY1.fr hv2, hR2⟩⟩)
      exact ⟨hT.1.1, hT.1.2.1, by rw [hput_len]; exact hl, hT.1.2.2.2⟩
    · have hhl := hT.1.2.2.1
      have hgt : ¬ nI hd.length + nI n ≤ 1500 := by rw [nI_add]; exact nI_ge (a := 1500) (by omega) (by omega)
      unfold wp_X3_put
      rw [hh]
      refine ⟨fun z => absurd z (nI_nlt (b := 1) h1 (by omega)), fun _ => ⟨fun _ => ⟨fun z => absurd z hgt, fun _ => Or.inr ⟨rfl, ?_⟩⟩, fun z => absurd (nI_le (b := 4) h4 (by decide)) z⟩⟩
      exact r_put2 hp (by rw [r4]; exact hgt) ⟨by rw [vrf_0, ptr_2], fun z => absurd z (by decide), hB _ _ _ (hT.vrf 0 1 0)⟩
  · have hpex : "java/lang/IllegalArgumentException" = "java/lang/IllegalArgumentException" ∧ wp_X4_put ln v a a2 (fun bb v2 => v2 46 0 = 1 ∧ ((1 : Int32) = 0 → ou 0 = bb.toInt64) ∧ Bk v2 ou) := by
      refine ⟨rfl, ?_⟩
      unfold wp_X4_put
      rw [hp, if_pos rfl, if_pos rfl]
      intro v6 e6
      subst e6
      exact ⟨fun z => absurd z (prf_1 0 0), fun _ => ⟨by rw [vrf_0, ptr_1], fun z => absurd z one0, hB _ _ _ (hT.vrf 1 0 0)⟩⟩
    unfold wp_X3_put
    rcases ho with q | ⟨q1, q2⟩
    · exact ⟨fun _ => Or.inl hpex, fun z => absurd q z⟩
    · exact ⟨fun z => absurd z q1, fun _ => ⟨fun z => absurd z q2, fun _ => Or.inl hpex⟩⟩
theorem CS_empty {v' : gV} (hS : CS ln v us bs) (h8 : ∀ n, n < 400 → v' 8 n = 0) (h12 : ∀ c, c < 512 → v' 12 c = -1) (h26 : v' 2 6 = 0) (h27 : v' 2 7 = 0) (h28 : v' 2 8 = 0) (h13 : v' 13 = v 13) : CS ln v' (fun _ => 0) bs := by
  obtain ⟨q1, q2, q3, q4, -⟩ := hS
  refine ⟨q1, fun n hn => ⟨h8 n hn, show 0 < 2 ^ 30 by decide⟩, fun n hn hu => absurd hu (Nat.lt_irrefl _), fun i hi => by rw [h13]; exact q4 i hi, fun n k hn hk hu => absurd hu (Nat.lt_irrefl _), ⟨0, h26, by omega, fun n hn => by omega⟩, ?_, ?_, fun _ => [], fun c hc => ⟨h12 c hc, List.nodup_nil, fun n => ⟨fun z => by simp at z, fun z => absurd z.2.1 (Nat.lt_irrefl _)⟩⟩⟩
  · rw [h27, show cnt (fun _ => 0) = 0 from by unfold cnt; rw [sumTo_congr (g := fun _ => 0) (fun i _ => by simp), sumTo_const]]
    rfl
  · rw [h28, show tot (fun _ => 0) bs = 0 from by unfold tot; rw [sumTo_congr (g := fun _ => 0) (fun i _ => by simp), sumTo_const]]
    rfl
theorem w_begin {b' l' m' : Nat} {post : gV → Prop} {pex : String → gV → Prop} (hY : CY ln v us bs fl hd b l m) (hb1 : 1 ≤ b') (hb2 : b' ≤ 8) (hl1 : 1 ≤ l') (hl2 : l' ≤ 32) (hm1 : l' ≤ m') (hm2 : m' ≤ 64) (h : ∀ v', (∀ k, 46 ≤ k → v' k = v k) → CY ln v' (fun _ => 0) bs (fun _ => []) hd b' l' m' → post v') : wp_X3_begin ln v (nI b') (nI l') (nI m') post pex := by
  obtain ⟨hS, hFi, hH, hR⟩ := id hY
  obtain ⟨q8, q9, q10, q11, q12, -⟩ := hS.1
  unfold wp_X3_begin
  refine ⟨fun z => absurd z (nI_nlt (b := 1) hb1 (by omega)), fun _ => ⟨fun _ => ⟨fun z => absurd z (nI_nlt (b := 1) hl1 (by omega)), fun _ => ⟨fun _ => ⟨fun z => absurd z (nI_nlt hm1 (by omega)), fun _ => ⟨fun _ => ?_, fun z => absurd (nI_le (b := 64) hm2 (by decide)) z⟩⟩, fun z => absurd (nI_le (b := 32) hl2 (by decide)) z⟩⟩, fun z => absurd (nI_le (b := 8) hb2 (by decide)) z⟩⟩
  unfold wp_X1_setRule
  intro u1 e1 u2 e2 u3 e3
  unfold wp_X2_empty
  refine w_fill (by omega) (fun u4 hF4 h4 => w_fill (by omega) (fun u5 hF5 h5 => ?_))
  intro u6 e6 u7 e7 u8 e8
  have p1 : ∀ k, k ≠ 1 → u3 k = v k := fun k hk => by rw [e3, va_up_ne _ _ hk, e2, va_up_ne _ _ hk, e1, va_up_ne _ _ hk]
  have p8 : ∀ k, k ≠ 2 → u8 k = u5 k := fun k hk => by rw [e8, va_up_ne _ _ hk, e7, va_up_ne _ _ hk, e6, va_up_ne _ _ hk]
  have big : ∀ k, k ≠ 1 → k ≠ 2 → k ≠ 8 → k ≠ 12 → u8 k = v k := fun k z1 z2 z3 z4 => by rw [p8 k z2, hF5 k (by simp; exact z4), hF4 k (by simp; exact z3), p1 k z1]
  have r8 : u8 8 = u4 8 := by rw [p8 8 (by decide), hF5 8 (by decide)]
  have r12 : u8 12 = u5 12 := p8 12 (by decide)
  have r1 : u8 1 = u3 1 := by rw [p8 1 (by decide), hF5 1 (by decide), hF4 1 (by decide)]
  have hS8 : CS ln u8 (fun _ => 0) bs := CS_empty hS (fun n hn => by rw [r8]; exact h4 n (by omega)) (fun c hc => by rw [r12]; exact h5 c (by omega)) (by rw [e8, va_up_self, pk_un (by decide), e7, va_up_self, pk_un (by decide), e6, va_up_self, pk_us]) (by rw [e8, va_up_self, pk_un (by decide), e7, va_up_self, pk_us]) (by rw [e8, va_up_self, pk_us]) (big 13 (by decide) (by decide) (by decide) (by decide))
  have hR8 : CRu u8 b' l' m' := by
    unfold CRu
    rw [r1, e3, va_up_self, e2, va_up_self, e1, va_up_self]
    refine ⟨?_, ?_, pk_us⟩
    · rw [pk_un (by decide), pk_un (by decide), pk_us]; rfl
    · rw [pk_un (by decide), pk_us]
  refine ⟨fun k x11 w => ∃ i, i ≤ 16 ∧ k = 16 - i ∧ x11 = nI i ∧ (∀ k, (k < 14 ∨ 30 ≤ k) → w k = u8 k) ∧ (∀ f, f < i → w (14 + f) 1 = 0 ∧ w (14 + f) 2 = 0), ⟨16, 0, by omega, rfl, rfl, fun _ _ => rfl, fun f hf => by omega⟩, ?_⟩
  rintro k x11 w ⟨i, hi, rfl, rfl, hw, hz⟩
  refine pk_le 16 i (fun q => ?_) (fun q => ⟨pk_in i 16 q, ?_⟩)
  · have hin : i = 16 := by omega
    subst hin
    refine h w (fun k hk => by rw [hw k (by omega)]; exact big k (by omega) (by omega) (by omega) (by omega)) ⟨?_, ?_, ?_, ?_⟩
    · exact hS8.fr (hw 2 (by omega)) (hw 8 (by omega)) (hw 9 (by omega)) (hw 10 (by omega)) (hw 11 (by omega)) (hw 12 (by omega)) (hw 13 (by omega))
    · intro f hf
      obtain ⟨g1, g2, -⟩ := hFi f hf
      exact ⟨g1, g2, Nat.zero_le _, (hz f hf).1, (hz f hf).2, fun k hk => absurd hk (Nat.not_lt_zero _)⟩
    · refine hH.fr ?_ ?_ ?_ (fun _ _ _ => rfl)
      all_goals (rw [hw _ (by omega)]; exact big _ (by decide) (by decide) (by decide) (by decide))
    · exact hR8.fr (hw 1 (by omega))
  · rw [fmod q]
    unfold wp_X0_empty
    intro w1 f1 w2 f2
    have hk : ∀ k, k ≠ 14 + i → w2 k = w k := fun k hk => by rw [f2, va_up_ne _ _ hk, f1, va_up_ne _ _ hk]
    refine ⟨16 - (i + 1), by omega, i + 1, by omega, rfl, nI_1 i, fun k hk2 => by rw [hk k (by omega)]; exact hw k hk2, fun f hf => ?_⟩
    by_cases z : f = i
    · subst z
      rw [f2, va_up_self, f1, va_up_self]
      exact ⟨by rw [pk_un (by decide), pk_us], pk_us⟩
    · rw [hk (14 + f) (by omega)]
      exact hz f (by omega)
theorem r_begin {b' l' m' : Nat} {post : gV → Prop} (hR : RY ln v us bs fl hd b l m) (hp1 : pin (nI b') 1 8 = 1) (hp2 : pin (nI l') 1 32 = 1) (hp3 : pin (nI m') (nI l') 64 = 1) (h : ∀ v', (∀ k, k < 46 → v' k = v k) → v' 46 0 = 0 → RY ln v' (fun _ => 0) bs (fun _ => []) hd b' l' m' → post v') : wp_X4_begin ln v (nI b') (nI l') (nI m') post := by
  obtain ⟨hL, ⟨r1, r2, r3, r4, r5⟩, hF, hP⟩ := id hR
  have l52 := hL.2.2.2.2.2.1
  have l54 := hL.2.2.2.2.2.2.2.1
  have l56 := hL.2.2.2.2.2.2.2.2.2.1
  unfold wp_X4_begin
  intro x5 e5
  rw [hp1, hp2, hp3, if_neg one0, if_neg one0, if_neg one0] at e5
  subst e5
  rw [if_neg one0]
  intro v8 e8
  refine ⟨fun _ => ?_, fun z => absurd prf_0 z⟩
  intro v10 e10 v11 e11 v12 e12
  have k12 : ∀ k, k ≠ 46 → v12 k = v k := fun k hk => by rw [e12, va_up_ne _ _ hk, e11, va_up_ne _ _ hk, e10, va_up_ne _ _ hk, e8, vrf_k _ _ _ _ hk]
  have j0 : v12 46 0 = 0 := by rw [e12, va_up_self, pk_un (by decide), e11, va_up_self, pk_un (by decide), e10, va_up_self, pk_un (by decide), e8, vrf_0, ptr_0]
  have j1 : v12 46 1 = nI b' := by rw [e12, va_up_self, pk_un (by decide), e11, va_up_self, pk_un (by decide), e10, va_up_self, pk_us]
  have j2 : v12 46 2 = nI l' := by rw [e12, va_up_self, pk_un (by decide), e11, va_up_self, pk_us]
  have j3 : v12 46 3 = nI m' := by rw [e12, va_up_self, pk_us]
  have j4 : v12 46 4 = nI hd.length := by rw [e12, va_up_self, pk_un (by decide), e11, va_up_self, pk_un (by decide), e10, va_up_self, pk_un (by decide), e8, vrf_j _ _ _ _ (by decide), r4]
  refine ⟨fun k x13 v14 => ∃ i, i ≤ 16 ∧ k = 16 - i ∧ x13 = nI i ∧ Fr [52, 54] v12 v14 ∧ (∀ f, f < i → v14 52 f = 0 ∧ v14 54 f = 0), ⟨16, 0, by omega, rfl, rfl, Fr.rf, fun f hf => by omega⟩, ?_⟩
  rintro k x13 v14 ⟨i, hi, rfl, rfl, hFr, hz⟩
  rw [l52, l54, l56]
  refine pk_le 16 i (fun q => ?_) (fun q => ⟨pk_in i 16 q, ?_⟩)
  · have hin : i = 16 := by omega
    subst hin
    refine ⟨fun k x16 v17 => ∃ i, i ≤ 400 ∧ k = 400 - i ∧ x16 = nI i ∧ Fr [56] v14 v17 ∧ (∀ n, n < i → v17 56 n = 0), ⟨400, 0, by omega, rfl, rfl, Fr.rf, fun f hf => by omega⟩, ?_⟩
    rintro k x16 v17 ⟨i, hi, rfl, rfl, hF2, hz2⟩
    refine pk_le 400 i (fun q => ?_) (fun q => ⟨pk_in i 400 q, ?_⟩)
    · have hin : i = 400 := by omega
      subst hin
      have k17 : ∀ k, k ≠ 52 → k ≠ 54 → k ≠ 56 → v17 k = v12 k := fun k h1 h2 h3 => by rw [hF2 k (by simp; exact h3), hFr k (by simp; exact ⟨h1, h2⟩)]
      have g46 : v17 46 = v12 46 := k17 46 (by decide) (by decide) (by decide)
      refine h v17 (fun k hk => by rw [k17 k (by omega) (by omega) (by omega), k12 k (by omega)]) (by rw [g46]; exact j0) ⟨hL, ⟨by rw [g46]; exact j1, by rw [g46]; exact j2, by rw [g46]; exact j3, by rw [g46]; exact j4, fun i hi => ?_⟩, fun f hf => ?_, fun n hn => ⟨hz2 n hn, fun z => absurd z (Nat.lt_irrefl _)⟩⟩
      · rw [k17 47 (by decide) (by decide) (by decide), k12 47 (by decide)]; exact r5 i hi
      · rw [hF2 52 (by decide), hF2 54 (by decide)]
        exact ⟨(hz f hf).1, fun i hi => absurd hi (Nat.not_lt_zero _), (hz f hf).2, fun i hi => absurd hi (Nat.not_lt_zero _)⟩
    · intro v20 e20
      rw [nI_clamp (by omega)] at e20
      refine ⟨400 - (i + 1), by omega, i + 1, by omega, rfl, nI_1 i, hF2.tr (by rw [e20]; exact Fr.up (by simp)), fun n hn => ?_⟩
      rw [e20, va_up_self]
      by_cases z : n = i
      · subst z; rw [pk_us]
      · rw [pk_un z]; exact hz2 n (by omega)
  · intro v23 e23
    refine ⟨pk_in i 16 q, ?_⟩
    intro v25 e25
    rw [nI_clamp (by omega)] at e23 e25
    refine ⟨16 - (i + 1), by omega, i + 1, by omega, rfl, nI_1 i, hFr.tr (Fr.tr (b := v23) (by rw [e23]; exact Fr.up (by simp)) (by rw [e25]; exact Fr.up (by simp))), fun f hf => ?_⟩
    have g52 : v25 52 = upd (v14 52) i 0 := by rw [e25, va_up_ne _ _ (by decide), e23, va_up_self]
    have g54 : v25 54 = upd (v14 54) i 0 := by rw [e25, va_up_self, e23, va_up_ne _ _ (by decide)]
    rw [g52, g54]
    by_cases z : f = i
    · subst z; rw [pk_us, pk_us]; exact ⟨rfl, rfl⟩
    · rw [pk_un z, pk_un z]; exact hz f (by omega)
theorem pl_begin {a a2 a3 : Int32} {Bk : gV → (Nat → Int64) → Prop} (hT : ST ln v us bs fl hd b l m) (hB : ∀ v2 ou1 us' fl' b' l' m', ST ln v2 us' bs fl' hd b' l' m' → Bk v2 ou1) : wp_L_begin ln v ou a a2 a3 (fun k v1 ou1 => wp_X4_begin ln v1 a a2 a3 (fun v2 => v2 46 0 = k ∧ Bk v2 ou1)) := by
  have hbad : (if (pin a 1 8) = 0 then (0 : Int32) else if (pin a2 1 32) = 0 then 0 else if (pin a3 a2 64) = 0 then 0 else 1) = 0 → "java/lang/IllegalArgumentException" = "java/lang/IllegalArgumentException" ∧ wp_X4_begin ln v a a2 a3 (fun v2 => v2 46 0 = 1 ∧ Bk v2 ou) := by
    intro e
    refine ⟨rfl, ?_⟩
    unfold wp_X4_begin
    intro x5 e5
    rw [e] at e5
    subst e5
    rw [if_pos rfl]
    intro v8 e8
    subst e8
    exact ⟨fun z => absurd z (prf_1 0 0), fun _ => ⟨by rw [vrf_0, ptr_1], hB _ _ _ _ _ _ _ (hT.vrf 1 0 0)⟩⟩
  unfold wp_L_begin
  rcases rng_cases a 1 8 1 8 rfl rfl (by decide) (by decide) with ⟨b', b1, b2, rfl, hp1⟩ | ⟨hp, ho⟩
  · rcases rng_cases a2 1 32 1 32 rfl rfl (by decide) (by decide) with ⟨l', l1, l2, rfl, hp2⟩ | ⟨hp, ho⟩
    · rcases rng_cases a3 (nI l') 64 l' 64 rfl rfl (by omega) (by decide) with ⟨m', m1, m2, rfl, hp3⟩ | ⟨hp, ho⟩
      · refine w_begin hT.2.1 b1 b2 l1 l2 m1 m2 (fun v1 hv1 hY1 => ?_)
        refine r_begin (hT.2.2.fr (fun _ _ => rfl) hv1) hp1 hp2 hp3 (fun v2 hv2 h0 hR2 => ⟨h0, hB _ _ _ _ _ _ _ ⟨?_, hY1.fr hv2, hR2⟩⟩)
        refine ⟨fun n => ?_, fun f hf => ⟨fun n hn => by simp at hn, Nat.zero_le _⟩, hT.1.2.2.1, b1, b2, l1, l2, m1, m2⟩
        rw [sumTo_congr (g := fun _ => 0) (fun i _ => by simp), sumTo_const]
      · have hb := hbad (by rw [hp1, hp2, hp, if_neg one0, if_neg one0, if_pos rfl])
        unfold wp_X3_begin
        refine ⟨fun z => absurd z (nI_nlt (b := 1) b1 (by omega)), fun _ => ⟨fun _ => ⟨fun z => absurd z (nI_nlt (b := 1) l1 (by omega)), fun _ => ⟨fun _ => ?_, fun z => absurd (nI_le (b := 32) l2 (by decide)) z⟩⟩, fun z => absurd (nI_le (b := 8) b2 (by decide)) z⟩⟩
        rcases ho with q | ⟨q1, q2⟩
        · exact ⟨fun _ => hb, fun z => absurd q z⟩
        · exact ⟨fun z => absurd z q1, fun _ => ⟨fun z => absurd z q2, fun _ => hb⟩⟩
    · have hb := hbad (by rw [hp1, hp, if_neg one0, if_pos rfl])
      unfold wp_X3_begin
      refine ⟨fun z => absurd z (nI_nlt (b := 1) b1 (by omega)), fun _ => ⟨fun _ => ?_, fun z => absurd (nI_le (b := 8) b2 (by decide)) z⟩⟩
      rcases ho with q | ⟨q1, q2⟩
      · exact ⟨fun _ => hb, fun z => absurd q z⟩
      · exact ⟨fun z => absurd z q1, fun _ => ⟨fun z => absurd z q2, fun _ => hb⟩⟩
  · have hb := hbad (by rw [hp, if_pos rfl])
    unfold wp_X3_begin
    rcases ho with q | ⟨q1, q2⟩
    · exact ⟨fun _ => hb, fun z => absurd q z⟩
    · exact ⟨fun z => absurd z q1, fun _ => ⟨fun z => absurd z q2, fun _ => hb⟩⟩
