/-! pure: the class's stock: add, take -/
theorem fits0 : fits .byte (.int 0) = true := by decide
theorem mr_L {ln : Nat → Nat} {n : Nat} (hn : n < 400) : mrL ln (nI n) = rmx (ln 13) n := by
  unfold mrL mrN rmx
  rw [pk_cl n]
theorem mr_V {ln : Nat → Nat} {v : gV} {n : Nat} (hn : n < 400) : (∀ k, k ≠ 13 → mrV ln v (nI n) k = v k) ∧ (∀ i, i < ln 13 → mrV ln v (nI n) 13 i = v 13 i) ∧ ((∀ i, i < ln 13 → fits .byte (.int (v 13 i)) = true) → ∀ i, i < rmx (ln 13) n → fits .byte (.int (mrV ln v (nI n) 13 i)) = true) := by
  unfold mrV
  rw [pk_cl n]
  by_cases q : ln 13 < (n + 1) * 64
  · rw [if_pos q]
    refine ⟨fun k hk => va_up_ne _ _ hk, fun i hi => ?_, fun hf i hi => ?_⟩
    · rw [va_up_self, pk_cpy_in (by omega) (by omega)]
      congr 1
      omega
    · rw [va_up_self]
      by_cases z : i < ln 13
      · rw [pk_cpy_in (by omega) (by omega)]
        exact hf _ (by omega)
      · rw [pk_cpy_out (by omega)]
        exact fits0
  · rw [if_neg q]
    refine ⟨fun k hk => rfl, fun i hi => rfl, fun hf i hi => hf i ?_⟩
    unfold rmx at hi
    rw [if_neg q] at hi
    exact hi
theorem rmx_ge {R n : Nat} (hR : R ≤ 25600) (hn : n < 400) : (n + 1) * 64 ≤ rmx R n ∧ R ≤ rmx R n ∧ rmx R n ≤ 25600 := by
  unfold rmx
  by_cases q : R < (n + 1) * 64
  · rw [if_pos q]; omega
  · rw [if_neg q]; omega
/-- the cells and slots that a number's room costs -/
def rmC (R n : Nat) : Nat := if R < (n + 1) * 64 then 1 else 0
def rmS (R n : Nat) : Nat := if R < (n + 1) * 64 then rmx R n else 0
theorem w_add {ln : Nat → Nat} {v : gV} {us : Nat → Nat} {bs : Nat → Byt} {r a mc ms : Nat} {p : Byt} {post : Int32 → (Nat → Nat) → gV → Prop} (hS : CS ln v us bs) (hno : ∀ m, m < 400 → ¬ (0 < us m ∧ bs m = p)) (hp1 : 1 ≤ p.length) (hpl : p.length ≤ 64) (hrr : r = 4 ∨ r = 5) (hr : a + p.length ≤ ln r) (hrl : ln r ≤ 1500) (hp : ∀ i, i < p.length → v r (a + i) = p.getD i 0) (hfp : ∀ i, i < p.length → fits .byte (.int (v r (a + i))) = true) (hmc : ∀ n, num us bs p = some n → rmC (ln 13) n ≤ mc ∧ rmS (ln 13) n ≤ ms)
    (h1 : ∀ n, num us bs p = some n → ∀ v', Fr [2, 8, 9, 10, 11, 12, 13] v v' → CS (va_up ln 13 (rmx (ln 13) n)) v' (va_up us n (us n + 1)) (va_up bs n p) → post (nI n) (va_up ln 13 (rmx (ln 13) n)) v')
    (h0 : num us bs p = none → ∀ v', Fr [2] v v' → CS ln v' us bs → post (-1) ln v') : wp_X2_add mc ms ln v (hL p) r (nI a) (nI p.length) post := by
  obtain ⟨hl, hU, hB, hF, hI, hO, h7, h8, ch, hch⟩ := id hS
  have hr13 : r ≠ 13 := by omega
  obtain ⟨c1, c2⟩ := hC_spec p
  unfold wp_X2_add
  refine w_leastFree hS (fun n hn hu hlow => ?_) (fun hfull => ?_)
  · have hnum : num us bs p = some n := by
      rcases num_cases us bs p with ⟨m, e, m1, m2, m3, m4⟩ | ⟨_, ⟨m, e, m1, m2, m3⟩ | ⟨e, m1⟩⟩
      · exact absurd ⟨m2, m3⟩ (hno m m1)
      · rw [e]
        congr 1
        rcases Nat.lt_trichotomy m n with q | q | q
        · have := hlow m q; omega
        · exact q
        · exact absurd hu (m3 n q)
      · exact absurd hu (m1 n hn)
    refine ⟨fun q => absurd q (fun z => ?_), fun _ => ?_⟩
    · have : (nI n).toInt = (-1 : Int32).toInt := by rw [z]
      rw [nI_toInt (by omega)] at this
      have e : ((-1 : Int32).toInt) = -1 := rfl
      rw [e] at this
      omega
    obtain ⟨v2, hv2⟩ : ∃ v2, v2 = va_up v 2 (upd (v 2) 6 (nI n)) := ⟨_, rfl⟩
    rw [← hv2]
    have g2 : ∀ k, k ≠ 2 → v2 k = v k := fun k hk => by rw [hv2, va_up_ne _ _ hk]
    obtain ⟨mv1, mv2, mv3⟩ := mr_V (ln := ln) (v := v2) hn
    obtain ⟨r1, r2, r3⟩ := rmx_ge hl.2.2.2.2.2.2 hn
    obtain ⟨hmc1, hmc2⟩ := hmc n hnum
    refine ⟨n, rfl, hn, hl.2.2.2.2.2.1, hl.2.2.2.2.2.2, by rw [g2 13 (by decide)]; exact hF, ?_, ?_, ?_⟩
    · unfold mrC; rw [pk_cl n]; unfold rmC at hmc1; omega
    · have e : mrS ln (nI n) = rmS (ln 13) n := by unfold mrS mrN rmS rmx; rw [pk_cl n]; split <;> simp_all
      omega
    intro ln4 v5 e4 e5
    rw [mr_L hn] at e4
    rw [← e5] at mv1 mv2 mv3
    have l4 : ∀ k, k ≠ 13 → ln4 k = ln k := fun k hk => by rw [e4, va_up_ne _ _ hk]
    have l413 : ln4 13 = rmx (ln 13) n := by rw [e4, va_up_self]
    have e64 : nI n * 64 = nI (n * 64) := by rw [show (64 : Int32) = nI 64 from rfl, pk_mul]
    have g5 : ∀ k, k ≠ 2 → k ≠ 13 → v5 k = v k := fun k h2 h13 => by rw [mv1 k h13, g2 k h2]
    rw [e64, nI_clamp (n := n * 64) (by omega), nI_clamp (n := a) (by omega), nI_clamp (n := p.length) (by omega), nI_clamp (n := n) (by omega), c1, nI_clamp (n := hC p) (by omega), l413, l4 r hr13, l4 8 (by decide), l4 9 (by decide), l4 10 (by decide), l4 11 (by decide), l4 12 (by decide), hl.1, hl.2.1, hl.2.2.1, hl.2.2.2.1, hl.2.2.2.2.1]
    refine ⟨nI_pos (by omega), nI_pos (by omega), nI_pos (by omega), hr, by omega, ?_, ?_⟩
    · intro i hi
      rw [g5 r (by omega) hr13]
      exact hfp i hi
    intro v10 e10
    refine ⟨pk_in n _ hn, ?_⟩
    intro v18 e18
    refine ⟨pk_in n _ hn, ?_⟩
    intro v20 e20
    refine ⟨pk_in n _ hn, ?_⟩
    intro v22 e22
    refine ⟨pk_in _ _ c2, pk_in n _ hn, ?_⟩
    intro v25 e25
    refine ⟨pk_in _ _ c2, ?_⟩
    intro v27 e27 v28 e28 v29 e29
    -- what each place holds at the end
    have q13 : v29 13 = va_cpy (v r) (v5 13) a (n * 64) p.length := by
      rw [e29, va_up_ne _ _ (by decide), e28, va_up_ne _ _ (by decide), e27, va_up_ne _ _ (by decide), e25, va_up_ne _ _ (by decide), e22, va_up_ne _ _ (by decide), e20, va_up_ne _ _ (by decide), e18, va_up_ne _ _ (by decide), e10, va_up_self, g5 r (by omega) hr13]
    have q8 : v29 8 = upd (v 8) n 1 := by
      rw [e29, va_up_ne _ _ (by decide), e28, va_up_ne _ _ (by decide), e27, va_up_ne _ _ (by decide), e25, va_up_ne _ _ (by decide), e22, va_up_ne _ _ (by decide), e20, va_up_ne _ _ (by decide), e18, va_up_self, e10, va_up_ne _ _ (by decide), g5 8 (by decide) (by decide)]
    have q9 : v29 9 = upd (v 9) n (nI p.length) := by
      rw [e29, va_up_ne _ _ (by decide), e28, va_up_ne _ _ (by decide), e27, va_up_ne _ _ (by decide), e25, va_up_ne _ _ (by decide), e22, va_up_ne _ _ (by decide), e20, va_up_self, e18, va_up_ne _ _ (by decide), e10, va_up_ne _ _ (by decide), g5 9 (by decide) (by decide)]
    have q10 : v29 10 = upd (v 10) n (hL p) := by
      rw [e29, va_up_ne _ _ (by decide), e28, va_up_ne _ _ (by decide), e27, va_up_ne _ _ (by decide), e25, va_up_ne _ _ (by decide), e22, va_up_self, e20, va_up_ne _ _ (by decide), e18, va_up_ne _ _ (by decide), e10, va_up_ne _ _ (by decide), g5 10 (by decide) (by decide)]
    have p12 : v25 12 = v 12 := by
      rw [e25, va_up_ne _ _ (by decide), e22, va_up_ne _ _ (by decide), e20, va_up_ne _ _ (by decide), e18, va_up_ne _ _ (by decide), e10, va_up_ne _ _ (by decide), g5 12 (by decide) (by decide)]
    have p12' : v22 12 = v 12 := by
      rw [e22, va_up_ne _ _ (by decide), e20, va_up_ne _ _ (by decide), e18, va_up_ne _ _ (by decide), e10, va_up_ne _ _ (by decide), g5 12 (by decide) (by decide)]
    have q11 : v29 11 = upd (v 11) n (v 12 (hC p)) := by
      rw [e29, va_up_ne _ _ (by decide), e28, va_up_ne _ _ (by decide), e27, va_up_ne _ _ (by decide), e25, va_up_self, p12', e22, va_up_ne _ _ (by decide), e20, va_up_ne _ _ (by decide), e18, va_up_ne _ _ (by decide), e10, va_up_ne _ _ (by decide), g5 11 (by decide) (by decide)]
    have q12 : v29 12 = upd (v 12) (hC p) (nI n) := by
      rw [e29, va_up_ne _ _ (by decide), e28, va_up_ne _ _ (by decide), e27, va_up_self, p12]
    have p2 : v27 2 = upd (v 2) 6 (nI n) := by
      rw [e27, va_up_ne _ _ (by decide), e25, va_up_ne _ _ (by decide), e22, va_up_ne _ _ (by decide), e20, va_up_ne _ _ (by decide), e18, va_up_ne _ _ (by decide), e10, va_up_ne _ _ (by decide), mv1 2 (by decide), hv2, va_up_self]
    have q2 : v29 2 = upd (upd (upd (v 2) 6 (nI n)) 7 (nI (cnt us + 1))) 8 (nI (tot us bs + p.length)) := by
      rw [e29, va_up_self, e28, va_up_self, p2, pk_un (show 8 ≠ 7 by decide), pk_un (show 7 ≠ 6 by decide), pk_un (show 8 ≠ 6 by decide), h7, h8, nI_1, nI_add]
    have hF29 : Fr [2, 8, 9, 10, 11, 12, 13] v v29 := by
      intro k hk
      simp at hk
      rw [e29, va_up_ne _ _ hk.1, e28, va_up_ne _ _ hk.1, e27, va_up_ne _ _ hk.2.2.2.2.2.1, e25, va_up_ne _ _ hk.2.2.2.2.1, e22, va_up_ne _ _ hk.2.2.2.1, e20, va_up_ne _ _ hk.2.2.1, e18, va_up_ne _ _ hk.2.1, e10, va_up_ne _ _ hk.2.2.2.2.2.2, g5 k hk.1 hk.2.2.2.2.2.2]
    have hnew := h1 n hnum v29 hF29
    rw [← e4] at hnew
    refine hnew ?_
    have hus : va_up us n (us n + 1) n = 1 := by rw [va_up_self, hu]
    have hne : ∀ m, m < 400 → 0 < va_up us n (us n + 1) m → m ≠ n → 0 < us m := fun m _ hm hmn => by rw [va_up_ne _ _ hmn] at hm; exact hm
    refine ⟨⟨by rw [l4 8 (by decide)]; exact hl.1, by rw [l4 9 (by decide)]; exact hl.2.1, by rw [l4 10 (by decide)]; exact hl.2.2.1, by rw [l4 11 (by decide)]; exact hl.2.2.2.1, by rw [l4 12 (by decide)]; exact hl.2.2.2.2.1, ?_, ?_⟩, ?_, ?_, ?_, ?_, ?_, ?_, ?_, ?_⟩
    · have := hl.2.2.2.2.2.1; omega
    · omega
    · intro m hm
      rw [q8]
      by_cases z : m = n
      · subst z; rw [pk_us, va_up_self, hu]; exact ⟨rfl, by decide⟩
      · rw [pk_un z, va_up_ne _ _ z]; exact hU m hm
    · intro m hm hpos
      rw [q9, q10, q13, l413]
      by_cases z : m = n
      · subst z
        rw [va_up_self, pk_us, pk_us]
        refine ⟨rfl, hp1, hpl, r1, rfl, fun i hi => ?_⟩
        rw [pk_cpy_in (by omega) (by omega), show a + (m * 64 + i - m * 64) = a + i by omega]
        exact hp i hi
      · obtain ⟨b1, b2, b3, b4, b5, b6⟩ := hB m hm (hne m hm hpos z)
        rw [va_up_ne _ _ z, pk_un z, pk_un z]
        refine ⟨b1, b2, b3, by omega, b5, fun i hi => ?_⟩
        rw [pk_cpy_out (by rcases Nat.lt_or_gt_of_ne z with y | y <;> omega), mv2 _ (by omega), g2 13 (by decide)]
        exact b6 i hi
    · intro i hi
      rw [l413] at hi
      rw [q13]
      by_cases z : n * 64 ≤ i ∧ i < n * 64 + p.length
      · rw [pk_cpy_in z.1 z.2]
        exact hfp _ (by omega)
      · rw [pk_cpy_out (by omega)]
        exact mv3 (by rw [g2 13 (by decide)]; exact hF) i hi
    · intro i j hi hj pi pj e
      by_cases zi : i = n
      · by_cases zj : j = n
        · rw [zi, zj]
        · rw [zi, va_up_self, va_up_ne _ _ zj] at e
          exact absurd ⟨hne j hj pj zj, e.symm⟩ (hno j hj)
      · by_cases zj : j = n
        · rw [zj, va_up_self, va_up_ne _ _ zi] at e
          exact absurd ⟨hne i hi pi zi, e⟩ (hno i hi)
        · rw [va_up_ne _ _ zi, va_up_ne _ _ zj] at e
          exact hI i j hi hj (hne i hi pi zi) (hne j hj pj zj) e
    · refine ⟨n, by rw [q2, pk_un (by decide), pk_un (by decide), pk_us], by omega, fun m hm => ?_⟩
      rw [va_up_ne _ _ (by omega)]
      exact hlow m hm
    · rw [q2, pk_un (by decide), pk_us]
      have h := sumTo_one (f := fun m => if 0 < us m then 1 else 0) (g := fun m => if 0 < va_up us n (us n + 1) m then 1 else 0) hn (fun i _ hi => by simp only [va_up_ne us _ hi])
      simp only [if_neg (show ¬ 0 < us n by omega), if_pos (show 0 < va_up us n (us n + 1) n by omega)] at h
      have : cnt us + 1 = cnt (va_up us n (us n + 1)) := by unfold cnt; omega
      rw [this]
    · rw [q2, pk_us]
      have h := sumTo_one (f := fun m => if 0 < us m then (bs m).length else 0) (g := fun m => if 0 < va_up us n (us n + 1) m then (va_up bs n p m).length else 0) hn (fun i _ hi => by simp only [va_up_ne us _ hi, va_up_ne bs _ hi])
      simp only [if_neg (show ¬ 0 < us n by omega), if_pos (show 0 < va_up us n (us n + 1) n by omega), va_up_self bs] at h
      have : tot us bs + p.length = tot (va_up us n (us n + 1)) (va_up bs n p) := by unfold tot; omega
      rw [this]
    · refine ⟨va_up ch (hC p) (n :: ch (hC p)), fun c hc => ?_⟩
      rw [q11, q12]
      obtain ⟨k1, k2, k3⟩ := hch c hc
      have hnc : ∀ c, c < 512 → n ∉ ch c := fun c hc z => by
        have := (((hch c hc).2.2 n).mp z).2.1
        omega
      by_cases z : c = hC p
      · subst z
        rw [va_up_self, pk_us]
        refine ⟨⟨rfl, ?_⟩, List.nodup_cons.mpr ⟨hnc _ hc, k2⟩, fun m => ?_⟩
        · rw [pk_us]
          exact lk_congr (fun m hm => pk_un (fun y => hnc _ hc (y ▸ hm))) k1
        · rw [List.mem_cons, k3 m]
          constructor
          · rintro (y | ⟨y1, y2, y3⟩)
            · subst y; exact ⟨hn, by rw [va_up_self]; omega, by rw [va_up_self]⟩
            · have hmn : m ≠ n := fun w => by rw [w] at y2; omega
              exact ⟨y1, by rw [va_up_ne _ _ hmn]; exact y2, by rw [va_up_ne _ _ hmn]; exact y3⟩
          · rintro ⟨y1, y2, y3⟩
            by_cases w : m = n
            · exact Or.inl w
            · rw [va_up_ne _ _ w] at y2 y3
              exact Or.inr ⟨y1, y2, y3⟩
      · rw [va_up_ne _ _ z, pk_un z]
        refine ⟨lk_congr (fun m hm => pk_un (fun y => hnc _ hc (y ▸ hm))) k1, k2, fun m => ?_⟩
        rw [k3 m]
        constructor
        · rintro ⟨y1, y2, y3⟩
          have hmn : m ≠ n := fun w => by rw [w] at y2; omega
          exact ⟨y1, by rw [va_up_ne _ _ hmn]; exact y2, by rw [va_up_ne _ _ hmn]; exact y3⟩
        · rintro ⟨y1, y2, y3⟩
          by_cases w : m = n
          · subst w
            rw [va_up_self] at y3
            exact absurd y3.symm z
          · rw [va_up_ne _ _ w] at y2 y3
            exact ⟨y1, y2, y3⟩
  · have hnum : num us bs p = none := by
      rcases num_cases us bs p with ⟨m, e, m1, m2, m3, m4⟩ | ⟨_, ⟨m, e, m1, m2, m3⟩ | ⟨e, m1⟩⟩
      · exact absurd ⟨m2, m3⟩ (hno m m1)
      · have := hfull m m1; omega
      · exact e
    refine ⟨fun _ => h0 hnum _ (Fr.up (by simp)) ?_, fun z => absurd rfl z⟩
    refine ⟨hl, ?_, ?_, ?_, hI, ?_, ?_, ?_, ch, ?_⟩
    · intro m hm; rw [va_up_ne _ _ (by decide)]; exact hU m hm
    · intro m hm hpos; rw [va_up_ne _ _ (by decide), va_up_ne _ _ (by decide), va_up_ne _ _ (by decide)]; exact hB m hm hpos
    · intro i hi; rw [va_up_ne _ _ (by decide)]; exact hF i hi
    · exact ⟨400, by rw [va_up_self, pk_us], by omega, hfull⟩
    · rw [va_up_self, pk_un (by decide)]; exact h7
    · rw [va_up_self, pk_un (by decide)]; exact h8
    · intro c hc; rw [va_up_ne _ _ (by decide), va_up_ne _ _ (by decide)]; exact hch c hc
theorem w_take {ln : Nat → Nat} {v : gV} {us : Nat → Nat} {bs : Nat → Byt} {r a e mc ms : Nat} {post : Int32 → (Nat → Nat) → gV → Prop} (hS : CS ln v us bs) (hae : a < e) (hpl : e - a ≤ 64) (hrr : r = 4 ∨ r = 5) (hr : e ≤ ln r) (hrl : ln r ≤ 1500) (hfp : ∀ i, i < ln r → fits .byte (.int (v r i)) = true) (hbig : ∀ n, n < 400 → us n + 1 < 2 ^ 30) (hmc : ∀ n, num us bs (slc (v r) a (e - a)) = some n → rmC (ln 13) n ≤ mc ∧ rmS (ln 13) n ≤ ms)
    (h1 : ∀ n, num us bs (slc (v r) a (e - a)) = some n → ∀ v', Fr [2, 8, 9, 10, 11, 12, 13] v v' → CS (va_up ln 13 (rmx (ln 13) n)) v' (va_up us n (us n + 1)) (va_up bs n (slc (v r) a (e - a))) → post (nI n) (va_up ln 13 (rmx (ln 13) n)) v')
    (h0 : num us bs (slc (v r) a (e - a)) = none → ∀ v', Fr [2] v v' → CS ln v' us bs → post (-1) ln v') : wp_X2_take mc ms ln v r (nI a) (nI e) post := by
  obtain ⟨p, hpe⟩ : ∃ p, p = slc (v r) a (e - a) := ⟨_, rfl⟩
  have hpL : p.length = e - a := by rw [hpe, slc_len]
  have hp : ∀ i, i < p.length → v r (a + i) = p.getD i 0 := fun i hi => by rw [hpe, slc_get _ _ _ _ (by omega)]
  rw [← hpe] at hmc h1 h0
  obtain ⟨hl, hU, hB, hF, hI, hO, h7, h8, -⟩ := id hS
  unfold wp_X2_take
  refine w_hashOf (by omega) hr (by omega) ?_
  rw [pk_sub (by omega), ← hpL, hL_of hp]
  refine w_find hS (by omega) (by omega) hrl hp (fun n hn hu hb => ?_) (fun hno => ?_)
  · have hnum : num us bs p = some n := by
      rcases num_cases us bs p with ⟨m, q, m1, m2, m3, m4⟩ | ⟨q, _⟩
      · rw [q, hI m n m1 hn m2 hu (by rw [m3, hb])]
      · exact absurd ⟨hu, hb⟩ (q n hn)
    refine ⟨fun q => absurd q (fun z => ?_), fun _ => ?_⟩
    · have : (nI n).toInt = (-1 : Int32).toInt := by rw [z]
      rw [nI_toInt (by omega)] at this
      have e : ((-1 : Int32).toInt) = -1 := rfl
      rw [e] at this
      omega
    · refine w_useAgain hS hn hu (hbig n hn) (fun v' hF' hS' => ?_)
      have hrm : rmx (ln 13) n = ln 13 := by
        unfold rmx
        rw [if_neg]
        have := (hB n hn hu).2.2.2.1
        omega
      have h := h1 n hnum v' (hF'.mono (by simp))
      rw [hrm, va_up_id] at h
      refine h ?_
      rw [← hb, va_up_id]
      exact hS'
  · refine ⟨fun _ => ⟨mc, ms, by omega, by omega, ?_⟩, fun z => absurd rfl z⟩
    exact w_add hS hno (by omega) (by omega) hrr (by omega) hrl hp (fun i hi => hfp _ (by omega)) hmc h1 h0
