/-! pure: edit -/
variable {ln : Nat → Nat} {v w : gV} {us us0 : Nat → Nat} {bs : Nat → Byt} {fl : Nat → List Nat} {hd : Byt} {b l m : Nat} {ou : Nat → Int64}
/-- a content with a stretch replaced -/
def edF (s hd : Byt) (p d : Nat) (i : Nat) : Int32 := if i < p then s.getD i 0 else if i < p + hd.length then hd.getD (i - p) 0 else s.getD (i - hd.length + d) 0
def edC (s hd : Byt) (p d : Nat) : Byt := slc (edF s hd p d) 0 (s.length - d + hd.length)
theorem edC_len (s hd : Byt) (p d : Nat) : (edC s hd p d).length = s.length - d + hd.length := slc_len _ _ _
theorem edC_get {s hd : Byt} {p d i : Nat} (h : i < s.length - d + hd.length) : (edC s hd p d).getD i 0 = edF s hd p d i := by unfold edC; rw [slc_get _ _ _ _ h, Nat.zero_add]
theorem BF_cat : ∀ {ns : List Nat}, (∀ n, n ∈ ns → BF (bs n)) → BF (cat bs ns) := by
  intro ns
  induction ns with
  | nil => intro _ i hi; exact absurd hi (Nat.not_lt_zero _)
  | cons n t ih =>
    intro h i hi
    have e : cat bs (n :: t) = bs n ++ cat bs t := rfl
    rw [e] at hi ⊢
    rw [List.length_append] at hi
    by_cases q : i < (bs n).length
    · rw [gd_app _ _ _ _ q]; exact h n (by simp) i q
    · rw [gd_app_r _ _ _ _ (by omega)]; exact ih (fun k hk => h k (by simp [hk])) _ (by omega)
theorem BF_ed {s hd : Byt} {p d : Nat} (h1 : BF s) (h2 : BF hd) (hp : p + d ≤ s.length) : BF (edC s hd p d) := by
  intro i hi
  rw [edC_len] at hi
  rw [edC_get hi]
  unfold edF
  by_cases q1 : i < p
  · rw [if_pos q1]; exact h1 i (by omega)
  · rw [if_neg q1]
    by_cases q2 : i < p + hd.length
    · rw [if_pos q2]; exact h2 _ (by omega)
    · rw [if_neg q2]; exact h1 _ (by omega)
theorem CY.v5 {v' : gV} (h : CY ln v us bs fl hd b l m) (hv : ∀ k, k ≠ 5 → v' k = v k) (hf : ∀ i, i < 1500 → fits .byte (.int (v' 5 i)) = true) : CY ln v' us bs fl hd b l m := by
  obtain ⟨l4, l5, l6, l7, hh, hhv, ft4, ft5⟩ := h.2.2.1
  refine ⟨h.1.fr (hv 2 (by omega)) (hv 8 (by omega)) (hv 9 (by omega)) (hv 10 (by omega)) (hv 11 (by omega)) (hv 12 (by omega)) (hv 13 (by omega)), h.2.1.fr (fun k h1 hk => hv k (by omega)) (fun _ _ _ => rfl) (fun _ _ => rfl), ⟨l4, l5, l6, l7, by rw [hv 0 (by omega)]; exact hh, by rw [hv 4 (by omega)]; exact hhv, by rw [hv 4 (by omega)]; exact ft4, hf⟩, h.2.2.2.fr (hv 1 (by omega))⟩
set_option maxRecDepth 16384 in
theorem w_edit {f p d mc ms : Nat} {E ns : List Nat} {us' : Nat → Nat} {bs' : Nat → Byt} {R' : Nat} {ok : Bool} {post : Int32 → (Nat → Nat) → gV → Prop} {pex : String → (Nat → Nat) → gV → Prop} (hT : ST ln v us bs fl hd b l m) (hf : f < 16) (hpd : p + d ≤ (cat bs (fl f)).length) (hN : (cat bs (fl f)).length - d + hd.length ≤ 1500) (hE : cuts (mkr (fun i => (edC (cat bs (fl f)) hd p d).getD i 0)) (edC (cat bs (fl f)) hd p d).length l m (mskOf b) 0 E) (hA : Asg (prts (fun i => (edC (cat bs (fl f)) hd p d).getD i 0) 0 E) us bs (ln 13) ns us' bs' R' ok) (hmc : Phi R' - Phi (ln 13) + 2 ≤ mc) (hms : Phi R' - Phi (ln 13) + 1506 ≤ ms)
    (hok : ok = true → ∀ ln' v', (∀ k, 46 ≤ k → v' k = v k) → (∀ k, 46 ≤ k → ln' k = ln k) → ln' 13 = R' → CY ln' v' (uSub us' (fl f)) bs' (va_up fl f ns) [] b l m → post (nI (cnt us' - cnt us)) ln' v')
    (hno : ok = false → ∀ ln' v', (∀ k, 46 ≤ k → v' k = v k) → (∀ k, 46 ≤ k → ln' k = ln k) → ln' 13 = R' → CY ln' v' us bs fl hd b l m → pex "java/lang/UnsupportedOperationException" ln' v') : wp_X3_edit mc ms ln v (nI f) (nI p) (nI d) post pex := by
  obtain ⟨g1, g2, g3, g4, g5, g6⟩ := hT.2.1.2.1 f hf
  obtain ⟨l4, l5, l6, l7, hh, hhv, ft4, ft5⟩ := hT.2.1.2.2.1
  have hcl := (hT.1.2.1 f hf).2
  have hhl := hT.1.2.2.1
  have hms' : (0 + 6) + (Phi R' - Phi (ln 13) + 1500) ≤ ms := by omega
  have hmc' : (0 + 1) + (Phi R' - Phi (ln 13) + 1) ≤ mc := by omega
  unfold wp_X3_edit
  refine ⟨by omega, by omega, w_fAin hf ?_⟩
  rw [fmod hf, g5, hh, pk_sub (show p ≤ (cat bs (fl f)).length by omega), pk_sub (show d ≤ (cat bs (fl f)).length by omega), nI_add]
  refine ⟨fun z => absurd z (nI_pos (by omega)), fun _ => ⟨fun z => absurd z (nI_nlt (show p ≤ (cat bs (fl f)).length by omega) (by omega)), fun _ => ⟨fun z => absurd z (nI_pos (by omega)), fun _ => ⟨fun _ => ?_, fun z => absurd (nI_le (show d ≤ (cat bs (fl f)).length - p by omega) (by omega)) z⟩⟩⟩⟩
  intro x19 e19
  subst e19
  refine ⟨fun _ => ?_, fun z => absurd (nI_le (b := 1500) hN (by decide)) z⟩
  refine w_layOut hT.2.1.1 hf l5 g3 g2 g4 g6 (fun n hn => ⟨(hT.1.2.1 f hf).1 n hn, hT.1.pos hf hn⟩) hcl ft5 (fun v22 hF22 h22 ft22 => ?_)
  have e0 : v22 0 4 = nI hd.length := by rw [hF22 0 (by decide)]; exact hh
  have eb : v22 (14 + f) 2 = nI (cat bs (fl f)).length := by rw [hF22 (14 + f) (by simp; omega)]; exact g5
  rw [e0, eb, nI_add, nI_add, pk_sub (show p ≤ (cat bs (fl f)).length by omega), pk_sub (show d ≤ (cat bs (fl f)).length - p by omega), nI_clamp (n := p + d) (by omega), nI_clamp (n := p + hd.length) (by omega), nI_clamp (n := (cat bs (fl f)).length - p - d) (by omega), l5, l4]
  refine ⟨nI_pos (by omega), nI_pos (by omega), nI_pos (by omega), by omega, by omega, fun i hi => ft22 _ (by omega), ?_⟩
  intro v23 e23
  have k23 : ∀ k, k ≠ 5 → v23 k = v22 k := fun k hk => by rw [e23, va_up_ne _ _ hk]
  have e234 : v23 0 4 = nI hd.length := by rw [k23 0 (by decide)]; exact e0
  rw [e234, nI_clamp (n := hd.length) (by omega), nI_clamp (n := p) (by omega), show (0 : Int32).toNatClampNeg = 0 from rfl]
  have e4 : v23 4 = v 4 := by rw [k23 4 (by decide), hF22 4 (by decide)]
  rw [e4]
  refine ⟨by decide, nI_pos (by omega), nI_pos (by omega), by omega, by omega, fun i hi => ft4 _ (by omega), ?_⟩
  intro v30 e30
  have k30 : ∀ k, k ≠ 5 → v30 k = v k := fun k hk => by rw [e30, va_up_ne _ _ hk, k23 k hk, hF22 k (by simp; exact hk)]
  have e305 : v30 5 = va_cpy (v 4) (va_cpy (v22 5) (v22 5) (p + d) (p + hd.length) ((cat bs (fl f)).length - p - d)) 0 p hd.length := by rw [e30, va_up_self, e23, va_up_self]
  have hrow : ∀ i, i < (edC (cat bs (fl f)) hd p d).length → v30 5 i = (edC (cat bs (fl f)) hd p d).getD i 0 := by
    intro i hi
    rw [edC_len] at hi
    rw [edC_get hi, e305]
    unfold edF
    by_cases q1 : i < p
    · rw [if_pos q1, pk_cpy_out (by omega), pk_cpy_out (by omega)]
      exact h22 i (by omega)
    · rw [if_neg q1]
      by_cases q2 : i < p + hd.length
      · rw [if_pos q2, pk_cpy_in (by omega) (by omega), Nat.zero_add]
        exact hhv _ (by omega)
      · rw [if_neg q2, pk_cpy_out (by omega), pk_cpy_in (by omega) (by omega), h22 _ (by omega)]
        congr 1
        omega
  have ft30 : ∀ i, i < 1500 → fits .byte (.int (v30 5 i)) = true := by
    intro i hi
    rw [e305]
    by_cases q1 : p ≤ i ∧ i < p + hd.length
    · rw [pk_cpy_in q1.1 q1.2]; exact ft4 _ (by omega)
    · rw [pk_cpy_out (by omega)]
      by_cases q2 : p + hd.length ≤ i ∧ i < p + hd.length + ((cat bs (fl f)).length - p - d)
      · rw [pk_cpy_in q2.1 q2.2]; exact ft22 _ (by omega)
      · rw [pk_cpy_out (by omega)]; exact ft22 i hi
  refine ⟨Phi R' - Phi (ln 13) + 1, Phi R' - Phi (ln 13) + 1500, hmc', hms', ?_⟩
  rw [← edC_len (cat bs (fl f)) hd p d]
  refine w_fillFile (hT.2.1.v5 k30 ft30) hT.1 hf (Or.inr rfl) (by rw [edC_len]; exact hN) hrow hE hA (Nat.le_refl _) (Nat.le_refl _) (fun ho ln1 v1 q1 q2 q3 q4 => hok ho ln1 v1 (fun k hk => by rw [q1 k hk, k30 k (by omega)]) q2 q3 q4) (fun ho ln1 v1 q1 q2 q3 q4 => hno ho ln1 v1 (fun k hk => by rw [q1 k hk, k30 k (by omega)]) q2 q3 q4)
theorem r_edit {f p d : Nat} {E ns : List Nat} {us' : Nat → Nat} {bs' : Nat → Byt} {R R' : Nat} {ok : Bool} {post : Int32 → gV → Prop} (hB : AB us bs fl hd b l m) (hub : ∀ n, us n ≤ 24000) (hlen : ∀ g, g < 16 → (fl g).length ≤ 1500) (hbf : ∀ n, n < 400 → 0 < us n → (bs n).length ≤ 64 ∧ BF (bs n)) (hhf : BF hd) (hR : RY ln v us bs fl hd b l m) (hf : f < 16) (hp1 : pin (nI f) 0 15 = 1) (hpd : p + d ≤ (cat bs (fl f)).length) (hp2 : pin (nI p) 0 (nI (cat bs (fl f)).length) = 1) (hp3 : pin (nI d) 0 (nI (cat bs (fl f)).length - nI p) = 1) (hN : (cat bs (fl f)).length - d + hd.length ≤ 1500) (hE : cuts (mkr (fun i => (edC (cat bs (fl f)) hd p d).getD i 0)) (edC (cat bs (fl f)) hd p d).length l m (mskOf b) 0 E) (hA : Asg (prts (fun i => (edC (cat bs (fl f)) hd p d).getD i 0) 0 E) us bs R ns us' bs' R' ok)
    (hok : ok = true → ∀ v', (∀ k, k < 46 → v' k = v k) → v' 46 0 = 0 → RY ln v' (uSub us' (fl f)) bs' (va_up fl f ns) [] b l m → post (nI (cnt us' - cnt us)) v')
    (hno : ok = false → ∀ v', (∀ k, k < 46 → v' k = v k) → v' 46 0 = 3 → RY ln v' us bs fl hd b l m → post 0 v') : wp_X4_edit ln v (nI f) (nI p) (nI d) post := by
  obtain ⟨hL, hRA, hRF, hRP⟩ := id hR
  obtain ⟨r1, r2, r3, r4, r5⟩ := id hRA
  obtain ⟨f1, f2, f3, f4⟩ := hRF f hf
  have hh := hB.2.2.1
  have hcl := (hB.2.1 f hf).2
  have l47 := hL.1
  have l48 := hL.2.1
  have l53 := hL.2.2.2.2.2.2.1
  unfold wp_X4_edit
  rw [hp1]
  refine ⟨fun _ => by rw [hL.2.2.2.2.2.1]; exact pk_in f _ hf, fun x4 e4 => ?_⟩
  rw [if_neg one0, nI_clamp (by omega), f1] at e4
  subst e4
  intro x9 e9
  rw [if_neg one0, hp2, if_neg one0, hp3, if_neg one0] at e9
  subst e9
  have esum : (nI (cat bs (fl f)).length - nI d) + (v 46 4) ≤ 1500 := by
    rw [r4, pk_sub (show d ≤ (cat bs (fl f)).length by omega), nI_add]
    exact nI_le (b := 1500) hN (by decide)
  rw [if_neg one0, if_neg one0, if_pos esum]
  intro v18 e18
  refine ⟨fun _ => ?_, fun q => absurd prf_0 q⟩
  intro v20 e20
  have k20 : ∀ k, k ≠ 46 → v20 k = v k := fun k hk => by rw [e20, va_up_ne _ _ hk, e18, vrf_k _ _ _ _ hk]
  have j20 : ∀ j, j ≠ 0 → j ≠ 6 → v20 46 j = v 46 j := fun j q1 q2 => by rw [e20, va_up_self, pk_un q2, e18, vrf_j _ _ _ _ q1]
  have j206 : v20 46 6 = 0 := by rw [e20, va_up_self, pk_us]
  rw [l47, l48, l53]
  refine ⟨fun k x21 v22 => ∃ i, i ≤ p ∧ k = p - i ∧ x21 = nI i ∧ Fr [46, 48] v20 v22 ∧ (∀ j, j ≠ 6 → v22 46 j = v20 46 j) ∧ v22 46 6 = nI i ∧ ∀ j, j < i → v22 48 j = edF (cat bs (fl f)) hd p d j &&& 255, ⟨p, 0, by omega, rfl, rfl, Fr.rf, fun _ _ => rfl, j206, fun j hj => by omega⟩, ?_⟩
  rintro k x21 v22 ⟨i, hi, rfl, rfl, hF22, c22, s22, h22⟩
  rw [s22, e1500]
  refine pk_le p i (fun q => ?_) (fun q => ⟨pk_in (1500 * f + i) _ (by omega), pk_in i _ (by omega), fun v51 e51 v52 e52 => ?_⟩)
  · have hin : i = p := by omega
    subst hin
    refine ⟨fun k x24 v25 => ∃ j, j ≤ hd.length ∧ k = hd.length - j ∧ x24 = nI j ∧ Fr [46, 48] v20 v25 ∧ (∀ j, j ≠ 6 → v25 46 j = v20 46 j) ∧ v25 46 6 = nI (i + j) ∧ ∀ t, t < i + j → v25 48 t = edF (cat bs (fl f)) hd i d t &&& 255, ⟨hd.length, 0, by omega, rfl, rfl, hF22, c22, s22, h22⟩, ?_⟩
    rintro k x24 v25 ⟨j, hj, rfl, rfl, hF25, c25, s25, h25⟩
    rw [s25, c25 4 (by decide), j20 4 (by decide) (by decide), r4]
    refine pk_le hd.length j (fun q => ?_) (fun q => ⟨pk_in j _ (by omega), pk_in (i + j) _ (by omega), fun v46 e46 v47 e47 => ?_⟩)
    · have hjn : j = hd.length := by omega
      subst hjn
      rw [nI_add]
      refine ⟨fun k x27 v28 => ∃ t, i + d ≤ t ∧ t ≤ (cat bs (fl f)).length ∧ k = (cat bs (fl f)).length - t ∧ x27 = nI t ∧ Fr [46, 48] v20 v28 ∧ (∀ j, j ≠ 6 → v28 46 j = v20 46 j) ∧ v28 46 6 = nI (t - d + hd.length) ∧ ∀ u, u < t - d + hd.length → v28 48 u = edF (cat bs (fl f)) hd i d u &&& 255, ⟨(cat bs (fl f)).length - (i + d), i + d, by omega, hpd, rfl, rfl, hF25, c25, by rw [s25]; congr 1; omega, fun u hu => h25 u (by omega)⟩, ?_⟩
      rintro k x27 v28 ⟨t, ht1, ht2, rfl, rfl, hF28, c28, s28, h28⟩
      rw [s28, e1500]
      refine pk_le (cat bs (fl f)).length t (fun q => ?_) (fun q => ⟨pk_in (1500 * f + t) _ (by omega), pk_in (t - d + hd.length) _ (by omega), fun v41 e41 v42 e42 => ?_⟩)
      · have htn : t = (cat bs (fl f)).length := by omega
        subst htn
        have k28 : ∀ k, k ≠ 46 → k ≠ 48 → v28 k = v k := fun k q1 q2 => by rw [hF28 k (by simp; exact ⟨q1, q2⟩), k20 k q1]
        have hR28 : RY ln v28 us bs fl hd b l m := ⟨hL, hRA.fr (fun j q1 q2 => by rw [c28 j (by omega)]; exact j20 j (by omega) (by omega)) (k28 47 (by decide) (by decide)), hRF.fr (k28 52 (by decide) (by decide)) (k28 53 (by decide) (by decide)) (k28 54 (by decide) (by decide)) (k28 55 (by decide) (by decide)), hRP.fr (k28 56 (by decide) (by decide)) (k28 57 (by decide) (by decide)) (k28 58 (by decide) (by decide))⟩
        have hbc : BF (cat bs (fl f)) := BF_cat (fun n hn => (hbf n ((hB.2.1 f hf).1 n hn) (hB.pos hf hn)).2)
        exact r_fillT (fun _ => 0) (fun x => if 0 ≤ x then 0 else 1) (fun n hn => ⟨rfl, y_ok n hn⟩) (by show ¬ prf 0 0 (if (0 : Int32) ≤ -1 then (0 : Int32) else 1) = 0; rw [y_no]; exact prf_3) hB hub hlen hbf hR28 hf (by rw [edC_len]; exact hN) (by rw [edC_len]; exact s28) (fun u hu => by rw [edC_len] at hu; rw [edC_get hu]; exact h28 u hu) (BF_ed hbc hhf hpd) hE hA (fun ho v' q1 q2 q3 => hok ho v' (fun k hk => by rw [q1 k hk, k28 k (by omega) (by omega)]) q2 q3) (fun ho v' q1 q2 q3 => hno ho v' (fun k hk => by rw [q1 k hk, k28 k (by omega) (by omega)]) (by rw [q2]; decide) q3)
      · rw [nI_clamp (n := t - d + hd.length) (by omega), nI_clamp (n := 1500 * f + t) (by omega), hF28 53 (by decide), k20 53 (by decide), f2 t q] at e41
        have g46 : v41 46 = v28 46 := by rw [e41, va_up_ne _ _ (by decide)]
        have g48 : v42 48 = upd (v28 48) (t - d + hd.length) ((cat bs (fl f)).getD t 0 &&& 255) := by rw [e42, va_up_ne _ _ (by decide), e41, va_up_self]
        refine ⟨(cat bs (fl f)).length - (t + 1), by omega, t + 1, by omega, by omega, rfl, nI_1 t, hF28.tr (Fr.tr (b := v41) (by rw [e41]; exact Fr.up (by simp)) (by rw [e42]; exact Fr.up (by simp))), fun j hj => ?_, ?_, fun u hu => ?_⟩
        · rw [e42, va_up_self, pk_un hj, g46]; exact c28 j hj
        · rw [e42, va_up_self, pk_us, g46, s28, nI_1]; congr 1; omega
        · rw [g48]
          by_cases y : u = t - d + hd.length
          · subst y
            rw [pk_us]
            unfold edF
            rw [if_neg (by omega), if_neg (by omega)]
            congr 2
            omega
          · rw [pk_un y]; exact h28 u (by omega)
    · rw [nI_clamp (n := i + j) (by omega), nI_clamp (n := j) (by omega), hF25 47 (by decide), k20 47 (by decide), r5 j q] at e46
      have g46 : v46 46 = v25 46 := by rw [e46, va_up_ne _ _ (by decide)]
      have g48 : v47 48 = upd (v25 48) (i + j) (hd.getD j 0 &&& 255) := by rw [e47, va_up_ne _ _ (by decide), e46, va_up_self]
      refine ⟨hd.length - (j + 1), by omega, j + 1, by omega, rfl, nI_1 j, hF25.tr (Fr.tr (b := v46) (by rw [e46]; exact Fr.up (by simp)) (by rw [e47]; exact Fr.up (by simp))), fun u hu => ?_, ?_, fun u hu => ?_⟩
      · rw [e47, va_up_self, pk_un hu, g46]; exact c25 u hu
      · rw [e47, va_up_self, pk_us, g46, s25, nI_1]; rfl
      · rw [g48]
        by_cases y : u = i + j
        · subst y
          rw [pk_us]
          unfold edF
          rw [if_neg (by omega), if_pos (by omega), Nat.add_sub_cancel_left]
        · rw [pk_un y]; exact h25 u (by omega)
  · rw [nI_clamp (n := i) (by omega), nI_clamp (n := 1500 * f + i) (by omega), hF22 53 (by decide), k20 53 (by decide), f2 i (by omega)] at e51
    have g46 : v51 46 = v22 46 := by rw [e51, va_up_ne _ _ (by decide)]
    have g48 : v52 48 = upd (v22 48) i ((cat bs (fl f)).getD i 0 &&& 255) := by rw [e52, va_up_ne _ _ (by decide), e51, va_up_self]
    refine ⟨p - (i + 1), by omega, i + 1, by omega, rfl, nI_1 i, hF22.tr (Fr.tr (b := v51) (by rw [e51]; exact Fr.up (by simp)) (by rw [e52]; exact Fr.up (by simp))), fun u hu => ?_, ?_, fun u hu => ?_⟩
    · rw [e52, va_up_self, pk_un hu, g46]; exact c22 u hu
    · rw [e52, va_up_self, pk_us, g46, s22, nI_1]
    · rw [g48]
      by_cases y : u = i
      · subst y
        rw [pk_us]
        unfold edF
        rw [if_pos q]
      · rw [pk_un y]; exact h22 u (by omega)
theorem r_edit1 {a a2 a3 : Int32} {post : Int32 → gV → Prop} (hp : pin a 0 15 = 0) (h : post 0 (vrf v 1 0 0)) : wp_X4_edit ln v a a2 a3 post := by
  unfold wp_X4_edit
  rw [hp]
  refine ⟨fun z => absurd rfl z, fun x4 e4 x9 e9 => ?_⟩
  rw [if_pos rfl] at e9
  subst e9
  rw [if_pos rfl, if_pos rfl, if_pos rfl]
  intro v18 e18
  subst e18
  exact ⟨fun q => absurd q (prf_1 0 0), fun _ => h⟩
theorem r_edit2 {f : Nat} {a2 a3 : Int32} {post : Int32 → gV → Prop} (hR : RY ln v us bs fl hd b l m) (hf : f < 16) (hp1 : pin (nI f) 0 15 = 1) (hp : pin a2 0 (nI (cat bs (fl f)).length) = 0 ∨ pin a3 0 (nI (cat bs (fl f)).length - a2) = 0) (h : post 0 (vrf v 0 1 0)) : wp_X4_edit ln v (nI f) a2 a3 post := by
  unfold wp_X4_edit
  rw [hp1]
  refine ⟨fun _ => by rw [hR.1.2.2.2.2.2.1]; exact pk_in f _ hf, fun x4 e4 x9 e9 => ?_⟩
  rw [if_neg one0, nI_clamp (by omega), (hR.2.2.1 f hf).1] at e4
  subst e4
  have e0 : x9 = 0 := by
    rw [e9, if_neg one0]
    by_cases q : pin a2 0 (nI (cat bs (fl f)).length) = 0
    · rw [if_pos q]
    · rw [if_neg q]
      rcases hp with z | z
      · exact absurd z q
      · rw [if_pos z]
  subst e0
  rw [if_neg one0, if_neg one0, if_pos rfl, if_pos rfl]
  intro v18 e18
  subst e18
  exact ⟨fun q => absurd q (prf_2 0), fun _ => h⟩
theorem r_edit3 {f p d : Nat} {post : Int32 → gV → Prop} (hR : RY ln v us bs fl hd b l m) (hf : f < 16) (hp1 : pin (nI f) 0 15 = 1) (hp2 : pin (nI p) 0 (nI (cat bs (fl f)).length) = 1) (hp3 : pin (nI d) 0 (nI (cat bs (fl f)).length - nI p) = 1) (hgt : ¬ (nI (cat bs (fl f)).length - nI d) + nI hd.length ≤ 1500) (h : post 0 (vrf v 0 0 1)) : wp_X4_edit ln v (nI f) (nI p) (nI d) post := by
  unfold wp_X4_edit
  rw [hp1]
  refine ⟨fun _ => by rw [hR.1.2.2.2.2.2.1]; exact pk_in f _ hf, fun x4 e4 x9 e9 => ?_⟩
  rw [if_neg one0, nI_clamp (by omega), (hR.2.2.1 f hf).1] at e4
  subst e4
  rw [if_neg one0, hp2, if_neg one0, hp3, if_neg one0] at e9
  subst e9
  rw [if_neg one0, if_neg one0, hR.2.1.2.2.2.1, if_neg hgt]
  intro v18 e18
  subst e18
  exact ⟨fun q => absurd q prf_3, fun _ => h⟩
theorem pl_edit {a a2 a3 : Int32} {Bk : (Nat → Nat) → gV → (Nat → Int64) → Nat → Prop} (hT : ST ln v us bs fl hd b l m) (hBk : ∀ ln2 v2 ou1 us2 bs2 fl2 hd2, ST ln2 v2 us2 bs2 fl2 hd2 b l m → ln 13 ≤ ln2 13 → Phi (ln 13) ≤ Phi (ln2 13) → Bk ln2 v2 ou1 (Phi (ln2 13) - Phi (ln 13))) : ∃ D : Nat, D + Phi (ln 13) ≤ 76800 ∧ wp_L_edit (D + 2) (D + 1512) ln v ou a a2 a3 (fun k ln1 v1 ou1 => wp_X4_edit ln1 v1 a a2 a3 (fun bb v2 => v2 46 0 = k ∧ (k = 0 → ou1 0 = bb.toInt64) ∧ Bk ln1 v2 ou1 D)) := by
  have hB0 : ∀ (x y z : Int32), Bk ln (vrf v x y z) ou 0 := fun x y z => by
    have := hBk ln (vrf v x y z) ou _ _ _ _ (hT.vrf x y z) (Nat.le_refl _) (Nat.le_refl _)
    rw [Nat.sub_self] at this
    exact this
  have hP0 : 0 + Phi (ln 13) ≤ 76800 := by have := Phi_le hT.2.1.1.1.2.2.2.2.2.2; omega
  unfold wp_L_edit
  rcases file_cases a with ⟨f, hf, rfl, hp⟩ | ⟨hp, ho⟩
  · have hcl := (hT.1.2.1 f hf).2
    have hhl := hT.1.2.2.1
    have hb := (hT.2.1.2.1 f hf).2.2.2.2.1
    have hh := hT.2.1.2.2.1.2.2.2.2.1
    rcases rng_cases a2 0 (nI (cat bs (fl f)).length) 0 (cat bs (fl f)).length rfl rfl (by decide) (by omega) with ⟨p, _, p2, rfl, hp2⟩ | ⟨hp2, ho2⟩
    · rcases rng_cases a3 0 (nI (cat bs (fl f)).length - nI p) 0 ((cat bs (fl f)).length - p) rfl (pk_sub p2) (by decide) (by omega) with ⟨d, _, d2, rfl, hp3⟩ | ⟨hp3, ho3⟩
      · by_cases hN : (cat bs (fl f)).length - d + hd.length ≤ 1500
        · obtain ⟨E, ns, us', bs', R', ok, hE, hA⟩ := cut_asg us bs (ln 13) b l m (edC (cat bs (fl f)) hd p d)
          have hrm := hA.room hT.2.1.1.1.2.2.2.2.2.2
          have hPl := Phi_le hrm.2.1
          refine ⟨Phi R' - Phi (ln 13), by omega, w_edit hT hf (by omega) hN hE hA (by omega) (by omega) (fun ho ln1 v1 q1 q2 q3 q4 => ?_) (fun ho ln1 v1 q1 q2 q3 q4 => Or.inr (Or.inr ⟨rfl, ?_⟩))⟩
          · refine r_edit hT.1 hT.usb hT.lens hT.bfs hT.hbf (hT.2.2.fr q2 q1) hf hp (by omega) hp2 hp3 hN hE hA (fun _ v2 s1 s2 s3 => ⟨s2, fun _ => by rw [pk_uLs], ?_⟩) (fun hx => by rw [ho] at hx; cases hx)
            have := hBk ln1 v2 (vp_updL ou 0 (nI (cnt us' - cnt us)).toInt64) _ _ _ _ ⟨AB_fill hT.1 hf (by rw [edC_len]; exact hN) hE hA ho, q4.fr s1, s3⟩ (by rw [q3]; exact hrm.1) (by rw [q3]; exact hrm.2.2)
            rw [q3] at this
            exact this
          · refine r_edit hT.1 hT.usb hT.lens hT.bfs hT.hbf (hT.2.2.fr q2 q1) hf hp (by omega) hp2 hp3 hN hE hA (fun hx => by rw [ho] at hx; cases hx) (fun _ v2 s1 s2 s3 => ⟨s2, fun z => absurd z (by decide), ?_⟩)
            have := hBk ln1 v2 ou _ _ _ _ ⟨hT.1, q4.fr s1, s3⟩ (by rw [q3]; exact hrm.1) (by rw [q3]; exact hrm.2.2)
            rw [q3] at this
            exact this
        · have hgt : ¬ (nI (cat bs (fl f)).length - nI d) + nI hd.length ≤ 1500 := by
            rw [pk_sub (show d ≤ (cat bs (fl f)).length by omega), nI_add]
            exact nI_ge (a := 1500) (by omega) (by omega)
          refine ⟨0, hP0, ?_⟩
          unfold wp_X3_edit
          refine ⟨by omega, by omega, w_fAin hf ?_⟩
          rw [fmod hf, hb, hh]
          refine ⟨fun z => absurd z (nI_pos (by omega)), fun _ => ⟨fun z => absurd z (nI_nlt p2 (by omega)), fun _ => ⟨fun z => absurd z (nI_pos (by omega)), fun _ => ⟨fun _ => ?_, fun z => absurd (by rw [pk_sub p2]; exact nI_le d2 (by omega)) z⟩⟩⟩⟩
          intro x19 e19
          subst e19
          refine ⟨fun z => absurd z hgt, fun _ => ⟨by omega, by omega, Or.inr (Or.inr ⟨rfl, ?_⟩)⟩⟩
          exact r_edit3 hT.2.2 hf hp hp2 hp3 hgt ⟨by rw [vrf_0, ptr_3], fun z => absurd z (by decide), hB0 0 0 1⟩
      · have hbad : (0 + 1) + 1 ≤ 0 + 2 ∧ (0 + 6) + 6 ≤ 0 + 1512 ∧ (("java/lang/IllegalArgumentException" = "java/lang/IndexOutOfBoundsException" ∧ wp_X4_edit ln v (nI f) (nI p) a3 (fun bb v2 => v2 46 0 = 1 ∧ ((1 : Int32) = 0 → ou 0 = bb.toInt64) ∧ Bk ln v2 ou 0)) ∨ ("java/lang/IllegalArgumentException" = "java/lang/IllegalArgumentException" ∧ wp_X4_edit ln v (nI f) (nI p) a3 (fun bb v2 => v2 46 0 = 2 ∧ ((2 : Int32) = 0 → ou 0 = bb.toInt64) ∧ Bk ln v2 ou 0)) ∨ ("java/lang/IllegalArgumentException" = "java/lang/UnsupportedOperationException" ∧ wp_X4_edit ln v (nI f) (nI p) a3 (fun bb v2 => v2 46 0 = 3 ∧ ((3 : Int32) = 0 → ou 0 = bb.toInt64) ∧ Bk ln v2 ou 0))) :=
          ⟨by omega, by omega, Or.inr (Or.inl ⟨rfl, r_edit2 hT.2.2 hf hp (Or.inr hp3) ⟨by rw [vrf_0, ptr_2], fun z => absurd z (by decide), hB0 0 1 0⟩⟩)⟩
        refine ⟨0, hP0, ?_⟩
        unfold wp_X3_edit
        refine ⟨by omega, by omega, w_fAin hf ?_⟩
        rw [fmod hf, hb, hh]
        refine ⟨fun z => absurd z (nI_pos (by omega)), fun _ => ⟨fun z => absurd z (nI_nlt p2 (by omega)), fun _ => ?_⟩⟩
        rcases ho3 with q | ⟨q1, q2⟩
        · exact ⟨fun _ => hbad, fun z => absurd q z⟩
        · exact ⟨fun z => absurd z q1, fun _ => ⟨fun z => absurd z q2, fun _ => hbad⟩⟩
    · have hbad : (0 + 1) + 1 ≤ 0 + 2 ∧ (0 + 6) + 6 ≤ 0 + 1512 ∧ (("java/lang/IllegalArgumentException" = "java/lang/IndexOutOfBoundsException" ∧ wp_X4_edit ln v (nI f) a2 a3 (fun bb v2 => v2 46 0 = 1 ∧ ((1 : Int32) = 0 → ou 0 = bb.toInt64) ∧ Bk ln v2 ou 0)) ∨ ("java/lang/IllegalArgumentException" = "java/lang/IllegalArgumentException" ∧ wp_X4_edit ln v (nI f) a2 a3 (fun bb v2 => v2 46 0 = 2 ∧ ((2 : Int32) = 0 → ou 0 = bb.toInt64) ∧ Bk ln v2 ou 0)) ∨ ("java/lang/IllegalArgumentException" = "java/lang/UnsupportedOperationException" ∧ wp_X4_edit ln v (nI f) a2 a3 (fun bb v2 => v2 46 0 = 3 ∧ ((3 : Int32) = 0 → ou 0 = bb.toInt64) ∧ Bk ln v2 ou 0))) :=
        ⟨by omega, by omega, Or.inr (Or.inl ⟨rfl, r_edit2 hT.2.2 hf hp (Or.inl hp2) ⟨by rw [vrf_0, ptr_2], fun z => absurd z (by decide), hB0 0 1 0⟩⟩)⟩
      refine ⟨0, hP0, ?_⟩
      unfold wp_X3_edit
      refine ⟨by omega, by omega, w_fAin hf ?_⟩
      rw [fmod hf, hb, hh]
      rcases ho2 with q | ⟨q1, q2⟩
      · exact ⟨fun _ => hbad, fun z => absurd q z⟩
      · have q3 : nI (cat bs (fl f)).length < a2 := by
          rw [Int32.le_iff_toInt_le] at q2
          rw [Int32.lt_iff_toInt_lt]
          omega
        exact ⟨fun z => absurd z q1, fun _ => ⟨fun _ => hbad, fun z => absurd q3 z⟩⟩
  · refine ⟨0, hP0, ?_⟩
    unfold wp_X3_edit
    refine ⟨by omega, by omega, w_fAout ho (Or.inl ⟨rfl, ?_⟩)⟩
    exact r_edit1 hp ⟨by rw [vrf_0, ptr_1], fun z => absurd z one0, hB0 1 0 0⟩
