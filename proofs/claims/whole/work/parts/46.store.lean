/-! pure: store -/
variable {ln : Nat → Nat} {v w : gV} {us us0 : Nat → Nat} {bs : Nat → Byt} {fl : Nat → List Nat} {hd : Byt} {b l m : Nat} {ou : Nat → Int64}
theorem CS.bf (hS : CS ln v us bs) {n : Nat} (hn : n < 400) (hu : 0 < us n) : (bs n).length ≤ 64 ∧ BF (bs n) := by
  obtain ⟨b1, b2, b3, b4, b5, b6⟩ := hS.2.2.1 n hn hu
  refine ⟨b3, fun i hi => ?_⟩
  rw [← b6 i hi]
  exact hS.2.2.2.1 _ (by omega)
theorem r_fillT {f : Nat} {c : Byt} {E ns : List Nat} {us' : Nat → Nat} {bs' : Nat → Byt} {R R' : Nat} {ok : Bool} {post : Int32 → gV → Prop} (y z : Int32 → Int32) (hyz : ∀ n, n ≤ 400 → y (nI n) = 0 ∧ z (nI n) = 0) (hyb : ¬ prf 0 (y (-1)) (z (-1)) = 0) (hB : AB us bs fl hd b l m) (hub : ∀ n, us n ≤ 24000) (hlen : ∀ g, g < 16 → (fl g).length ≤ 1500) (hbf : ∀ n, n < 400 → 0 < us n → (bs n).length ≤ 64 ∧ BF (bs n)) (hR : RY ln w us bs fl hd b l m) (hf : f < 16) (hN : c.length ≤ 1500) (h6 : w 46 6 = nI c.length) (hrow : ∀ i, i < c.length → w 48 i = c.getD i 0 &&& 255) (hcf : BF c) (hE : cuts (mkr (fun i => c.getD i 0)) c.length l m (mskOf b) 0 E) (hA : Asg (prts (fun i => c.getD i 0) 0 E) us bs R ns us' bs' R' ok)
    (hok : ok = true → ∀ v', (∀ k, k < 46 → v' k = w k) → v' 46 0 = 0 → RY ln v' (uSub us' (fl f)) bs' (va_up fl f ns) [] b l m → post (nI (cnt us' - cnt us)) v')
    (hno : ok = false → ∀ v', (∀ k, k < 46 → v' k = w k) → v' 46 0 = ptr 0 (y (-1)) (z (-1)) → RY ln v' us bs fl hd b l m → post 0 v') :
    wp_X4_give ln w (fun x9 v10 => ∀ v13 : gV, v13 = vrf v10 0 (y x9) (z x9) → ((prf 0 (y x9) (z x9) = 0 → wp_X4_take ln v13 (nI f) (fun v16 => ∀ v17 : gV, v17 = va_up v16 46 (upd (v16 46) 4 0) → post x9 v17)) ∧ (¬ prf 0 (y x9) (z x9) = 0 → post 0 v13))) := by
  obtain ⟨hL, hRA, hRF, hRP⟩ := id hR
  obtain ⟨r1, r2, r3, r4, r5⟩ := id hRA
  obtain ⟨a1, a2, a3, a4⟩ := hA.facts
  have hrule := hB.2.2.2
  refine w_give hL hub hRP hbf hN h6 r1 r2 r3 (by omega) (by omega) (by omega) hrow hcf hE hA (fun ho v10 g1 g2 g3 g4 g5 v13 e13 => ?_) (fun ho v10 g1 g2 g5 v13 e13 => ?_)
  · have hcnt : cnt us' - cnt us ≤ 400 := by have := cnt_le us'; omega
    rw [(hyz _ hcnt).1, (hyz _ hcnt).2] at e13 ⊢
    refine ⟨fun _ => ?_, fun q => absurd prf_0 q⟩
    have hcat : cat bs' ns = c := by rw [cat_map, a4 ho, prts_flat hE, Nat.sub_zero, slc_all]
    have hnl : ns.length = E.length := by rw [← prts_len (fun i => c.getD i 0) E 0, ← a4 ho, List.length_map]
    have hEl := cuts_len hE
    have k13 : ∀ k, k ≠ 46 → v13 k = v10 k := fun k hk => by rw [e13]; exact vrf_k _ _ _ _ hk
    have j13 : ∀ j, j ≠ 0 → v13 46 j = v10 46 j := fun j hj => by rw [e13]; exact vrf_j _ _ _ _ hj
    obtain ⟨f1, f2, f3, f4⟩ := hRF f hf
    refine w_take4 (us := us) (ms := fl f) hL hf hN (by omega) (hlen f hf) (by rw [j13 6 (by decide), g2 6 (by decide)]; exact h6) (by rw [j13 8 (by decide)]; exact g3) (fun k hk => by rw [k13 50 (by decide)]; exact g4 k hk) a3 (fun n hn => by rw [k13 56 (by decide)]; exact (g5 n hn).1) (by rw [k13 54 (by decide), g1 54 (by decide)]; exact f3) (fun k hk => by rw [k13 55 (by decide), g1 55 (by decide)]; exact f4 k hk) (hB.2.1 f hf).1 (fun n => hB.cnt hf n) (fun v16 t1 t2 t3 t4 t5 t6 t7 t8 v17 e17 => ?_)
    have k17 : ∀ k, k ≠ 46 → v17 k = v16 k := fun k hk => by rw [e17, va_up_ne _ _ hk]
    have j17 : ∀ j, j ≠ 4 → v17 46 j = v16 46 j := fun j hj => by rw [e17, va_up_self, pk_un hj]
    have e46 : v16 46 = v13 46 := t1 46 (by decide)
    have jj : ∀ j, 1 ≤ j → j ≤ 3 → v17 46 j = w 46 j := fun j q1 q2 => by rw [j17 j (by omega), e46, j13 j (by omega), g2 j (by omega)]
    refine hok ho v17 (fun k hk => by rw [k17 k (by omega), t1 k (by simp; omega), k13 k (by omega), g1 k (by simp [gvK]; omega)]) (by rw [j17 0 (by decide), e46, e13, vrf_0, ptr_0]) ⟨hL, ⟨by rw [jj 1 (by omega) (by omega)]; exact r1, by rw [jj 2 (by omega) (by omega)]; exact r2, by rw [jj 3 (by omega) (by omega)]; exact r3, by rw [e17, va_up_self, pk_us]; rfl, fun i hi => absurd hi (Nat.not_lt_zero _)⟩, fun g hg => ?_, fun n hn => ?_⟩
    · rw [k17 52 (by decide), k17 53 (by decide), k17 54 (by decide), k17 55 (by decide), t3, t4, k13 52 (by decide), k13 54 (by decide), g1 52 (by decide), g1 54 (by decide)]
      by_cases q : g = f
      · subst q
        rw [va_up_self, hcat, pk_us, pk_us]
        refine ⟨rfl, fun i hi => ?_, rfl, t7⟩
        rw [t5 i hi, k13 48 (by decide), g1 48 (by decide)]
        exact hrow i hi
      · rw [va_up_ne _ _ q, pk_un q, pk_un q, cat_congr (fun n hn => a2 n (hB.pos hg hn))]
        obtain ⟨q1, q2, q3, q4⟩ := hRF g hg
        have cl := (hB.2.1 g hg).2
        have ll := hlen g hg
        have e53 : v13 53 = w 53 := by rw [k13 53 (by decide), g1 53 (by decide)]
        have e55 : v13 55 = w 55 := by rw [k13 55 (by decide), g1 55 (by decide)]
        refine ⟨q1, fun i hi => ?_, q3, fun k hk => ?_⟩
        · rw [t6 _ (by rcases Nat.lt_or_gt_of_ne q with p | p <;> omega), e53]; exact q2 i hi
        · rw [t8 _ (by rcases Nat.lt_or_gt_of_ne q with p | p <;> omega), e55]; exact q4 k hk
    · rw [k17 56 (by decide), k17 57 (by decide), k17 58 (by decide), t1 57 (by decide), t1 58 (by decide), k13 57 (by decide), k13 58 (by decide)]
      refine ⟨by rw [t2 n hn, a1], fun hu => ?_⟩
      have hu' : 0 < us' n := by unfold uSub at hu; omega
      have := (g5 n hn).2.2.2.2.2 hu'
      exact ⟨this.1, this.2.2.2⟩
  · refine ⟨fun q => absurd q hyb, fun _ => hno ho v13 (fun k hk => ?_) (by rw [e13, vrf_0]) ?_⟩
    · rw [e13, vrf_k _ _ _ _ (by omega), g1 k (by simp [gvK]; omega)]
    · rw [e13]
      refine RY.vrf ⟨hL, hRA.fr (fun j q1 q2 => g2 j (by omega)) (g1 47 (by decide)), hRF.fr (g1 52 (by decide)) (g1 53 (by decide)) (g1 54 (by decide)) (g1 55 (by decide)), g5⟩ _ _ _
theorem y_ok : ∀ n, n ≤ 400 → (if (0 : Int32) ≤ nI n then (0 : Int32) else 1) = 0 := fun n hn => if_pos (nI_pos' (by omega))
theorem y_no : (if (0 : Int32) ≤ -1 then (0 : Int32) else 1) = 1 := by decide
theorem ST.lens (hT : ST ln v us bs fl hd b l m) : ∀ g, g < 16 → (fl g).length ≤ 1500 := fun g hg => hT.len hg
theorem ST.bfs (hT : ST ln v us bs fl hd b l m) : ∀ n, n < 400 → 0 < us n → (bs n).length ≤ 64 ∧ BF (bs n) := fun n hn hu => hT.2.1.1.bf hn hu
theorem ST.hbf (hT : ST ln v us bs fl hd b l m) : BF hd := fun i hi => by
  obtain ⟨l4, l5, l6, l7, hh, hhv, ft4, ft5⟩ := hT.2.1.2.2.1
  have := hT.1.2.2.1
  rw [← hhv i hi]
  exact ft4 i (by omega)
theorem r_store {f : Nat} {E ns : List Nat} {us' : Nat → Nat} {bs' : Nat → Byt} {R R' : Nat} {ok : Bool} {post : Int32 → gV → Prop} (hB : AB us bs fl hd b l m) (hub : ∀ n, us n ≤ 24000) (hlen : ∀ g, g < 16 → (fl g).length ≤ 1500) (hbf : ∀ n, n < 400 → 0 < us n → (bs n).length ≤ 64 ∧ BF (bs n)) (hhf : BF hd) (hR : RY ln v us bs fl hd b l m) (hf : f < 16) (hp : pin (nI f) 0 15 = 1) (hE : cuts (mkr (fun i => hd.getD i 0)) hd.length l m (mskOf b) 0 E) (hA : Asg (prts (fun i => hd.getD i 0) 0 E) us bs R ns us' bs' R' ok)
    (hok : ok = true → ∀ v', (∀ k, k < 46 → v' k = v k) → v' 46 0 = 0 → RY ln v' (uSub us' (fl f)) bs' (va_up fl f ns) [] b l m → post (nI (cnt us' - cnt us)) v')
    (hno : ok = false → ∀ v', (∀ k, k < 46 → v' k = v k) → v' 46 0 = 2 → RY ln v' us bs fl hd b l m → post 0 v') : wp_X4_store ln v (nI f) post := by
  obtain ⟨hL, hRA, hRF, hRP⟩ := id hR
  obtain ⟨r1, r2, r3, r4, r5⟩ := id hRA
  have hh := hB.2.2.1
  unfold wp_X4_store
  rw [hp, if_neg one0]
  intro v3 e3
  refine ⟨fun _ => ?_, fun q => absurd prf_0 q⟩
  intro v5 e5
  have k5 : ∀ k, k ≠ 46 → v5 k = v k := fun k hk => by rw [e5, va_up_ne _ _ hk, e3, vrf_k _ _ _ _ hk]
  have j5 : ∀ j, j ≠ 0 → j ≠ 6 → v5 46 j = v 46 j := fun j q1 q2 => by rw [e5, va_up_self, pk_un q2, e3, vrf_j _ _ _ _ q1]
  have j6 : v5 46 6 = nI hd.length := by rw [e5, va_up_self, pk_us, e3, vrf_j _ _ _ _ (by decide), r4]
  refine ⟨fun k x6 v7 => ∃ i, i ≤ hd.length ∧ k = hd.length - i ∧ x6 = nI i ∧ Fr [48] v5 v7 ∧ ∀ j, j < i → v7 48 j = hd.getD j 0 &&& 255, ⟨hd.length, 0, by omega, rfl, rfl, Fr.rf, fun j hj => by omega⟩, ?_⟩
  rintro k x6 v7 ⟨i, hi, rfl, rfl, hF7, h7⟩
  rw [hF7 46 (by decide), j6, hL.1, hL.2.1]
  refine pk_le hd.length i (fun q => ?_) (fun q => ⟨pk_in i _ (by omega), pk_in i _ (by omega), fun v20 e20 => ?_⟩)
  · have hin : i = hd.length := by omega
    subst hin
    have k7 : ∀ k, k ≠ 46 → k ≠ 48 → v7 k = v k := fun k q1 q2 => by rw [hF7 k (by simp; exact q2), k5 k q1]
    have hR7 : RY ln v7 us bs fl hd b l m := ⟨hL, hRA.fr (fun j q1 q2 => by rw [hF7 46 (by decide)]; exact j5 j (by omega) (by omega)) (k7 47 (by decide) (by decide)), hRF.fr (k7 52 (by decide) (by decide)) (k7 53 (by decide) (by decide)) (k7 54 (by decide) (by decide)) (k7 55 (by decide) (by decide)), hRP.fr (k7 56 (by decide) (by decide)) (k7 57 (by decide) (by decide)) (k7 58 (by decide) (by decide))⟩
    exact r_fillT (fun x => if 0 ≤ x then 0 else 1) (fun _ => 0) (fun n hn => ⟨y_ok n hn, rfl⟩) (by show ¬ prf 0 (if (0 : Int32) ≤ -1 then (0 : Int32) else 1) 0 = 0; rw [y_no]; exact prf_2 0) hB hub hlen hbf hR7 hf hh (by rw [hF7 46 (by decide)]; exact j6) h7 hhf hE hA (fun ho v' q1 q2 q3 => hok ho v' (fun k hk => by rw [q1 k hk, k7 k (by omega) (by omega)]) q2 q3) (fun ho v' q1 q2 q3 => hno ho v' (fun k hk => by rw [q1 k hk, k7 k (by omega) (by omega)]) (by rw [q2]; decide) q3)
  · rw [nI_clamp (by omega), hF7 47 (by decide), k5 47 (by decide), r5 i q] at e20
    refine ⟨hd.length - (i + 1), by omega, i + 1, by omega, rfl, nI_1 i, hF7.tr (by rw [e20]; exact Fr.up (by simp)), fun j hj => ?_⟩
    rw [e20, va_up_self]
    by_cases z : j = i
    · subst z; rw [pk_us]
    · rw [pk_un z]; exact h7 j (by omega)
theorem r_store0 {a : Int32} {post : Int32 → gV → Prop} (hp : pin a 0 15 = 0) (h : post 0 (vrf v 1 0 0)) : wp_X4_store ln v a post := by
  unfold wp_X4_store
  rw [hp, if_pos rfl]
  intro v3 e3
  subst e3
  exact ⟨fun q => absurd q (prf_1 0 0), fun _ => h⟩
/-- how a content is cut and numbered -/
theorem cut_asg (us : Nat → Nat) (bs : Nat → Byt) (R b l m : Nat) (c : Byt) : ∃ E ns us' bs' R' ok, cuts (mkr (fun i => c.getD i 0)) c.length l m (mskOf b) 0 E ∧ Asg (prts (fun i => c.getD i 0) 0 E) us bs R ns us' bs' R' ok := by
  obtain ⟨E, hE⟩ := cuts_ex (mkr (fun i => c.getD i 0)) c.length l m (mskOf b) c.length 0 (Nat.zero_le _) (by omega)
  obtain ⟨ns, us', bs', R', ok, hA⟩ := Asg.ex (prts (fun i => c.getD i 0) 0 E) us bs R
  exact ⟨E, ns, us', bs', R', ok, hE, hA⟩
/-- the state behind a filling -/
theorem AB_fill {f : Nat} {c : Byt} {E ns : List Nat} {us' : Nat → Nat} {bs' : Nat → Byt} {R R' : Nat} {ok : Bool} (hB : AB us bs fl hd b l m) (hf : f < 16) (hN : c.length ≤ 1500) (hE : cuts (mkr (fun i => c.getD i 0)) c.length l m (mskOf b) 0 E) (hA : Asg (prts (fun i => c.getD i 0) 0 E) us bs R ns us' bs' R' ok) (ho : ok = true) : AB (uSub us' (fl f)) bs' (va_up fl f ns) [] b l m := by
  obtain ⟨a1, a2, a3, a4⟩ := hA.facts
  have hcat : cat bs' ns = c := by rw [cat_map, a4 ho, prts_flat hE, Nat.sub_zero, slc_all]
  rw [a1]
  exact hB.fill hf a2 a3 (by rw [hcat]; exact hN) (Nat.zero_le _)
theorem Phi_le {R : Nat} (h : R ≤ 25600) : Phi R ≤ 76800 := by
  unfold Phi
  by_cases q : R = 25600
  · rw [if_pos q]; omega
  · rw [if_neg q]; omega
theorem Phi_ge {R : Nat} (h : 1024 ≤ R) : 2048 ≤ Phi R := by
  unfold Phi
  omega
theorem pl_store {a : Int32} {Bk : (Nat → Nat) → gV → (Nat → Int64) → Nat → Prop} (hT : ST ln v us bs fl hd b l m) (hBk : ∀ ln2 v2 ou1 us2 bs2 fl2 hd2, ST ln2 v2 us2 bs2 fl2 hd2 b l m → ln 13 ≤ ln2 13 → Phi (ln 13) ≤ Phi (ln2 13) → Bk ln2 v2 ou1 (Phi (ln2 13) - Phi (ln 13))) : ∃ D : Nat, D + Phi (ln 13) ≤ 76800 ∧ wp_L_store (D + 2) (D + 1506) ln v ou a (fun k ln1 v1 ou1 => wp_X4_store ln1 v1 a (fun bb v2 => v2 46 0 = k ∧ (k = 0 → ou1 0 = bb.toInt64) ∧ Bk ln1 v2 ou1 D)) := by
  unfold wp_L_store wp_X3_store
  rcases file_cases a with ⟨f, hf, rfl, hp⟩ | ⟨hp, ho⟩
  · obtain ⟨E, ns, us', bs', R', ok, hE, hA⟩ := cut_asg us bs (ln 13) b l m hd
    have hrm := hA.room hT.2.1.1.1.2.2.2.2.2.2
    have hH := hT.2.1.2.2.1
    have hPl := Phi_le hrm.2.1
    refine ⟨Phi R' - Phi (ln 13), by omega, by omega, by omega, w_fAin hf ⟨Phi R' - Phi (ln 13) + 1, Phi R' - Phi (ln 13) + 1500, by omega, by omega, ?_⟩⟩
    rw [fmod hf, hH.2.2.2.2.1]
    refine w_fillFile hT.2.1 hT.1 hf (Or.inl rfl) hT.1.2.2.1 hH.2.2.2.2.2.1 hE hA (Nat.le_refl _) (Nat.le_refl _) (fun ho ln1 v1 q1 q2 q3 q4 => ?_) (fun ho ln1 v1 q1 q2 q3 q4 => Or.inr ⟨rfl, ?_⟩)
    · refine r_store hT.1 hT.usb hT.lens hT.bfs hT.hbf (hT.2.2.fr q2 q1) hf hp hE hA (fun _ v2 p1 p2 p3 => ⟨p2, fun _ => by rw [pk_uLs], ?_⟩) (fun hx => by rw [ho] at hx; cases hx)
      have := hBk ln1 v2 (vp_updL ou 0 (nI (cnt us' - cnt us)).toInt64) _ _ _ _ ⟨AB_fill hT.1 hf hT.1.2.2.1 hE hA ho, q4.fr p1, p3⟩ (by rw [q3]; exact hrm.1) (by rw [q3]; exact hrm.2.2)
      rw [q3] at this
      exact this
    · refine r_store hT.1 hT.usb hT.lens hT.bfs hT.hbf (hT.2.2.fr q2 q1) hf hp hE hA (fun hx => by rw [ho] at hx; cases hx) (fun _ v2 p1 p2 p3 => ⟨p2, fun z => absurd z (by decide), ?_⟩)
      have := hBk ln1 v2 ou _ _ _ _ ⟨hT.1, q4.fr p1, p3⟩ (by rw [q3]; exact hrm.1) (by rw [q3]; exact hrm.2.2)
      rw [q3] at this
      exact this
  · have hPl := Phi_le hT.2.1.1.1.2.2.2.2.2.2
    refine ⟨0, by omega, by omega, by omega, w_fAout ho (Or.inl ⟨rfl, ?_⟩)⟩
    refine r_store0 hp ⟨by rw [vrf_0, ptr_1], fun z => absurd z one0, ?_⟩
    have := hBk ln (vrf v 1 0 0) ou _ _ _ _ (hT.vrf 1 0 0) (Nat.le_refl _) (Nat.le_refl _)
    rw [Nat.sub_self] at this
    exact this
