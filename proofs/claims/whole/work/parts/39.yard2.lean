/-! pure: the class's yard: files, hand, rule; layOut, fillFile -/
def CFi (ln : Nat → Nat) (v : gV) (bs : Nat → Byt) (fl : Nat → List Nat) : Prop := ∀ f, f < 16 → 16 ≤ ln (30 + f) ∧ ln (30 + f) ≤ 1500 ∧ (fl f).length ≤ ln (30 + f) ∧ v (14 + f) 1 = nI (fl f).length ∧ v (14 + f) 2 = nI (cat bs (fl f)).length ∧ ∀ k, k < (fl f).length → v (30 + f) k = nI ((fl f).getD k 0)
def CHd (ln : Nat → Nat) (v : gV) (hd : Byt) : Prop := ln 4 = 1500 ∧ ln 5 = 1500 ∧ ln 6 = 1500 ∧ ln 7 = 400 ∧ v 0 4 = nI hd.length ∧ (∀ i, i < hd.length → v 4 i = hd.getD i 0) ∧ (∀ i, i < 1500 → fits .byte (.int (v 4 i)) = true) ∧ (∀ i, i < 1500 → fits .byte (.int (v 5 i)) = true)
def mskOf (b : Nat) : Int32 := (1 <<< (nI b &&& 31)) - 1
def CRu (v : gV) (b l m : Nat) : Prop := v 1 0 = mskOf b ∧ v 1 1 = nI l ∧ v 1 2 = nI m
/-- the class holds the abstract state -/
def CY (ln : Nat → Nat) (v : gV) (us : Nat → Nat) (bs : Nat → Byt) (fl : Nat → List Nat) (hd : Byt) (b l m : Nat) : Prop := CS ln v us bs ∧ CFi ln v bs fl ∧ CHd ln v hd ∧ CRu v b l m
theorem CFi.fr {ln ln' : Nat → Nat} {v v' : gV} {bs bs' : Nat → Byt} {fl : Nat → List Nat} (h : CFi ln v bs fl) (hv : ∀ k, 14 ≤ k → k < 46 → v' k = v k) (hl : ∀ k, 30 ≤ k → k < 46 → ln' k = ln k) (hb : ∀ f, f < 16 → cat bs' (fl f) = cat bs (fl f)) : CFi ln' v' bs' fl := by
  intro f hf
  rw [hl (30 + f) (by omega) (by omega), hv (14 + f) (by omega) (by omega), hv (30 + f) (by omega) (by omega), hb f hf]
  exact h f hf
theorem CHd.fr {ln ln' : Nat → Nat} {v v' : gV} {hd : Byt} (h : CHd ln v hd) (h0 : v' 0 = v 0) (h4 : v' 4 = v 4) (h5 : v' 5 = v 5) (hl : ∀ k, 4 ≤ k → k < 8 → ln' k = ln k) : CHd ln' v' hd := by
  unfold CHd at h ⊢
  rw [h0, h4, h5, hl 4 (by omega) (by omega), hl 5 (by omega) (by omega), hl 6 (by omega) (by omega), hl 7 (by omega) (by omega)]
  exact h
theorem CRu.fr {v v' : gV} {b l m : Nat} (h : CRu v b l m) (h1 : v' 1 = v 1) : CRu v' b l m := by
  unfold CRu at h ⊢
  rw [h1]
  exact h
theorem CY.fr {ln : Nat → Nat} {v v' : gV} {us : Nat → Nat} {bs : Nat → Byt} {fl : Nat → List Nat} {hd : Byt} {b l m : Nat} (h : CY ln v us bs fl hd b l m) (hv : ∀ k, k < 46 → v' k = v k) : CY ln v' us bs fl hd b l m := ⟨h.1.fr (hv 2 (by omega)) (hv 8 (by omega)) (hv 9 (by omega)) (hv 10 (by omega)) (hv 11 (by omega)) (hv 12 (by omega)) (hv 13 (by omega)), h.2.1.fr (fun k _ hk => hv k hk) (fun _ _ _ => rfl) (fun _ _ => rfl), h.2.2.1.fr (hv 0 (by omega)) (hv 4 (by omega)) (hv 5 (by omega)) (fun _ _ _ => rfl), h.2.2.2.fr (hv 1 (by omega))⟩
theorem gd_app_r {α : Type} (l m : List α) (k : Nat) (d : α) (h : l.length ≤ k) : (l ++ m).getD k d = m.getD (k - l.length) d := by
  rw [List.getD_eq_getElem?_getD, List.getElem?_append_right h, ← List.getD_eq_getElem?_getD]
theorem AB.big {us : Nat → Nat} {bs : Nat → Byt} {fl : Nat → List Nat} {hd : Byt} {b l m : Nat} (h : AB us bs fl hd b l m) (hl : ∀ f, f < 16 → (fl f).length ≤ 1500) (n : Nat) : us n ≤ 24000 := by
  rw [h.1 n]
  have h1 : sumTo (fun f => (fl f).count n) 16 ≤ sumTo (fun _ => 1500) 16 := sumTo_le (fun f hf => Nat.le_trans (count_le_len _ _) (hl f hf))
  rw [sumTo_const] at h1
  omega
theorem w_layOut {ln : Nat → Nat} {v : gV} {us : Nat → Nat} {bs : Nat → Byt} {ns : List Nat} {f : Nat} {post : gV → Prop} (hS : CS ln v us bs) (hf : f < 16) (l5 : ln 5 = 1500) (hN : ns.length ≤ ln (30 + f)) (hl : ln (30 + f) ≤ 1500) (hc : v (14 + f) 1 = nI ns.length) (hv : ∀ k, k < ns.length → v (30 + f) k = nI (ns.getD k 0)) (h4 : ∀ n, n ∈ ns → n < 400 ∧ 0 < us n) (hlen : (cat bs ns).length ≤ 1500) (hfit : ∀ i, i < 1500 → fits .byte (.int (v 5 i)) = true)
    (h : ∀ v', Fr [5] v v' → (∀ i, i < (cat bs ns).length → v' 5 i = (cat bs ns).getD i 0) → (∀ i, i < 1500 → fits .byte (.int (v' 5 i)) = true) → post v') : wp_X3_layOut ln v (14 + f) post := by
  unfold wp_X3_layOut
  rw [show 14 + f + 16 = 30 + f by omega]
  refine ⟨fun n x1 x2 v3 => ∃ l1 l2, ns = l1 ++ l2 ∧ x1 = nI (cat bs l1).length ∧ x2 = nI l1.length ∧ n = l2.length ∧ Fr [5] v v3 ∧ (∀ i, i < (cat bs l1).length → v3 5 i = (cat bs l1).getD i 0) ∧ (∀ i, i < 1500 → fits .byte (.int (v3 5 i)) = true), ⟨ns.length, [], ns, rfl, rfl, rfl, rfl, Fr.rf, fun i hi => absurd hi (Nat.not_lt_zero _), hfit⟩, ?_⟩
  rintro n x1 x2 v3 ⟨l1, l2, rfl, rfl, rfl, rfl, hF, hb, hft⟩
  have hS3 := hS.fr (hF 2 (by decide)) (hF 8 (by decide)) (hF 9 (by decide)) (hF 10 (by decide)) (hF 11 (by decide)) (hF 12 (by decide)) (hF 13 (by decide))
  rw [hF (14 + f) (by simp; omega), hF (30 + f) (by simp; omega), hc]
  have hll : (l1 ++ l2).length = l1.length + l2.length := List.length_append
  refine pk_le (l1 ++ l2).length l1.length (fun q => ?_) (fun q => ?_)
  · have : l2 = [] := List.eq_nil_of_length_eq_zero (by omega)
    subst this
    rw [List.append_nil] at h
    exact h v3 hF hb hft
  · cases l2 with
    | nil => simp at q
    | cons m t =>
      have hm := h4 m (by simp)
      have e : v (30 + f) l1.length = nI m := by rw [hv _ (by simp), gd_mid]
      obtain ⟨b1, b2, b3, b4, b5, b6⟩ := hS3.2.2.1 m hm.1 hm.2
      have hcat : cat bs (l1 ++ m :: t) = (cat bs l1 ++ bs m) ++ cat bs t := by rw [cat_app]; show cat bs l1 ++ (bs m ++ cat bs t) = _; rw [List.append_assoc]
      have hc1 : cat bs (l1 ++ [m]) = cat bs l1 ++ bs m := by rw [cat_app]; show cat bs l1 ++ (bs m ++ []) = _; rw [List.append_nil]
      rw [hcat, List.length_append, List.length_append] at hlen
      rw [List.length_cons] at hll
      have h13 := hS3.1.2.2.2.2.2
      refine ⟨pk_in l1.length _ (by omega), ?_⟩
      rw [nI_clamp (n := l1.length) (by omega), e]
      unfold wp_X2_writeOut
      rw [plo_p hS3 hm.1 hm.2]
      have e64 : nI m * 64 = nI (m * 64) := by rw [show (64 : Int32) = nI 64 from rfl, pk_mul]
      have e15 : Int32.ofNat (ln 5) - nI (cat bs l1).length = nI (1500 - (cat bs l1).length) := by
        rw [l5]
        exact pk_sub (a := 1500) (by omega)
      rw [e64, e15]
      refine ⟨hS3.1.1, hS3.1.2.1, fun z => absurd z (nI_ne0 (by omega) (by omega)), fun _ => ⟨fun z => absurd z (nI_pos (by omega)), fun _ => ⟨fun _ => ?_, fun z => absurd (nI_le (by omega) (by omega)) z⟩⟩⟩
      rw [nI_clamp (n := m * 64) (by omega), nI_clamp (n := (cat bs l1).length) (by omega), nI_clamp (n := (bs m).length) (by omega), l5]
      refine ⟨nI_pos (by omega), nI_pos (by omega), nI_pos (by omega), by omega, by omega, fun i hi => hS3.2.2.2.1 _ (by omega), ?_⟩
      intro v6 e6
      have hF6 : Fr [5] v3 v6 := by rw [e6]; exact Fr.up (by simp)
      have e65 : v6 5 = va_cpy (v3 13) (v3 5) (m * 64) (cat bs l1).length (bs m).length := by rw [e6, va_up_self]
      refine ⟨t.length, by simp, l1 ++ [m], t, by simp, by rw [nI_add, hc1, List.length_append], by rw [nI_1, List.length_append]; rfl, rfl, hF.tr hF6, fun i hi => ?_, fun i hi => ?_⟩
      · rw [hc1, List.length_append] at hi
        rw [hc1, e65]
        by_cases z : i < (cat bs l1).length
        · rw [pk_cpy_out (Or.inl z), gd_app _ _ _ _ z, hb i z]
        · rw [pk_cpy_in (by omega) (by omega), gd_app_r _ _ _ _ (by omega)]
          exact b6 _ (by omega)
      · rw [e65]
        by_cases z : (cat bs l1).length ≤ i ∧ i < (cat bs l1).length + (bs m).length
        · rw [pk_cpy_in z.1 z.2]
          exact hS3.2.2.2.1 _ (by omega)
        · rw [pk_cpy_out (by omega)]
          exact hft i hi
theorem bc_N {ln : Nat → Nat} {P c : Nat} (h1 : 16 ≤ ln (P + 16)) (h2 : ln (P + 16) ≤ 1500) (hc : c ≤ 1500) : 16 ≤ bcL ln P c ∧ bcL ln P c ≤ 1500 ∧ c ≤ bcL ln P c ∧ bcC ln P c ≤ 1 ∧ bcS ln P c ≤ 1500 := by
  unfold bcL bcC bcS bcN
  by_cases q : ln (P + 16) < c
  · rw [if_pos q, if_pos q, if_pos q]; omega
  · rw [if_neg q, if_neg q, if_neg q]; omega
theorem bc_V {ln : Nat → Nat} {v : gV} {P r c : Nat} {x : Int32} (hP : P < 30) (hr : r ≠ P + 16 ∨ c ≤ ln (P + 16)) : (∀ k, k ≠ P → k ≠ P + 16 → bcV ln v P r c x k = v k) ∧ bcV ln v P r c x P 1 = nI c ∧ bcV ln v P r c x P 2 = x ∧ ∀ k, k < c → bcV ln v P r c x (P + 16) k = v r k := by
  unfold bcV
  have hPP : P ≠ P + 16 := by omega
  refine ⟨fun k h1 h2 => by show va_up (va_up v (P + 16) _) P _ k = v k; rw [va_up_ne _ _ h1, va_up_ne _ _ h2], ?_, ?_, fun k hk => ?_⟩
  · show va_up (α := Nat → Int32) _ P _ P 1 = _
    rw [va_up_self, pk_un (by decide), pk_us]
  · show va_up (α := Nat → Int32) _ P _ P 2 = _
    rw [va_up_self, pk_us]
  · show va_up (va_up v (P + 16) _) P _ (P + 16) k = _
    rw [va_up_ne _ _ hPP.symm, va_up_self, pk_cpy_in (Nat.zero_le _) (by omega), Nat.zero_add, Nat.sub_zero]
    by_cases q : ln (P + 16) < c
    · rw [if_pos q, va_up_ne _ _ (by rcases hr with z | z; exact z; omega)]
    · rw [if_neg q]
theorem w_fillFile {ln : Nat → Nat} {v : gV} {us : Nat → Nat} {bs : Nat → Byt} {fl : Nat → List Nat} {hd c : Byt} {b l m f r mc ms : Nat} {E ns : List Nat} {us' : Nat → Nat} {bs' : Nat → Byt} {R' : Nat} {ok : Bool} {post : Int32 → (Nat → Nat) → gV → Prop} {pex : String → (Nat → Nat) → gV → Prop} (hY : CY ln v us bs fl hd b l m) (hB : AB us bs fl hd b l m) (hf : f < 16) (hrr : r = 4 ∨ r = 5) (hc : c.length ≤ 1500) (hcv : ∀ i, i < c.length → v r i = c.getD i 0) (hE : cuts (mkr (fun i => c.getD i 0)) c.length l m (mskOf b) 0 E) (hA : Asg (prts (fun i => c.getD i 0) 0 E) us bs (ln 13) ns us' bs' R' ok) (hmc : Phi R' - Phi (ln 13) + 1 ≤ mc) (hms : Phi R' - Phi (ln 13) + 1500 ≤ ms)
    (hok : ok = true → ∀ ln' v', (∀ k, 46 ≤ k → v' k = v k) → (∀ k, 46 ≤ k → ln' k = ln k) → ln' 13 = R' → CY ln' v' (uSub us' (fl f)) bs' (va_up fl f ns) [] b l m → post (nI (cnt us' - cnt us)) ln' v')
    (hno : ok = false → ∀ ln' v', (∀ k, 46 ≤ k → v' k = v k) → (∀ k, 46 ≤ k → ln' k = ln k) → ln' 13 = R' → CY ln' v' us bs fl hd b l m → pex "java/lang/UnsupportedOperationException" ln' v') : wp_X3_fillFile mc ms ln v (14 + f) r (nI c.length) post pex := by
  obtain ⟨hS, hFi, hH, hR⟩ := id hY
  obtain ⟨l4, l5, l6, l7, hh, hhv, ft4, ft5⟩ := id hH
  obtain ⟨g1, g2, g3, g4, g5, g6⟩ := hFi f hf
  have hlen : ∀ g, g < 16 → (fl g).length ≤ 1500 := fun g hg => by have := hFi g hg; omega
  obtain ⟨a1, a2, a3, a4⟩ := hA.facts
  have hcut : cuts (mkr (v r)) c.length l m (mskOf b) 0 E := cuts_congr (fun i hi => by unfold mkr; rw [hcv i hi]) hE
  have hprt : prts (v r) 0 E = prts (fun i => c.getD i 0) 0 E := prts_congr hcv hcut
  have hfr : ∀ i, i < 1500 → fits .byte (.int (v r i)) = true := by rcases hrr with q | q <;> subst q <;> assumption
  have hkeep : ∀ v', Fr tpK v v' → (∀ k, 46 ≤ k → v' k = v k) ∧ CFi (va_up ln 13 R') v' bs fl ∧ CHd (va_up ln 13 R') v' hd ∧ CRu v' b l m := fun v' hF => ⟨fun k hk => hF k (by simp [tpK]; omega), hFi.fr (fun k k1 k2 => hF k (by simp [tpK]; omega)) (fun k k1 _ => va_up_ne _ _ (by omega)) (fun _ _ => rfl), hH.fr (hF 0 (by decide)) (hF 4 (by decide)) (hF 5 (by decide)) (fun k k1 k2 => va_up_ne _ _ (by omega)), hR.fr (hF 1 (by decide))⟩
  unfold wp_X3_fillFile
  refine ⟨Phi R' - Phi (ln 13), Phi R' - Phi (ln 13), by omega, by omega, ?_⟩
  refine w_takeParts hS hrr hc (by rcases hrr with q | q <;> subst q <;> assumption) l6 hfr (fun n _ => by have := hB.big hlen n; omega) hR.1 hR.2.1 hR.2.2 (by have := hB.2.2.2; omega) (by have := hB.2.2.2; omega) (by have := hB.2.2.2; omega) hcut (by rw [hprt]; exact hA) (Nat.le_refl _) (Nat.le_refl _) (fun ho v2 hF2 hS2 h26 hnN => ⟨fun z => absurd z (fun y => ?_), fun _ => ?_⟩) (fun ho v2 hF2 hS2 => ⟨fun _ => ⟨by omega, by omega, ?_⟩, fun z => absurd rfl z⟩)
  · have : (nI ns.length).toInt = (-1 : Int32).toInt := by rw [y]
    rw [nI_toInt (by omega)] at this
    have e : ((-1 : Int32).toInt) = -1 := rfl
    rw [e] at this
    omega
  · obtain ⟨k1, k2, k3, k4⟩ := hkeep v2 hF2
    have e1 : 14 + f + 16 = 30 + f := by omega
    have l13 : ∀ k, k ≠ 13 → va_up ln 13 R' k = ln k := fun k hk => va_up_ne _ _ hk
    have hpos : ∀ n, 0 < us n → bs' n = bs n := a2
    rw [e1, hF2 (14 + f) (by simp [tpK]; omega), g4]
    refine w_gbAll hS2 (by simp; omega) (by rw [l13 _ (by omega)]; exact g3) (by rw [l13 _ (by omega)]; exact g2) (fun k hk => by rw [hF2 (30 + f) (by simp [tpK]; omega)]; exact g6 k hk) (fun n hn => (hB.2.1 f hf).1 n hn) (fun n => by have := hB.cnt hf n; rw [a1]; unfold uAdd; omega) (fun v14 hF14 hS14 => ?_)
    obtain ⟨n1, n2, n3, n4, n5⟩ := bc_N (ln := va_up ln 13 R') (P := 14 + f) (c := ns.length) (by rw [e1, l13 _ (by omega)]; exact g1) (by rw [e1, l13 _ (by omega)]; exact g2) (by omega)
    refine ⟨ns.length, rfl, by rw [l13 6 (by decide)]; omega, by omega, by rw [l13 _ (by omega)]; exact g1, by rw [l13 _ (by omega)]; exact g2, by omega, by omega, ?_⟩
    intro ln15 v16 e15 e16 v24 e24
    obtain ⟨c1, c2, c3, c4⟩ := bc_V (ln := va_up ln 13 R') (v := v14) (P := 14 + f) (r := 6) (c := ns.length) (x := nI c.length) (by omega) (Or.inl (by omega))
    rw [← e16] at c1 c2 c3 c4
    rw [e1] at c1 c4
    have v24k : ∀ k, k ≠ 0 → v24 k = v16 k := fun k hk => by rw [e24, va_up_ne _ _ hk]
    have lk15 : ∀ k, k ≠ 13 → k ≠ 30 + f → ln15 k = ln k := fun k h1 h2 => by rw [e15, va_up_ne _ _ h2, l13 k h1]
    have l1513 : ln15 13 = R' := by rw [e15, va_up_ne _ _ (by omega), va_up_self]
    have big : ∀ k, k ∉ tpK → k ≠ 0 → k ≠ 14 + f → k ≠ 30 + f → v24 k = v k := fun k h1 h2 h3 h4 => by
      rw [v24k k h2, c1 k h3 h4, hF14 k (fun z => h1 (by revert z; simp [tpK]; omega)), hF2 k h1]
    have hval : v2 2 7 - v 2 7 = nI (cnt us' - cnt us) := by
      have q1 := hS2.2.2.2.2.2.2.1
      have q2 := hS.2.2.2.2.2.2.1
      rw [q1, q2]
      exact pk_sub (cnt_mono (fun n => by rw [a1]; unfold uAdd; omega))
    rw [hval]
    have hcat : cat bs' ns = c := by rw [cat_map, a4 ho, prts_flat hE, Nat.sub_zero, slc_all]
    refine hok ho ln15 v24 (fun k hk => big k (by simp [tpK]; omega) (by omega) (by omega) (by omega)) (fun k hk => lk15 k (by omega) (by omega)) l1513 ⟨?_, ?_, ?_, ?_⟩
    · have hS15 : CS ln15 v14 (uSub us' (fl f)) bs' := hS14.ln (fun k q1 q2 => by rw [e15, va_up_ne _ _ (by omega)])
      refine hS15.fr ?_ ?_ ?_ ?_ ?_ ?_ ?_
      all_goals (rw [v24k _ (by decide)]; exact c1 _ (by omega) (by omega))
    · intro g hg
      by_cases q : g = f
      · subst q
        rw [va_up_self, hcat, e15, va_up_self, v24k _ (by omega), v24k _ (by omega)]
        refine ⟨n1, n2, n3, c2, c3, fun k hk => ?_⟩
        rw [c4 k hk, hF14 6 (by decide)]
        exact h26 k hk
      · rw [va_up_ne _ _ q, lk15 _ (by omega) (by omega), big (14 + g) (by simp [tpK]; omega) (by omega) (by omega) (by omega), big (30 + g) (by simp [tpK]; omega) (by omega) (by omega) (by omega), cat_congr (fun n hn => hpos n (hB.pos hg hn))]
        exact hFi g hg
    · refine ⟨by rw [lk15 4 (by decide) (by omega)]; exact l4, by rw [lk15 5 (by decide) (by omega)]; exact l5, by rw [lk15 6 (by decide) (by omega)]; exact l6, by rw [lk15 7 (by decide) (by omega)]; exact l7, ?_, fun i hi => absurd hi (Nat.not_lt_zero _), ?_, ?_⟩
      · rw [e24, va_up_self, pk_us]; rfl
      · rw [big 4 (by decide) (by decide) (by omega) (by omega)]; exact ft4
      · rw [big 5 (by decide) (by decide) (by omega) (by omega)]; exact ft5
    · exact hR.fr (big 1 (by decide) (by decide) (by omega) (by omega))
  · obtain ⟨k1, k2, k3, k4⟩ := hkeep v2 hF2
    exact hno ho _ v2 k1 (fun k hk => va_up_ne _ _ (by omega)) (va_up_self _ _ _) ⟨hS2, k2, k3, k4⟩
