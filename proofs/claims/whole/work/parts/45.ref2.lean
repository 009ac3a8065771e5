/-! pure: the reference's give, take -/
variable {ln : Nat → Nat} {v : gV} {us us0 : Nat → Nat} {bs : Nat → Byt} {fl : Nat → List Nat} {hd : Byt} {b l m : Nat} {ou : Nat → Int64}
theorem sumTo_add (f g : Nat → Nat) (N : Nat) : sumTo (fun i => f i + g i) N = sumTo f N + sumTo g N := by
  induction N with
  | zero => rfl
  | succ N ih => show sumTo _ N + (f N + g N) = (sumTo f N + f N) + (sumTo g N + g N); rw [ih]; omega
theorem RG.frs {us' : Nat → Nat} (hG : RG v us us' bs) : sumTo (fun n => if v 51 n = 0 then 0 else 1) 400 = cnt us' - cnt us := by
  have h : cnt us' = sumTo (fun n => (if 0 < us n then 1 else 0) + (if v 51 n = 0 then 0 else 1)) 400 := by
    refine sumTo_congr (fun n hn => ?_)
    obtain ⟨g1, g2, g3, g4, g5, g6⟩ := hG n hn
    by_cases q : 0 < us n
    · rw [if_pos q, if_pos (g4.mpr (Or.inl q)), if_pos (g5 q)]
    · rcases g3 with z | z
      · rw [if_neg q, if_pos z, if_neg (fun y => by
          rcases g4.mp y with x | x
          · exact q x
          · rw [z] at x; exact absurd x (by decide))]
      · rw [if_neg q, if_neg (show ¬ v 51 n = 0 by rw [z]; decide), if_pos (g4.mpr (Or.inr z))]
  rw [sumTo_add] at h
  have h2 : cnt us' = cnt us + sumTo (fun n => if v 51 n = 0 then 0 else 1) 400 := h
  omega
theorem RG.rp {us' : Nat → Nat} {bs' : Nat → Byt} (hG : RG v us us' bs') (hb : ∀ n, 0 < us n → bs' n = bs n) : RP v us bs := by
  intro n hn
  obtain ⟨g1, g2, g3, g4, g5, g6⟩ := hG n hn
  refine ⟨g1, fun hu => ?_⟩
  have h := g6 (g4.mpr (Or.inl hu))
  rw [hb n hu] at h
  exact ⟨h.1, h.2.2.2⟩
theorem w_cnt88 {w : gV} {x6 : Int32} {post : Int32 → gV → Prop} (l51 : ln 51 = 400) (h : post (if x6 = 0 then (-1) else nI (sumTo (fun n => if w 51 n = 0 then 0 else 1) 400)) w) : ∃ I88 : Nat → Int32 → Int32 → Prop, (∃ n, I88 n 0 0) ∧ ∀ (n : Nat) (x10 : Int32) (x11 : Int32), I88 n x10 x11 → (((400 ≤ x11) → ((post (if x6 = 0 then (-1) else x10) w))) ∧ (¬ (400 ≤ x11) → (vp_in x11 (ln 51) ∧ ((∀ x18 : Int32, x18 = (if (w 51 x11.toNatClampNeg) = 0 then x10 else x10 + 1) → (∃ n', n' < n ∧ I88 n' x18 (x11 + 1))))))) := by
  refine ⟨fun k x10 x11 => ∃ i, i ≤ 400 ∧ k = 400 - i ∧ x11 = nI i ∧ x10 = nI (sumTo (fun n => if w 51 n = 0 then 0 else 1) i), ⟨400, 0, by omega, rfl, rfl, rfl⟩, ?_⟩
  rintro k x10 x11 ⟨i, hi, rfl, rfl, rfl⟩
  refine pk_le 400 i (fun q => ?_) (fun q => ⟨by rw [l51]; exact pk_in i _ q, ?_⟩)
  · have : i = 400 := by omega
    subst this
    exact h
  · intro x18 e18
    rw [nI_clamp (by omega)] at e18
    refine ⟨400 - (i + 1), by omega, i + 1, by omega, rfl, nI_1 i, ?_⟩
    show x18 = nI (sumTo _ i + (if w 51 i = 0 then 0 else 1))
    rw [e18]
    by_cases z : w 51 i = 0
    · rw [if_pos z, if_pos z, Nat.add_zero]
    · rw [if_neg z, if_neg z, nI_1]
def gvK : List Nat := [46, 49, 50, 51, 57, 58]
def giI (v5 : gV) (us : Nat → Nat) (c : Byt) (b l m : Nat) (E ns : List Nat) (us' : Nat → Nat) (bs' : Nat → Byt) (R' : Nat) (ok : Bool) (n : Nat) (x6 x7 : Int32) (v8 : gV) : Prop :=
  v8 46 = v5 46 ∧ v8 49 = v5 49 ∧ Fr [50, 51, 57, 58] v5 v8 ∧ ((x6 = 1 ∧ ∃ (a : Nat) (E1 E2 ns1 ns2 : List Nat) (bs1 : Nat → Byt) (R1 : Nat), E = E1 ++ E2 ∧ ns = ns1 ++ ns2 ∧ E1.length = ns1.length ∧ x7 = nI E1.length ∧ n = E2.length + 1 ∧ cuts (mkr (fun i => c.getD i 0)) c.length l m (mskOf b) a E2 ∧ ((E1 = [] ∧ a = 0) ∨ (∃ E0, E1 = E0 ++ [a])) ∧ Asg (prts (fun i => c.getD i 0) a E2) (uAdd us ns1) bs1 R1 ns2 us' bs' R' ok ∧ RG v8 us (uAdd us ns1) bs1 ∧ (∀ k, k < ns1.length → v8 50 k = nI (ns1.getD k 0))) ∨ (x6 = 0 ∧ ok = false ∧ RG v8 us us' bs'))
theorem w_give {c : Byt} {E ns : List Nat} {us' : Nat → Nat} {bs' : Nat → Byt} {R R' : Nat} {ok : Bool} {post : Int32 → gV → Prop} (hL : RLn ln) (hub : ∀ n, us n ≤ 24000) (hP : RP v us bs) (hbf : ∀ n, n < 400 → 0 < us n → (bs n).length ≤ 64 ∧ BF (bs n)) (hN : c.length ≤ 1500) (h6 : v 46 6 = nI c.length) (h1 : v 46 1 = nI b) (h2 : v 46 2 = nI l) (h3 : v 46 3 = nI m) (hl : l ≤ 64) (hm1 : 1 ≤ m) (hm : m ≤ 64) (hrow : ∀ i, i < c.length → v 48 i = c.getD i 0 &&& 255) (hcf : BF c) (hE : cuts (mkr (fun i => c.getD i 0)) c.length l m (mskOf b) 0 E) (hA : Asg (prts (fun i => c.getD i 0) 0 E) us bs R ns us' bs' R' ok)
    (hok : ok = true → ∀ v', Fr gvK v v' → (∀ j, j ≠ 8 → v' 46 j = v 46 j) → v' 46 8 = nI ns.length → (∀ k, k < ns.length → v' 50 k = nI (ns.getD k 0)) → RG v' us us' bs' → post (nI (cnt us' - cnt us)) v')
    (hno : ok = false → ∀ v', Fr gvK v v' → (∀ j, j ≠ 8 → v' 46 j = v 46 j) → RP v' us bs → post (-1) v') : wp_X4_give ln v post := by
  obtain ⟨l47, l48, l49, l50, l51, l52, l53, l54, l55, l56, l57, l58⟩ := id hL
  obtain ⟨a1, a2, a3, a4⟩ := hA.facts
  unfold wp_X4_give
  refine ⟨fun k x1 v2 => ∃ i, i ≤ 400 ∧ k = 400 - i ∧ x1 = nI i ∧ Fr [51] v v2 ∧ ∀ j, j < i → v2 51 j = 0, ⟨400, 0, by omega, rfl, rfl, Fr.rf, fun j hj => by omega⟩, ?_⟩
  rintro k x1 v2 ⟨i, hi, rfl, rfl, hF2, hz⟩
  refine pk_le 400 i (fun q => ?_) (fun q => ?_)
  · have hi4 : i = 400 := by omega
    subst hi4
    have e46 : v2 46 = v 46 := hF2 46 (by decide)
    have e48 : v2 48 = v 48 := hF2 48 (by decide)
    have hE48 : cuts (fun i => pmk (v2 48 i)) c.length l m (mskOf b) 0 E := cuts_congr (fun i hi => by unfold mkr; rw [e48, hrow i hi]) hE
    refine w_X4_cut (mask := mskOf b) (bits := b) hN l48 l49 (by rw [e46]; exact h6) (by rw [e46]; exact h1) (by rw [e46]; exact h2) (by rw [e46]; exact h3) hl hm rfl hE48 (fun v5 hF5 c1 c2 c3 => ?_)
    have hElen : E.length ≤ 1500 := by have := cuts_len hE; omega
    have hG5 : RG v5 us us bs := by
      intro n hn
      have u1 := hub n
      have e51 : v5 51 n = 0 := by rw [hF5 51 (by decide)]; exact hz n hn
      have e56 : v5 56 = v 56 := by rw [hF5 56 (by decide), hF2 56 (by decide)]
      have e57 : v5 57 = v 57 := by rw [hF5 57 (by decide), hF2 57 (by decide)]
      have e58 : v5 58 = v 58 := by rw [hF5 58 (by decide), hF2 58 (by decide)]
      rw [e51, e56, e57, e58]
      obtain ⟨p1, p2⟩ := hP n hn
      refine ⟨p1, by omega, Or.inl rfl, ⟨fun z => Or.inl z, fun z => ?_⟩, fun _ => rfl, fun hu => ⟨(p2 hu).1, (hbf n hn hu).1, (hbf n hn hu).2, (p2 hu).2⟩⟩
      rcases z with z | z
      · exact z
      · exact absurd z (by decide)
    have hk46 : ∀ j, j ≠ 8 → v5 46 j = v 46 j := fun j hj => by rw [c1 j hj, e46]
    have hFall : ∀ w : gV, w 46 = v5 46 → Fr [50, 51, 57, 58] v5 w → Fr gvK v w := by
      intro w _ hw k hk
      simp [gvK] at hk
      rw [hw k (by simp; omega), hF5 k (by simp; omega), hF2 k (by simp; omega)]
    refine ⟨giI v5 us c b l m E ns us' bs' R' ok, ⟨E.length + 1, rfl, rfl, Fr.rf, Or.inl ⟨rfl, 0, [], E, [], ns, bs, R, rfl, rfl, rfl, rfl, rfl, hE, Or.inl ⟨rfl, rfl⟩, by rw [uAdd_nil]; exact hA, by rw [uAdd_nil]; exact hG5, fun k hk => by simp at hk⟩⟩, ?_⟩
    rintro n x6 x7 v8 ⟨e46', e49', hF8, hst⟩
    rw [show v8 46 8 = nI E.length by rw [e46']; exact c2]
    rcases hst with ⟨rfl, a, E1, E2, ns1, ns2, bs1, R1, rfl, rfl, hlen, rfl, rfl, hcut, hbeg, hA2, hG8, h50⟩ | ⟨rfl, rfl, hG8⟩
    · have hEE : (E1 ++ E2).length = E1.length + E2.length := List.length_append
      refine pk_le (E1 ++ E2).length E1.length (fun q => ?_) (fun q => ⟨fun z => absurd z one0, fun _ => ?_⟩)
      · have : E2 = [] := List.eq_nil_of_length_eq_zero (by omega)
        subst this
        obtain ⟨rfl, rfl, rfl, rfl, rfl⟩ := hA2
        refine w_cnt88 l51 ?_
        rw [if_neg one0, hG8.frs]
        rw [List.append_nil] at hok c2
        exact hok rfl v8 (hFall v8 e46' hF8) (fun j hj => by rw [e46']; exact hk46 j hj) (by rw [e46', c2, hlen]) h50 hG8
      · cases E2 with
        | nil => simp at q
        | cons e E' =>
          obtain ⟨hend, hcut'⟩ := hcut
          have hae := hend.1
          have heN := hend.2.1
          have hmost := isEnd_most hm1 hend
          have e49k : v8 49 E1.length = nI e := by rw [e49', c3 _ (by omega), gd_mid]
          have hr8 : ∀ i, i < e → v8 48 i = c.getD i 0 &&& 255 := fun i hi => by rw [hF8 48 (by decide), hF5 48 (by decide), e48]; exact hrow i (by omega)
          have hgo : ∀ (x : Int32), x = nI a → vp_in (nI E1.length) (ln 49) ∧ wp_X4_numberOf ln v8 x (v8 49 (nI E1.length).toNatClampNeg) (fun (x34 : Int32) (v35 : gV) => (vp_in (nI E1.length) (ln 50) ∧ ∀ v37 : gV, v37 = va_up v35 50 (upd (v35 50) (nI E1.length).toNatClampNeg x34) → (vp_in (nI E1.length) (ln 50) ∧ ((∀ x41 : Int32, x41 = (if (v37 50 (nI E1.length).toNatClampNeg) < 0 then 0 else 1) → (∃ n', n' < (e :: E').length + 1 ∧ giI v5 us c b l m (E1 ++ e :: E') (ns1 ++ ns2) us' bs' R' ok n' x41 (nI E1.length + 1) v37)))))) := by
            rintro x rfl
            rw [l49, l50, nI_clamp (n := E1.length) (by omega), e49k]
            refine ⟨pk_in E1.length _ (by omega), w_numberOf (c := fun i => c.getD i 0) hL hG8 hae (by omega) (by omega) hr8 (fun i hi => hcf i (by omega)) (fun n hn v35 hF35 hG35 => ⟨pk_in E1.length _ (by omega), fun v37 e37 => ⟨pk_in E1.length _ (by omega), fun x41 e41 => ?_⟩⟩) (fun hn => ⟨pk_in E1.length _ (by omega), fun v37 e37 => ⟨pk_in E1.length _ (by omega), fun x41 e41 => ?_⟩⟩)⟩
            · have hn4 := num_lt hn
              have e35 : v35 50 = v8 50 := hF35 50 (by decide)
              have g50 : v37 50 = upd (v8 50) E1.length (nI n) := by rw [e37, va_up_self, e35]
              have g37 : ∀ k, k ≠ 50 → v37 k = v35 k := fun k hk => by rw [e37, va_up_ne _ _ hk]
              rw [g50, pk_us, if_neg (nI_pos (by omega))] at e41
              rcases hA2 with ⟨hnum, _⟩ | ⟨n2, t, hnum, rfl, hA3⟩
              · rw [hn] at hnum; cases hnum
              · rw [hn] at hnum
                cases hnum
                refine ⟨E'.length + 1, by simp, by rw [g37 46 (by decide), hF35 46 (by decide)]; exact e46', by rw [g37 49 (by decide), hF35 49 (by decide)]; exact e49', ?_, Or.inl ⟨e41, e, E1 ++ [e], E', ns1 ++ [n], t, va_up bs1 n (slc (fun i => c.getD i 0) a (e - a)), rmx R1 n, by simp, by simp, by simp; exact hlen, by rw [nI_1, List.length_append]; rfl, rfl, hcut', Or.inr ⟨E1, rfl⟩, by rw [uAdd_snoc]; exact hA3, ?_, ?_⟩⟩
                · refine hF8.tr (Fr.tr (b := v35) (hF35.mono (by decide)) (by rw [e37]; exact Fr.up (by simp)))
                · rw [uAdd_snoc]
                  intro k hk
                  rw [g37 56 (by decide), g37 51 (by decide), g37 57 (by decide), g37 58 (by decide)]
                  exact hG35 k hk
                · intro k hk
                  rw [g50]
                  simp at hk
                  by_cases z : k = ns1.length
                  · subst z; rw [← hlen, pk_us, hlen, gd_mid]
                  · rw [pk_un (by omega), h50 k (by omega), gd_app _ _ _ _ (by omega)]
            · have g50 : v37 50 = upd (v8 50) E1.length (-1) := by rw [e37, va_up_self]
              have g37 : ∀ k, k ≠ 50 → v37 k = v8 k := fun k hk => by rw [e37, va_up_ne _ _ hk]
              rw [g50, pk_us, if_pos (by decide)] at e41
              rcases hA2 with ⟨hnum, rfl, rfl, rfl, rfl, rfl⟩ | ⟨n2, t, hnum, _⟩
              · refine ⟨0, by omega, by rw [g37 46 (by decide)]; exact e46', by rw [g37 49 (by decide)]; exact e49', hF8.tr (by rw [e37]; exact Fr.up (by simp)), Or.inr ⟨e41, rfl, ?_⟩⟩
                intro k hk
                rw [g37 56 (by decide), g37 51 (by decide), g37 57 (by decide), g37 58 (by decide)]
                exact hG8 k hk
              · rw [hn] at hnum; cases hnum
          unfold wp_X4_beginOf
          rcases hbeg with ⟨rfl, rfl⟩ | ⟨E0, rfl⟩
          · refine ⟨fun z => absurd rfl z, hgo _ ?_⟩
            exact (if_pos (show nI ([] : List Nat).length = 0 from rfl)).trans rfl
          · have e0 : nI (E0 ++ [a]).length - 1 = nI E0.length := by rw [List.length_append]; exact nI_pred E0.length
            have hlt : E0.length < 1500 := by rw [List.length_append, List.length_append] at hElen; simp at hElen; omega
            rw [e0, l49] at *
            refine ⟨fun _ => pk_in E0.length _ hlt, hgo _ ?_⟩
            rw [if_neg (by rw [List.length_append]; exact nI_ne0 (by simp) (by simp; omega)), nI_clamp (by omega), e49', c3 _ (by simp <;> omega), List.append_assoc]
            show nI ((E0 ++ (a :: (e :: E'))).getD E0.length 0) = nI a
            rw [gd_mid]
    · have hend : ∃ I88 : Nat → Int32 → Int32 → Prop, (∃ n, I88 n 0 0) ∧ ∀ (n : Nat) (x10 : Int32) (x11 : Int32), I88 n x10 x11 → (((400 ≤ x11) → ((post (if (0 : Int32) = 0 then (-1) else x10) v8))) ∧ (¬ (400 ≤ x11) → (vp_in x11 (ln 51) ∧ ((∀ x18 : Int32, x18 = (if (v8 51 x11.toNatClampNeg) = 0 then x10 else x10 + 1) → (∃ n', n' < n ∧ I88 n' x18 (x11 + 1))))))) := by
        refine w_cnt88 l51 ?_
        rw [if_pos rfl]
        exact hno rfl v8 (hFall v8 e46' hF8) (fun j hj => by rw [e46']; exact hk46 j hj) (hG8.rp a2)
      exact ⟨fun _ => hend, fun _ => ⟨fun _ => hend, fun z => absurd rfl z⟩⟩
  · refine ⟨by rw [l51]; exact pk_in i _ q, fun v44 e44 => ?_⟩
    rw [nI_clamp (by omega), vn0] at e44
    refine ⟨400 - (i + 1), by omega, i + 1, by omega, rfl, nI_1 i, hF2.tr (by rw [e44]; exact Fr.up (by simp)), fun j hj => ?_⟩
    rw [e44, va_up_self]
    by_cases z : j = i
    · subst z; rw [pk_us]
    · rw [pk_un z]; exact hz j (by omega)
theorem w_take4 {f N : Nat} {ns ms : List Nat} {post : gV → Prop} (hL : RLn ln) (hf : f < 16) (hN : N ≤ 1500) (hns : ns.length ≤ 1500) (hms : ms.length ≤ 1500) (h6 : v 46 6 = nI N) (h8 : v 46 8 = nI ns.length) (h50 : ∀ k, k < ns.length → v 50 k = nI (ns.getD k 0)) (n4 : ∀ n, n ∈ ns → n < 400) (h56 : ∀ n, n < 400 → v 56 n = nI (us n)) (h54 : v 54 f = nI ms.length) (h55 : ∀ k, k < ms.length → v 55 (1500 * f + k) = nI (ms.getD k 0)) (m4 : ∀ n, n ∈ ms → n < 400) (hc : ∀ n, ms.count n ≤ us n)
    (h : ∀ v', Fr [52, 53, 54, 55, 56] v v' → (∀ n, n < 400 → v' 56 n = nI (uSub (uAdd us ns) ms n)) → v' 52 = upd (v 52) f (nI N) → v' 54 = upd (v 54) f (nI ns.length) → (∀ i, i < N → v' 53 (1500 * f + i) = v 48 i) → (∀ j, (j < 1500 * f ∨ 1500 * f + N ≤ j) → v' 53 j = v 53 j) → (∀ k, k < ns.length → v' 55 (1500 * f + k) = nI (ns.getD k 0)) → (∀ j, (j < 1500 * f ∨ 1500 * f + ns.length ≤ j) → v' 55 j = v 55 j) → post v') : wp_X4_take ln v (nI f) post := by
  obtain ⟨l47, l48, l49, l50, l51, l52, l53, l54, l55, l56, l57, l58⟩ := id hL
  unfold wp_X4_take
  rw [l48, l50, l52, l53, l54, l55, l56, nI_clamp (n := f) (by omega)]
  refine ⟨fun k x1 v2 => ∃ l1 l2, ns = l1 ++ l2 ∧ k = l2.length ∧ x1 = nI l1.length ∧ Fr [56] v v2 ∧ ∀ n, n < 400 → v2 56 n = nI (uAdd us l1 n), ⟨ns.length, [], ns, rfl, rfl, rfl, Fr.rf, fun n hn => by rw [uAdd_nil]; exact h56 n hn⟩, ?_⟩
  rintro k x1 v2 ⟨l1, l2, hl, rfl, rfl, hF2, u2⟩
  have hlen : ns.length = l1.length + l2.length := by rw [hl, List.length_append]
  rw [hF2 46 (by decide), h8, hF2 50 (by decide)]
  refine pk_le ns.length l1.length (fun q => ?_) (fun q => ⟨pk_in l1.length _ (by omega), ?_⟩)
  · have : l2 = [] := List.eq_nil_of_length_eq_zero (by omega)
    subst this
    rw [List.append_nil] at hl
    subst hl
    refine ⟨fun k x4 v5 => ∃ p1 p2, ms = p1 ++ p2 ∧ k = p2.length ∧ x4 = nI p1.length ∧ Fr [56] v v5 ∧ ∀ n, n < 400 → v5 56 n = nI (uSub (uAdd us ns) p1 n), ⟨ms.length, [], ms, rfl, rfl, rfl, hF2, fun n hn => by rw [uSub_nil]; exact u2 n hn⟩, ?_⟩
    rintro k x4 v5 ⟨p1, p2, hp, rfl, rfl, hF5, u5⟩
    have hplen : ms.length = p1.length + p2.length := by rw [hp, List.length_append]
    rw [hF5 54 (by decide), h54, hF5 46 (by decide), h6, hF5 55 (by decide), e1500, nI_clamp (n := 1500 * f + p1.length) (by omega)]
    refine ⟨pk_in f _ hf, pk_le ms.length p1.length (fun q => ⟨pk_in f _ hf, fun v9 e9 => ⟨pk_in f _ hf, fun v11 e11 => ?_⟩⟩) (fun q => ⟨pk_in (1500 * f + p1.length) _ (by omega), ?_⟩)⟩
    · have : p2 = [] := List.eq_nil_of_length_eq_zero (by omega)
      subst this
      rw [List.append_nil] at hp
      subst hp
      have g9 : ∀ k, k ≠ 52 → v9 k = v5 k := fun k hk => by rw [e9, va_up_ne _ _ hk]
      have g11 : ∀ k, k ≠ 54 → v11 k = v9 k := fun k hk => by rw [e11, va_up_ne _ _ hk]
      have k11 : ∀ k, k ≠ 52 → k ≠ 54 → k ≠ 56 → v11 k = v k := fun k q1 q2 q3 => by rw [g11 k q2, g9 k q1, hF5 k (by simp; exact q3)]
      have e46 : v11 46 = v 46 := k11 46 (by decide) (by decide) (by decide)
      have e52 : v11 52 = upd (v 52) f (nI N) := by rw [g11 52 (by decide), e9, va_up_self, hF5 52 (by decide)]
      have e54 : v11 54 = upd (v 54) f (nI ns.length) := by rw [e11, va_up_self, g9 54 (by decide), g9 46 (by decide), hF5 54 (by decide), hF5 46 (by decide), h8]
      have e56 : ∀ n, n < 400 → v11 56 n = nI (uSub (uAdd us ns) ms n) := fun n hn => by rw [g11 56 (by decide), g9 56 (by decide)]; exact u5 n hn
      refine ⟨fun k x12 w => ∃ i, i ≤ N ∧ k = N - i ∧ x12 = nI i ∧ Fr [53] v11 w ∧ (∀ j, j < i → w 53 (1500 * f + j) = v 48 j) ∧ (∀ j, (j < 1500 * f ∨ 1500 * f + i ≤ j) → w 53 j = v 53 j), ⟨N, 0, by omega, rfl, rfl, Fr.rf, fun j hj => by omega, fun j _ => by rw [k11 53 (by decide) (by decide) (by decide)]⟩, ?_⟩
      rintro k x12 w ⟨i, hi, rfl, rfl, hFw, w1, w2⟩
      rw [hFw 46 (by decide), e46, h6, hFw 48 (by decide), k11 48 (by decide) (by decide) (by decide), e1500]
      refine pk_le N i (fun q => ?_) (fun q => ⟨pk_in i _ (by omega), pk_in (1500 * f + i) _ (by omega), fun v24 e24 => ?_⟩)
      · have hin : i = N := by omega
        subst hin
        refine ⟨fun k x15 z => ∃ i, i ≤ ns.length ∧ k = ns.length - i ∧ x15 = nI i ∧ Fr [55] w z ∧ (∀ j, j < i → z 55 (1500 * f + j) = nI (ns.getD j 0)) ∧ (∀ j, (j < 1500 * f ∨ 1500 * f + i ≤ j) → z 55 j = v 55 j), ⟨ns.length, 0, by omega, rfl, rfl, Fr.rf, fun j hj => by omega, fun j _ => by rw [hFw 55 (by decide), k11 55 (by decide) (by decide) (by decide)]⟩, ?_⟩
        rintro k x15 z ⟨i', hi', rfl, rfl, hFz, z1, z2⟩
        rw [hFz 46 (by decide), hFw 46 (by decide), e46, h8, hFz 50 (by decide), hFw 50 (by decide), k11 50 (by decide) (by decide) (by decide), e1500]
        refine pk_le ns.length i' (fun q => ?_) (fun q => ⟨pk_in i' _ (by omega), pk_in (1500 * f + i') _ (by omega), fun v20 e20 => ?_⟩)
        · have hin : i' = ns.length := by omega
          subst hin
          have e53 : z 53 = w 53 := hFz 53 (by decide)
          refine h z (fun k hk => ?_) (fun n hn => by rw [hFz 56 (by decide), hFw 56 (by decide)]; exact e56 n hn) (by rw [hFz 52 (by decide), hFw 52 (by decide)]; exact e52) (by rw [hFz 54 (by decide), hFw 54 (by decide)]; exact e54) (fun j hj => by rw [e53]; exact w1 j hj) (fun j hj => by rw [e53]; exact w2 j hj) z1 z2
          simp at hk
          rw [hFz k (by simp; omega), hFw k (by simp; omega), k11 k (by omega) (by omega) (by omega)]
        · rw [nI_clamp (n := 1500 * f + i') (by omega), nI_clamp (n := i') (by omega), h50 i' q] at e20
          refine ⟨ns.length - (i' + 1), by omega, i' + 1, by omega, rfl, nI_1 i', hFz.tr (by rw [e20]; exact Fr.up (by simp)), fun j hj => ?_, fun j hj => ?_⟩
          · rw [e20, va_up_self]
            by_cases y : j = i'
            · subst y; rw [pk_us]
            · rw [pk_un (by omega)]; exact z1 j (by omega)
          · rw [e20, va_up_self, pk_un (by omega)]; exact z2 j (by omega)
      · rw [nI_clamp (n := 1500 * f + i) (by omega), nI_clamp (n := i) (by omega)] at e24
        refine ⟨N - (i + 1), by omega, i + 1, by omega, rfl, nI_1 i, hFw.tr (by rw [e24]; exact Fr.up (by simp)), fun j hj => ?_, fun j hj => ?_⟩
        · rw [e24, va_up_self]
          by_cases y : j = i
          · subst y; rw [pk_us]
          · rw [pk_un (by omega)]; exact w1 j (by omega)
        · rw [e24, va_up_self, pk_un (by omega)]; exact w2 j (by omega)
    · cases p2 with
      | nil => simp at hplen; omega
      | cons n t =>
        have hn := m4 n (by rw [hp]; simp)
        have e : v 55 (1500 * f + p1.length) = nI n := by rw [h55 _ q, hp, gd_mid]
        rw [e, nI_clamp (n := n) (by omega)]
        refine ⟨pk_in n _ hn, pk_in n _ hn, fun v29 e29 => ?_⟩
        have hpos : 0 < uSub (uAdd us ns) p1 n := by
          have := hc n
          rw [hp, List.count_append, cnt_cons, if_pos rfl] at this
          unfold uSub uAdd
          omega
        refine ⟨t.length, by simp, p1 ++ [n], t, by rw [hp]; simp, rfl, by rw [nI_1, List.length_append]; rfl, hF5.tr (by rw [e29]; exact Fr.up (by simp)), fun j hj => ?_⟩
        rw [e29, va_up_self, uSub_snoc]
        by_cases z : j = n
        · subst z
          rw [pk_us, va_up_self, u5 j hj]
          exact pk_sub (b := 1) hpos
        · rw [pk_un z, va_up_ne _ _ z]; exact u5 j hj
  · cases l2 with
    | nil => simp at hlen; omega
    | cons n t =>
      have hn := n4 n (by rw [hl]; simp)
      have e : v 50 l1.length = nI n := by rw [h50 _ q, hl, gd_mid]
      rw [nI_clamp (n := l1.length) (by omega), e, nI_clamp (n := n) (by omega)]
      refine ⟨pk_in n _ hn, pk_in n _ hn, fun v34 e34 => ?_⟩
      refine ⟨t.length, by simp, l1 ++ [n], t, by rw [hl]; simp, rfl, by rw [nI_1, List.length_append]; rfl, hF2.tr (by rw [e34]; exact Fr.up (by simp)), fun j hj => ?_⟩
      rw [e34, va_up_self, uAdd_snoc]
      by_cases z : j = n
      · subst z
        rw [pk_us, va_up_self, u2 j hj, nI_1]
      · rw [pk_un z, va_up_ne _ _ z]; exact u2 j hj
