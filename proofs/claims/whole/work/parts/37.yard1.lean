/-! pure: giving back a row of numbers, taking the parts of a row -/
def uSub (us : Nat → Nat) (ns : List Nat) : Nat → Nat := fun n => us n - ns.count n
def uAdd (us : Nat → Nat) (ns : List Nat) : Nat → Nat := fun n => us n + ns.count n
theorem uSub_nil (us : Nat → Nat) : uSub us [] = us := by funext n; simp [uSub]
theorem uAdd_nil (us : Nat → Nat) : uAdd us [] = us := by funext n; simp [uAdd]
theorem cnt_snoc (l : List Nat) (m n : Nat) : (l ++ [m]).count n = l.count n + (if n = m then 1 else 0) := by
  by_cases q : n = m
  · subst q; simp
  · rw [if_neg q, List.count_append, List.count_singleton]
    have : (m == n) = false := by simp; exact fun z => q z.symm
    rw [this]; simp
theorem cnt_cons (l : List Nat) (m n : Nat) : (m :: l).count n = l.count n + (if n = m then 1 else 0) := by
  by_cases q : n = m
  · subst q; simp
  · rw [if_neg q, List.count_cons]
    have : (m == n) = false := by simp; exact fun z => q z.symm
    rw [this]; simp
theorem uSub_snoc (us : Nat → Nat) (l : List Nat) (m : Nat) : uSub us (l ++ [m]) = va_up (uSub us l) m (uSub us l m - 1) := by
  funext n
  by_cases q : n = m
  · subst q; rw [va_up_self]; unfold uSub; rw [cnt_snoc, if_pos rfl]; omega
  · rw [va_up_ne _ _ q]; unfold uSub; rw [cnt_snoc, if_neg q, Nat.add_zero]
theorem uAdd_snoc (us : Nat → Nat) (l : List Nat) (m : Nat) : uAdd us (l ++ [m]) = va_up (uAdd us l) m (uAdd us l m + 1) := by
  funext n
  by_cases q : n = m
  · subst q; rw [va_up_self]; unfold uAdd; rw [cnt_snoc, if_pos rfl]; omega
  · rw [va_up_ne _ _ q]; unfold uAdd; rw [cnt_snoc, if_neg q, Nat.add_zero]
theorem uAdd_cons (us : Nat → Nat) (l : List Nat) (m : Nat) : uAdd (va_up us m (us m + 1)) l = uAdd us (m :: l) := by
  funext n
  by_cases q : n = m
  · subst q; unfold uAdd; rw [va_up_self, cnt_cons, if_pos rfl]; omega
  · unfold uAdd; rw [va_up_ne _ _ q, cnt_cons, if_neg q, Nat.add_zero]
theorem uSub_uAdd (us : Nat → Nat) (l : List Nat) : uSub (uAdd us l) l = us := by
  funext n; unfold uSub uAdd; omega
theorem gd_mid (l1 : List Nat) (m : Nat) (t : List Nat) : (l1 ++ m :: t).getD l1.length 0 = m := by
  simp [List.getD_eq_getElem?_getD]
theorem w_gbAll {ln : Nat → Nat} {v : gV} {us : Nat → Nat} {bs : Nat → Byt} {r : Nat} {ns : List Nat} {post : gV → Prop} (hS : CS ln v us bs) (hr : r ∉ [2, 8, 11, 12]) (hN : ns.length ≤ ln r) (hl : ln r ≤ 1500) (hv : ∀ k, k < ns.length → v r k = nI (ns.getD k 0)) (h4 : ∀ n, n ∈ ns → n < 400) (hc : ∀ n, ns.count n ≤ us n) (h : ∀ v', Fr [2, 8, 11, 12] v v' → CS ln v' (uSub us ns) bs → post v') : wp_X3_giveBack ln v r (nI ns.length) post := by
  unfold wp_X3_giveBack
  refine ⟨fun n x v2 => ∃ l1 l2, ns = l1 ++ l2 ∧ x = nI l1.length ∧ n = l2.length ∧ Fr [2, 8, 11, 12] v v2 ∧ CS ln v2 (uSub us l1) bs, ⟨ns.length, [], ns, rfl, rfl, rfl, Fr.rf, by rw [uSub_nil]; exact hS⟩, ?_⟩
  rintro n x v2 ⟨l1, l2, rfl, rfl, rfl, hF, hC⟩
  have hll : (l1 ++ l2).length = l1.length + l2.length := List.length_append
  rw [List.length_append] at hN
  refine pk_le (l1 ++ l2).length l1.length (fun q => ?_) (fun q => ?_)
  · have : l2 = [] := List.eq_nil_of_length_eq_zero (by rw [List.length_append] at q; omega)
    subst this
    rw [List.append_nil] at h
    exact h v2 hF hC
  · cases l2 with
    | nil => simp at q
    | cons m t =>
      have hlt : l1.length < (l1 ++ m :: t).length := by simp
      have e : v2 r l1.length = nI m := by rw [hF r hr, hv _ hlt, gd_mid]
      rw [List.length_cons] at hN
      refine ⟨pk_in l1.length _ (by omega), ?_⟩
      rw [pk_cl l1.length, e]
      refine w_giveBack1 hC (h4 m (by simp)) ?_ (fun v' hF' hC' => ⟨t.length, by simp, l1 ++ [m], t, by simp, by simp [nI_1], rfl, hF.tr hF', ?_⟩)
      · have := hc m
        rw [List.count_append, cnt_cons, if_pos rfl] at this
        unfold uSub
        omega
      · rw [uSub_snoc]; exact hC'
/-- the parts of a row -/
def prts (f : Nat → Int32) : Nat → List Nat → List Byt
  | _, [] => []
  | a, e :: E => slc f a (e - a) :: prts f e E
/-- what the room has cost -/
def Phi (R : Nat) : Nat := 2 * R + (if R = 25600 then 25600 else 0)
theorem rm_Phi {R n : Nat} (hR : R ≤ 25600) (hn : n < 400) : rmS R n + Phi R ≤ Phi (rmx R n) ∧ rmC R n ≤ rmS R n := by
  unfold rmC rmS Phi
  by_cases q : R < (n + 1) * 64
  · have e : rmx R n = min 25600 (max ((n + 1) * 64) (2 * R)) := by unfold rmx; rw [if_pos q]
    rw [if_pos q, if_pos q, if_neg (show ¬ R = 25600 by omega)]
    by_cases z : rmx R n = 25600
    · rw [if_pos z]; omega
    · rw [if_neg z]; omega
  · have e : rmx R n = R := by unfold rmx; rw [if_neg q]
    rw [if_neg q, if_neg q, e]
    omega
theorem num_lt {us : Nat → Nat} {bs : Nat → Byt} {p : Byt} {n : Nat} (h : num us bs p = some n) : n < 400 := by
  rcases num_cases us bs p with ⟨m, e, m1, m2, m3, m4⟩ | ⟨_, ⟨m, e, m1, m2, m3⟩ | ⟨e, m1⟩⟩
  · rw [e] at h; cases h; exact m1
  · rw [e] at h; cases h; exact m1
  · rw [e] at h; cases h
theorem Asg.room : ∀ {ps : List Byt} {us : Nat → Nat} {bs : Nat → Byt} {R : Nat} {ns : List Nat} {us' : Nat → Nat} {bs' : Nat → Byt} {R' : Nat} {ok : Bool}, Asg ps us bs R ns us' bs' R' ok → R ≤ 25600 → R ≤ R' ∧ R' ≤ 25600 ∧ Phi R ≤ Phi R' := by
  intro ps
  induction ps with
  | nil =>
    rintro us bs R ns us' bs' R' ok ⟨_, _, _, rfl, _⟩ hR
    exact ⟨Nat.le_refl _, hR, Nat.le_refl _⟩
  | cons p ps ih =>
    rintro us bs R ns us' bs' R' ok (⟨_, _, _, _, rfl, _⟩ | ⟨n, t, hn, _, hA⟩) hR
    · exact ⟨Nat.le_refl _, hR, Nat.le_refl _⟩
    · have h1 := rmx_ge hR (num_lt hn)
      have h2 := rm_Phi hR (num_lt hn)
      have h3 := ih hA h1.2.2
      omega
theorem vu_id {α : Type} (f : Nat → α) (k : Nat) : va_up f k (f k) = f := by
  funext j
  by_cases q : j = k
  · subst q; rw [va_up_self]
  · rw [va_up_ne _ _ q]
def tpK : List Nat := [2, 6, 8, 9, 10, 11, 12, 13]
def tpI (ln : Nat → Nat) (v : gV) (us : Nat → Nat) (bs : Nat → Byt) (r N least most : Nat) (mask : Int32) (ns : List Nat) (us' : Nat → Nat) (bs' : Nat → Byt) (R' : Nat) (ok : Bool) (n : Nat) (x1 x2 : Int32) (ln4 : Nat → Nat) (v3 : gV) (kc ks : Nat) : Prop :=
  ∃ (a : Nat) (E2 ns1 ns2 : List Nat) (bs1 : Nat → Byt) (R1 : Nat), cuts (mkr (v r)) N least most mask a E2 ∧ Asg (prts (v r) a E2) (uAdd us ns1) bs1 R1 ns2 us' bs' R' ok ∧ ns = ns1 ++ ns2 ∧ x1 = nI ns1.length ∧ x2 = nI a ∧ ns1.length ≤ a ∧ a ≤ N ∧ n = N - a ∧ ln4 = va_up ln 13 R1 ∧ Fr tpK v v3 ∧ CS ln4 v3 (uAdd us ns1) bs1 ∧ (∀ m, m < 400 → 0 < us m → bs1 m = bs m) ∧ (∀ m, m ∈ ns1 → m < 400) ∧ (∀ k, k < ns1.length → v3 6 k = nI (ns1.getD k 0)) ∧ kc = Phi R1 - Phi (ln 13) ∧ ks = Phi R1 - Phi (ln 13) ∧ Phi (ln 13) ≤ Phi R1 ∧ R1 ≤ 25600
theorem w_takeParts {ln : Nat → Nat} {v : gV} {us : Nat → Nat} {bs : Nat → Byt} {r N least most mc ms : Nat} {mask : Int32} {E ns : List Nat} {us' : Nat → Nat} {bs' : Nat → Byt} {R' : Nat} {ok : Bool} {post : Int32 → (Nat → Nat) → gV → Prop} (hS : CS ln v us bs) (hrr : r = 4 ∨ r = 5) (hN : N ≤ 1500) (hr : ln r = 1500) (l6 : ln 6 = 1500) (hfp : ∀ i, i < 1500 → fits .byte (.int (v r i)) = true) (hbig : ∀ n, n < 400 → us n ≤ 100000) (h0 : v 1 0 = mask) (h1 : v 1 1 = nI least) (h2 : v 1 2 = nI most) (hm1 : 1 ≤ most) (hm2 : most ≤ 64) (hle : least ≤ 64) (hE : cuts (mkr (v r)) N least most mask 0 E) (hA : Asg (prts (v r) 0 E) us bs (ln 13) ns us' bs' R' ok) (hmc : Phi R' - Phi (ln 13) ≤ mc) (hms : Phi R' - Phi (ln 13) ≤ ms)
    (hok : ok = true → ∀ v', Fr tpK v v' → CS (va_up ln 13 R') v' us' bs' → (∀ k, k < ns.length → v' 6 k = nI (ns.getD k 0)) → ns.length ≤ N → post (nI ns.length) (va_up ln 13 R') v')
    (hno : ok = false → ∀ v', Fr tpK v v' → CS (va_up ln 13 R') v' us bs → post (-1) (va_up ln 13 R') v') : wp_X3_takeParts mc ms ln v r (nI N) post := by
  unfold wp_X3_takeParts
  have hr6 : r ∉ tpK := by rcases hrr with q | q <;> subst q <;> decide
  refine ⟨tpI ln v us bs r N least most mask ns us' bs' R' ok, ⟨N, 0, E, [], ns, bs, ln 13, hE, by rw [uAdd_nil]; exact hA, rfl, rfl, rfl, Nat.le_refl _, Nat.zero_le _, rfl, (vu_id ln 13).symm, Fr.rf, by rw [uAdd_nil]; exact hS, fun m _ _ => rfl, fun m hm => by simp at hm, fun k hk => by simp at hk, by omega, by omega, Nat.le_refl _, hS.1.2.2.2.2.2.2⟩, ?_⟩
  rintro n x1 x2 ln4 v3 kc ks ⟨a, E2, ns1, ns2, bs1, R1, hc, hA2, rfl, rfl, rfl, hna, haN, rfl, rfl, hF, hC, hbs, h4, h6, rfl, rfl, hP, hR1⟩
  have hrm := hA2.room hR1
  have hln : ∀ k, k ≠ 13 → va_up ln 13 R1 k = ln k := fun k hk => va_up_ne _ _ hk
  have hl13 : va_up ln 13 R1 13 = R1 := va_up_self _ _ _
  have hv3r : v3 r = v r := hF r hr6
  refine ⟨by omega, by omega, ?_⟩
  refine pk_le N a (fun q => ?_) (fun q => ?_)
  · have : E2 = [] := by
      cases E2 with
      | nil => rfl
      | cons e t => have := hc.1.1; have := hc.1.2.1; omega
    subst this
    obtain ⟨rfl, rfl, rfl, rfl, rfl⟩ := hA2
    rw [List.append_nil] at hok
    exact hok rfl v3 hF hC h6 (by omega)
  · refine pk_le 1500 ns1.length (fun z => absurd z (by omega)) (fun z => ?_)
    cases E2 with
    | nil => have : a = N := hc; omega
    | cons e E' =>
      obtain ⟨hend, hc'⟩ := hc
      have hae := hend.1
      have heN := hend.2.1
      have hea := isEnd_most hm1 hend
      have hr3 : r ≠ 13 := by omega
      refine w_endOfPart (mask := mask) (e := e) (by rw [hln r hr3]; omega) (by rw [hln r hr3]; omega) q (by rw [hF 1 (by decide)]; exact h0) (by rw [hF 1 (by decide)]; exact h1) (by rw [hF 1 (by decide)]; exact h2) hm1 hm2 hle (by rw [hv3r]; exact hend) ?_
      have hbig1 : ∀ n, n < 400 → uAdd us ns1 n + 1 < 2 ^ 30 := fun n hn => by
        have := hbig n hn
        have := List.count_le_length (a := n) (l := ns1)
        unfold uAdd
        omega
      rcases hA2 with ⟨hnum, rfl, rfl, rfl, rfl, rfl⟩ | ⟨m, t, hnum, rfl, hA3⟩
      · refine ⟨0, 0, by omega, by omega, ?_⟩
        refine w_take hC hae (by omega) hrr (by rw [hln r hr3]; omega) (by rw [hln r hr3]; omega) (fun i hi => by rw [hv3r]; rw [hln r hr3] at hi; exact hfp i (by omega)) hbig1 (fun n hn => by rw [hv3r, hnum] at hn; cases hn) (fun n hn => by rw [hv3r, hnum] at hn; cases hn) (fun _ v' hF' hC' => ⟨fun _ => ?_, fun y => absurd rfl y⟩)
        refine w_gbAll hC' (by decide) (by rw [hln 6 (by decide)]; omega) (by rw [hln 6 (by decide)]; omega) (fun k hk => by rw [hF' 6 (by decide)]; exact h6 k hk) h4 (fun n => by unfold uAdd; omega) (fun v'' hF'' hC'' => ?_)
        rw [uSub_uAdd] at hC''
        exact hno rfl v'' ((hF.tr (hF'.mono (by decide))).tr (hF''.mono (by decide))) (hC''.bs (fun n hn hu => (hbs n hn hu).symm))
      · have hm := num_lt hnum
        have hPm := rm_Phi hR1 hm
        have hrx := rmx_ge hR1 hm
        have hrm2 := hA3.room hrx.2.2
        refine ⟨Phi (rmx R1 m) - Phi R1, Phi (rmx R1 m) - Phi R1, by omega, by omega, ?_⟩
        refine w_take hC hae (by omega) hrr (by rw [hln r hr3]; omega) (by rw [hln r hr3]; omega) (fun i hi => by rw [hv3r]; rw [hln r hr3] at hi; exact hfp i (by omega)) hbig1 (fun n hn => ?_) (fun n hn v' hF' hC' => ?_) (fun hn => by rw [hv3r, hnum] at hn; cases hn)
        · rw [hv3r, hnum] at hn
          cases hn
          rw [hl13]
          omega
        · rw [hv3r, hnum] at hn
          cases hn
          rw [hl13, vu_vu] at hC' ⊢
          rw [hv3r] at hC'
          refine ⟨fun y => absurd y (fun z => ?_), fun _ => ?_⟩
          · have : (nI m).toInt = (-1 : Int32).toInt := by rw [z]
            rw [nI_toInt (by omega)] at this
            have e : ((-1 : Int32).toInt) = -1 := rfl
            rw [e] at this
            omega
          refine ⟨by rw [va_up_ne _ _ (by decide)]; exact pk_in ns1.length _ (by omega), ?_⟩
          intro v28 e28
          rw [pk_cl ns1.length] at e28
          have hF28 : Fr [6] v' v28 := by rw [e28]; exact Fr.up (by simp)
          have e6 : v' 6 = v3 6 := hF' 6 (by decide)
          refine ⟨N - e, by omega, e, E', ns1 ++ [m], t, va_up bs1 m (slc (v r) a (e - a)), rmx R1 m, hc', by rw [uAdd_snoc]; exact hA3, by simp, by simp [nI_1], rfl, by simp; omega, heN, rfl, rfl, (hF.tr (hF'.mono (by decide))).tr (hF28.mono (by decide)), ?_, ?_, ?_, ?_, by omega, by omega, by omega, hrx.2.2⟩
          · rw [uAdd_snoc]
            exact hC'.fr (hF28 2 (by decide)) (hF28 8 (by decide)) (hF28 9 (by decide)) (hF28 10 (by decide)) (hF28 11 (by decide)) (hF28 12 (by decide)) (hF28 13 (by decide))
          · intro j hj hu
            by_cases y : j = m
            · subst y
              rw [va_up_self]
              rcases num_cases (uAdd us ns1) bs1 (slc (v r) a (e - a)) with ⟨i, e1, i1, i2, i3, i4⟩ | ⟨_, ⟨i, e1, i1, i2, i3⟩ | ⟨e1, i1⟩⟩
              · rw [hnum] at e1; cases e1; rw [← i3]; exact hbs j hj hu
              · rw [hnum] at e1; cases e1; unfold uAdd at i2; omega
              · rw [hnum] at e1; cases e1
            · rw [va_up_ne _ _ y]; exact hbs j hj hu
          · intro j hj
            rcases List.mem_append.mp hj with y | y
            · exact h4 j y
            · rw [List.mem_singleton.mp y]; exact hm
          · intro k hk
            rw [e28, va_up_self]
            by_cases y : k = ns1.length
            · subst y; rw [pk_us, gd_mid]
            · simp at hk
              rw [pk_un y, e6, h6 k (by omega), gd_app _ _ _ _ (by omega)]
