/-! pure: the class's cutter and the reference's cut give the same ends -/
/-- v1 is v but for the places ks -/
def Fr (ks : List Nat) (v v1 : gV) : Prop := ∀ k, k ∉ ks → v1 k = v k
theorem Fr.rf {ks : List Nat} {v : gV} : Fr ks v v := fun _ _ => rfl
theorem Fr.tr {ks : List Nat} {a b c : gV} (h1 : Fr ks a b) (h2 : Fr ks b c) : Fr ks a c := fun k hk => (h2 k hk).trans (h1 k hk)
theorem Fr.mono {ks ks' : List Nat} {a b : gV} (h : Fr ks a b) (hs : ∀ k ∈ ks, k ∈ ks') : Fr ks' a b := fun k hk => h k (fun q => hk (hs k q))
theorem Fr.up {ks : List Nat} {v : gV} {k : Nat} {f : Nat → Int32} (hk : k ∈ ks) : Fr ks v (va_up v k f) := fun j hj => va_up_ne v f (fun q => hj (q ▸ hk))
theorem gd_app {α : Type} (l m : List α) (k : Nat) (d : α) (h : k < l.length) : (l ++ m).getD k d = l.getD k d := by simp [List.getD_eq_getElem?_getD, List.getElem?_append_left h]
def mkr (f : Nat → Int32) (i : Nat) : Int32 := pmk (f i &&& 255)
theorem w_endOfPart {ln : Nat → Nat} {v : gV} {r a N e least most : Nat} {mask : Int32} {post : Int32 → gV → Prop} (hr : N ≤ ln r) (hl : ln r ≤ 1500) (ha : a < N) (h0 : v 1 0 = mask) (h1 : v 1 1 = nI least) (h2 : v 1 2 = nI most) (hm1 : 1 ≤ most) (hm2 : most ≤ 64) (hle : least ≤ 64) (hE : isEnd (mkr (v r)) N least most mask a e) (h : post (nI e) v) : wp_X1_endOfPart ln v r (nI a) (nI N) post := by
  unfold wp_X1_endOfPart
  intro x1 e1
  obtain ⟨E0, hE0⟩ : ∃ E0, E0 = min N (a + most) := ⟨_, rfl⟩
  have e2 : x1 = nI E0 := by
    rw [e1, h2, nI_add]
    by_cases hc : a + most < N
    · rw [if_pos ((nI_ltI (by omega) (by omega)).mpr hc), hE0, show min N (a + most) = a + most by omega]
    · rw [if_neg (fun q => hc ((nI_ltI (by omega) (by omega)).mp q)), hE0, show min N (a + most) = N by omega]
  subst e2
  clear e1
  have hno0 : ∀ t, a < t → t < E0 → stp (mkr (v r)) N least most mask a t → least ≤ t - a ∧ sm8 (mkr (v r)) a (t - a) &&& mask = 0 := by
    intro t t1 t2 hs
    rcases hs with q | q | q
    · omega
    · omega
    · exact q
  have hstE : stp (mkr (v r)) N least most mask a E0 := by
    by_cases q : a + most < N
    · exact Or.inr (Or.inl (by omega))
    · exact Or.inl (by omega)
  have heE : e ≤ E0 := by
    by_cases q : E0 < e
    · exact absurd hstE (hE.2.2.2 E0 (by omega) q)
    · omega
  refine ⟨fun n x2 x3 => ∃ m, a + m ≤ E0 ∧ n = E0 - (a + m) ∧ x3 = nI (a + m) ∧ x2 = sm8 (mkr (v r)) a m ∧ ∀ t, a < t → t ≤ a + m → ¬ (least ≤ t - a ∧ sm8 (mkr (v r)) a (t - a) &&& mask = 0), ⟨E0 - a, 0, by omega, rfl, rfl, rfl, fun t t1 t2 => by omega⟩, ?_⟩
  rintro n x2 x3 ⟨m, hm, rfl, rfl, rfl, hno⟩
  refine pk_le E0 (a + m) (fun hc => ?_) (fun hc => ?_)
  · have : e = E0 := by
      by_cases q : e < E0
      · exact absurd (hno0 e hE.1 q hE.2.2.1) (hno e hE.1 (by omega))
      · omega
    rw [← this]
    exact h
  · refine ⟨pk_in (a + m) _ (by omega), ?_⟩
    intro x6 e6
    have hs : nI (a + m) - nI a = nI m := by rw [pk_sub (by omega)]; congr 1; omega
    have hsum : (if nI m < 8 then x6 else x6 ^^^ ptn (pmk (v r (nI (a + m) - 8).toNatClampNeg &&& 255)) 8) = sm8 (mkr (v r)) a (m + 1) := by
      rw [sm8_roll, e6, ptn_1, ptn_8, pk_cl (a + m)]
      by_cases q : m < 8
      · have h8 : nI m < 8 := (nI_ltI (b := 8) (by omega) (by omega)).mpr q
        rw [if_pos h8, if_pos q]
        rfl
      · have h8 : ¬ nI m < 8 := fun z => q ((nI_ltI (b := 8) (by omega) (by omega)).mp z)
        rw [if_neg h8, if_neg q, show (8 : Int32) = nI 8 from rfl, pk_sub (by omega), pk_cl (a + m - 8)]
        rfl
    rw [hs, hsum, h0, h1, nI_1]
    refine ⟨fun q => ?_, ?_⟩
    · have q : ¬ m < 8 := fun z => q ((nI_ltI (b := 8) (by omega) (by omega)).mpr z)
      exact pk_in (a + m - 8) _ (by omega) (by rw [show (8 : Int32) = nI 8 from rfl, pk_sub (by omega)])
    have hgo : ¬ (least ≤ m + 1 ∧ sm8 (mkr (v r)) a (m + 1) &&& mask = 0) → ∃ n', n' < E0 - (a + m) ∧ ∃ m', a + m' ≤ E0 ∧ n' = E0 - (a + m') ∧ nI (a + m) + 1 = nI (a + m') ∧ sm8 (mkr (v r)) a (m + 1) = sm8 (mkr (v r)) a m' ∧ ∀ t, a < t → t ≤ a + m' → ¬ (least ≤ t - a ∧ sm8 (mkr (v r)) a (t - a) &&& mask = 0) := by
      intro q
      refine ⟨E0 - (a + (m + 1)), by omega, m + 1, by omega, rfl, nI_1 _, rfl, fun t t1 t2 => ?_⟩
      by_cases z : t ≤ a + m
      · exact hno t t1 z
      · rw [show t - a = m + 1 by omega]; exact q
    refine pk_lt (m + 1) least (fun q => hgo (fun z => by omega)) (fun q => ⟨fun z => ?_, fun z => hgo (fun y => z y.2)⟩)
    have hst : stp (mkr (v r)) N least most mask a (a + m + 1) := Or.inr (Or.inr (by rw [show a + m + 1 - a = m + 1 by omega]; exact ⟨q, z⟩))
    have : e = a + m + 1 := by
      rcases Nat.lt_trichotomy e (a + m + 1) with y | y | y
      · exact absurd (hno0 e hE.1 (by omega) hE.2.2.1) (hno e hE.1 (by omega))
      · exact y
      · exact absurd hst (hE.2.2.2 _ (by omega) y)
    rw [nI_1, ← this]
    exact h
theorem w_X4_sum {ln : Nat → Nat} {v : gV} {a e : Nat} {post : Int32 → gV → Prop} (ha : a < e) (he : e ≤ ln 48) (hl : ln 48 ≤ 1500) (h : post (sm8 (fun i => pmk (v 48 i)) a (e - a)) v) : wp_X4_sum ln v (nI a) (nI e) post := by
  unfold wp_X4_sum
  unfold sm8 at h
  rw [show a + (e - a) = e by omega] at h
  have e1 : nI e - 1 = nI (e - 1) := by rw [show (1 : Int32) = nI 1 from rfl, pk_sub (by omega)]
  refine ⟨fun n x1 x2 => ∃ k, k ≤ min 8 (e - a) ∧ n = 8 - k ∧ x2 = nI k ∧ x1 = xs8 (fun i => pmk (v 48 i)) e k, ⟨8, 0, by omega, rfl, rfl, rfl⟩, ?_⟩
  rintro n x1 x2 ⟨k, hk, rfl, rfl, rfl⟩
  rw [e1]
  refine pk_le 8 k (fun q => ?_) (fun q => ?_)
  · rw [show min 8 (e - a) = k by omega] at h
    exact h
  · by_cases z : k = e - a
    · have hlt : nI (e - 1) - nI k < nI a := by
        by_cases y : a = 0
        · subst y
          rw [nI_0]
          exact pk_sneg (by omega) (by omega)
        · rw [pk_sub (by omega)]
          exact nI_lt (by omega) (by omega)
      refine ⟨fun _ => ?_, fun y => absurd hlt y⟩
      rw [show min 8 (e - a) = k by omega] at h
      exact h
    · rw [pk_sub (show k ≤ e - 1 by omega)]
      refine pk_lt (e - 1 - k) a (fun y => by omega) (fun y => ?_)
      rw [pk_cl (e - 1 - k)]
      refine ⟨pk_in (e - 1 - k) _ (by omega), ?_⟩
      intro x6 e6 x9 e9
      refine ⟨8 - (k + 1), by omega, k + 1, by omega, rfl, nI_1 k, ?_⟩
      rw [e9, e6, shk k q]
      rfl
/-- how far the reference's cut has come: a the part's begin, t the place looked at, E1 the ends found, E2 those to come -/
def cutI (v : gV) (N least most : Nat) (mask : Int32) (E : List Nat) (n : Nat) (x2 x3 : Int32) (v4 : gV) : Prop :=
  ∃ (a t : Nat) (E1 E2 : List Nat), E = E1 ++ E2 ∧ cuts (fun i => pmk (v 48 i)) N least most mask a E2 ∧ x2 = nI a ∧ x3 = nI t ∧ a < t ∧ t ≤ N + 1 ∧ n = N + 1 - t ∧ E1.length ≤ a ∧ a ≤ N ∧ (∀ u, a < u → u < t → ¬ stp (fun i => pmk (v 48 i)) N least most mask a u) ∧ Fr [46, 49] v v4 ∧ (∀ j, j ≠ 8 → v4 46 j = v 46 j) ∧ v4 46 8 = nI E1.length ∧ ∀ k, k < E1.length → v4 49 k = nI (E1.getD k 0)
theorem w_X4_cut {ln : Nat → Nat} {v : gV} {N bits least most : Nat} {mask : Int32} {E : List Nat} {post : gV → Prop} (hN : N ≤ 1500) (l48 : ln 48 = 1500) (l49 : ln 49 = 1500) (h6 : v 46 6 = nI N) (h1 : v 46 1 = nI bits) (h2 : v 46 2 = nI least) (h3 : v 46 3 = nI most) (hle : least ≤ 64) (hmo : most ≤ 64) (hmask : mask = (1 <<< (nI bits &&& 31)) - 1) (hE : cuts (fun i => pmk (v 48 i)) N least most mask 0 E)
    (h : ∀ v' : gV, Fr [46, 49] v v' → (∀ j, j ≠ 8 → v' 46 j = v 46 j) → v' 46 8 = nI E.length → (∀ k, k < E.length → v' 49 k = nI (E.getD k 0)) → post v') : wp_X4_cut ln v post := by
  unfold wp_X4_cut
  intro v1 e1
  refine ⟨cutI v N least most mask E, ⟨N, 0, 1, [], E, rfl, hE, rfl, rfl, by omega, by omega, rfl, Nat.le_refl _, by omega, fun u a b => by omega, by rw [e1]; exact Fr.up (by simp), fun j hj => by rw [e1, va_up_self, pk_un hj], by rw [e1, va_up_self, pk_us]; rfl, fun k hk => by simp at hk⟩, ?_⟩
  rintro n x2 x3 v4 ⟨a, t, E1, E2, rfl, hc, rfl, rfl, hat, htN, rfl, hl1, haN, hno, hF, h46, h468, h49⟩
  have hpre : ∀ e E', E2 = e :: E' → t ≤ e := by
    rintro e E' rfl
    rcases Nat.lt_or_ge e t with q | q
    · exact absurd hc.1.2.2.1 (hno e hc.1.1 q)
    · exact q
  have hstay : ¬ stp (fun i => pmk (v 48 i)) N least most mask a t → t ≤ N → ∃ n', n' < N + 1 - t ∧ cutI v N least most mask (E1 ++ E2) n' (nI a) (nI t + 1) v4 := by
    intro hs ht
    refine ⟨N + 1 - (t + 1), by omega, a, t + 1, E1, E2, rfl, hc, rfl, nI_1 t, by omega, by omega, rfl, hl1, haN, fun u u1 u2 => ?_, hF, h46, h468, h49⟩
    rcases Nat.lt_or_ge u t with q | q
    · exact hno u u1 q
    · rw [show u = t by omega]; exact hs
  have hstop : stp (fun i => pmk (v 48 i)) N least most mask a t → t ≤ N → vp_in (v4 46 8) (ln 49) ∧ ∀ v10 : gV, v10 = va_up v4 49 (upd (v4 49) (v4 46 8).toNatClampNeg (nI t)) → ∀ v11 : gV, v11 = va_up v10 46 (upd (v10 46) 8 ((v10 46 8) + 1)) → ∃ n', n' < N + 1 - t ∧ cutI v N least most mask (E1 ++ E2) n' (nI t) (nI t + 1) v11 := by
    intro hs ht
    refine ⟨by rw [h468, l49]; exact pk_in E1.length _ (by omega), ?_⟩
    intro v10 e10 v11 e11
    have hE2 : ∃ E', E2 = t :: E' := by
      cases E2 with
      | nil => have : a = N := hc; omega
      | cons e E' =>
        have h1 := hpre e E' rfl
        rcases Nat.lt_or_ge t e with q | q
        · exact absurd hs (hc.1.2.2.2 t hat q)
        · exact ⟨E', by rw [show e = t by omega]⟩
    obtain ⟨E', rfl⟩ := hE2
    rw [h468, pk_cl E1.length] at e10
    have g46 : v10 46 = v4 46 := by rw [e10]; exact va_up_ne _ _ (by decide)
    have g49 : v11 49 = upd (v4 49) E1.length (nI t) := by rw [e11, va_up_ne _ _ (by decide), e10, va_up_self]
    refine ⟨N + 1 - (t + 1), by omega, t, t + 1, E1 ++ [t], E', by simp, hc.2, rfl, nI_1 t, by omega, by omega, rfl, by simp; omega, ht, fun u u1 u2 => by omega, ?_, ?_, ?_, ?_⟩
    · refine hF.tr (Fr.tr ?_ (?_ : Fr [46, 49] v10 v11))
      · rw [e10]; exact Fr.up (by simp)
      · rw [e11]; exact Fr.up (by simp)
    · intro j hj
      rw [e11, va_up_self, pk_un hj, g46]
      exact h46 j hj
    · rw [e11, va_up_self, pk_us, g46, h468, nI_1]
      simp
    · intro k hk
      rw [g49]
      by_cases q : k = E1.length
      · subst q
        rw [pk_us]
        simp
      · rw [pk_un q, h49 k (by simp at hk; omega)]
        simp at hk
        rw [gd_app _ _ _ _ (by omega)]
  rw [h46 6 (by decide), h46 3 (by decide), h46 2 (by decide), h6, h3, h2]
  refine pk_lt N t (fun q => ?_) (fun q => ?_)
  · have : E2 = [] := by
      cases E2 with
      | nil => rfl
      | cons e E' => have h1 := hpre e E' rfl; have h2 := hc.1.2.1; omega
    subst this
    rw [List.append_nil] at h
    exact h v4 hF h46 h468 h49
  · have ets : nI t - nI a = nI (t - a) := pk_sub (by omega)
    rw [ets]
    refine pk_eq t N (fun z => ?_) (fun z => ?_)
    · exact ⟨fun y => absurd y (by decide), fun _ => hstop (Or.inl z) q⟩
    · refine pk_eq (t - a) most (fun y => ?_) (fun y => ?_)
      · exact ⟨fun y => absurd y (by decide), fun _ => hstop (Or.inr (Or.inl y)) q⟩
      · refine pk_lt (t - a) least (fun x => ?_) (fun x => ?_)
        · refine ⟨fun _ => hstay (fun s => ?_) q, fun y => absurd rfl y⟩
          rcases s with s | s | s
          · exact z s
          · exact y s
          · omega
        · have g48 : v4 48 = v 48 := hF 48 (by simp)
          refine w_X4_sum hat (by omega) (by omega) ?_
          rw [g48]
          intro x31 e31
          rw [h46 1 (by decide), h1, ← hmask] at e31
          by_cases s : sm8 (fun i => pmk (v 48 i)) a (t - a) &&& mask = 0
          · rw [if_pos s] at e31
            subst e31
            exact ⟨fun y => absurd y (by decide), fun _ => hstop (Or.inr (Or.inr ⟨x, s⟩)) q⟩
          · rw [if_neg s] at e31
            subst e31
            refine ⟨fun _ => hstay (fun w => ?_) q, fun y => absurd rfl y⟩
            rcases w with w | w | w
            · exact z w
            · exact y w
            · exact s w.2
