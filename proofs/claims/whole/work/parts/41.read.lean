/-! pure: the calls that read: size, parts, part, get, about, common, all -/
theorem one0 : ¬ (1 : Int32) = 0 := by decide
theorem pin_idx (a : Int32) {len : Nat} (hl : len ≤ 1500) : (∃ k, k < len ∧ a = nI k ∧ pin a 0 (nI len - 1) = 1) ∨ (pin a 0 (nI len - 1) = 0 ∧ (a < 0 ∨ (¬ a < 0 ∧ ¬ a < nI len))) := by
  have e1 : (nI len - 1).toInt = (len : Int) - 1 := pk_sub_toInt (b := 1) (by omega) (by decide)
  rcases pk_ix a (n := len) (by omega) with h | h | ⟨j, h1, rfl⟩
  · right
    exact ⟨by unfold pin; rw [if_pos h], Or.inl h⟩
  · right
    have hc := h
    rw [Int32.le_iff_toInt_le, nI_toInt (by omega)] at h
    have hn : ¬ a < 0 := by rw [Int32.lt_iff_toInt_lt, Int32.toInt_zero]; omega
    refine ⟨?_, Or.inr ⟨hn, ?_⟩⟩
    · unfold pin
      rw [if_neg hn, if_pos (by rw [Int32.lt_iff_toInt_lt, e1]; omega)]
    · rw [Int32.lt_iff_toInt_lt, nI_toInt (by omega)]; omega
  · left
    refine ⟨j, h1, rfl, ?_⟩
    unfold pin
    rw [if_neg (nI_pos (by omega)), if_neg (by rw [Int32.lt_iff_toInt_lt, e1, nI_toInt (by omega)]; omega)]
theorem e1500 (f k : Nat) : (1500 * nI f) + nI k = nI (1500 * f + k) := by
  rw [show (1500 : Int32) = nI 1500 from rfl, pk_mul, nI_add]
variable {ln : Nat → Nat} {v : gV} {us : Nat → Nat} {bs : Nat → Byt} {fl : Nat → List Nat} {hd : Byt} {b l m : Nat} {ou : Nat → Int64}
theorem pl_size {a : Int32} {Bk : gV → (Nat → Int64) → Prop} (hT : ST ln v us bs fl hd b l m) (hB : ∀ v2 ou1, ST ln v2 us bs fl hd b l m → Bk v2 ou1) : wp_L_size ln v ou a (fun k v1 ou1 => wp_X4_size ln v1 a (fun bb v2 => v2 46 0 = k ∧ (k = 0 → ou1 0 = bb.toInt64) ∧ Bk v2 ou1)) := by
  unfold wp_L_size wp_X3_size wp_X4_size
  rcases file_cases a with ⟨f, hf, rfl, hp⟩ | ⟨hp, ho⟩
  · refine w_fAin hf ?_
    rw [hp, if_neg one0, fmod hf]
    intro v3 e3
    subst e3
    rw [if_pos prf_0]
    refine ⟨fun _ => by rw [hT.2.2.1.2.2.2.2.2.1]; exact pk_in f _ hf, by rw [vrf_0, ptr_0], fun _ => ?_, hB _ _ (hT.vrf 0 0 0)⟩
    rw [pk_uLs, vrf_k _ _ _ _ (by decide), nI_clamp (by omega), (hT.2.1.2.1 f hf).2.2.2.2.1, (hT.2.2.2.2.1 f hf).1]
  · refine w_fAout ho ⟨rfl, ?_⟩
    rw [hp, if_pos rfl]
    intro v3 e3
    subst e3
    rw [if_neg (prf_1 0 0)]
    exact ⟨fun z => absurd z (prf_1 0 0), by rw [vrf_0, ptr_1], fun z => absurd z one0, hB _ _ (hT.vrf 1 0 0)⟩
theorem pl_parts {a : Int32} {Bk : gV → (Nat → Int64) → Prop} (hT : ST ln v us bs fl hd b l m) (hB : ∀ v2 ou1, ST ln v2 us bs fl hd b l m → Bk v2 ou1) : wp_L_parts ln v ou a (fun k v1 ou1 => wp_X4_parts ln v1 a (fun bb v2 => v2 46 0 = k ∧ (k = 0 → ou1 0 = bb.toInt64) ∧ Bk v2 ou1)) := by
  unfold wp_L_parts wp_X3_parts wp_X4_parts
  rcases file_cases a with ⟨f, hf, rfl, hp⟩ | ⟨hp, ho⟩
  · refine w_fAin hf ?_
    rw [hp, if_neg one0, fmod hf]
    intro v3 e3
    subst e3
    rw [if_pos prf_0]
    refine ⟨fun _ => by rw [hT.2.2.1.2.2.2.2.2.2.2.1]; exact pk_in f _ hf, by rw [vrf_0, ptr_0], fun _ => ?_, hB _ _ (hT.vrf 0 0 0)⟩
    rw [pk_uLs, vrf_k _ _ _ _ (by decide), nI_clamp (by omega), (hT.2.1.2.1 f hf).2.2.2.1, (hT.2.2.2.2.1 f hf).2.2.1]
  · refine w_fAout ho ⟨rfl, ?_⟩
    rw [hp, if_pos rfl]
    intro v3 e3
    subst e3
    rw [if_neg (prf_1 0 0)]
    exact ⟨fun z => absurd z (prf_1 0 0), by rw [vrf_0, ptr_1], fun z => absurd z one0, hB _ _ (hT.vrf 1 0 0)⟩
theorem pl_part {a a2 : Int32} {Bk : gV → (Nat → Int64) → Prop} (hT : ST ln v us bs fl hd b l m) (hB : ∀ v2 ou1, ST ln v2 us bs fl hd b l m → Bk v2 ou1) : wp_L_part ln v ou a a2 (fun k v1 ou1 => wp_X4_part ln v1 a a2 (fun bb v2 => v2 46 0 = k ∧ (k = 0 → ou1 0 = bb.toInt64) ∧ Bk v2 ou1)) := by
  have hbad : ∀ x8 : Int32, x8 = 0 → ∀ v11 : gV, v11 = vrf v (if x8 = 0 then 1 else 0) 0 0 → (((prf (if x8 = 0 then 1 else 0) 0 0) = 0) → vp_in ((1500 * a) + a2) (ln 55)) ∧ (fun bb v2 => v2 46 0 = 1 ∧ ((1 : Int32) = 0 → ou 0 = bb.toInt64) ∧ Bk v2 ou) (if (prf (if x8 = 0 then 1 else 0) 0 0) = 0 then v11 55 ((1500 * a) + a2).toNatClampNeg else (0 : Int32)) v11 := by
    intro x8 e8 v11 e11
    subst e8
    rw [if_pos rfl] at e11
    rw [if_pos rfl, if_neg (prf_1 0 0)]
    subst e11
    exact ⟨fun z => absurd z (prf_1 0 0), by rw [vrf_0, ptr_1], fun z => absurd z one0, hB _ _ (hT.vrf 1 0 0)⟩
  unfold wp_L_part wp_X3_part wp_X4_part
  rcases file_cases a with ⟨f, hf, rfl, hp⟩ | ⟨hp, ho⟩
  · refine w_fAin hf ?_
    have hF := hT.2.1.2.1 f hf
    have hG := hT.2.2.2.2.1 f hf
    rw [fmod hf, f16, hF.2.2.2.1, hp]
    have l54 := hT.2.2.1.2.2.2.2.2.2.2.1
    have hbad2 : ∀ (x : Int32), pin a2 0 (nI (fl f).length - 1) = 0 → x = (if (1 : Int32) = 0 then 0 else if (1 : Int32) = 0 then (if (pin a2 0 ((v 54 (0 : Int32).toNatClampNeg) - 1)) = 0 then 0 else 1) else if (pin a2 0 ((v 54 (nI f).toNatClampNeg) - 1)) = 0 then 0 else 1) → x = 0 := by
      intro x q e
      rw [if_neg one0, if_neg one0, nI_clamp (by omega), hG.2.2.1, q, if_pos rfl] at e
      exact e
    rcases pin_idx a2 (len := (fl f).length) (hT.len hf) with ⟨k, hk, rfl, hq⟩ | ⟨hq, h2⟩
    · refine ⟨fun z => absurd z (nI_pos (by omega)), fun _ => ⟨fun _ => ⟨pk_in k _ (by omega), ?_⟩, fun z => absurd (nI_lt hk (by omega)) z⟩⟩
      refine ⟨fun _ z => absurd z one0, fun _ _ => by rw [l54]; exact pk_in f _ hf, ?_⟩
      intro x8 e8
      rw [if_neg one0, if_neg one0, nI_clamp (n := f) (by omega), hG.2.2.1, hq, if_neg one0] at e8
      subst e8
      intro v11 e11
      rw [if_neg one0] at e11
      subst e11
      rw [if_neg one0, if_pos prf_0, e1500]
      have hk2 := hT.len hf
      refine ⟨fun _ => by rw [hT.2.2.1.2.2.2.2.2.2.2.2.1]; exact pk_in (1500 * f + k) _ (by omega), by rw [vrf_0, ptr_0], fun _ => ?_, hB _ _ (hT.vrf 0 0 0)⟩
      rw [pk_uLs, vrf_k _ _ _ _ (by decide), nI_clamp (by omega), nI_clamp (by omega), hF.2.2.2.2.2 k hk, hG.2.2.2 k hk]
    · have hpex : "java/lang/IndexOutOfBoundsException" = "java/lang/IndexOutOfBoundsException" ∧ (¬(1 : Int32) = 0 → (1 : Int32) = 0 → vp_in 0 (ln 54)) ∧ (¬(1 : Int32) = 0 → ¬(1 : Int32) = 0 → vp_in (nI f) (ln 54)) ∧ ∀ x8 : Int32, x8 = (if (1 : Int32) = 0 then 0 else if (1 : Int32) = 0 then (if (pin a2 0 ((v 54 (0 : Int32).toNatClampNeg) - 1)) = 0 then 0 else 1) else if (pin a2 0 ((v 54 (nI f).toNatClampNeg) - 1)) = 0 then 0 else 1) → ∀ v11 : gV, v11 = vrf v (if x8 = 0 then 1 else 0) 0 0 → (((prf (if x8 = 0 then 1 else 0) 0 0) = 0) → vp_in ((1500 * nI f) + a2) (ln 55)) ∧ (fun bb v2 => v2 46 0 = 1 ∧ ((1 : Int32) = 0 → ou 0 = bb.toInt64) ∧ Bk v2 ou) (if (prf (if x8 = 0 then 1 else 0) 0 0) = 0 then v11 55 ((1500 * nI f) + a2).toNatClampNeg else (0 : Int32)) v11 :=
        ⟨rfl, fun _ z => absurd z one0, fun _ _ => by rw [l54]; exact pk_in f _ hf, fun x8 e8 => hbad x8 (hbad2 x8 hq e8)⟩
      rcases h2 with q | ⟨q1, q2⟩
      · exact ⟨fun _ => hpex, fun z => absurd q z⟩
      · exact ⟨fun z => absurd z q1, fun _ => ⟨fun z => absurd z q2, fun _ => hpex⟩⟩
  · refine w_fAout ho ⟨rfl, ?_⟩
    rw [hp]
    refine ⟨fun z => absurd rfl z, fun z => absurd rfl z, fun x8 e8 => hbad x8 (by rw [if_pos rfl] at e8; exact e8)⟩
/-- a byte of a file -/
theorem w_byteOf {n k : Nat} {post : Int32 → gV → Prop} (hS : CS ln v us bs) (hn : n < 400) (hu : 0 < us n) (hk : k < (bs n).length) (h : post ((bs n).getD k 0 &&& 255) v) : wp_X2_byteOf ln v (nI n) (nI k) post := by
  unfold wp_X2_byteOf
  obtain ⟨b1, b2, b3, b4, b5, b6⟩ := hS.2.2.1 n hn hu
  have h13 := hS.1.2.2.2.2.2
  have e64 : nI n * 64 + nI k = nI (n * 64 + k) := by rw [show (64 : Int32) = nI 64 from rfl, pk_mul, nI_add]
  rw [plo_p hS hn hu, e64]
  refine ⟨fun z => absurd z (nI_pos (by omega)), fun _ => ⟨hS.1.1, hS.1.2.1, fun _ => ⟨pk_in (n * 64 + k) _ (by omega), ?_⟩, fun z => absurd (nI_lt hk (by omega)) z⟩⟩
  rw [nI_clamp (by omega), b6 k hk]
  exact h
theorem w_getIn {f k : Nat} {post : Int32 → gV → Prop} {pex : String → gV → Prop} (hT : ST ln v us bs fl hd b l m) (hf : f < 16) (hk : k < (cat bs (fl f)).length) (h : post ((cat bs (fl f)).getD k 0 &&& 255) v) : wp_X3_get ln v (nI f) (nI k) post pex := by
  unfold wp_X3_get
  refine w_fAin hf ?_
  obtain ⟨g1, g2, g3, g4, g5, g6⟩ := hT.2.1.2.1 f hf
  have hcl := (hT.1.2.1 f hf).2
  have hS := hT.2.1.1
  rw [fmod hf, f16, g4, g5]
  refine ⟨fun z => absurd z (nI_pos (by omega)), fun _ => ⟨fun _ => ?_, fun z => absurd (nI_lt hk (by omega)) z⟩⟩
  refine ⟨fun n x5 x6 => ∃ l1 l2 left, fl f = l1 ++ l2 ∧ x6 = nI l1.length ∧ x5 = nI left ∧ (cat bs l1).length + left = k ∧ n = l2.length, ⟨(fl f).length, [], fl f, k, rfl, rfl, rfl, Nat.zero_add _, rfl⟩, ?_⟩
  rintro n x5 x6 ⟨l1, l2, left, hl, rfl, rfl, hk2, rfl⟩
  have hlen : (fl f).length = l1.length + l2.length := by rw [hl, List.length_append]
  have hcat : cat bs (fl f) = cat bs l1 ++ cat bs l2 := by rw [hl, cat_app]
  have hclen : (cat bs (fl f)).length = (cat bs l1).length + (cat bs l2).length := by rw [hcat, List.length_append]
  cases l2 with
  | nil => have : (cat bs ([] : List Nat)).length = 0 := rfl; omega
  | cons n t =>
    have hmem : n ∈ fl f := by rw [hl]; simp
    have hn := (hT.1.2.1 f hf).1 n hmem
    have hu := hT.1.pos hf hmem
    have e : v (30 + f) l1.length = nI n := by rw [g6 _ (by rw [hlen, List.length_cons]; omega), hl, gd_mid]
    have hct : (cat bs (n :: t)).length = (bs n).length + (cat bs t).length := by show (bs n ++ cat bs t).length = _; rw [List.length_append]
    rw [List.length_cons] at hlen
    obtain ⟨b1, b2, b3, b4, b5, b6⟩ := hS.2.2.1 n hn hu
    have hget : left < (bs n).length → (bs n).getD left 0 = (cat bs (fl f)).getD k 0 := by
      intro q
      rw [hcat, gd_app_r _ _ _ _ (by omega)]
      show _ = (bs n ++ cat bs t).getD _ 0
      rw [gd_app _ _ _ _ (by omega)]
      congr 1
      omega
    have eone : nI (fl f).length - 1 = nI ((fl f).length - 1) := by
      rw [show (1 : Int32) = nI 1 from rfl, pk_sub (by omega)]
    rw [eone, nI_clamp (n := l1.length) (by omega), e, plo_p hS hn hu]
    refine pk_le ((fl f).length - 1) l1.length (fun q => ⟨pk_in l1.length _ (by omega), ?_⟩) (fun q => ⟨pk_in l1.length _ (by omega), hS.1.1, hS.1.2.1, ?_⟩)
    · have ht : t = [] := List.eq_nil_of_length_eq_zero (by omega)
      subst ht
      have h0 : (cat bs ([] : List Nat)).length = 0 := rfl
      have hle : left < (bs n).length := by omega
      refine w_byteOf hS hn hu hle ?_
      rw [hget hle]
      exact h
    · refine pk_lt left (bs n).length (fun z => ⟨pk_in l1.length _ (by omega), ?_⟩) (fun z => ⟨pk_in l1.length _ (by omega), hS.1.1, hS.1.2.1, ?_⟩)
      · refine w_byteOf hS hn hu z ?_
        rw [hget z]
        exact h
      · intro x21 e21
        rw [pk_sub z] at e21
        refine ⟨t.length, by simp, l1 ++ [n], t, left - (bs n).length, by rw [hl]; simp, by rw [nI_1, List.length_append]; rfl, e21, ?_, rfl⟩
        rw [cat_app, List.length_append]
        have : (cat bs [n]).length = (bs n).length := by show (bs n ++ []).length = _; rw [List.append_nil]
        omega
theorem pl_get {a a2 : Int32} {Bk : gV → (Nat → Int64) → Prop} (hT : ST ln v us bs fl hd b l m) (hB : ∀ v2 ou1, ST ln v2 us bs fl hd b l m → Bk v2 ou1) : wp_L_get ln v ou a a2 (fun k v1 ou1 => wp_X4_get ln v1 a a2 (fun bb v2 => v2 46 0 = k ∧ (k = 0 → ou1 0 = bb.toInt64) ∧ Bk v2 ou1)) := by
  have hbad : ∀ x8 : Int32, x8 = 0 → ∀ v11 : gV, v11 = vrf v (if x8 = 0 then 1 else 0) 0 0 → (((prf (if x8 = 0 then 1 else 0) 0 0) = 0) → vp_in ((1500 * a) + a2) (ln 53)) ∧ (fun bb v2 => v2 46 0 = 1 ∧ ((1 : Int32) = 0 → ou 0 = bb.toInt64) ∧ Bk v2 ou) (if (prf (if x8 = 0 then 1 else 0) 0 0) = 0 then v11 53 ((1500 * a) + a2).toNatClampNeg else (0 : Int32)) v11 := by
    intro x8 e8 v11 e11
    subst e8
    rw [if_pos rfl] at e11
    rw [if_pos rfl, if_neg (prf_1 0 0)]
    subst e11
    exact ⟨fun z => absurd z (prf_1 0 0), by rw [vrf_0, ptr_1], fun z => absurd z one0, hB _ _ (hT.vrf 1 0 0)⟩
  unfold wp_L_get wp_X4_get
  rcases file_cases a with ⟨f, hf, rfl, hp⟩ | ⟨hp, ho⟩
  · have hF := hT.2.1.2.1 f hf
    have hG := hT.2.2.2.2.1 f hf
    have hcl := (hT.1.2.1 f hf).2
    have l52 := hT.2.2.1.2.2.2.2.2.1
    rw [hp]
    have hbad2 : ∀ (x : Int32), pin a2 0 (nI (cat bs (fl f)).length - 1) = 0 → x = (if (1 : Int32) = 0 then 0 else if (1 : Int32) = 0 then (if (pin a2 0 ((v 52 (0 : Int32).toNatClampNeg) - 1)) = 0 then 0 else 1) else if (pin a2 0 ((v 52 (nI f).toNatClampNeg) - 1)) = 0 then 0 else 1) → x = 0 := by
      intro x q e
      rw [if_neg one0, if_neg one0, nI_clamp (by omega), hG.1, q, if_pos rfl] at e
      exact e
    rcases pin_idx a2 (len := (cat bs (fl f)).length) hcl with ⟨k, hk, rfl, hq⟩ | ⟨hq, h2⟩
    · refine w_getIn hT hf hk ?_
      refine ⟨fun _ z => absurd z one0, fun _ _ => by rw [l52]; exact pk_in f _ hf, ?_⟩
      intro x8 e8
      rw [if_neg one0, if_neg one0, nI_clamp (n := f) (by omega), hG.1, hq, if_neg one0] at e8
      subst e8
      intro v11 e11
      rw [if_neg one0] at e11
      subst e11
      rw [if_neg one0, if_pos prf_0, e1500]
      refine ⟨fun _ => by rw [hT.2.2.1.2.2.2.2.2.2.1]; exact pk_in (1500 * f + k) _ (by omega), by rw [vrf_0, ptr_0], fun _ => ?_, hB _ _ (hT.vrf 0 0 0)⟩
      rw [pk_uLs, vrf_k _ _ _ _ (by decide), nI_clamp (by omega), hG.2.1 k hk]
    · have hpex : "java/lang/IndexOutOfBoundsException" = "java/lang/IndexOutOfBoundsException" ∧ (¬(1 : Int32) = 0 → (1 : Int32) = 0 → vp_in 0 (ln 52)) ∧ (¬(1 : Int32) = 0 → ¬(1 : Int32) = 0 → vp_in (nI f) (ln 52)) ∧ ∀ x8 : Int32, x8 = (if (1 : Int32) = 0 then 0 else if (1 : Int32) = 0 then (if (pin a2 0 ((v 52 (0 : Int32).toNatClampNeg) - 1)) = 0 then 0 else 1) else if (pin a2 0 ((v 52 (nI f).toNatClampNeg) - 1)) = 0 then 0 else 1) → ∀ v11 : gV, v11 = vrf v (if x8 = 0 then 1 else 0) 0 0 → (((prf (if x8 = 0 then 1 else 0) 0 0) = 0) → vp_in ((1500 * nI f) + a2) (ln 53)) ∧ (fun bb v2 => v2 46 0 = 1 ∧ ((1 : Int32) = 0 → ou 0 = bb.toInt64) ∧ Bk v2 ou) (if (prf (if x8 = 0 then 1 else 0) 0 0) = 0 then v11 53 ((1500 * nI f) + a2).toNatClampNeg else (0 : Int32)) v11 :=
        ⟨rfl, fun _ z => absurd z one0, fun _ _ => by rw [l52]; exact pk_in f _ hf, fun x8 e8 => hbad x8 (hbad2 x8 hq e8)⟩
      unfold wp_X3_get
      refine w_fAin hf ?_
      rw [fmod hf, f16, hF.2.2.2.2.1]
      rcases h2 with q | ⟨q1, q2⟩
      · exact ⟨fun _ => hpex, fun z => absurd q z⟩
      · exact ⟨fun z => absurd z q1, fun _ => ⟨fun z => absurd z q2, fun _ => hpex⟩⟩
  · unfold wp_X3_get
    refine w_fAout ho ⟨rfl, ?_⟩
    rw [hp]
    refine ⟨fun z => absurd rfl z, fun z => absurd rfl z, fun x8 e8 => hbad x8 (by rw [if_pos rfl] at e8; exact e8)⟩
