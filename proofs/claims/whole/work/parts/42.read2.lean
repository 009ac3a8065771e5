/-! pure: about, common, all -/
variable {ln : Nat → Nat} {v : gV} {us : Nat → Nat} {bs : Nat → Byt} {fl : Nat → List Nat} {hd : Byt} {b l m : Nat} {ou : Nat → Int64}
theorem mem_gd {ns : List Nat} {n : Nat} (h : n ∈ ns) : ∃ k, k < ns.length ∧ ns.getD k 0 = n := by
  obtain ⟨k, hk, e⟩ := List.mem_iff_getElem.mp h
  exact ⟨k, hk, by rw [List.getD_eq_getElem?_getD, List.getElem?_eq_getElem hk]; exact e⟩
theorem gd_mem {ns : List Nat} {k : Nat} (hk : k < ns.length) : ns.getD k 0 ∈ ns := by
  rw [List.getD_eq_getElem?_getD, List.getElem?_eq_getElem hk]
  exact List.getElem_mem hk
theorem has_eq {g : Nat → Int32} {base n : Nat} {ns : List Nat} (hg : ∀ k, k < ns.length → g (base + k) = nI (ns.getD k 0)) (h4 : ∀ j, j ∈ ns → j < 400) (hn : n < 400) : hasL g base (nI n) ns.length = 0 ↔ n ∉ ns := by
  rw [hasL_iff]
  constructor
  · intro h hm
    obtain ⟨k, hk, e⟩ := mem_gd hm
    exact h k hk (by rw [hg k hk, e])
  · intro h k hk e
    rw [hg k hk] at e
    have h1 := gd_mem hk
    have h2 := (nI_eq (by have := h4 _ h1; omega) (by omega)).mp e
    exact h (h2 ▸ h1)
/-- in how many files a part is -/
def fw (fl : Nat → List Nat) (n : Nat) (k : Nat) : Nat := sumTo (fun f => if n ∈ fl f then 1 else 0) k
theorem fw_s (fl : Nat → List Nat) (n k : Nat) : fw fl n (k + 1) = fw fl n k + (if n ∈ fl k then 1 else 0) := rfl
theorem w_filesWith {n : Nat} {post : Int32 → gV → Prop} (hT : ST ln v us bs fl hd b l m) (hn : n < 400) (h : post (nI (fw fl n 16)) v) : wp_X3_filesWith ln v (nI n) post := by
  unfold wp_X3_filesWith
  refine ⟨fun k x1 x2 v3 => ∃ i, i ≤ 16 ∧ k = 16 - i ∧ x1 = nI (fw fl n i) ∧ x2 = nI i ∧ v3 = v, ⟨16, 0, by omega, rfl, rfl, rfl, rfl⟩, ?_⟩
  rintro k x1 x2 v3 ⟨i, hi, rfl, rfl, rfl, rfl⟩
  refine pk_le 16 i (fun q => ?_) (fun q => ⟨pk_in i 16 q, ?_⟩)
  · have : i = 16 := by omega
    subst this
    exact h
  · obtain ⟨g1, g2, g3, g4, g5, g6⟩ := hT.2.1.2.1 i q
    rw [fmod q]
    refine w_X0_hasNumber g4 (by rw [f16]; exact g3) (by rw [f16]; omega) ?_
    rw [f16]
    have he := has_eq (g := v3 (30 + i)) (base := 0) (n := n) (ns := fl i) (fun k hk => by rw [Nat.zero_add]; exact g6 k hk) ((hT.1.2.1 i q).1) hn
    refine ⟨16 - (i + 1), by omega, i + 1, by omega, rfl, ?_, nI_1 i, rfl⟩
    by_cases z : n ∈ fl i
    · rw [if_neg (fun y => (he.mp y) z), fw_s, if_pos z, nI_1]
    · rw [if_pos (he.mpr z), fw_s, if_neg z, Nat.add_zero]
theorem r_about0 {a a2 : Int32} {post : Int32 → gV → Prop} (hR : RY ln v us bs fl hd b l m) (hp : pin a 0 399 = 0) (h : post 0 (vrf v 1 0 0)) : wp_X4_about ln v a a2 post := by
  unfold wp_X4_about
  rw [hp]
  refine ⟨fun z => absurd rfl z, fun z => absurd rfl z, fun x8 e8 => ?_⟩
  rw [if_pos rfl] at e8
  subst e8
  intro v14 e14
  rw [if_pos rfl, if_pos rfl] at e14
  subst e14
  rw [if_pos rfl, if_pos rfl]
  exact ⟨fun z => absurd z (prf_1 0 0), fun _ => h⟩
theorem r_about1 {n : Nat} {a2 : Int32} {post : Int32 → gV → Prop} (hR : RY ln v us bs fl hd b l m) (hn : n < 400) (hu : us n = 0) (hp : pin (nI n) 0 399 = 1) (h : post 0 (vrf v 1 0 0)) : wp_X4_about ln v (nI n) a2 post := by
  unfold wp_X4_about
  rw [hp]
  refine ⟨fun _ z => absurd z one0, fun _ _ => by rw [hR.1.2.2.2.2.2.2.2.2.2.1]; exact pk_in n _ hn, fun x8 e8 => ?_⟩
  rw [if_neg one0, if_neg one0, nI_clamp (by omega), (hR.2.2.2 n hn).1, hu, if_pos (by decide)] at e8
  subst e8
  intro v14 e14
  rw [if_pos rfl, if_pos rfl] at e14
  subst e14
  rw [if_pos rfl, if_pos rfl]
  exact ⟨fun z => absurd z (prf_1 0 0), fun _ => h⟩
theorem r_about2 {n : Nat} {a2 : Int32} {post : Int32 → gV → Prop} (hR : RY ln v us bs fl hd b l m) (hub : us n < 2 ^ 31) (hn : n < 400) (hu : 0 < us n) (hp : pin (nI n) 0 399 = 1) (hw : pin a2 0 2 = 0) (h : post 0 (vrf v 0 1 0)) : wp_X4_about ln v (nI n) a2 post := by
  unfold wp_X4_about
  rw [hp]
  refine ⟨fun _ z => absurd z one0, fun _ _ => by rw [hR.1.2.2.2.2.2.2.2.2.2.1]; exact pk_in n _ hn, fun x8 e8 => ?_⟩
  rw [if_neg one0, if_neg one0, nI_clamp (by omega), (hR.2.2.2 n hn).1, if_neg (fun z => by rw [nI_le0 hub] at z; omega)] at e8
  subst e8
  intro v14 e14
  rw [if_neg one0, if_neg one0, hw, if_pos rfl] at e14
  subst e14
  rw [if_neg one0, if_neg one0, hw, if_pos rfl]
  exact ⟨fun z => absurd z (prf_2 0), fun _ => h⟩
theorem r_about3 {n : Nat} {a2 : Int32} {post : Int32 → gV → Prop} (hT : ST ln v us bs fl hd b l m) (hn : n < 400) (hu : 0 < us n) (hp : pin (nI n) 0 399 = 1) (hw : pin a2 0 2 = 1) (h : post (if a2 = 0 then nI (bs n).length else if a2 = 1 then nI (us n) else nI (fw fl n 16)) (vrf v 0 0 0)) : wp_X4_about ln v (nI n) a2 post := by
  have hR := hT.2.2
  have hub := hT.usb n
  have l56 := hR.1.2.2.2.2.2.2.2.2.2.1
  have l57 := hR.1.2.2.2.2.2.2.2.2.2.2.1
  unfold wp_X4_about
  rw [hp]
  refine ⟨fun _ z => absurd z one0, fun _ _ => by rw [l56]; exact pk_in n _ hn, fun x8 e8 => ?_⟩
  rw [if_neg one0, if_neg one0, nI_clamp (by omega), (hR.2.2.2 n hn).1, if_neg (fun z => by rw [nI_le0 (by omega)] at z; omega)] at e8
  subst e8
  intro v14 e14
  rw [if_neg one0, if_neg one0, hw, if_neg one0] at e14
  subst e14
  rw [if_neg one0, if_neg one0, hw, if_neg one0]
  refine ⟨fun _ => ?_, fun z => absurd prf_0 z⟩
  refine ⟨fun k x1 x2 v3 => ∃ i, i ≤ 16 ∧ k = 16 - i ∧ x1 = nI (fw fl n i) ∧ x2 = nI i ∧ v3 = vrf v 0 0 0, ⟨16, 0, by omega, rfl, rfl, rfl, rfl⟩, ?_⟩
  rintro k x1 x2 v3 ⟨i, hi, rfl, rfl, rfl, rfl⟩
  refine pk_le 16 i (fun q => ?_) (fun q => ?_)
  · have : i = 16 := by omega
    subst this
    refine ⟨fun _ _ => by rw [l56]; exact pk_in n _ hn, fun _ => by rw [l57]; exact pk_in n _ hn, ?_⟩
    rw [nI_clamp (by omega), vrf_k _ _ _ _ (by decide), vrf_k _ _ _ _ (by decide), (hR.2.2.2 n hn).1, ((hR.2.2.2 n hn).2 hu).1]
    exact h
  · have hG := (hT.vrf 0 0 0).2.2.2.2.1 i q
    refine w_X4_has q hR.1.2.2.2.2.2.2.2.1 hG.2.2.1 (hT.len q) hR.1.2.2.2.2.2.2.2.2.1 ?_
    intro x29 e29
    have he := has_eq (g := vrf v 0 0 0 55) (base := 1500 * i) (n := n) (ns := fl i) hG.2.2.2 ((hT.1.2.1 i q).1) hn
    refine ⟨16 - (i + 1), by omega, i + 1, by omega, rfl, ?_, nI_1 i, rfl⟩
    rw [e29]
    by_cases z : n ∈ fl i
    · rw [if_neg (fun y => (he.mp y) z), fw_s, if_pos z, nI_1]
    · rw [if_pos (he.mpr z), fw_s, if_neg z, Nat.add_zero]
theorem pl_about {a a2 : Int32} {Bk : gV → (Nat → Int64) → Prop} (hT : ST ln v us bs fl hd b l m) (hB : ∀ v2 ou1, ST ln v2 us bs fl hd b l m → Bk v2 ou1) : wp_L_about ln v ou a a2 (fun k v1 ou1 => wp_X4_about ln v1 a a2 (fun bb v2 => v2 46 0 = k ∧ (k = 0 → ou1 0 = bb.toInt64) ∧ Bk v2 ou1)) := by
  have hS := hT.2.1.1
  have hR := hT.2.2
  unfold wp_L_about wp_X3_about
  refine ⟨hS.1.1, ?_⟩
  rcases part_cases v a with ⟨n, hn, rfl, hp⟩ | ⟨hp, ho⟩
  · have hub := hT.usb n
    rw [phs_n hS.2.1 hn]
    by_cases hu : 0 < us n
    · rw [if_pos hu]
      refine ⟨fun z => absurd z one0, fun _ => ?_⟩
      rcases what_cases a2 with rfl | rfl | rfl | ⟨w0, w1, w2, w3⟩
      · refine ⟨fun _ => ⟨hS.1.1, hS.1.2.1, ?_⟩, fun z => absurd z (by decide), fun z => absurd z (by decide), fun z => absurd rfl z⟩
        rw [plo_p hS hn hu]
        refine r_about3 hT hn hu hp (by decide) ⟨by rw [vrf_0, ptr_0], fun _ => ?_, hB _ _ (hT.vrf 0 0 0)⟩
        rw [pk_uLs, if_pos rfl]
      · refine ⟨fun z => absurd z (by decide), fun _ => ⟨hS.1.1, ?_⟩, fun z => absurd z (by decide), fun _ z => absurd rfl z⟩
        refine r_about3 hT hn hu hp (by decide) ⟨by rw [vrf_0, ptr_0], fun _ => ?_, hB _ _ (hT.vrf 0 0 0)⟩
        rw [pk_uLs, if_neg (by decide), if_pos rfl]
        unfold pus
        rw [phs_p hS.2.1 hn hu, if_neg one0, nI_clamp (by omega), (hS.2.1 n hn).1]
      · refine ⟨fun z => absurd z (by decide), fun z => absurd z (by decide), fun _ => ?_, fun _ _ z => absurd rfl z⟩
        refine w_filesWith hT hn ?_
        refine r_about3 hT hn hu hp (by decide) ⟨by rw [vrf_0, ptr_0], fun _ => ?_, hB _ _ (hT.vrf 0 0 0)⟩
        rw [pk_uLs, if_neg (by decide), if_neg (by decide)]
      · refine ⟨fun z => absurd z w0, fun z => absurd z w1, fun z => absurd z w2, fun _ _ _ => Or.inr ⟨rfl, ?_⟩⟩
        exact r_about2 hR (by omega) hn hu hp w3 ⟨by rw [vrf_0, ptr_2], fun z => absurd z (by decide), hB _ _ (hT.vrf 0 1 0)⟩
    · rw [if_neg hu]
      refine ⟨fun _ => Or.inl ⟨rfl, ?_⟩, fun z => absurd rfl z⟩
      exact r_about1 hR hn (by omega) hp ⟨by rw [vrf_0, ptr_1], fun z => absurd z one0, hB _ _ (hT.vrf 1 0 0)⟩
  · rw [ho]
    refine ⟨fun _ => Or.inl ⟨rfl, ?_⟩, fun z => absurd rfl z⟩
    exact r_about0 hR hp ⟨by rw [vrf_0, ptr_1], fun z => absurd z one0, hB _ _ (hT.vrf 1 0 0)⟩
theorem pl_all {a : Int32} {Bk : gV → (Nat → Int64) → Prop} (hT : ST ln v us bs fl hd b l m) (hB : ∀ v2 ou1, ST ln v2 us bs fl hd b l m → Bk v2 ou1) : wp_L_all ln v ou a (fun k v1 ou1 => wp_X4_all ln v1 a (fun bb v2 => v2 46 0 = k ∧ (k = 0 → ou1 0 = bb.toInt64) ∧ Bk v2 ou1)) := by
  have hS := hT.2.1.1
  have hR := hT.2.2
  have l56 := hR.1.2.2.2.2.2.2.2.2.2.1
  have l57 := hR.1.2.2.2.2.2.2.2.2.2.2.1
  have hgood : ∀ (post : Int32 → gV → Prop), pin a 0 2 = 1 → post (if a = 0 then nI (cnt us) else if a = 1 then nI (tot us bs) else nI hd.length) (vrf v 0 0 0) → wp_X4_all ln v a post := by
    intro post hp h
    unfold wp_X4_all
    rw [hp, if_neg one0]
    intro v3 e3
    subst e3
    refine ⟨fun _ => ?_, fun z => absurd prf_0 z⟩
    refine ⟨fun k x5 x6 x7 => ∃ i, i ≤ 400 ∧ k = 400 - i ∧ x5 = nI (sumTo (fun n => if 0 < us n then 1 else 0) i) ∧ x6 = nI (sumTo (fun n => if 0 < us n then (bs n).length else 0) i) ∧ x7 = nI i, ⟨400, 0, by omega, rfl, rfl, rfl, rfl⟩, ?_⟩
    rintro k x5 x6 x7 ⟨i, hi, rfl, rfl, rfl, rfl⟩
    refine pk_le 400 i (fun q => ?_) (fun q => ?_)
    · have : i = 400 := by omega
      subst this
      rw [vrf_j _ _ _ _ (by decide), hR.2.1.2.2.2.1]
      exact h
    · rw [l56, l57, nI_clamp (n := i) (by omega), vrf_k _ _ _ _ (by decide), vrf_k _ _ _ _ (by decide), (hR.2.2.2 i q).1]
      have hub := hT.usb i
      refine ⟨pk_in i _ q, fun x15 e15 => ⟨pk_in i _ q, fun _ => pk_in i _ q, fun x20 e20 => ?_⟩⟩
      refine ⟨400 - (i + 1), by omega, i + 1, by omega, rfl, ?_, ?_, nI_1 i⟩
      · rw [e15]
        show _ = nI (sumTo _ i + (if 0 < us i then 1 else 0))
        by_cases z : 0 < us i
        · rw [if_neg (fun y => by rw [nI_le0 (by omega)] at y; omega), if_pos z, nI_1]
        · rw [if_pos (by rw [nI_le0 (by omega)]; omega), if_neg z, Nat.add_zero]
      · rw [e20]
        show _ = nI (sumTo _ i + (if 0 < us i then (bs i).length else 0))
        by_cases z : 0 < us i
        · rw [if_neg (fun y => by rw [nI_le0 (by omega)] at y; omega), if_pos z, ((hR.2.2.2 i q).2 z).1, nI_add]
        · rw [if_pos (by rw [nI_le0 (by omega)]; omega), if_neg z, Nat.add_zero]
  unfold wp_L_all wp_X3_all
  rcases what_cases a with rfl | rfl | rfl | ⟨w0, w1, w2, w3⟩
  · refine ⟨fun _ => ?_, fun z => absurd z (by decide), fun z => absurd z (by decide), fun z => absurd rfl z⟩
    refine hgood _ (by decide) ⟨by rw [vrf_0, ptr_0], fun _ => ?_, hB _ _ (hT.vrf 0 0 0)⟩
    rw [pk_uLs, if_pos rfl, hS.2.2.2.2.2.2.1]
  · refine ⟨fun z => absurd z (by decide), fun _ => ?_, fun z => absurd z (by decide), fun _ z => absurd rfl z⟩
    refine hgood _ (by decide) ⟨by rw [vrf_0, ptr_0], fun _ => ?_, hB _ _ (hT.vrf 0 0 0)⟩
    rw [pk_uLs, if_neg (by decide), if_pos rfl, hS.2.2.2.2.2.2.2.1]
  · refine ⟨fun z => absurd z (by decide), fun z => absurd z (by decide), fun _ => ?_, fun _ _ z => absurd rfl z⟩
    refine hgood _ (by decide) ⟨by rw [vrf_0, ptr_0], fun _ => ?_, hB _ _ (hT.vrf 0 0 0)⟩
    rw [pk_uLs, if_neg (by decide), if_neg (by decide), hT.2.1.2.2.1.2.2.2.2.1]
  · refine ⟨fun z => absurd z w0, fun z => absurd z w1, fun z => absurd z w2, fun _ _ _ => ⟨rfl, ?_⟩⟩
    unfold wp_X4_all
    rw [w3, if_pos rfl]
    intro v3 e3
    subst e3
    exact ⟨fun z => absurd z (prf_1 0 0), fun _ => ⟨by rw [vrf_0, ptr_1], fun z => absurd z one0, hB _ _ (hT.vrf 1 0 0)⟩⟩
/-- the bytes that one row of numbers shares with another -/
def cmn (bs : Nat → Byt) (ms : List Nat) : List Nat → Nat
  | [] => 0
  | n :: t => (if n ∈ ms then (bs n).length else 0) + cmn bs ms t
theorem cmn_snoc (bs : Nat → Byt) (ms : List Nat) : ∀ (l : List Nat) (n : Nat), cmn bs ms (l ++ [n]) = cmn bs ms l + (if n ∈ ms then (bs n).length else 0) := by
  intro l
  induction l with
  | nil => intro n; show _ + 0 = 0 + _; omega
  | cons a t ih => intro n; show _ + cmn bs ms (t ++ [n]) = (_ + cmn bs ms t) + _; rw [ih]; omega
theorem w_fill {r : Nat} {x : Int32} {post : gV → Prop} (hr : ln r < 2 ^ 31) (h : ∀ v', Fr [r] v v' → (∀ i, i < ln r → v' r i = x) → post v') : wp_J7_fill_53178 ln v r x post := by
  unfold wp_J7_fill_53178
  refine ⟨fun k x1 v2 => ∃ i, i ≤ ln r ∧ k = ln r - i ∧ x1 = nI i ∧ Fr [r] v v2 ∧ ∀ j, j < i → v2 r j = x, ⟨ln r, 0, by omega, rfl, rfl, Fr.rf, fun j hj => by omega⟩, ?_⟩
  rintro k x1 v2 ⟨i, hi, rfl, rfl, hF, hx⟩
  refine pk_le (ln r) i (fun q => ?_) (fun q => ⟨pk_in i _ q, ?_⟩)
  · exact h v2 hF (fun j hj => hx j (by omega))
  · intro v5 e5
    rw [nI_clamp (by omega)] at e5
    refine ⟨ln r - (i + 1), by omega, i + 1, by omega, rfl, nI_1 i, hF.tr (by rw [e5]; exact Fr.up (by simp)), fun j hj => ?_⟩
    rw [e5, va_up_self]
    by_cases z : j = i
    · subst z; rw [pk_us]
    · rw [pk_un z]; exact hx j (by omega)
theorem w_common {f g : Nat} {post : Int32 → gV → Prop} {pex : String → gV → Prop} (hT : ST ln v us bs fl hd b l m) (hf : f < 16) (hg : g < 16) (h : ∀ v', (∀ k, k ≠ 7 → v' k = v k) → post (nI (cmn bs (fl g) (fl f))) v') : wp_X3_common ln v (nI f) (nI g) post pex := by
  unfold wp_X3_common
  refine w_fAin hf (w_fAin hg ?_)
  obtain ⟨f1, f2, f3, f4, f5, f6⟩ := hT.2.1.2.1 f hf
  obtain ⟨g1, g2, g3, g4, g5, g6⟩ := hT.2.1.2.1 g hg
  have hS := hT.2.1.1
  have l7 := hT.2.1.2.2.1.2.2.2.1
  rw [fmod hf, fmod hg, f16, f16]
  refine w_fill (by omega) (fun v6 hF6 h6 => ?_)
  rw [l7] at h6 ⊢
  refine ⟨fun k x7 v8 => ∃ l1 l2, fl g = l1 ++ l2 ∧ k = l2.length ∧ x7 = nI l1.length ∧ Fr [7] v v8 ∧ ∀ n, n < 400 → v8 7 n = if n ∈ l1 then 1 else 0, ⟨(fl g).length, [], fl g, rfl, rfl, rfl, hF6, fun n hn => by rw [h6 n hn]; simp⟩, ?_⟩
  rintro k x7 v8 ⟨l1, l2, hl, rfl, rfl, hF, h7⟩
  have hlen : (fl g).length = l1.length + l2.length := by rw [hl, List.length_append]
  have hS8 : CS ln v8 us bs := hS.fr (hF 2 (by decide)) (hF 8 (by decide)) (hF 9 (by decide)) (hF 10 (by decide)) (hF 11 (by decide)) (hF 12 (by decide)) (hF 13 (by decide))
  rw [hF (14 + g) (by simp; omega), hF (14 + f) (by simp; omega), hF (30 + f) (by simp; omega), hF (30 + g) (by simp; omega), g4, f4]
  refine pk_le (fl g).length l1.length (fun q => ?_) (fun q => ⟨pk_in l1.length _ (by omega), ?_⟩)
  · have : l2 = [] := List.eq_nil_of_length_eq_zero (by omega)
    subst this
    rw [List.append_nil] at hl
    subst hl
    refine ⟨fun k x10 x11 => ∃ p1 p2, fl f = p1 ++ p2 ∧ k = p2.length ∧ x11 = nI p1.length ∧ x10 = nI (cmn bs (fl g) p1), ⟨(fl f).length, [], fl f, rfl, rfl, rfl, rfl⟩, ?_⟩
    rintro k x10 x11 ⟨p1, p2, hp, rfl, rfl, rfl⟩
    have hplen : (fl f).length = p1.length + p2.length := by rw [hp, List.length_append]
    refine pk_le (fl f).length p1.length (fun q => ?_) (fun q => ⟨pk_in p1.length _ (by omega), ?_⟩)
    · have : p2 = [] := List.eq_nil_of_length_eq_zero (by omega)
      subst this
      rw [List.append_nil] at hp
      rw [← hp]
      exact h v8 (fun k hk => hF k (by simp; exact hk))
    · cases p2 with
      | nil => simp at hplen; omega
      | cons n t =>
        have hmem : n ∈ fl f := by rw [hp]; simp
        have hn := (hT.1.2.1 f hf).1 n hmem
        have hu := hT.1.pos hf hmem
        intro x14 e14
        rw [nI_clamp (by omega), f6 _ (by rw [hplen, List.length_cons]; omega), hp, gd_mid] at e14
        subst e14
        rw [phs_p hS8.2.1 hn hu, plo_p hS8 hn hu, nI_clamp (n := n) (by omega), h7 n hn, if_neg one0]
        refine ⟨hS.1.1, fun _ => pk_in n _ hn, fun _ _ => hS.1.1, fun _ _ => hS.1.2.1, t.length, by simp, p1 ++ [n], t, by rw [hp]; simp, rfl, by rw [nI_1, List.length_append]; rfl, ?_⟩
        rw [cmn_snoc]
        by_cases z : n ∈ fl g
        · rw [if_pos z, if_pos z, if_pos rfl, nI_add]
        · rw [if_neg z, if_neg z, if_neg (by decide), Nat.add_zero]
  · cases l2 with
    | nil => simp at hlen; omega
    | cons n t =>
      have hmem : n ∈ fl g := by rw [hl]; simp
      have hn := (hT.1.2.1 g hg).1 n hmem
      have hu := hT.1.pos hg hmem
      intro x24 e24
      rw [nI_clamp (by omega), g6 _ (by rw [hlen, List.length_cons]; omega), hl, gd_mid] at e24
      subst e24
      rw [phs_p hS8.2.1 hn hu]
      refine ⟨hS.1.1, fun z => absurd z one0, fun _ => ⟨pk_in n _ hn, ?_⟩⟩
      intro v29 e29
      rw [nI_clamp (n := n) (by omega)] at e29
      refine ⟨t.length, by simp, l1 ++ [n], t, by rw [hl]; simp, rfl, by rw [nI_1, List.length_append]; rfl, hF.tr (by rw [e29]; exact Fr.up (by simp)), fun j hj => ?_⟩
      rw [e29, va_up_self]
      by_cases z : j = n
      · subst z; rw [pk_us]; simp
      · rw [pk_un z, h7 j hj]
        by_cases y : j ∈ l1
        · rw [if_pos y, if_pos (by simp [y])]
        · rw [if_neg y, if_neg (by simp [y, z])]
theorem r_common {f g : Nat} {post : Int32 → gV → Prop} (hT : ST ln v us bs fl hd b l m) (hf : f < 16) (hg : g < 16) (hp : pin (nI f) 0 15 = 1) (hq : pin (nI g) 0 15 = 1) (h : post (nI (cmn bs (fl g) (fl f))) (vrf v 0 0 0)) : wp_X4_common ln v (nI f) (nI g) post := by
  have hR := hT.2.2
  have hT2 := hT.vrf 0 0 0
  have l54 := hR.1.2.2.2.2.2.2.2.1
  have l55 := hR.1.2.2.2.2.2.2.2.2.1
  have l57 := hR.1.2.2.2.2.2.2.2.2.2.2.1
  have hG := hT2.2.2.2.2.1 f hf
  have hG2 := hT2.2.2.2.2.1 g hg
  have hfl := hT.len hf
  unfold wp_X4_common
  rw [hp, hq, if_neg one0, if_neg one0]
  intro v4 e4
  subst e4
  refine ⟨fun _ => ?_, fun z => absurd prf_0 z⟩
  refine ⟨fun k x6 x7 v8 => ∃ p1 p2, fl f = p1 ++ p2 ∧ k = p2.length ∧ x7 = nI p1.length ∧ x6 = nI (cmn bs (fl g) p1) ∧ v8 = vrf v 0 0 0, ⟨(fl f).length, [], fl f, rfl, rfl, rfl, rfl, rfl⟩, ?_⟩
  rintro k x6 x7 v8 ⟨p1, p2, hpp, rfl, rfl, rfl, rfl⟩
  have hplen : (fl f).length = p1.length + p2.length := by rw [hpp, List.length_append]
  rw [l54, l55, l57, nI_clamp (n := f) (by omega), hG.2.2.1, e1500]
  refine ⟨pk_in f _ hf, pk_le (fl f).length p1.length (fun q => ?_) (fun q => ⟨pk_in (1500 * f + p1.length) _ (by omega), ?_⟩)⟩
  · have : p2 = [] := List.eq_nil_of_length_eq_zero (by omega)
    subst this
    rw [List.append_nil] at hpp
    rw [← hpp]
    exact h
  · cases p2 with
    | nil => simp at hplen; omega
    | cons n t =>
      have hmem : n ∈ fl f := by rw [hpp]; simp
      have hn := (hT.1.2.1 f hf).1 n hmem
      have hu := hT.1.pos hf hmem
      intro x12 e12
      rw [nI_clamp (by omega), hG.2.2.2 _ (by rw [hplen, List.length_cons]; omega), hpp, gd_mid] at e12
      subst e12
      refine w_X4_has hg l54 hG2.2.2.1 (hT.len hg) l55 ?_
      refine ⟨fun _ => pk_in n _ hn, fun x18 e18 => ?_⟩
      have he := has_eq (g := vrf v 0 0 0 55) (base := 1500 * g) (n := n) (ns := fl g) hG2.2.2.2 ((hT.1.2.1 g hg).1) hn
      rw [nI_clamp (n := n) (by omega), ((hT2.2.2.2.2.2 n hn).2 hu).1] at e18
      refine ⟨t.length, by simp, p1 ++ [n], t, by rw [hpp]; simp, rfl, by rw [nI_1, List.length_append]; rfl, ?_, rfl⟩
      rw [e18, cmn_snoc]
      by_cases z : n ∈ fl g
      · rw [if_neg (fun y => (he.mp y) z), if_pos z, nI_add]
      · rw [if_pos (he.mpr z), if_neg z, Nat.add_zero]
theorem r_common0 {a a2 : Int32} {post : Int32 → gV → Prop} (hp : pin a 0 15 = 0 ∨ pin a2 0 15 = 0) (h : post 0 (vrf v 1 0 0)) : wp_X4_common ln v a a2 post := by
  have e : (if (pin a 0 15) = 0 then (1 : Int32) else if (pin a2 0 15) = 0 then 1 else 0) = 1 := by
    by_cases q : pin a 0 15 = 0
    · rw [if_pos q]
    · rw [if_neg q]
      rcases hp with z | z
      · exact absurd z q
      · rw [if_pos z]
  unfold wp_X4_common
  rw [e]
  intro v4 e4
  subst e4
  exact ⟨fun z => absurd z (prf_1 0 0), fun _ => h⟩
theorem pl_common {a a2 : Int32} {Bk : gV → (Nat → Int64) → Prop} (hT : ST ln v us bs fl hd b l m) (hB : ∀ v2 ou1, ST ln v2 us bs fl hd b l m → Bk v2 ou1) : wp_L_common ln v ou a a2 (fun k v1 ou1 => wp_X4_common ln v1 a a2 (fun bb v2 => v2 46 0 = k ∧ (k = 0 → ou1 0 = bb.toInt64) ∧ Bk v2 ou1)) := by
  unfold wp_L_common
  rcases file_cases a with ⟨f, hf, rfl, hp⟩ | ⟨hp, ho⟩
  · rcases file_cases a2 with ⟨g, hg, rfl, hq⟩ | ⟨hq, ho⟩
    · refine w_common hT hf hg (fun v' hv => ?_)
      have hT' := hT.v7 hv
      refine r_common hT' hf hg hp hq ⟨by rw [vrf_0, ptr_0], fun _ => ?_, hB _ _ (hT'.vrf 0 0 0)⟩
      rw [pk_uLs]
    · unfold wp_X3_common
      refine w_fAin hf (w_fAout ho ⟨rfl, ?_⟩)
      exact r_common0 (Or.inr hq) ⟨by rw [vrf_0, ptr_1], fun z => absurd z one0, hB _ _ (hT.vrf 1 0 0)⟩
  · unfold wp_X3_common
    refine w_fAout ho ⟨rfl, ?_⟩
    exact r_common0 (Or.inl hp) ⟨by rw [vrf_0, ptr_1], fun z => absurd z one0, hB _ _ (hT.vrf 1 0 0)⟩
