/-! pure: the reference holds the abstract state; both together -/
def RLn (ln : Nat → Nat) : Prop := ln 47 = 1500 ∧ ln 48 = 1500 ∧ ln 49 = 1500 ∧ ln 50 = 1500 ∧ ln 51 = 400 ∧ ln 52 = 16 ∧ ln 53 = 24000 ∧ ln 54 = 16 ∧ ln 55 = 24000 ∧ ln 56 = 400 ∧ ln 57 = 400 ∧ ln 58 = 25600
def RA (v : gV) (hd : Byt) (b l m : Nat) : Prop := v 46 1 = nI b ∧ v 46 2 = nI l ∧ v 46 3 = nI m ∧ v 46 4 = nI hd.length ∧ ∀ i, i < hd.length → v 47 i = hd.getD i 0 &&& 255
def RF (v : gV) (bs : Nat → Byt) (fl : Nat → List Nat) : Prop := ∀ f, f < 16 → v 52 f = nI (cat bs (fl f)).length ∧ (∀ i, i < (cat bs (fl f)).length → v 53 (1500 * f + i) = (cat bs (fl f)).getD i 0 &&& 255) ∧ v 54 f = nI (fl f).length ∧ ∀ k, k < (fl f).length → v 55 (1500 * f + k) = nI ((fl f).getD k 0)
def RP (v : gV) (us : Nat → Nat) (bs : Nat → Byt) : Prop := ∀ n, n < 400 → v 56 n = nI (us n) ∧ (0 < us n → v 57 n = nI (bs n).length ∧ ∀ i, i < (bs n).length → v 58 (64 * n + i) = (bs n).getD i 0 &&& 255)
def RY (ln : Nat → Nat) (v : gV) (us : Nat → Nat) (bs : Nat → Byt) (fl : Nat → List Nat) (hd : Byt) (b l m : Nat) : Prop := RLn ln ∧ RA v hd b l m ∧ RF v bs fl ∧ RP v us bs
def ST (ln : Nat → Nat) (v : gV) (us : Nat → Nat) (bs : Nat → Byt) (fl : Nat → List Nat) (hd : Byt) (b l m : Nat) : Prop := AB us bs fl hd b l m ∧ CY ln v us bs fl hd b l m ∧ RY ln v us bs fl hd b l m
theorem RY.fr {ln ln' : Nat → Nat} {v v' : gV} {us : Nat → Nat} {bs : Nat → Byt} {fl : Nat → List Nat} {hd : Byt} {b l m : Nat} (h : RY ln v us bs fl hd b l m) (hl : ∀ k, 46 ≤ k → ln' k = ln k) (hv : ∀ k, 46 ≤ k → v' k = v k) : RY ln' v' us bs fl hd b l m := by
  unfold RY RLn RA RF RP at h ⊢
  rw [hl 47 (by omega), hl 48 (by omega), hl 49 (by omega), hl 50 (by omega), hl 51 (by omega), hl 52 (by omega), hl 53 (by omega), hl 54 (by omega), hl 55 (by omega), hl 56 (by omega), hl 57 (by omega), hl 58 (by omega), hv 46 (by omega), hv 47 (by omega), hv 52 (by omega), hv 53 (by omega), hv 54 (by omega), hv 55 (by omega), hv 56 (by omega), hv 57 (by omega), hv 58 (by omega)]
  exact h
theorem RA.fr {v v' : gV} {hd : Byt} {b l m : Nat} (h : RA v hd b l m) (h46 : ∀ j, 1 ≤ j → j ≤ 4 → v' 46 j = v 46 j) (h47 : v' 47 = v 47) : RA v' hd b l m := by
  unfold RA at h ⊢
  rw [h46 1 (by omega) (by omega), h46 2 (by omega) (by omega), h46 3 (by omega) (by omega), h46 4 (by omega) (by omega), h47]
  exact h
theorem RF.fr {v v' : gV} {bs : Nat → Byt} {fl : Nat → List Nat} (h : RF v bs fl) (h2 : v' 52 = v 52) (h3 : v' 53 = v 53) (h4 : v' 54 = v 54) (h5 : v' 55 = v 55) : RF v' bs fl := by
  unfold RF at h ⊢
  rw [h2, h3, h4, h5]
  exact h
theorem RP.fr {v v' : gV} {us : Nat → Nat} {bs : Nat → Byt} (h : RP v us bs) (h6 : v' 56 = v 56) (h7 : v' 57 = v 57) (h8 : v' 58 = v 58) : RP v' us bs := by
  unfold RP at h ⊢
  rw [h6, h7, h8]
  exact h
theorem CY.fr7 {ln : Nat → Nat} {v v' : gV} {us : Nat → Nat} {bs : Nat → Byt} {fl : Nat → List Nat} {hd : Byt} {b l m : Nat} (h : CY ln v us bs fl hd b l m) (hv : ∀ k, k ≠ 7 → k < 46 → v' k = v k) : CY ln v' us bs fl hd b l m := ⟨h.1.fr (hv 2 (by omega) (by omega)) (hv 8 (by omega) (by omega)) (hv 9 (by omega) (by omega)) (hv 10 (by omega) (by omega)) (hv 11 (by omega) (by omega)) (hv 12 (by omega) (by omega)) (hv 13 (by omega) (by omega)), h.2.1.fr (fun k h1 hk => hv k (by omega) hk) (fun _ _ _ => rfl) (fun _ _ => rfl), h.2.2.1.fr (hv 0 (by omega) (by omega)) (hv 4 (by omega) (by omega)) (hv 5 (by omega) (by omega)) (fun _ _ _ => rfl), h.2.2.2.fr (hv 1 (by omega) (by omega))⟩
theorem ST.v7 {ln : Nat → Nat} {v v' : gV} {us : Nat → Nat} {bs : Nat → Byt} {fl : Nat → List Nat} {hd : Byt} {b l m : Nat} (h : ST ln v us bs fl hd b l m) (hv : ∀ k, k ≠ 7 → v' k = v k) : ST ln v' us bs fl hd b l m := ⟨h.1, h.2.1.fr7 (fun k h1 _ => hv k h1), h.2.2.fr (fun _ _ => rfl) (fun k hk => hv k (by omega))⟩
theorem vrf_k (v : gV) (x y z : Int32) {k : Nat} (h : k ≠ 46) : vrf v x y z k = v k := va_up_ne _ _ h
theorem vrf_j (v : gV) (x y z : Int32) {j : Nat} (h : j ≠ 0) : vrf v x y z 46 j = v 46 j := by unfold vrf; rw [va_up_self, pk_un h]
theorem vrf_0 (v : gV) (x y z : Int32) : vrf v x y z 46 0 = ptr x y z := by unfold vrf; rw [va_up_self, pk_us]
theorem RY.vrf {ln : Nat → Nat} {v : gV} {us : Nat → Nat} {bs : Nat → Byt} {fl : Nat → List Nat} {hd : Byt} {b l m : Nat} (h : RY ln v us bs fl hd b l m) (x y z : Int32) : RY ln (vrf v x y z) us bs fl hd b l m := ⟨h.1, h.2.1.fr (fun j h1 _ => vrf_j v x y z (by omega)) (vrf_k v x y z (by decide)), h.2.2.1.fr (vrf_k v x y z (by decide)) (vrf_k v x y z (by decide)) (vrf_k v x y z (by decide)) (vrf_k v x y z (by decide)), h.2.2.2.fr (vrf_k v x y z (by decide)) (vrf_k v x y z (by decide)) (vrf_k v x y z (by decide))⟩
theorem ST.vrf {ln : Nat → Nat} {v : gV} {us : Nat → Nat} {bs : Nat → Byt} {fl : Nat → List Nat} {hd : Byt} {b l m : Nat} (h : ST ln v us bs fl hd b l m) (x y z : Int32) : ST ln (vrf v x y z) us bs fl hd b l m := ⟨h.1, h.2.1.fr (fun k hk => vrf_k v x y z (by omega)), h.2.2.vrf x y z⟩
theorem prf_0 : prf 0 0 0 = 0 := by decide
theorem prf_1 (y z : Int32) : ¬ prf 1 y z = 0 := by
  have e : ptr 1 y z = 1 := by unfold ptr; rw [if_neg (by decide)]
  unfold prf
  rw [e]
  decide
theorem prf_2 (z : Int32) : ¬ prf 0 1 z = 0 := by
  have e : ptr 0 1 z = 2 := by unfold ptr; rw [if_pos rfl, if_neg (by decide)]
  unfold prf
  rw [e]
  decide
theorem prf_3 : ¬ prf 0 0 1 = 0 := by decide
theorem ptr_0 : ptr 0 0 0 = 0 := by decide
theorem ptr_1 (y z : Int32) : ptr 1 y z = 1 := by unfold ptr; rw [if_neg (by decide)]
theorem ptr_2 (z : Int32) : ptr 0 1 z = 2 := by unfold ptr; rw [if_pos rfl, if_neg (by decide)]
theorem ptr_3 : ptr 0 0 1 = 3 := by decide
theorem pin_nI {a : Nat} {lo hi : Int32} (la lh : Nat) (h1 : lo = nI la) (h2 : hi = nI lh) (hh : lh < 2 ^ 31) (ha : la ≤ a) (hb : a ≤ lh) : pin (nI a) lo hi = 1 := by
  unfold pin
  rw [h1, h2, if_neg (nI_nlt ha (by omega)), if_neg (nI_nlt hb (by omega))]
/-- a file's number, or none -/
theorem file_cases (a : Int32) : (∃ f, f < 16 ∧ a = nI f ∧ pin a 0 15 = 1) ∨ (pin a 0 15 = 0 ∧ (a < 0 ∨ (¬ a < 0 ∧ ¬ a < 16))) := by
  rcases pk_ix a (n := 16) (by decide) with h | h | ⟨j, h1, rfl⟩
  · right
    exact ⟨by unfold pin; rw [if_pos h], Or.inl h⟩
  · right
    have e : (nI 16).toInt = 16 := by rw [nI_toInt (by decide)]; rfl
    have e15 : (15 : Int32).toInt = 15 := rfl
    have e16 : (16 : Int32).toInt = 16 := rfl
    rw [Int32.le_iff_toInt_le, e] at h
    refine ⟨?_, Or.inr ⟨?_, ?_⟩⟩
    · unfold pin
      rw [if_neg (by rw [Int32.lt_iff_toInt_lt, Int32.toInt_zero]; omega), if_pos (by rw [Int32.lt_iff_toInt_lt, e15]; omega)]
    · rw [Int32.lt_iff_toInt_lt, Int32.toInt_zero]; omega
    · rw [Int32.lt_iff_toInt_lt, e16]; omega
  · left
    exact ⟨j, h1, rfl, pin_nI 0 15 rfl rfl (by decide) (by omega) (by omega)⟩
theorem w_fAin {ln : Nat → Nat} {v : gV} {f : Nat} {post : gV → Prop} {pex : String → gV → Prop} (hf : f < 16) (h : post v) : wp_X3_fileAt ln v (nI f) post pex := by
  unfold wp_X3_fileAt
  exact ⟨fun z => absurd z (nI_pos (by omega)), fun _ => ⟨fun _ => ⟨pk_in f 16 hf, h⟩, fun z => absurd (nI_lt (b := 16) hf (by decide)) z⟩⟩
theorem w_fAout {ln : Nat → Nat} {v : gV} {a : Int32} {post : gV → Prop} {pex : String → gV → Prop} (ha : a < 0 ∨ (¬ a < 0 ∧ ¬ a < 16)) (h : pex "java/lang/IndexOutOfBoundsException" v) : wp_X3_fileAt ln v a post pex := by
  unfold wp_X3_fileAt
  rcases ha with q | ⟨q1, q2⟩
  · exact ⟨fun _ => h, fun z => absurd q z⟩
  · exact ⟨fun _ => h, fun _ => ⟨fun z => absurd z q2, fun _ => h⟩⟩
theorem fmod {f : Nat} (hf : f < 16) : 14 + (nI f).toNatClampNeg % 16 = 14 + f := by rw [nI_clamp (by omega), Nat.mod_eq_of_lt hf]
theorem f16 (f : Nat) : 14 + f + 16 = 30 + f := by omega
theorem what_cases (a : Int32) : a = 0 ∨ a = 1 ∨ a = 2 ∨ (¬ a = 0 ∧ ¬ a = 1 ∧ ¬ a = 2 ∧ pin a 0 2 = 0) := by
  by_cases h0 : a = 0
  · exact Or.inl h0
  by_cases h1 : a = 1
  · exact Or.inr (Or.inl h1)
  by_cases h2 : a = 2
  · exact Or.inr (Or.inr (Or.inl h2))
  refine Or.inr (Or.inr (Or.inr ⟨h0, h1, h2, ?_⟩))
  rcases pk_ix a (n := 3) (by decide) with h | h | ⟨j, hj, rfl⟩
  · unfold pin; rw [if_pos h]
  · have e : (nI 3).toInt = 3 := by rw [nI_toInt (by decide)]; rfl
    have e2 : (2 : Int32).toInt = 2 := rfl
    rw [Int32.le_iff_toInt_le, e] at h
    unfold pin
    rw [if_neg (by rw [Int32.lt_iff_toInt_lt, Int32.toInt_zero]; omega), if_pos (by rw [Int32.lt_iff_toInt_lt, e2]; omega)]
  · exfalso
    have : j = 0 ∨ j = 1 ∨ j = 2 := by omega
    rcases this with q | q | q <;> subst q
    · exact h0 rfl
    · exact h1 rfl
    · exact h2 rfl
theorem part_cases (v : gV) (a : Int32) : (∃ n, n < 400 ∧ a = nI n ∧ pin a 0 399 = 1) ∨ (pin a 0 399 = 0 ∧ phs v a = 0) := by
  rcases pk_ix a (n := 400) (by decide) with h | h | ⟨j, h1, rfl⟩
  · right
    exact ⟨by unfold pin; rw [if_pos h], by unfold phs; rw [if_pos h]⟩
  · right
    have e : (nI 400).toInt = 400 := by rw [nI_toInt (by decide)]; rfl
    have e1 : (399 : Int32).toInt = 399 := rfl
    have hc := h
    rw [Int32.le_iff_toInt_le, e] at h
    have hn : ¬ a < 0 := by rw [Int32.lt_iff_toInt_lt, Int32.toInt_zero]; omega
    refine ⟨?_, ?_⟩
    · unfold pin
      rw [if_neg hn, if_pos (by rw [Int32.lt_iff_toInt_lt, e1]; omega)]
    · unfold phs
      rw [if_neg hn, if_pos (show (400 : Int32) ≤ a from hc)]
  · left
    exact ⟨j, h1, rfl, pin_nI 0 399 rfl rfl (by decide) (by omega) (by omega)⟩
theorem nI_le0 {n : Nat} (h : n < 2 ^ 31) : nI n ≤ 0 ↔ n = 0 := by
  rw [show (0 : Int32) = nI 0 from rfl, nI_leI h (by decide)]
  omega
theorem ST.len {ln : Nat → Nat} {v : gV} {us : Nat → Nat} {bs : Nat → Byt} {fl : Nat → List Nat} {hd : Byt} {b l m : Nat} (h : ST ln v us bs fl hd b l m) {f : Nat} (hf : f < 16) : (fl f).length ≤ 1500 := by have := h.2.1.2.1 f hf; omega
theorem ST.usb {ln : Nat → Nat} {v : gV} {us : Nat → Nat} {bs : Nat → Byt} {fl : Nat → List Nat} {hd : Byt} {b l m : Nat} (h : ST ln v us bs fl hd b l m) (n : Nat) : us n ≤ 24000 := h.1.big (fun f hf => h.len hf) n
