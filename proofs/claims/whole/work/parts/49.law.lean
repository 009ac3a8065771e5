/-! pure: the law's loop -/
theorem v00_0 {k : Nat} (h1 : k ≠ 1) (h2 : k ≠ 12) (h3 : k ≠ 46) (j : Nat) : v00 k j = 0 := by unfold v00; rw [if_neg h1, if_neg h2, if_neg h3]
theorem ln0_f : ∀ f, f < 16 → ln0 (30 + f) = 16 := by decide
theorem v00_c {c : Nat} (h : c < 512) : v00 12 c = -1 := by unfold v00; rw [if_neg (by decide), if_pos rfl, if_pos h]
theorem cnt_0 : cnt (fun _ => 0) = 0 := by unfold cnt; rw [sumTo_congr (g := fun _ => 0) (fun i _ => by simp), sumTo_const]
theorem tot_0 (bs : Nat → Byt) : tot (fun _ => 0) bs = 0 := by unfold tot; rw [sumTo_congr (g := fun _ => 0) (fun i _ => by simp), sumTo_const]
theorem ST_0 : ST ln0 v00 (fun _ => 0) (fun _ => []) (fun _ => []) [] 4 4 32 := by
  refine ⟨⟨fun n => ?_, fun f hf => ⟨fun n hn => by simp at hn, Nat.zero_le _⟩, Nat.zero_le _, by omega, by omega, by omega, by omega, by omega, by omega⟩, ⟨⟨⟨rfl, rfl, rfl, rfl, rfl, by decide, by decide⟩, fun n hn => ⟨v00_0 (by decide) (by decide) (by decide) n, show 0 < 2 ^ 30 by decide⟩, fun n hn hu => absurd hu (Nat.lt_irrefl _), fun i hi => ?_, fun n k hn hk hu => absurd hu (Nat.lt_irrefl _), ⟨0, rfl, by omega, fun n hn => by omega⟩, ?_, ?_, fun _ => [], fun c hc => ⟨v00_c hc, List.nodup_nil, fun n => ⟨fun z => by simp at z, fun z => absurd z.2.1 (Nat.lt_irrefl _)⟩⟩⟩, fun f hf => ?_, ⟨rfl, rfl, rfl, rfl, rfl, fun i hi => absurd hi (Nat.not_lt_zero _), fun i hi => ?_, fun i hi => ?_⟩, ⟨by decide, rfl, rfl⟩⟩, ⟨⟨rfl, rfl, rfl, rfl, rfl, rfl, rfl, rfl, rfl, rfl, rfl, rfl⟩, ⟨rfl, rfl, rfl, rfl, fun i hi => absurd hi (Nat.not_lt_zero _)⟩, fun f hf => ?_, fun n hn => ⟨v00_0 (by decide) (by decide) (by decide) n, fun z => absurd z (Nat.lt_irrefl _)⟩⟩⟩
  · rw [sumTo_congr (g := fun _ => 0) (fun i _ => by simp), sumTo_const]
  · rw [v00_0 (by decide) (by decide) (by decide)]; exact fits0
  · rw [cnt_0]; rfl
  · rw [tot_0]; rfl
  · rw [ln0_f f hf]
    exact ⟨by omega, by omega, Nat.zero_le _, v00_0 (by omega) (by omega) (by omega) 1, v00_0 (by omega) (by omega) (by omega) 2, fun k hk => absurd hk (Nat.not_lt_zero _)⟩
  · rw [v00_0 (by decide) (by decide) (by decide)]; exact fits0
  · rw [v00_0 (by decide) (by decide) (by decide)]; exact fits0
  · exact ⟨v00_0 (by decide) (by decide) (by decide) f, fun k hk => absurd hk (Nat.not_lt_zero _), v00_0 (by decide) (by decide) (by decide) f, fun k hk => absurd hk (Nat.not_lt_zero _)⟩
/-- what holds at the law's loop -/
def lI (n : Nat) (x : Int32) (ln : Nat → Nat) (v : gV) (ou : Nat → Int64) (kc ks : Nat) : Prop :=
  ∃ (i : Nat) (us : Nat → Nat) (bs : Nat → Byt) (fl : Nat → List Nat) (hd : Byt) (b l m : Nat), x = nI (4 * i) ∧ i ≤ 512 ∧ n = 512 - i ∧ ST ln v us bs fl hd b l m ∧ kc + 2048 ≤ 60 + 4 * i + Phi (ln 13) ∧ ks + 2048 ≤ 89228 + 1600 * i + Phi (ln 13)
theorem lI_step {i : Nat} {ln : Nat → Nat} {v : gV} {ou : Nat → Int64} {us : Nat → Nat} {bs : Nat → Byt} {fl : Nat → List Nat} {hd : Byt} {b l m kc ks : Nat} (hi : i < 512) (hT : ST ln v us bs fl hd b l m) (hc : kc + 2048 ≤ 60 + 4 * (i + 1) + Phi (ln 13)) (hs : ks + 2048 ≤ 89228 + 1600 * (i + 1) + Phi (ln 13)) : ∃ n', n' < 512 - i ∧ lI n' (nI (4 * i) + 4) ln v ou kc ks := by
  refine ⟨512 - (i + 1), by omega, i + 1, us, bs, fl, hd, b, l, m, ?_, by omega, rfl, hT, hc, hs⟩
  rw [show (4 : Int32) = nI 4 from rfl, nI_add]
  congr 1
set_option maxRecDepth 16384 in
theorem pure_law {L : Nat} (xs : Nat → Int32) (hL : L ≤ 2048) : lawVC L xs lI := by
  rintro n x ln v ou kc ks ⟨i, us, bs, fl, hd, b, l, m, rfl, hi, rfl, hT, hc, hs⟩
  have h13 := hT.2.1.1.1.2.2.2.2.2
  have hP1 := Phi_le h13.2
  have hP2 := Phi_ge h13.1
  refine ⟨by omega, by omega, fun hx => ?_⟩
  have hlt : 4 * i + 4 ≤ L := by
    have e1 : (Int32.ofNat L - 4).toInt = (L : Int) - 4 := pk_sub_toInt (a := L) (b := 4) (by omega) (by decide)
    rw [Int32.lt_iff_toInt_lt, e1, nI_toInt (by omega)] at hx
    omega
  have e1 : nI (4 * i) + 1 = nI (4 * i + 1) := nI_1 _
  have e2 : nI (4 * i) + 2 = nI (4 * i + 2) := nI_add (4 * i) 2
  have e3 : nI (4 * i) + 3 = nI (4 * i + 3) := nI_add (4 * i) 3
  have p1 : vp_in (nI (4 * i) + 1) L := by rw [e1]; exact pk_in (4 * i + 1) _ (by omega)
  have p2 : vp_in (nI (4 * i) + 2) L := by rw [e2]; exact pk_in (4 * i + 2) _ (by omega)
  have p3 : vp_in (nI (4 * i) + 3) L := by rw [e3]; exact pk_in (4 * i + 3) _ (by omega)
  have hi' : i < 512 := by omega
  refine ⟨pk_in (4 * i) _ (by omega), fun _ => ⟨p1, p2, p3, by omega, by omega, pl_begin hT (fun v2 ou1 us' fl' b' l' m' h => lI_step hi' h (by omega) (by omega))⟩, fun _ => ⟨p1, p2, by omega, by omega, pl_put hT (fun v2 ou1 hd' h => lI_step hi' h (by omega) (by omega))⟩, fun _ => ?_, fun _ => ?_, fun _ => ⟨p1, p2, 3, 1512, by omega, by omega, pl_copy hT (fun ln2 v2 ou1 us2 bs2 fl2 hd2 h q => lI_step hi' h (by rw [q]; omega) (by rw [q]; omega))⟩, fun _ => ⟨p1, by omega, by omega, pl_size hT (fun v2 ou1 h => lI_step hi' h (by omega) (by omega))⟩, fun _ => ⟨p1, p2, by omega, by omega, pl_get hT (fun v2 ou1 h => lI_step hi' h (by omega) (by omega))⟩, fun _ => ⟨p1, by omega, by omega, pl_parts hT (fun v2 ou1 h => lI_step hi' h (by omega) (by omega))⟩, fun _ => ⟨p1, p2, by omega, by omega, pl_part hT (fun v2 ou1 h => lI_step hi' h (by omega) (by omega))⟩, fun _ => ⟨p1, p2, by omega, by omega, pl_about hT (fun v2 ou1 h => lI_step hi' h (by omega) (by omega))⟩, fun _ => ⟨p1, p2, by omega, by omega, pl_common hT (fun v2 ou1 h => lI_step hi' h (by omega) (by omega))⟩, fun _ => ⟨p1, by omega, by omega, pl_all hT (fun v2 ou1 h => lI_step hi' h (by omega) (by omega))⟩, fun _ => lI_step hi' hT (by omega) (by omega)⟩
  · obtain ⟨D, hD, hw⟩ := pl_store (ou := ou) (a := xs (nI (4 * i) + 1).toNatClampNeg) (Bk := fun ln2 v2 ou1 D => ∃ n', n' < 512 - i ∧ lI n' (nI (4 * i) + 4) ln2 v2 ou1 (kc + (D + 2)) (ks + (D + 1506))) hT (fun ln2 v2 ou1 us2 bs2 fl2 hd2 h q1 q2 => by
      have a1 : kc + (Phi (ln2 13) - Phi (ln 13) + 2) + 2048 ≤ 60 + 4 * (i + 1) + Phi (ln2 13) := by omega
      have a2 : ks + (Phi (ln2 13) - Phi (ln 13) + 1506) + 2048 ≤ 89228 + 1600 * (i + 1) + Phi (ln2 13) := by omega
      exact lI_step hi' h a1 a2)
    have b1 : kc + (D + 2) ≤ 601024 := by omega
    have b2 : ks + (D + 1506) ≤ 7293034 := by omega
    exact ⟨p1, D + 2, D + 1506, b1, b2, hw⟩
  · obtain ⟨D, hD, hw⟩ := pl_edit (ou := ou) (a := xs (nI (4 * i) + 1).toNatClampNeg) (a2 := xs (nI (4 * i) + 2).toNatClampNeg) (a3 := xs (nI (4 * i) + 3).toNatClampNeg) (Bk := fun ln2 v2 ou1 D => ∃ n', n' < 512 - i ∧ lI n' (nI (4 * i) + 4) ln2 v2 ou1 (kc + (D + 2)) (ks + (D + 1512))) hT (fun ln2 v2 ou1 us2 bs2 fl2 hd2 h q1 q2 => by
      have a1 : kc + (Phi (ln2 13) - Phi (ln 13) + 2) + 2048 ≤ 60 + 4 * (i + 1) + Phi (ln2 13) := by omega
      have a2 : ks + (Phi (ln2 13) - Phi (ln 13) + 1512) + 2048 ≤ 89228 + 1600 * (i + 1) + Phi (ln2 13) := by omega
      exact lI_step hi' h a1 a2)
    have b1 : kc + (D + 2) ≤ 601024 := by omega
    have b2 : ks + (D + 1512) ≤ 7293034 := by omega
    exact ⟨p1, p2, p3, D + 2, D + 1512, b1, b2, hw⟩
theorem pure_0 : lI 512 0 ln0 v00 (fun _ => 0) 60 89228 := ⟨0, _, _, _, _, _, _, _, rfl, by omega, rfl, ST_0, by decide, by decide⟩
