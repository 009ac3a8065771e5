/-! new arrays: Arrays.copyOf, Stock.makeRoomFor, Content.become -/
section GA
variable {cy : Nat → ClassId} {ad ln : Nat → Nat} {v : gV} {ou : Nat → Int64}
theorem gE_13 {q N : Nat} {f : Nat → Int32} {j : Nat} (h13 : j ≠ 13) (h2 : j ≠ 2) : gE cy (va_up ad 13 q) (va_up ln 13 N) (va_up v 13 f) ou j = gE cy ad ln v ou j := by
  by_cases h0 : j = 0
  · subst h0; rfl
  by_cases h1 : j = 1
  · subst h1; rfl
  by_cases h46 : j = 46
  · subst h46; rfl
  by_cases h51 : j = 51
  · subst h51; rfl
  by_cases h3 : j = 3
  · subst h3
    show Sum.inl _ = Sum.inl _
    have : (fun i => some (va_up ad 13 q (14 + i % 16))) = (fun i => some (ad (14 + i % 16))) := by
      funext i
      rw [va_up_ne ad q (by omega)]
    rw [this]
  have e1 : va_up v 13 f j = v j := va_up_ne v f h13
  have e2 : va_up ln 13 N j = ln j := va_up_ne ln N h13
  unfold gE
  rw [e1, e2]
  by_cases hc : 14 ≤ j ∧ j < 30
  · have e3 : va_up ad 13 q (j + 16) = ad (j + 16) := va_up_ne ad q (by omega)
    rw [e3]
    simp [h0, h1, h2, h3, h46, h51]
  · simp [h0, h1, h2, h3, h46, h51, hc]
theorem gE_N {P q N : Nat} {f : Nat → Int32} {j : Nat} (hP1 : 14 ≤ P) (hP2 : P < 30) (ht : j ≠ P + 16) (hP : j ≠ P) : gE cy (va_up ad (P + 16) q) (va_up ln (P + 16) N) (va_up v (P + 16) f) ou j = gE cy ad ln v ou j := by
  have a1 : ∀ i, i < 30 ∨ 46 ≤ i → va_up ad (P + 16) q i = ad i := fun i hi => va_up_ne ad q (by omega)
  have a2 : ∀ i, i < 30 ∨ 46 ≤ i → va_up v (P + 16) f i = v i := fun i hi => va_up_ne v f (by omega)
  have e1 : va_up v (P + 16) f j = v j := va_up_ne v f ht
  have e2 : va_up ln (P + 16) N j = ln j := va_up_ne ln N ht
  by_cases h3 : j = 3
  · subst h3
    show Sum.inl _ = Sum.inl _
    have : (fun i => some (va_up ad (P + 16) q (14 + i % 16))) = (fun i => some (ad (14 + i % 16))) := by
      funext i
      rw [a1 _ (by omega)]
    rw [this]
  unfold gE
  rw [e1, e2]
  by_cases hc : 14 ≤ j ∧ j < 30
  · have e3 : va_up ad (P + 16) q (j + 16) = ad (j + 16) := va_up_ne ad q (by omega)
    rw [e3, a2 0 (by omega), a2 1 (by omega), a2 2 (by omega), a2 46 (by omega)]
    simp [h3, hc]
  · simp only [a1 1 (by omega), a1 2 (by omega), a1 3 (by omega), a1 4 (by omega), a1 5 (by omega), a1 6 (by omega), a1 7 (by omega), a1 8 (by omega), a1 9 (by omega), a1 10 (by omega), a1 11 (by omega), a1 12 (by omega), a1 13 (by omega), a1 47 (by omega), a1 48 (by omega), a1 49 (by omega), a1 50 (by omega), a1 51 (by omega), a1 52 (by omega), a1 53 (by omega), a1 54 (by omega), a1 55 (by omega), a1 56 (by omega), a1 57 (by omega), a1 58 (by omega), a2 0 (by omega), a2 1 (by omega), a2 2 (by omega), a2 46 (by omega), a2 51 (by omega), show va_up ln (P + 16) N 51 = ln 51 from va_up_ne ln N (by omega)]
    simp [h3, hc]
/-- a fresh array behind the world takes the place t of its owner k -/
theorem gW_re {D : va_G} {A : Nat → Prop} {k t q N : Nat} {f : Nat → Int32} {e x : va_E} (hk : k < 60) (ht : t < 60) (hkt : k ≠ t) (hE : ∀ j, j ≠ t → j ≠ k → gE cy (va_up ad t q) (va_up ln t N) (va_up v t f) ou j = gE cy ad ln v ou j) (hEk : gE cy (va_up ad t q) (va_up ln t N) (va_up v t f) ou k = e) (hEt : gE cy (va_up ad t q) (va_up ln t N) (va_up v t f) ou t = x) :
    (∀ H : Heap, va_P D vwCl ((gW cy ad ln v ou ++ [(q, x)]).set k (ad k, e)) H → va_P D vwCl (gW cy (va_up ad t q) (va_up ln t N) (va_up v t f) ou) H) ∧ (va_D A ((gW cy ad ln v ou ++ [(q, x)]).set k (ad k, e)) → va_D A (gW cy (va_up ad t q) (va_up ln t N) (va_up v t f) ou)) := by
  have hlen : (gW cy ad ln v ou).length = 60 := by simp [gW]
  have key : ∀ (j : Nat) (z : Nat × va_E), (gW cy (va_up ad t q) (va_up ln t N) (va_up v t f) ou)[j]? = some z → ((gW cy ad ln v ou ++ [(q, x)]).set k (ad k, e))[if j = t then 60 else j]? = some z := by
    intro j z hz
    have hj : j < 60 := by
      rcases Nat.lt_or_ge j 60 with h | h
      · exact h
      · rw [List.getElem?_eq_none (by simp [gW]; omega)] at hz
        cases hz
    rw [gW_at j hj] at hz
    cases hz
    by_cases hjt : j = t
    · subst hjt
      rw [if_pos rfl, List.getElem?_set_ne (by omega), List.getElem?_append_right (by omega), hlen, va_up_self, hEt]
      rfl
    · rw [if_neg hjt]
      by_cases hjk : j = k
      · subst hjk
        rw [List.getElem?_set_self (by simp [hlen]; omega), va_up_ne ad q hjt, hEk]
      · rw [List.getElem?_set_ne (fun h => hjk h.symm), List.getElem?_append_left (by omega), gW_at j hj, va_up_ne ad q hjt, hE j hjt hjk]
  refine ⟨fun H hP => hP.by _ key, fun hD => hD.by _ key ?_⟩
  intro i j hi hj hij
  have hl2 : (gW cy (va_up ad t q) (va_up ln t N) (va_up v t f) ou).length = 60 := by simp [gW]
  rw [hl2] at hi hj
  by_cases h1 : i = t
  · by_cases h2 : j = t
    · omega
    · rw [if_pos h1, if_neg h2] at hij
      omega
  · by_cases h2 : j = t
    · rw [if_neg h1, if_pos h2] at hij
      omega
    · rw [if_neg h1, if_neg h2] at hij
      exact hij
theorem gW_re13 {D : va_G} {A : Nat → Prop} {q N : Nat} {f : Nat → Int32} : (∀ H : Heap, va_P D vwCl ((gW cy ad ln v ou ++ ([(q, .inl (cy 1, N, .inl f))] : va_W)).set 2 (ad 2, .inr (2, [.ref (ad 8), .ref (ad 9), .ref (ad 10), .ref (ad 11), .ref (ad 12), .ref q, .int (v 2 6), .int (v 2 7), .int (v 2 8)]))) H → va_P D vwCl (gW cy (va_up ad 13 q) (va_up ln 13 N) (va_up v 13 f) ou) H) ∧ (va_D A ((gW cy ad ln v ou ++ ([(q, .inl (cy 1, N, .inl f))] : va_W)).set 2 (ad 2, .inr (2, [.ref (ad 8), .ref (ad 9), .ref (ad 10), .ref (ad 11), .ref (ad 12), .ref q, .int (v 2 6), .int (v 2 7), .int (v 2 8)]))) → va_D A (gW cy (va_up ad 13 q) (va_up ln 13 N) (va_up v 13 f) ou)) := gW_re (cy := cy) (ad := ad) (ln := ln) (v := v) (ou := ou) (D := D) (A := A) (k := 2) (t := 13) (q := q) (N := N) (f := f) (e := .inr (2, [.ref (ad 8), .ref (ad 9), .ref (ad 10), .ref (ad 11), .ref (ad 12), .ref q, .int (v 2 6), .int (v 2 7), .int (v 2 8)])) (x := .inl (cy 1, N, .inl f)) (by decide) (by decide) (by decide) (fun j h1 h2 => gE_13 h1 h2) rfl rfl
theorem gW_reN {D : va_G} {A : Nat → Prop} {P q N : Nat} {f : Nat → Int32} (hP1 : 14 ≤ P) (hP2 : P < 30) : (∀ H : Heap, va_P D vwCl ((gW cy ad ln v ou ++ ([(q, .inl (cy 0, N, .inl f))] : va_W)).set P (ad P, .inr (0, [.ref q, .int (v P 1), .int (v P 2)]))) H → va_P D vwCl (gW cy (va_up ad (P + 16) q) (va_up ln (P + 16) N) (va_up v (P + 16) f) ou) H) ∧ (va_D A ((gW cy ad ln v ou ++ ([(q, .inl (cy 0, N, .inl f))] : va_W)).set P (ad P, .inr (0, [.ref q, .int (v P 1), .int (v P 2)]))) → va_D A (gW cy (va_up ad (P + 16) q) (va_up ln (P + 16) N) (va_up v (P + 16) f) ou)) := gW_re (cy := cy) (ad := ad) (ln := ln) (v := v) (ou := ou) (D := D) (A := A) (k := P) (t := P + 16) (q := q) (N := N) (f := f) (e := .inr (0, [.ref q, .int (v P 1), .int (v P 2)])) (x := .inl (cy 0, N, .inl f)) (by omega) (by omega) (by omega) (fun j h1 h2 => gE_N hP1 hP2 h1 h2) (by
  have h := gp_C (cy := cy) (ad := va_up ad (P + 16) q) (ln := va_up ln (P + 16) N) (v := va_up v (P + 16) f) (ou := ou) hP1 hP2
  rw [gW_at P (by omega)] at h
  have h := (Prod.mk.inj (Option.some.inj h)).2
  rw [h, va_up_self, va_up_ne v f (by omega)]) (by rw [gE_I (gIs_N hP1 hP2), va_up_self, va_up_self])
end GA
section GB
variable {p : Program} {l : Launch} {e : Env} {R : Room} {s : State} {m : MethodId} {args : Array Value} {below : List Frame} {meth : Method} {c : Code} {D : va_G} {A : Nat → Prop} {nL kc ks : Nat} {Q : State → Prop} {w w2 : va_W} {pc : Nat} {lv : List (Nat × Value)} {st : List Value}
theorem mW.by (h : (∀ H : Heap, va_P D vwCl w H → va_P D vwCl w2 H) ∧ (va_D A w → va_D A w2)) (k : mW p l e R s m args below meth c D A nL kc ks Q w2 pc lv st) : mW p l e R s m args below meth c D A nL kc ks Q w pc lv st := fun H locs ls a1 a2 a3 a4 => k H locs ls (h.1 H a1) (h.2 a2) a3 a4
end GB
theorem nI_N {n : Int32} (h : ¬ n < 0) : Int32.ofNat n.toNatClampNeg = n := by
  obtain ⟨j, hj, rfl⟩ := nI_of h
  rw [nI_clamp hj]
  rfl
set_option maxHeartbeats 4000000 in
set_option maxRecDepth 100000 in
/-- Arrays.copyOf of a byte array to another length -/
theorem s_copyOf (l : Launch) (D : va_G) (cy : Nat → ClassId) (ad ln : Nat → Nat) (v : gV) (ou : Nat → Int64) (r1 : Nat) (a2 : Int32) (hr1 : gBs r1 = true) (hne : ¬ a2 = Int32.ofNat (ln r1)) (h0 : ¬ a2 < 0) (hlt : Int32.ofNat (ln r1) < a2) (hln : ln r1 < 2 ^ 31) (hby : a2.toNatClampNeg ≤ 536870912) (hfit : ∀ i, i < ln r1 → fits .byte (.int (v r1 i)) = true) : mM l D cy yJ7_copyOf_9075b wsJ7_copyOf_9075b 2 1 a2.toNatClampNeg [.ref (ad r1), .int a2] (gW cy ad ln v ou) (fun r w1 => ∃ q : Nat, r = some (.ref q) ∧ w1 = gW cy ad ln v ou ++ [(q, .inl (cy 1, a2.toNatClampNeg, .inl (va_cpy (v r1) (fun _ => 0) 0 0 (ln r1))))]) := by
  refine mM.of (cc := cJ7_copyOf_9075b) (nL := 3) (ret0 := some (.array .byte)) (by decide +kernel) rfl (Nat.le_of_ble_eq_true rfl) ?_
  intro p e s m args below meth c A C hini
  refine mW.sub (lv' := [(0, .ref (ad r1)), (1, .int a2)]) [0, 1] rfl ?_
  refine m_iload_n C dJ7_copyOf_9075b_0 rfl 1 rfl ?_
  refine m_aload_n C dJ7_copyOf_9075b_1 rfl 0 rfl ?_
  refine m_alen C r1 1 (gp_B hr1) rfl rfl dJ7_copyOf_9075b_2 ?_
  refine m_icmp_ne (tgt := 14) C dJ7_copyOf_9075b_3 (by decide) (fun c1 => ?_) (fun c1 => absurd c1 hne)
  refine m_iload_n C dJ7_copyOf_9075b_14 rfl 1 rfl ?_
  refine m_newa (ty := .byte) (a0 := (a2.toNatClampNeg, .inl (fun _ => 0))) (N' := a2.toNatClampNeg) C 1 rfl rfl (fun U cA h => h) (by decide +kernel) (fun cA => rfl) h0 rfl (by show a2.toNatClampNeg * 1 ≤ _; omega) (by show 0 + 1 ≤ 1; omega) (by show 0 + a2.toNatClampNeg ≤ a2.toNatClampNeg; omega) dJ7_copyOf_9075b_15 (fun q => ?_)
  refine m_astore_n (lv' := [(2, .ref q), (0, .ref (ad r1)), (1, .int a2)]) C dJ7_copyOf_9075b_17 rfl (by decide) rfl ?_
  refine m_aload_n C dJ7_copyOf_9075b_18 rfl 1 rfl ?_
  refine m_iconst (v := 0) C dJ7_copyOf_9075b_19 (by decide) ?_
  refine m_aload_n C dJ7_copyOf_9075b_20 rfl 0 rfl ?_
  refine m_iconst (v := 0) C dJ7_copyOf_9075b_21 (by decide) ?_
  refine m_aload_n C dJ7_copyOf_9075b_22 rfl 1 rfl ?_
  have hlen : (gW cy ad ln v ou).length = 60 := by simp [gW]
  have hp1 : (gW cy ad ln v ou ++ [(q, .inl (cy 1, a2.toNatClampNeg, .inl (fun _ => 0)))])[r1]? = some (ad r1, .inl (cy 1, ln r1, .inl (v r1))) := by
    rw [List.getElem?_append_left (by rw [hlen]; exact gBs_lt hr1)]
    exact gp_B hr1
  have hp2 : (gW cy ad ln v ou ++ [(q, .inl (cy 1, a2.toNatClampNeg, .inl (fun _ => 0)))])[60]? = some (q, .inl (cy 1, a2.toNatClampNeg, .inl (fun _ => 0))) := by
    rw [List.getElem?_append_right (by rw [hlen]; exact Nat.le_refl _), hlen]
    rfl
  refine m_alen C r1 1 hp1 rfl rfl dJ7_copyOf_9075b_23 ?_
  refine m_iload_n C dJ7_copyOf_9075b_24 rfl 2 rfl ?_
  have e1 : (Int32.ofNat (ln r1)).toNatClampNeg = ln r1 := nI_clamp hln
  have e2 : ¬ a2 < Int32.ofNat (ln r1) := fun h => by
    rw [Int32.lt_iff_toInt_lt] at h hlt
    omega
  have e3 : ln r1 ≤ a2.toNatClampNeg := by
    obtain ⟨j, hj, rfl⟩ := nI_of h0
    rw [nI_clamp hj]
    have := (nI_ltI hln hj).mp hlt
    omega
  refine m_mmin (index := 304) C (by decide +kernel) (by decide +kernel) (by decide +kernel) (by decide +kernel) (Nat.le_of_ble_eq_true rfl) (Nat.le_of_ble_eq_true rfl) (by show 0 + 1 ≤ 1; omega) (by show 0 + a2.toNatClampNeg ≤ a2.toNatClampNeg; omega) dJ7_copyOf_9075b_25 ?_
  refine mW.eq (st' := [.int (Int32.ofNat (ln r1)), .int 0, .ref q, .int 0, .ref (ad r1)]) rfl rfl (by rw [if_neg e2]) rfl ?_
  have ec : (0 : Int32).toNatClampNeg = 0 := rfl
  refine m_copy (w' := gW cy ad ln v ou ++ [(q, .inl (cy 1, a2.toNatClampNeg, .inl (va_cpy (v r1) (fun _ => 0) 0 0 (ln r1))))]) C (by decide +kernel) (by decide +kernel) (by decide +kernel) (by decide +kernel) r1 60 1 1 hp1 hp2 rfl rfl rfl (by decide) (by decide) (nI_pos hln) (by rw [e1, ec]; omega) (by rw [e1, ec]; omega) (fun i hi => by rw [ec, Nat.zero_add]; rw [e1] at hi; exact hfit i hi) (Nat.le_of_ble_eq_true rfl) (Nat.le_of_ble_eq_true rfl) dJ7_copyOf_9075b_28 (by rw [List.set_append_right _ _ (by rw [hlen]; exact Nat.le_refl _), hlen, e1, ec]; rfl) ?_
  refine m_aload_n C dJ7_copyOf_9075b_31 rfl 0 rfl ?_
  exact m_aret C (Or.inr ⟨_, rfl⟩) dJ7_copyOf_9075b_32 (by omega) (by omega) ⟨q, rfl, rfl⟩
/-- what makeRoomFor(number) asks: the new length of the row, and whether it grows -/
def mrN (ln : Nat → Nat) (a1 : Int32) : Nat := min 25600 (max ((a1.toNatClampNeg + 1) * 64) (2 * ln 13))
def mrL (ln : Nat → Nat) (a1 : Int32) : Nat := if ln 13 < (a1.toNatClampNeg + 1) * 64 then mrN ln a1 else ln 13
def mrC (ln : Nat → Nat) (a1 : Int32) : Nat := if ln 13 < (a1.toNatClampNeg + 1) * 64 then 1 else 0
def mrS (ln : Nat → Nat) (a1 : Int32) : Nat := if ln 13 < (a1.toNatClampNeg + 1) * 64 then mrN ln a1 else 0
def mrV (ln : Nat → Nat) (v : gV) (a1 : Int32) : gV := if ln 13 < (a1.toNatClampNeg + 1) * 64 then va_up v 13 (va_cpy (v 13) (fun _ => 0) 0 0 (ln 13)) else v
theorem hiX2_makeRoomFor_X2 : ∀ w ∈ wsX20, w ∈ wsX2_makeRoomFor := by decide +kernel
set_option maxHeartbeats 4000000 in
set_option maxRecDepth 100000 in
theorem s_makeRoomFor (l : Launch) (D : va_G) (cy : Nat → ClassId) (ad ln : Nat → Nat) (v : gV) (ou : Nat → Int64) (k : Nat) (hk : k < 400) (h1 : 1024 ≤ ln 13) (h2 : ln 13 ≤ 25600) (hfit : ∀ i, i < ln 13 → fits .byte (.int (v 13 i)) = true) : mM l D cy yX2_makeRoomFor wsX2_makeRoomFor 3 (mrC ln (nI k)) (mrS ln (nI k)) [.ref (ad 2), .int (nI k)] (gW cy ad ln v ou) (fun r w1 => r = none ∧ ∃ q : Nat, w1 = gW cy (va_up ad 13 q) (va_up ln 13 (mrL ln (nI k))) (mrV ln v (nI k)) ou) := by
  have ek : (nI k).toNatClampNeg = k := nI_clamp (by omega)
  have en : (nI k + 1) * 64 = nI ((k + 1) * 64) := by
    rw [nI_1, show (64 : Int32) = nI 64 from rfl, pk_mul]
  refine mM.of (cc := cX2_makeRoomFor) (nL := 3) (ret0 := none) (by decide +kernel) rfl (Nat.le_of_ble_eq_true rfl) ?_
  intro p e s m args below meth c A C hini
  refine mW.sub (lv' := [(0, .ref (ad 2)), (1, .int (nI k))]) [0, 1] rfl ?_
  refine m_iload_n C dX2_makeRoomFor_0 rfl 1 rfl ?_
  refine m_iconst (v := 1) C dX2_makeRoomFor_1 (by decide) ?_
  refine m_iadd C dX2_makeRoomFor_2 ?_
  refine m_bipush (v := 64) C dX2_makeRoomFor_3 (by decide) ?_
  refine m_imul C dX2_makeRoomFor_5 ?_
  refine mW.eq (st' := [.int (nI ((k + 1) * 64))]) rfl rfl (by rw [en]) rfl ?_
  refine m_istore_n (lv' := [(2, .int (nI ((k + 1) * 64))), (0, .ref (ad 2)), (1, .int (nI k))]) C dX2_makeRoomFor_6 rfl (by decide) rfl ?_
  refine m_iload_n C dX2_makeRoomFor_7 rfl 0 rfl ?_
  refine m_aload_n C dX2_makeRoomFor_8 rfl 1 rfl ?_
  refine m_get (T := TX2) (N := 9) C hiX2_makeRoomFor_X2 2 gp_2 rfl 5 (by decide) (by decide +kernel) rfl dX2_makeRoomFor_9 ?_
  refine m_alen C 13 1 (gp_B (by decide)) rfl rfl dX2_makeRoomFor_12 ?_
  have hcmp : nI ((k + 1) * 64) ≤ Int32.ofNat (ln 13) ↔ (k + 1) * 64 ≤ ln 13 := nI_leI (by omega) (by omega)
  refine m_icmp_le (tgt := 44) C dX2_makeRoomFor_13 (by decide) (fun c1 => ?_) (fun c1 => ?_)
  · have hn : ¬ ln 13 < (k + 1) * 64 := by
      have := hcmp.mp c1
      omega
    refine m_vret C dX2_makeRoomFor_44 (Nat.zero_le _) (Nat.zero_le _) ⟨rfl, ad 13, ?_⟩
    unfold mrL mrV
    rw [ek, if_neg hn, if_neg hn]
    congr 1
    · funext j
      unfold va_up
      split
      · rename_i h; rw [h]
      · rfl
    · funext j
      unfold va_up
      split
      · rename_i h; rw [h]
      · rfl
  · have hn : ln 13 < (k + 1) * 64 := by
      rcases Nat.lt_or_ge (ln 13) ((k + 1) * 64) with h | h
      · exact h
      · exact absurd (hcmp.mpr h) c1
    have hC : mrC ln (nI k) = 1 := by unfold mrC; rw [ek, if_pos hn]
    have hN : mrN ln (nI k) = min 25600 (max ((k + 1) * 64) (2 * ln 13)) := by unfold mrN; rw [ek]
    have hS : mrS ln (nI k) = mrN ln (nI k) := by unfold mrS; rw [ek, if_pos hn]
    have hL : mrL ln (nI k) = mrN ln (nI k) := by unfold mrL; rw [ek, if_pos hn]
    have hV : mrV ln v (nI k) = va_up v 13 (va_cpy (v 13) (fun _ => 0) 0 0 (ln 13)) := by unfold mrV; rw [ek, if_pos hn]
    obtain ⟨M, hM⟩ : ∃ M, M = max ((k + 1) * 64) (2 * ln 13) := ⟨_, rfl⟩
    obtain ⟨N, hN'⟩ : ∃ N, N = min 25600 M := ⟨_, rfl⟩
    have hNe : mrN ln (nI k) = N := by rw [hN, ← hM, ← hN']
    have hM1 : (k + 1) * 64 ≤ M := by rw [hM]; exact Nat.le_max_left _ _
    have hM2 : 2 * ln 13 ≤ M := by rw [hM]; exact Nat.le_max_right _ _
    have hM3 : M ≤ 51200 := by rw [hM]; exact Nat.max_le.mpr ⟨by omega, by omega⟩
    have hN1 : N ≤ 25600 := by rw [hN']; exact Nat.min_le_left _ _
    have hN2 : ln 13 < N := by rw [hN']; exact Nat.lt_min.mpr ⟨by omega, by omega⟩
    have emax : (if nI ((k + 1) * 64) < 2 * Int32.ofNat (ln 13) then 2 * Int32.ofNat (ln 13) else nI ((k + 1) * 64)) = nI M := by
      have e2 : (2 : Int32) * Int32.ofNat (ln 13) = nI (2 * ln 13) := by
        rw [show (2 : Int32) = nI 2 from rfl, show Int32.ofNat (ln 13) = nI (ln 13) from rfl, pk_mul]
      rw [e2]
      split
      · rename_i h
        have h := (nI_ltI (by omega) (by omega)).mp h
        rw [hM, Nat.max_eq_right (by omega)]
      · rename_i h
        have h : ¬ (k + 1) * 64 < 2 * ln 13 := fun q => h ((nI_ltI (by omega) (by omega)).mpr q)
        rw [hM, Nat.max_eq_left (by omega)]
    have emin : (if nI M < 25600 then nI M else 25600) = nI N := by
      rw [show (25600 : Int32) = nI 25600 from rfl]
      split
      · rename_i h
        have h := (nI_ltI (by omega) (by omega)).mp h
        rw [hN', Nat.min_eq_right (by omega)]
      · rename_i h
        have h : ¬ M < 25600 := fun q => h ((nI_ltI (by omega) (by omega)).mpr q)
        rw [hN', Nat.min_eq_left (by omega)]
    have eNc : (nI N).toNatClampNeg = N := nI_clamp (by omega)
    refine m_aload_n C dX2_makeRoomFor_16 rfl 1 rfl ?_
    refine m_aload_n C dX2_makeRoomFor_17 rfl 1 rfl ?_
    refine m_get (T := TX2) (N := 9) C hiX2_makeRoomFor_X2 2 gp_2 rfl 5 (by decide) (by decide +kernel) rfl dX2_makeRoomFor_18 ?_
    refine m_sipush (v := 25600) C dX2_makeRoomFor_21 (by decide) ?_
    refine m_iload_n C dX2_makeRoomFor_24 rfl 0 rfl ?_
    refine m_iconst (v := 2) C dX2_makeRoomFor_25 (by decide) ?_
    refine m_aload_n C dX2_makeRoomFor_26 rfl 1 rfl ?_
    refine m_get (T := TX2) (N := 9) C hiX2_makeRoomFor_X2 2 gp_2 rfl 5 (by decide) (by decide +kernel) rfl dX2_makeRoomFor_27 ?_
    refine m_alen C 13 1 (gp_B (by decide)) rfl rfl dX2_makeRoomFor_30 ?_
    refine m_imul C dX2_makeRoomFor_31 ?_
    refine m_mmax (index := 96) C (by decide +kernel) (by decide +kernel) (by decide +kernel) (by decide +kernel) (Nat.le_of_ble_eq_true rfl) (Nat.le_of_ble_eq_true rfl) (Nat.zero_le _) (Nat.zero_le _) dX2_makeRoomFor_32 ?_
    refine mW.eq (st' := [.int (nI M), .int 25600, .ref (ad 13), .ref (ad 2)]) rfl rfl (by rw [emax]) rfl ?_
    refine m_mmin (index := 79) C (by decide +kernel) (by decide +kernel) (by decide +kernel) (by decide +kernel) (Nat.le_of_ble_eq_true rfl) (Nat.le_of_ble_eq_true rfl) (Nat.zero_le _) (Nat.zero_le _) dX2_makeRoomFor_35 ?_
    refine mW.eq (st' := [.int (nI N), .ref (ad 13), .ref (ad 2)]) rfl rfl (by rw [emin]) rfl ?_
    have hcop := s_copyOf l D cy ad ln v ou 13 (nI N) (by decide) (fun q => by
      have := (nI_eq (by omega) (by omega)).mp (show nI N = nI (ln 13) from q)
      omega) (nI_pos (by omega)) ((nI_ltI (by omega) (by omega)).mpr hN2) (by omega) (by rw [eNc]; omega) hfit
    rw [eNc] at hcop
    refine m_callS C hcop (va_cwS 2 C.2.2.2.2.1 gX2_makeRoomFor_J7_copyOf_9075b rfl rfl rfl (by decide +kernel) ⟨Nat.le_of_ble_eq_true rfl, Nat.le_of_ble_eq_true rfl⟩) rfl rfl (Nat.le_of_ble_eq_true rfl) dX2_makeRoomFor_38 ⟨by show 0 + 1 ≤ mrC ln (nI k); rw [hC]; omega, by show 0 + N ≤ mrS ln (nI k); rw [hS, hNe]; omega⟩ (fun r w1 h1 => ?_)
    obtain ⟨q, rfl, rfl⟩ := h1
    have hlen : (gW cy ad ln v ou).length = 60 := by simp [gW]
    refine m_put (T := TX2) (N := 9) C hiX2_makeRoomFor_X2 tyX2 tyX2_ok nmX2 2 (by rw [List.getElem?_append_left (by rw [hlen]; decide)]; exact gp_2) rfl 5 (by decide) (by decide +kernel) rfl rfl rfl (Nat.le_of_ble_eq_true rfl) dX2_makeRoomFor_41 rfl ?_
    refine mW.by gW_re13 ?_
    refine m_vret C dX2_makeRoomFor_44 (by rw [hC]; omega) (by rw [hS, hNe]; omega) ⟨rfl, q, ?_⟩
    rw [hL, hNe, hV]
/-- what become(newNumbers, newCount, newBytes) asks: the new length of the row -/
def bcN (ln : Nat → Nat) (P c : Nat) : Nat := min 1500 (max c (2 * ln (P + 16)))
def bcL (ln : Nat → Nat) (P c : Nat) : Nat := if ln (P + 16) < c then bcN ln P c else ln (P + 16)
def bcC (ln : Nat → Nat) (P c : Nat) : Nat := if ln (P + 16) < c then 1 else 0
def bcS (ln : Nat → Nat) (P c : Nat) : Nat := if ln (P + 16) < c then bcN ln P c else 0
/-- what the content is then: its row, its count, its bytes -/
def bcV (ln : Nat → Nat) (v : gV) (P r c : Nat) (by9 : Int32) : gV :=
  let g : Nat → Int32 := if ln (P + 16) < c then (fun _ => 0) else v (P + 16)
  let f : Nat → Int32 := if ln (P + 16) < c then va_up v (P + 16) (fun _ => 0) r else v r
  va_up (va_up v (P + 16) (va_cpy f g 0 0 c)) P (upd (upd (v P) 1 (nI c)) 2 by9)
theorem hiX0_become_X0 : ∀ w ∈ wsX00, w ∈ wsX0_become := by decide +kernel
theorem va_up3 {v : gV} {a b : Nat} {f g h : Nat → Int32} (hab : a ≠ b) : va_up (va_up (va_up v a f) b g) b h = va_up (va_up v a f) b h := by
  funext j
  unfold va_up
  split <;> rfl
set_option maxHeartbeats 4000000 in
set_option maxRecDepth 100000 in
theorem become_tail {p : Program} {l : Launch} {e : Env} {R : Room} {s : State} {m : MethodId} {args : Array Value} {below : List Frame} {meth : Method} {c : Code} {D : va_G} {cy : Nat → ClassId} {A : Nat → Prop} {kc ks mc ms : Nat} {Φ : Option Value → va_W → Prop} (C : mC p s m args meth c D cy A cX0_become 4 yX0_become.cls wsX0_become none) (hR : 1 ≤ R.frames) (hR2 : 40 ≤ R.locals) (ad ln : Nat → Nat) (v : gV) (ou : Nat → Int64) (P r n : Nat) (b : Int32) (hP1 : 14 ≤ P) (hP2 : P < 30) (hr : gIs r = true) (h1 : n ≤ ln r) (h2 : n ≤ ln (P + 16)) (hn : n ≤ 1500) (hc : kc ≤ mc) (hs : ks ≤ ms) (hΦ : Φ none (gW cy ad ln (va_up (va_up v (P + 16) (va_cpy (v r) (v (P + 16)) 0 0 n)) P (upd (upd (v P) 1 (nI n)) 2 b)) ou)) : mW p l e R s m args below meth c D A 4 kc ks (mQ D Φ A below args s mc ms) (gW cy ad ln v ou) 32 [(0, .ref (ad P)), (1, .ref (ad r)), (2, .int (nI n)), (3, .int b)] [] := by
  have ec : (0 : Int32).toNatClampNeg = 0 := rfl
  have en : (nI n).toNatClampNeg = n := nI_clamp (by omega)
  refine m_aload_n C dX0_become_32 rfl 1 rfl ?_
  refine m_iconst (v := 0) C dX0_become_33 (by decide) ?_
  refine m_aload_n C dX0_become_34 rfl 0 rfl ?_
  refine m_get (T := TX0) (N := 3) C hiX0_become_X0 P (gp_C hP1 hP2) rfl 0 (by decide) (by decide +kernel) rfl dX0_become_35 ?_
  refine m_iconst (v := 0) C dX0_become_38 (by decide) ?_
  refine m_iload_n C dX0_become_39 rfl 2 rfl ?_
  refine m_copy (w' := gW cy ad ln (va_up v (P + 16) (va_cpy (v r) (v (P + 16)) 0 0 n)) ou) C (by decide +kernel) (by decide +kernel) (by decide +kernel) (by decide +kernel) r (P + 16) 0 0 (gp_I hr) (gp_I (gIs_N hP1 hP2)) rfl rfl rfl (by decide) (by decide) (nI_pos (by omega)) (by rw [en, ec]; omega) (by rw [en, ec]; omega) (fun _ _ => rfl) hR (by show 0 + _ ≤ _; exact Nat.le_trans (Nat.le_of_ble_eq_true rfl) hR2) dX0_become_40 (by rw [en, ec]; exact gs_I (gIs_N hP1 hP2)) ?_
  obtain ⟨v1, ev1⟩ : ∃ z : gV, z = va_up v (P + 16) (va_cpy (v r) (v (P + 16)) 0 0 n) := ⟨_, rfl⟩
  rw [← ev1] at hΦ ⊢
  have eP : v1 P = v P := by rw [ev1, va_up_ne _ _ (by omega)]
  refine m_aload_n C dX0_become_43 rfl 0 rfl ?_
  refine m_iload_n C dX0_become_44 rfl 2 rfl ?_
  refine m_put (w' := gW cy ad ln (va_up v1 P (upd (v1 P) 1 (nI n))) ou) (T := TX0) (N := 3) C hiX0_become_X0 tyX0 tyX0_ok nmX0 P (gp_C hP1 hP2) rfl 1 (by decide) (by decide +kernel) rfl rfl rfl (Nat.le_of_ble_eq_true rfl) dX0_become_45 (gs_C1 hP1 hP2) ?_
  obtain ⟨v2, ev2⟩ : ∃ z : gV, z = va_up v1 P (upd (v1 P) 1 (nI n)) := ⟨_, rfl⟩
  rw [← ev2]
  refine m_aload_n C dX0_become_48 rfl 0 rfl ?_
  refine m_iload_n C dX0_become_49 rfl 3 rfl ?_
  refine m_put (w' := gW cy ad ln (va_up v2 P (upd (v2 P) 2 b)) ou) (T := TX0) (N := 3) C hiX0_become_X0 tyX0 tyX0_ok nmX0 P (gp_C hP1 hP2) rfl 2 (by decide) (by decide +kernel) rfl rfl rfl (Nat.le_of_ble_eq_true rfl) dX0_become_50 (gs_C2 hP1 hP2) ?_
  have e2 : va_up v2 P (upd (v2 P) 2 b) = va_up v1 P (upd (upd (v P) 1 (nI n)) 2 b) := by
    rw [ev2, va_up_self, eP]
    funext j
    unfold va_up
    split <;> rfl
  rw [e2]
  exact m_vret C dX0_become_53 hc hs hΦ
set_option maxHeartbeats 4000000 in
set_option maxRecDepth 100000 in
theorem s_become (l : Launch) (D : va_G) (cy : Nat → ClassId) (ad ln : Nat → Nat) (v : gV) (ou : Nat → Int64) (P r n : Nat) (b : Int32) (hP1 : 14 ≤ P) (hP2 : P < 30) (hr : gIs r = true) (h1 : n ≤ ln r) (hn : n ≤ 1500) (hl1 : 16 ≤ ln (P + 16)) (hl2 : ln (P + 16) ≤ 1500) : mM l D cy yX0_become wsX0_become 2 (bcC ln P n) (bcS ln P n) [.ref (ad P), .ref (ad r), .int (nI n), .int b] (gW cy ad ln v ou) (fun r0 w1 => r0 = none ∧ ∃ q : Nat, w1 = gW cy (va_up ad (P + 16) q) (va_up ln (P + 16) (bcL ln P n)) (bcV ln v P r n b) ou) := by
  refine mM.of (cc := cX0_become) (nL := 4) (ret0 := none) (by decide +kernel) rfl (Nat.le_of_ble_eq_true rfl) ?_
  intro p e s m args below meth c A C hini
  refine mW.sub (lv' := [(0, .ref (ad P)), (1, .ref (ad r)), (2, .int (nI n)), (3, .int b)]) [0, 1, 2, 3] rfl ?_
  refine m_iload_n C dX0_become_0 rfl 2 rfl ?_
  refine m_aload_n C dX0_become_1 rfl 0 rfl ?_
  refine m_get (T := TX0) (N := 3) C hiX0_become_X0 P (gp_C hP1 hP2) rfl 0 (by decide) (by decide +kernel) rfl dX0_become_2 ?_
  refine m_alen C (P + 16) 0 (gp_I (gIs_N hP1 hP2)) rfl rfl dX0_become_5 ?_
  have hcmp : nI n ≤ Int32.ofNat (ln (P + 16)) ↔ n ≤ ln (P + 16) := nI_leI (by omega) (by omega)
  refine m_icmp_le (tgt := 32) C dX0_become_6 (by decide) (fun c1 => ?_) (fun c1 => ?_)
  · have hq : ¬ ln (P + 16) < n := by
      have := hcmp.mp c1
      omega
    refine become_tail C (Nat.le_of_ble_eq_true rfl) (Nat.le_of_ble_eq_true rfl) ad ln v ou P r n b hP1 hP2 hr h1 (by omega) hn (Nat.zero_le _) (Nat.zero_le _) ⟨rfl, ad (P + 16), ?_⟩
    unfold bcL bcV
    rw [if_neg hq, if_neg hq, if_neg hq]
    congr 1
    · funext j
      unfold va_up
      split
      · rename_i h; rw [h]
      · rfl
    · funext j
      unfold va_up
      split
      · rename_i h; rw [h]
      · rfl
  · have hq : ln (P + 16) < n := by
      rcases Nat.lt_or_ge (ln (P + 16)) n with h | h
      · exact h
      · exact absurd (hcmp.mpr h) c1
    have hrP : r ≠ P + 16 := fun h => by rw [h] at h1; omega
    have hC : bcC ln P n = 1 := by unfold bcC; rw [if_pos hq]
    have hS : bcS ln P n = bcN ln P n := by unfold bcS; rw [if_pos hq]
    have hL : bcL ln P n = bcN ln P n := by unfold bcL; rw [if_pos hq]
    obtain ⟨M, hM⟩ : ∃ M, M = max n (2 * ln (P + 16)) := ⟨_, rfl⟩
    obtain ⟨N, hN'⟩ : ∃ N, N = min 1500 M := ⟨_, rfl⟩
    have hNe : bcN ln P n = N := by unfold bcN; rw [← hM, ← hN']
    have hM1 : n ≤ M := by rw [hM]; exact Nat.le_max_left _ _
    have hM3 : M ≤ 3000 := by rw [hM]; exact Nat.max_le.mpr ⟨by omega, by omega⟩
    have hN1 : N ≤ 1500 := by rw [hN']; exact Nat.min_le_left _ _
    have hN2 : n ≤ N := by rw [hN']; exact Nat.le_min.mpr ⟨by omega, by omega⟩
    have emax : (if nI n < 2 * Int32.ofNat (ln (P + 16)) then 2 * Int32.ofNat (ln (P + 16)) else nI n) = nI M := by
      have e2 : (2 : Int32) * Int32.ofNat (ln (P + 16)) = nI (2 * ln (P + 16)) := by
        rw [show (2 : Int32) = nI 2 from rfl, show Int32.ofNat (ln (P + 16)) = nI (ln (P + 16)) from rfl, pk_mul]
      rw [e2]
      split
      · rename_i h
        have h := (nI_ltI (by omega) (by omega)).mp h
        rw [hM, Nat.max_eq_right (by omega)]
      · rename_i h
        have h : ¬ n < 2 * ln (P + 16) := fun q => h ((nI_ltI (by omega) (by omega)).mpr q)
        rw [hM, Nat.max_eq_left (by omega)]
    have emin : (if nI M < 1500 then nI M else 1500) = nI N := by
      rw [show (1500 : Int32) = nI 1500 from rfl]
      split
      · rename_i h
        have h := (nI_ltI (by omega) (by omega)).mp h
        rw [hN', Nat.min_eq_right (by omega)]
      · rename_i h
        have h : ¬ M < 1500 := fun q => h ((nI_ltI (by omega) (by omega)).mpr q)
        rw [hN', Nat.min_eq_left (by omega)]
    have eNc : (nI N).toNatClampNeg = N := nI_clamp (by omega)
    refine m_aload_n C dX0_become_9 rfl 0 rfl ?_
    refine m_sipush (v := 1500) C dX0_become_10 (by decide) ?_
    refine m_iload_n C dX0_become_13 rfl 2 rfl ?_
    refine m_iconst (v := 2) C dX0_become_14 (by decide) ?_
    refine m_aload_n C dX0_become_15 rfl 0 rfl ?_
    refine m_get (T := TX0) (N := 3) C hiX0_become_X0 P (gp_C hP1 hP2) rfl 0 (by decide) (by decide +kernel) rfl dX0_become_16 ?_
    refine m_alen C (P + 16) 0 (gp_I (gIs_N hP1 hP2)) rfl rfl dX0_become_19 ?_
    refine m_imul C dX0_become_20 ?_
    refine m_mmax (index := 22) C (by decide +kernel) (by decide +kernel) (by decide +kernel) (by decide +kernel) (Nat.le_of_ble_eq_true rfl) (Nat.le_of_ble_eq_true rfl) (Nat.zero_le _) (Nat.zero_le _) dX0_become_21 ?_
    refine mW.eq (st' := [.int (nI M), .int 1500, .ref (ad P)]) rfl rfl (by rw [emax]) rfl ?_
    refine m_mmin (index := 28) C (by decide +kernel) (by decide +kernel) (by decide +kernel) (by decide +kernel) (Nat.le_of_ble_eq_true rfl) (Nat.le_of_ble_eq_true rfl) (Nat.zero_le _) (Nat.zero_le _) dX0_become_24 ?_
    refine mW.eq (st' := [.int (nI N), .ref (ad P)]) rfl rfl (by rw [emin]) rfl ?_
    refine m_newa (ty := .int) (a0 := (N, .inl (fun _ => 0))) (N' := N) C 0 rfl rfl (fun U cA h => h) (by decide +kernel) (fun cA => rfl) (nI_pos (by omega)) eNc (by show N * 4 ≤ _; omega) (by show 0 + 1 ≤ bcC ln P n; rw [hC]; omega) (by show 0 + N ≤ bcS ln P n; rw [hS, hNe]; omega) dX0_become_27 (fun q => ?_)
    have hlen : (gW cy ad ln v ou).length = 60 := by simp [gW]
    refine m_put (T := TX0) (N := 3) C hiX0_become_X0 tyX0 tyX0_ok nmX0 P (by rw [List.getElem?_append_left (by rw [hlen]; omega)]; exact gp_C hP1 hP2) rfl 0 (by decide) (by decide +kernel) rfl rfl rfl (Nat.le_of_ble_eq_true rfl) dX0_become_29 rfl ?_
    refine mW.by (gW_reN hP1 hP2) ?_
    have ea1 : va_up ad (P + 16) q P = ad P := va_up_ne ad q (by omega)
    have ea2 : va_up ad (P + 16) q r = ad r := va_up_ne ad q hrP
    rw [← ea1, ← ea2]
    refine become_tail C (Nat.le_of_ble_eq_true rfl) (Nat.le_of_ble_eq_true rfl) (va_up ad (P + 16) q) (va_up ln (P + 16) N) (va_up v (P + 16) (fun _ => 0)) ou P r n b hP1 hP2 hr (by rw [va_up_ne ln N hrP]; exact h1) (by rw [va_up_self]; exact hN2) hn (by rw [hC]; omega) (by rw [hS, hNe]; omega) ⟨rfl, q, ?_⟩
    unfold bcV
    rw [hL, hNe, if_pos hq, if_pos hq, va_up_self, va_up_ne v (fun _ => 0) (show P ≠ P + 16 by omega)]
    congr 2
    funext j
    unfold va_up
    split <;> rfl
