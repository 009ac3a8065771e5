/-- THE LAW'S LOOP, pure: an invariant I (n falls at each turn) of the counter, the lengths, the memory, the answer's row, the cells and slots used -/
def lawVC (L : Nat) (xs : Nat → Int32) (I : Nat → Int32 → (Nat → Nat) → gV → (Nat → Int64) → Nat → Nat → Prop) : Prop :=
  ∀ (n : Nat) (x : Int32) (ln : Nat → Nat) (v : gV) (ou : Nat → Int64) (kc ks : Nat), I n x ln v ou kc ks → kc ≤ 601024 ∧ ks ≤ 7293034 ∧ (¬ (Int32.ofNat L - 4 < x) → vp_in x L ∧
    (xs x.toNatClampNeg &&& 15 = nI 0 → lwp_begin L xs ln v ou x kc ks (fun ln1 v1 ou1 kc1 ks1 => ∃ n', n' < n ∧ I n' (x + 4) ln1 v1 ou1 kc1 ks1)) ∧
    (xs x.toNatClampNeg &&& 15 = nI 1 → lwp_put L xs ln v ou x kc ks (fun ln1 v1 ou1 kc1 ks1 => ∃ n', n' < n ∧ I n' (x + 4) ln1 v1 ou1 kc1 ks1)) ∧
    (xs x.toNatClampNeg &&& 15 = nI 2 → lwp_store L xs ln v ou x kc ks (fun ln1 v1 ou1 kc1 ks1 => ∃ n', n' < n ∧ I n' (x + 4) ln1 v1 ou1 kc1 ks1)) ∧
    (xs x.toNatClampNeg &&& 15 = nI 3 → lwp_edit L xs ln v ou x kc ks (fun ln1 v1 ou1 kc1 ks1 => ∃ n', n' < n ∧ I n' (x + 4) ln1 v1 ou1 kc1 ks1)) ∧
    (xs x.toNatClampNeg &&& 15 = nI 4 → lwp_copy L xs ln v ou x kc ks (fun ln1 v1 ou1 kc1 ks1 => ∃ n', n' < n ∧ I n' (x + 4) ln1 v1 ou1 kc1 ks1)) ∧
    (xs x.toNatClampNeg &&& 15 = nI 5 → lwp_size L xs ln v ou x kc ks (fun ln1 v1 ou1 kc1 ks1 => ∃ n', n' < n ∧ I n' (x + 4) ln1 v1 ou1 kc1 ks1)) ∧
    (xs x.toNatClampNeg &&& 15 = nI 6 → lwp_get L xs ln v ou x kc ks (fun ln1 v1 ou1 kc1 ks1 => ∃ n', n' < n ∧ I n' (x + 4) ln1 v1 ou1 kc1 ks1)) ∧
    (xs x.toNatClampNeg &&& 15 = nI 7 → lwp_parts L xs ln v ou x kc ks (fun ln1 v1 ou1 kc1 ks1 => ∃ n', n' < n ∧ I n' (x + 4) ln1 v1 ou1 kc1 ks1)) ∧
    (xs x.toNatClampNeg &&& 15 = nI 8 → lwp_part L xs ln v ou x kc ks (fun ln1 v1 ou1 kc1 ks1 => ∃ n', n' < n ∧ I n' (x + 4) ln1 v1 ou1 kc1 ks1)) ∧
    (xs x.toNatClampNeg &&& 15 = nI 9 → lwp_about L xs ln v ou x kc ks (fun ln1 v1 ou1 kc1 ks1 => ∃ n', n' < n ∧ I n' (x + 4) ln1 v1 ou1 kc1 ks1)) ∧
    (xs x.toNatClampNeg &&& 15 = nI 10 → lwp_common L xs ln v ou x kc ks (fun ln1 v1 ou1 kc1 ks1 => ∃ n', n' < n ∧ I n' (x + 4) ln1 v1 ou1 kc1 ks1)) ∧
    (xs x.toNatClampNeg &&& 15 = nI 11 → lwp_all L xs ln v ou x kc ks (fun ln1 v1 ou1 kc1 ks1 => ∃ n', n' < n ∧ I n' (x + 4) ln1 v1 ou1 kc1 ks1)) ∧
    ((∀ i, i ≤ 11 → xs x.toNatClampNeg &&& 15 ≠ nI i) → ∃ n', n' < n ∧ I n' (x + 4) ln v ou kc ks))
theorem law_end {p : Program} {l : Launch} {e : Env} {s : State} {m : MethodId} {below : List Frame} {meth : Method} {c : Code} {D : va_G} {cy : Nat → ClassId} {A : Nat → Prop} {b kc ks : Nat} {w : va_W} {lv : List (Nat × Value)} (C : mC p s m #[Value.ref b] meth c D cy A cL_law 7 RL wsL_law ret) (hA : ∀ q, A q → s.heap.size ≤ q) (h1 : kc ≤ 601024) (h2 : ks ≤ 7293034) : mW p l e room_1 s m #[Value.ref b] below meth c D A 7 kc ks (lw_Z below #[Value.ref b] s) w 858 lv [] := by
  refine m_iconst (v := 1) C dL_law_858 (by decide) ?_
  intro H locs ls a1 a2 a3 a4
  refine va_forget (fun q hq => hA _ (a3.2.2 q hq)) ?_
  refine W.widen h1 h2 ?_
  exact lw_ret C.1 C.2.1 C.2.2.2.2.2.2.2.1 C.2.2.2.2.2.2.2.2.1 dL_law_859
set_option maxHeartbeats 4000000 in
set_option maxRecDepth 100000 in
theorem law_loop {p : Program} {l : Launch} {e : Env} {s : State} {m : MethodId} {below : List Frame} {meth : Method} {c : Code} {D : va_G} {cy : Nat → ClassId} {sA : Nat → Nat} {A : Nat → Prop} {b L : Nat} {xs : Nat → Int32} (C : mC p s m #[Value.ref b] meth c D cy A cL_law 7 RL wsL_law ret) (hXs : va_X b L xs s s.heap) (hbl : b < s.heap.size) (hbA : ¬ A b) (hX : xK A sA s s.heap) (hC : cK s) (hl : l.stackTraces = false) (hA : ∀ q, A q → s.heap.size ≤ q) (I : Nat → Int32 → (Nat → Nat) → gV → (Nat → Int64) → Nat → Nat → Prop) (hI : lawVC L xs I) : ∀ (n : Nat) (x : Int32) (ad ln : Nat → Nat) (v : gV) (ou : Nat → Int64) (kc ks : Nat), I n x ln v ou kc ks → mW p l e room_1 s m #[Value.ref b] below meth c D A 7 kc ks (lw_Z below #[Value.ref b] s) (gW cy ad ln v ou) 23 [(0, .ref b), (1, .ref (ad 0)), (2, .ref (ad 46)), (3, .ref (ad 59)), (4, .int x)] [] := by
  intro n
  induction n using Nat.strongRecOn with
  | ind n ih =>
    intro x ad ln v ou kc ks hi
    obtain ⟨k1, k2, h⟩ := hI n x ln v ou kc ks hi
    have back : ∀ (ad1 ln1 : Nat → Nat) (v1 : gV) (ou1 : Nat → Int64) (kc1 ks1 : Nat), gA ad ad1 → (∃ n', n' < n ∧ I n' (x + 4) ln1 v1 ou1 kc1 ks1) → mW p l e room_1 s m #[Value.ref b] below meth c D A 7 kc1 ks1 (lw_Z below #[Value.ref b] s) (gW cy ad1 ln1 v1 ou1) 852 [(0, .ref b), (1, .ref (ad1 0)), (2, .ref (ad1 46)), (3, .ref (ad1 59)), (4, .int x)] [] := by
      intro ad1 ln1 v1 ou1 kc1 ks1 _ hb
      obtain ⟨n', hn, hb⟩ := hb
      refine m_iinc (lv' := [(4, .int (x + 4)), (0, .ref b), (1, .ref (ad1 0)), (2, .ref (ad1 46)), (3, .ref (ad1 59))]) C dL_law_852 (k := 4) rfl rfl (by decide) rfl ?_
      refine m_goto (tgt := 23) C dL_law_855 (by decide) ?_
      exact mW.sub [1, 2, 3, 4, 0] rfl (ih n' hn (x + 4) ad1 ln1 v1 ou1 kc1 ks1 hb)
    refine m_iload C dL_law_23 4 rfl ?_
    refine m_aload_n C dL_law_25 rfl 0 rfl ?_
    refine m_slen C hXs hbl hbA dL_law_26 ?_
    refine m_iconst (v := 4) C dL_law_27 (by decide) ?_
    refine m_isub C dL_law_28 ?_
    refine m_icmp_gt (tgt := 858) C dL_law_29 (by decide) (fun c1 => ?_) (fun c1 => ?_)
    · exact law_end C hA k1 k2
    · obtain ⟨b0, h⟩ := h c1
      refine m_aload_n C dL_law_32 rfl 0 rfl ?_
      refine m_iload C dL_law_33 4 rfl ?_
      refine m_sld C hXs hbl hbA b0 dL_law_35 ?_
      refine m_bipush (v := 15) C dL_law_36 (by decide) ?_
      refine m_iand C dL_law_38 ?_
      refine m_sw (n := 11) (td := 852) C (fun i => [100, 160, 228, 284, 364, 412, 468, 536, 592, 660, 728, 796].getD i 0) (by decide) dL_law_39 (fun i hi => ?_) (by decide) (fun i hi hx => ?_) (fun hx => ?_)
      · rcases (show i = 0 ∨ i = 1 ∨ i = 2 ∨ i = 3 ∨ i = 4 ∨ i = 5 ∨ i = 6 ∨ i = 7 ∨ i = 8 ∨ i = 9 ∨ i = 10 ∨ i = 11 by omega) with rfl | rfl | rfl | rfl | rfl | rfl | rfl | rfl | rfl | rfl | rfl | rfl <;> exact ⟨_, rfl, by decide⟩
      · rcases (show i = 0 ∨ i = 1 ∨ i = 2 ∨ i = 3 ∨ i = 4 ∨ i = 5 ∨ i = 6 ∨ i = 7 ∨ i = 8 ∨ i = 9 ∨ i = 10 ∨ i = 11 by omega) with rfl | rfl | rfl | rfl | rfl | rfl | rfl | rfl | rfl | rfl | rfl | rfl
        · exact law_begin C hXs hbl hbA hX hC hl ad ln v ou x kc ks _ (h.1 hx) back
        · exact law_put C hXs hbl hbA hX hC hl ad ln v ou x kc ks _ (h.2.1 hx) back
        · exact law_store C hXs hbl hbA hX hC hl ad ln v ou x kc ks _ (h.2.2.1 hx) back
        · exact law_edit C hXs hbl hbA hX hC hl ad ln v ou x kc ks _ (h.2.2.2.1 hx) back
        · exact law_copy C hXs hbl hbA hX hC hl ad ln v ou x kc ks _ (h.2.2.2.2.1 hx) back
        · exact law_size C hXs hbl hbA hX hC hl ad ln v ou x kc ks _ (h.2.2.2.2.2.1 hx) back
        · exact law_get C hXs hbl hbA hX hC hl ad ln v ou x kc ks _ (h.2.2.2.2.2.2.1 hx) back
        · exact law_parts C hXs hbl hbA hX hC hl ad ln v ou x kc ks _ (h.2.2.2.2.2.2.2.1 hx) back
        · exact law_part C hXs hbl hbA hX hC hl ad ln v ou x kc ks _ (h.2.2.2.2.2.2.2.2.1 hx) back
        · exact law_about C hXs hbl hbA hX hC hl ad ln v ou x kc ks _ (h.2.2.2.2.2.2.2.2.2.1 hx) back
        · exact law_common C hXs hbl hbA hX hC hl ad ln v ou x kc ks _ (h.2.2.2.2.2.2.2.2.2.2.1 hx) back
        · exact law_all C hXs hbl hbA hX hC hl ad ln v ou x kc ks _ (h.2.2.2.2.2.2.2.2.2.2.2.1 hx) back
      · exact back ad ln v ou kc ks gA.rf (h.2.2.2.2.2.2.2.2.2.2.2.2 hx)
