theorem hiX2_byteOf_X2 : ∀ w ∈ wsX20, w ∈ wsX2_byteOf := by decide +kernel
def wp_X2_byteOf (ln : Nat → Nat) (v : gV) (a1 : Int32) (a2 : Int32) (post : Int32 → gV → Prop) : Prop :=
  ((a2 < 0) → (post (-1) v)) ∧ (¬ (a2 < 0) → (ln 8 = 400 ∧ (ln 9 = 400 ∧ (((a2 < (plo v a1)) → (vp_in ((a1 * 64) + a2) (ln 13) ∧ (post ((v 13 ((a1 * 64) + a2).toNatClampNeg) &&& 255) v))) ∧ (¬ (a2 < (plo v a1)) → (post (-1) v))))))
set_option maxHeartbeats 4000000 in
set_option maxRecDepth 100000 in
theorem s_X2_byteOf (l : Launch) (D : va_G) (cy : Nat → ClassId) (ad ln : Nat → Nat) (v : gV) (ou : Nat → Int64) (a1 : Int32) (a2 : Int32) {post : Int32 → gV → Prop} (h : wp_X2_byteOf ln v a1 a2 post) : mM l D cy yX2_byteOf wsX2_byteOf 3 0 0 [.ref (ad 2), .int a1, .int a2] (gW cy ad ln v ou) (fun r w1 => ∃ (x1 : Int32) (v1 : gV), r = some (.int x1) ∧ post x1 v1 ∧ w1 = gW cy ad ln v1 ou) := by
  unfold wp_X2_byteOf at h
  refine mM.of (cc := cX2_byteOf) (nL := 3) (ret0 := (some .int)) (by decide +kernel) rfl (Nat.le_of_ble_eq_true rfl) ?_
  intro p e s m args below meth c A C hini
  refine mW.sub (lv' := [(0, .ref (ad 2)), (1, .int a1), (2, .int a2)]) [0, 1, 2] rfl ?_
  refine m_iload_n C dX2_byteOf_0 rfl 2 rfl ?_
  refine m_if_lt (tgt := 13) C dX2_byteOf_1 (by decide) (fun c1 => ?_) (fun c1 => ?_)
  · have h := h.1 c1
    refine m_iconst (v := (-1)) C dX2_byteOf_13 (by decide) ?_
    exact m_iret C dX2_byteOf_14 (Nat.le_of_ble_eq_true rfl) (Nat.le_of_ble_eq_true rfl) ⟨_, _, rfl, h, rfl⟩
  · have h := h.2 c1
    refine m_iload_n C dX2_byteOf_4 rfl 2 rfl ?_
    refine m_aload_n C dX2_byteOf_5 rfl 0 rfl ?_
    refine m_iload_n C dX2_byteOf_6 rfl 1 rfl ?_
    obtain ⟨b2, h⟩ := h
    obtain ⟨b3, h⟩ := h
    refine m_callV C (p_X2_lengthOf l D cy ad ln v ou a1 b2 b3) (cwV 1 C.2.2.2.2.1 gX2_byteOf_X2_lengthOf rfl rfl rfl (by decide +kernel) ⟨Nat.le_of_ble_eq_true rfl, Nat.le_of_ble_eq_true rfl⟩) 2 gp_2 rfl rfl rfl (Nat.le_of_ble_eq_true rfl) dX2_byteOf_7 ⟨by decide, by decide⟩ (fun r w1 h1 => ?_)
    obtain ⟨rfl, rfl⟩ := h1
    refine mW.eq (st' := [.int (plo v a1), .int a2]) rfl rfl rfl rfl ?_
    refine m_icmp_lt (tgt := 15) C dX2_byteOf_10 (by decide) (fun c4 => ?_) (fun c4 => ?_)
    · have h := h.1 c4
      refine m_aload_n C dX2_byteOf_15 rfl 0 rfl ?_
      refine m_get (T := TX2) (N := 9) C hiX2_byteOf_X2 2 gp_2 rfl 5 (by decide) (by decide +kernel) rfl dX2_byteOf_16 ?_
      refine m_iload_n C dX2_byteOf_19 rfl 1 rfl ?_
      refine m_bipush (v := 64) C dX2_byteOf_20 (by decide) ?_
      refine m_imul C dX2_byteOf_22 ?_
      refine m_iload_n C dX2_byteOf_23 rfl 2 rfl ?_
      refine m_iadd C dX2_byteOf_24 ?_
      obtain ⟨b5, h⟩ := h
      refine m_bald C 13 (gp_B (by decide)) b5 dX2_byteOf_25 ?_
      refine m_sipush (v := 255) C dX2_byteOf_26 (by decide) ?_
      refine m_iand C dX2_byteOf_29 ?_
      exact m_iret C dX2_byteOf_30 (Nat.le_of_ble_eq_true rfl) (Nat.le_of_ble_eq_true rfl) ⟨_, _, rfl, h, rfl⟩
    · have h := h.2 c4
      refine m_iconst (v := (-1)) C dX2_byteOf_13 (by decide) ?_
      exact m_iret C dX2_byteOf_14 (Nat.le_of_ble_eq_true rfl) (Nat.le_of_ble_eq_true rfl) ⟨_, _, rfl, h, rfl⟩
theorem hiX2_writeOut_X2 : ∀ w ∈ wsX20, w ∈ wsX2_writeOut := by decide +kernel
def wp_X2_writeOut (ln : Nat → Nat) (v : gV) (a1 : Int32) (r2 : Nat) (a3 : Int32) (post : Int32 → gV → Prop) : Prop :=
  ln 8 = 400 ∧ (ln 9 = 400 ∧ ((((plo v a1) = 0) → (post 0 v)) ∧ (¬ ((plo v a1) = 0) → (((a3 < 0) → (post 0 v)) ∧ (¬ (a3 < 0) → ((((plo v a1) ≤ ((Int32.ofNat (ln r2)) - a3)) → ((¬ (a1 * 64) < 0) ∧ ((¬ a3 < 0) ∧ ((¬ (plo v a1) < 0) ∧ (((a1 * 64).toNatClampNeg + (plo v a1).toNatClampNeg ≤ ln 13) ∧ ((a3.toNatClampNeg + (plo v a1).toNatClampNeg ≤ ln r2) ∧ ((∀ i, i < (plo v a1).toNatClampNeg → fits .byte (.int (v 13 ((a1 * 64).toNatClampNeg + i))) = true) ∧ (∀ v6 : gV, v6 = va_up v r2 (va_cpy (v 13) (v r2) (a1 * 64).toNatClampNeg a3.toNatClampNeg (plo v a1).toNatClampNeg) → (post (plo v a1) v6))))))))) ∧ (¬ ((plo v a1) ≤ ((Int32.ofNat (ln r2)) - a3)) → (post 0 v))))))))
set_option maxHeartbeats 4000000 in
set_option maxRecDepth 100000 in
theorem s_X2_writeOut (l : Launch) (D : va_G) (cy : Nat → ClassId) (ad ln : Nat → Nat) (v : gV) (ou : Nat → Int64) (a1 : Int32) (r2 : Nat) (a3 : Int32) (hr2 : gBs r2 = true) {post : Int32 → gV → Prop} (h : wp_X2_writeOut ln v a1 r2 a3 post) : mM l D cy yX2_writeOut wsX2_writeOut 3 0 0 [.ref (ad 2), .int a1, .ref (ad r2), .int a3] (gW cy ad ln v ou) (fun r w1 => ∃ (x1 : Int32) (v1 : gV), r = some (.int x1) ∧ post x1 v1 ∧ w1 = gW cy ad ln v1 ou) := by
  unfold wp_X2_writeOut at h
  refine mM.of (cc := cX2_writeOut) (nL := 5) (ret0 := (some .int)) (by decide +kernel) rfl (Nat.le_of_ble_eq_true rfl) ?_
  intro p e s m args below meth c A C hini
  refine mW.sub (lv' := [(0, .ref (ad 2)), (1, .int a1), (2, .ref (ad r2)), (3, .int a3)]) [0, 1, 2, 3] rfl ?_
  refine m_aload_n C dX2_writeOut_0 rfl 0 rfl ?_
  refine m_iload_n C dX2_writeOut_1 rfl 1 rfl ?_
  obtain ⟨b1, h⟩ := h
  obtain ⟨b2, h⟩ := h
  refine m_callV C (p_X2_lengthOf l D cy ad ln v ou a1 b1 b2) (cwV 1 C.2.2.2.2.1 gX2_writeOut_X2_lengthOf rfl rfl rfl (by decide +kernel) ⟨Nat.le_of_ble_eq_true rfl, Nat.le_of_ble_eq_true rfl⟩) 2 gp_2 rfl rfl rfl (Nat.le_of_ble_eq_true rfl) dX2_writeOut_2 ⟨by decide, by decide⟩ (fun r w1 h1 => ?_)
  obtain ⟨rfl, rfl⟩ := h1
  refine mW.eq (st' := [.int (plo v a1)]) rfl rfl rfl rfl ?_
  refine m_istore (lv' := [(4, .int (plo v a1)), (0, .ref (ad 2)), (1, .int a1), (2, .ref (ad r2)), (3, .int a3)]) C dX2_writeOut_5 (by decide) rfl ?_
  refine m_iload C dX2_writeOut_7 0 rfl ?_
  refine m_if_eq (tgt := 25) C dX2_writeOut_9 (by decide) (fun c3 => ?_) (fun c3 => ?_)
  · have h := h.1 c3
    refine m_iconst (v := 0) C dX2_writeOut_25 (by decide) ?_
    exact m_iret C dX2_writeOut_26 (Nat.le_of_ble_eq_true rfl) (Nat.le_of_ble_eq_true rfl) ⟨_, _, rfl, h, rfl⟩
  · have h := h.2 c3
    refine m_iload_n C dX2_writeOut_12 rfl 4 rfl ?_
    refine m_if_lt (tgt := 25) C dX2_writeOut_13 (by decide) (fun c4 => ?_) (fun c4 => ?_)
    · have h := h.1 c4
      refine m_iconst (v := 0) C dX2_writeOut_25 (by decide) ?_
      exact m_iret C dX2_writeOut_26 (Nat.le_of_ble_eq_true rfl) (Nat.le_of_ble_eq_true rfl) ⟨_, _, rfl, h, rfl⟩
    · have h := h.2 c4
      refine m_iload C dX2_writeOut_16 0 rfl ?_
      refine m_aload_n C dX2_writeOut_18 rfl 3 rfl ?_
      refine m_alen C r2 1 (gp_B hr2) rfl rfl dX2_writeOut_19 ?_
      refine m_iload_n C dX2_writeOut_20 rfl 4 rfl ?_
      refine m_isub C dX2_writeOut_21 ?_
      refine m_icmp_le (tgt := 27) C dX2_writeOut_22 (by decide) (fun c5 => ?_) (fun c5 => ?_)
      · have h := h.1 c5
        refine m_aload_n C dX2_writeOut_27 rfl 1 rfl ?_
        refine m_get (T := TX2) (N := 9) C hiX2_writeOut_X2 2 gp_2 rfl 5 (by decide) (by decide +kernel) rfl dX2_writeOut_28 ?_
        refine m_iload_n C dX2_writeOut_31 rfl 2 rfl ?_
        refine m_bipush (v := 64) C dX2_writeOut_32 (by decide) ?_
        refine m_imul C dX2_writeOut_34 ?_
        refine m_aload_n C dX2_writeOut_35 rfl 3 rfl ?_
        refine m_iload_n C dX2_writeOut_36 rfl 4 rfl ?_
        refine m_iload C dX2_writeOut_37 0 rfl ?_
        obtain ⟨b7, h⟩ := h
        obtain ⟨b8, h⟩ := h
        obtain ⟨b9, h⟩ := h
        obtain ⟨b10, h⟩ := h
        obtain ⟨b11, h⟩ := h
        obtain ⟨b12, h⟩ := h
        obtain ⟨v6, ev6⟩ : ∃ z : gV, z = va_up v r2 (va_cpy (v 13) (v r2) (a1 * 64).toNatClampNeg a3.toNatClampNeg (plo v a1).toNatClampNeg) := ⟨_, rfl⟩
        have h := h v6 ev6
        refine m_copy (w' := gW cy ad ln v6 ou) C (by decide +kernel) (by decide +kernel) (by decide +kernel) (by decide +kernel) 13 r2 1 1 (gp_B (by decide)) (gp_B hr2) rfl rfl rfl b7 b8 b9 b10 b11 b12 (Nat.le_of_ble_eq_true rfl) (Nat.le_of_ble_eq_true rfl) dX2_writeOut_39 (by rw [ev6]; exact gs_B hr2) ?_
        refine m_iload C dX2_writeOut_42 0 rfl ?_
        exact m_iret C dX2_writeOut_44 (Nat.le_of_ble_eq_true rfl) (Nat.le_of_ble_eq_true rfl) ⟨_, _, rfl, h, rfl⟩
      · have h := h.2 c5
        refine m_iconst (v := 0) C dX2_writeOut_25 (by decide) ?_
        exact m_iret C dX2_writeOut_26 (Nat.le_of_ble_eq_true rfl) (Nat.le_of_ble_eq_true rfl) ⟨_, _, rfl, h, rfl⟩
theorem hiX2_find_X2 : ∀ w ∈ wsX20, w ∈ wsX2_find := by decide +kernel
def wp_X2_find (ln : Nat → Nat) (v : gV) (a1 : Int32) (r2 : Nat) (a3 : Int32) (a4 : Int32) (post : Int32 → gV → Prop) : Prop :=
  vp_in (a1 &&& 511) (ln 12) ∧ (∀ x2 : Int32, x2 = (v 12 (a1 &&& 511).toNatClampNeg) → (∃ I15 : Nat → Int32 → Int32 → gV → Prop, (∃ n, I15 n x2 0 v) ∧ ∀ (n : Nat) (x3 : Int32) (x4 : Int32) (v5 : gV), I15 n x3 x4 v5 → (((400 ≤ x4) → (post (-1) v5)) ∧ (¬ (400 ≤ x4) → (ln 8 = 400 ∧ ((((phs v5 x3) = 0) → (post (-1) v5)) ∧ (¬ ((phs v5 x3) = 0) → (vp_in x3 (ln 10) ∧ ((((v5 10 x3.toNatClampNeg) = a1) → (vp_in x3 (ln 9) ∧ ((((v5 9 x3.toNatClampNeg) = a4) → (wp_X2_sameBytes ln v5 x3 r2 a3 (fun (x17 : Int32) (v18 : gV) => (((x17 = 0) → (vp_in x3 (ln 11) ∧ (∃ n', n' < n ∧ I15 n' (v18 11 x3.toNatClampNeg) (x4 + 1) v18))) ∧ (¬ (x17 = 0) → (post x3 v18)))))) ∧ (¬ ((v5 9 x3.toNatClampNeg) = a4) → (vp_in x3 (ln 11) ∧ (∃ n', n' < n ∧ I15 n' (v5 11 x3.toNatClampNeg) (x4 + 1) v5)))))) ∧ (¬ ((v5 10 x3.toNatClampNeg) = a1) → (vp_in x3 (ln 11) ∧ (∃ n', n' < n ∧ I15 n' (v5 11 x3.toNatClampNeg) (x4 + 1) v5))))))))))))
set_option maxHeartbeats 4000000 in
set_option maxRecDepth 100000 in
theorem s_X2_find (l : Launch) (D : va_G) (cy : Nat → ClassId) (ad ln : Nat → Nat) (v : gV) (ou : Nat → Int64) (a1 : Int32) (r2 : Nat) (a3 : Int32) (a4 : Int32) (hr2 : gBs r2 = true) {post : Int32 → gV → Prop} (h : wp_X2_find ln v a1 r2 a3 a4 post) : mM l D cy yX2_find wsX2_find 2 0 0 [.ref (ad 2), .int a1, .ref (ad r2), .int a3, .int a4] (gW cy ad ln v ou) (fun r w1 => ∃ (x1 : Int32) (v1 : gV), r = some (.int x1) ∧ post x1 v1 ∧ w1 = gW cy ad ln v1 ou) := by
  unfold wp_X2_find at h
  refine mM.of (cc := cX2_find) (nL := 7) (ret0 := (some .int)) (by decide +kernel) rfl (Nat.le_of_ble_eq_true rfl) ?_
  intro p e s m args below meth c A C hini
  refine mW.sub (lv' := [(0, .ref (ad 2)), (1, .int a1), (2, .ref (ad r2)), (3, .int a3), (4, .int a4)]) [0, 1, 2, 3, 4] rfl ?_
  refine m_aload_n C dX2_find_0 rfl 0 rfl ?_
  refine m_get (T := TX2) (N := 9) C hiX2_find_X2 2 gp_2 rfl 4 (by decide) (by decide +kernel) rfl dX2_find_1 ?_
  refine m_iload_n C dX2_find_4 rfl 1 rfl ?_
  refine m_sipush (v := 511) C dX2_find_5 (by decide) ?_
  refine m_iand C dX2_find_8 ?_
  obtain ⟨b1, h⟩ := h
  refine m_iald C 12 (gp_I (by decide)) b1 dX2_find_9 ?_
  refine m_topi (fun x2 ex2 => ?_)
  have h := h x2 ex2
  refine m_istore (lv' := [(5, .int x2), (0, .ref (ad 2)), (1, .int a1), (2, .ref (ad r2)), (3, .int a3), (4, .int a4)]) C dX2_find_10 (by decide) rfl ?_
  refine m_iconst (v := 0) C dX2_find_12 (by decide) ?_
  refine m_istore (lv' := [(6, .int 0), (5, .int x2), (0, .ref (ad 2)), (1, .int a1), (2, .ref (ad r2)), (3, .int a3), (4, .int a4)]) C dX2_find_13 (by decide) rfl ?_
  obtain ⟨I15, ⟨n0, h0⟩, hI⟩ := h
  refine mW.sub (lv' := [(0, .ref (ad 2)), (1, .int a1), (2, .ref (ad r2)), (3, .int a3), (4, .int a4), (5, .int x2), (6, .int 0)]) [2, 3, 4, 5, 6, 1, 0] rfl ?_
  refine m_ind (σ := Int32 × Int32 × gV) (fun n z => I15 n z.1 z.2.1 z.2.2) (fun z => gW cy ad ln z.2.2 ou) 15 (fun z => [(0, .ref (ad 2)), (1, .int a1), (2, .ref (ad r2)), (3, .int a3), (4, .int a4), (5, .int z.1), (6, .int z.2.1)]) ?_ n0 (x2, 0, v) h0
  intro n z hi ih
  obtain ⟨x3, x4, v5⟩ := z
  have h := hI n x3 x4 v5 hi
  show mW _ _ _ _ _ _ _ _ _ _ _ _ _ _ _ _ (gW cy ad ln v5 ou) 15 [(0, .ref (ad 2)), (1, .int a1), (2, .ref (ad r2)), (3, .int a3), (4, .int a4), (5, .int x3), (6, .int x4)] []
  refine m_iload C dX2_find_15 6 rfl ?_
  refine m_sipush (v := 400) C dX2_find_17 (by decide) ?_
  refine m_icmp_ge (tgt := 84) C dX2_find_20 (by decide) (fun c6 => ?_) (fun c6 => ?_)
  · have h := h.1 c6
    refine m_iconst (v := (-1)) C dX2_find_84 (by decide) ?_
    exact m_iret C dX2_find_85 (Nat.le_of_ble_eq_true rfl) (Nat.le_of_ble_eq_true rfl) ⟨_, _, rfl, h, rfl⟩
  · have h := h.2 c6
    refine m_aload_n C dX2_find_23 rfl 0 rfl ?_
    refine m_iload C dX2_find_24 5 rfl ?_
    obtain ⟨b7, h⟩ := h
    refine m_callV C (p_X2_has l D cy ad ln v5 ou x3 b7) (cwV 1 C.2.2.2.2.1 gX2_find_X2_has rfl rfl rfl (by decide +kernel) ⟨Nat.le_of_ble_eq_true rfl, Nat.le_of_ble_eq_true rfl⟩) 2 gp_2 rfl rfl rfl (Nat.le_of_ble_eq_true rfl) dX2_find_26 ⟨by decide, by decide⟩ (fun r w1 h1 => ?_)
    obtain ⟨rfl, rfl⟩ := h1
    refine mW.eq (st' := [.int (phs v5 x3)]) rfl rfl rfl rfl ?_
    refine m_if_eq (tgt := 84) C dX2_find_29 (by decide) (fun c8 => ?_) (fun c8 => ?_)
    · have h := h.1 c8
      refine m_iconst (v := (-1)) C dX2_find_84 (by decide) ?_
      exact m_iret C dX2_find_85 (Nat.le_of_ble_eq_true rfl) (Nat.le_of_ble_eq_true rfl) ⟨_, _, rfl, h, rfl⟩
    · have h := h.2 c8
      refine m_aload_n C dX2_find_32 rfl 0 rfl ?_
      refine m_get (T := TX2) (N := 9) C hiX2_find_X2 2 gp_2 rfl 2 (by decide) (by decide +kernel) rfl dX2_find_33 ?_
      refine m_iload C dX2_find_36 5 rfl ?_
      obtain ⟨b9, h⟩ := h
      refine m_iald C 10 (gp_I (by decide)) b9 dX2_find_38 ?_
      refine m_iload_n C dX2_find_39 rfl 1 rfl ?_
      refine m_icmp_ne (tgt := 69) C dX2_find_40 (by decide) (fun c10 => ?_) (fun c10 => ?_)
      · have h := h.2 c10
        refine m_aload_n C dX2_find_69 rfl 0 rfl ?_
        refine m_get (T := TX2) (N := 9) C hiX2_find_X2 2 gp_2 rfl 3 (by decide) (by decide +kernel) rfl dX2_find_70 ?_
        refine m_iload C dX2_find_73 5 rfl ?_
        obtain ⟨b11, h⟩ := h
        refine m_iald C 11 (gp_I (by decide)) b11 dX2_find_75 ?_
        refine m_istore (lv' := [(5, .int (v5 11 x3.toNatClampNeg)), (0, .ref (ad 2)), (1, .int a1), (2, .ref (ad r2)), (3, .int a3), (4, .int a4), (6, .int x4)]) C dX2_find_76 (by decide) rfl ?_
        refine m_iinc (lv' := [(6, .int (x4 + 1)), (5, .int (v5 11 x3.toNatClampNeg)), (0, .ref (ad 2)), (1, .int a1), (2, .ref (ad r2)), (3, .int a3), (4, .int a4)]) C dX2_find_78 (k := 6) rfl rfl (by decide) rfl ?_
        refine m_goto (tgt := 15) C dX2_find_81 (by decide) ?_
        obtain ⟨n12, hn, h⟩ := h
        exact mW.sub [2, 3, 4, 5, 6, 1, 0] rfl (ih n12 ((v5 11 x3.toNatClampNeg), (x4 + 1), v5) hn h)
      · have h := h.1 c10
        refine m_aload_n C dX2_find_43 rfl 0 rfl ?_
        refine m_get (T := TX2) (N := 9) C hiX2_find_X2 2 gp_2 rfl 1 (by decide) (by decide +kernel) rfl dX2_find_44 ?_
        refine m_iload C dX2_find_47 5 rfl ?_
        obtain ⟨b13, h⟩ := h
        refine m_iald C 9 (gp_I (by decide)) b13 dX2_find_49 ?_
        refine m_iload C dX2_find_50 4 rfl ?_
        refine m_icmp_ne (tgt := 69) C dX2_find_52 (by decide) (fun c14 => ?_) (fun c14 => ?_)
        · have h := h.2 c14
          refine m_aload_n C dX2_find_69 rfl 0 rfl ?_
          refine m_get (T := TX2) (N := 9) C hiX2_find_X2 2 gp_2 rfl 3 (by decide) (by decide +kernel) rfl dX2_find_70 ?_
          refine m_iload C dX2_find_73 5 rfl ?_
          obtain ⟨b15, h⟩ := h
          refine m_iald C 11 (gp_I (by decide)) b15 dX2_find_75 ?_
          refine m_istore (lv' := [(5, .int (v5 11 x3.toNatClampNeg)), (0, .ref (ad 2)), (1, .int a1), (2, .ref (ad r2)), (3, .int a3), (4, .int a4), (6, .int x4)]) C dX2_find_76 (by decide) rfl ?_
          refine m_iinc (lv' := [(6, .int (x4 + 1)), (5, .int (v5 11 x3.toNatClampNeg)), (0, .ref (ad 2)), (1, .int a1), (2, .ref (ad r2)), (3, .int a3), (4, .int a4)]) C dX2_find_78 (k := 6) rfl rfl (by decide) rfl ?_
          refine m_goto (tgt := 15) C dX2_find_81 (by decide) ?_
          obtain ⟨n16, hn, h⟩ := h
          exact mW.sub [2, 3, 4, 5, 6, 1, 0] rfl (ih n16 ((v5 11 x3.toNatClampNeg), (x4 + 1), v5) hn h)
        · have h := h.1 c14
          refine m_aload_n C dX2_find_55 rfl 0 rfl ?_
          refine m_iload C dX2_find_56 5 rfl ?_
          refine m_aload_n C dX2_find_58 rfl 2 rfl ?_
          refine m_iload_n C dX2_find_59 rfl 3 rfl ?_
          refine m_callV C (s_X2_sameBytes l D cy ad ln v5 ou x3 r2 a3 hr2 h) (cwV 3 C.2.2.2.2.1 gX2_find_X2_sameBytes rfl rfl rfl (by decide +kernel) ⟨Nat.le_of_ble_eq_true rfl, Nat.le_of_ble_eq_true rfl⟩) 2 gp_2 rfl rfl rfl (Nat.le_of_ble_eq_true rfl) dX2_find_60 ⟨by decide, by decide⟩ (fun r w1 h1 => ?_)
          obtain ⟨x17, v18, rfl, h, rfl⟩ := h1
          refine mW.eq (st' := [.int x17]) rfl rfl rfl rfl ?_
          refine m_if_eq (tgt := 69) C dX2_find_63 (by decide) (fun c19 => ?_) (fun c19 => ?_)
          · have h := h.1 c19
            refine m_aload_n C dX2_find_69 rfl 0 rfl ?_
            refine m_get (T := TX2) (N := 9) C hiX2_find_X2 2 gp_2 rfl 3 (by decide) (by decide +kernel) rfl dX2_find_70 ?_
            refine m_iload C dX2_find_73 5 rfl ?_
            obtain ⟨b20, h⟩ := h
            refine m_iald C 11 (gp_I (by decide)) b20 dX2_find_75 ?_
            refine m_istore (lv' := [(5, .int (v18 11 x3.toNatClampNeg)), (0, .ref (ad 2)), (1, .int a1), (2, .ref (ad r2)), (3, .int a3), (4, .int a4), (6, .int x4)]) C dX2_find_76 (by decide) rfl ?_
            refine m_iinc (lv' := [(6, .int (x4 + 1)), (5, .int (v18 11 x3.toNatClampNeg)), (0, .ref (ad 2)), (1, .int a1), (2, .ref (ad r2)), (3, .int a3), (4, .int a4)]) C dX2_find_78 (k := 6) rfl rfl (by decide) rfl ?_
            refine m_goto (tgt := 15) C dX2_find_81 (by decide) ?_
            obtain ⟨n21, hn, h⟩ := h
            exact mW.sub [2, 3, 4, 5, 6, 1, 0] rfl (ih n21 ((v18 11 x3.toNatClampNeg), (x4 + 1), v18) hn h)
          · have h := h.2 c19
            refine m_iload C dX2_find_66 5 rfl ?_
            exact m_iret C dX2_find_68 (Nat.le_of_ble_eq_true rfl) (Nat.le_of_ble_eq_true rfl) ⟨_, _, rfl, h, rfl⟩
theorem hiX2_unchain_X2 : ∀ w ∈ wsX20, w ∈ wsX2_unchain := by decide +kernel
def wp_X2_unchain (ln : Nat → Nat) (v : gV) (a1 : Int32) (post : gV → Prop) : Prop :=
  vp_in a1 (ln 10) ∧ (∀ x2 : Int32, x2 = ((v 10 a1.toNatClampNeg) &&& 511) → (vp_in x2 (ln 12) ∧ ((((v 12 x2.toNatClampNeg) = a1) → (vp_in a1 (ln 11) ∧ (vp_in x2 (ln 12) ∧ ∀ v20 : gV, v20 = va_up v 12 (upd (v 12) x2.toNatClampNeg (v 11 a1.toNatClampNeg)) → (post v20)))) ∧ (¬ ((v 12 x2.toNatClampNeg) = a1) → (vp_in x2 (ln 12) ∧ (∃ I44 : Nat → Int32 → Int32 → Prop, (∃ n, I44 n (v 12 x2.toNatClampNeg) 0) ∧ ∀ (n : Nat) (x6 : Int32) (x7 : Int32), I44 n x6 x7 → (((400 ≤ x7) → (post v)) ∧ (¬ (400 ≤ x7) → (ln 8 = 400 ∧ ((((phs v x6) = 0) → (post v)) ∧ (¬ ((phs v x6) = 0) → (vp_in x6 (ln 11) ∧ ((((v 11 x6.toNatClampNeg) = a1) → (vp_in a1 (ln 11) ∧ (vp_in x6 (ln 11) ∧ ∀ v17 : gV, v17 = va_up v 11 (upd (v 11) x6.toNatClampNeg (v 11 a1.toNatClampNeg)) → (post v17)))) ∧ (¬ ((v 11 x6.toNatClampNeg) = a1) → (vp_in x6 (ln 11) ∧ (∃ n', n' < n ∧ I44 n' (v 11 x6.toNatClampNeg) (x7 + 1)))))))))))))))))
set_option maxHeartbeats 4000000 in
set_option maxRecDepth 100000 in
theorem s_X2_unchain (l : Launch) (D : va_G) (cy : Nat → ClassId) (ad ln : Nat → Nat) (v : gV) (ou : Nat → Int64) (a1 : Int32) {post : gV → Prop} (h : wp_X2_unchain ln v a1 post) : mM l D cy yX2_unchain wsX2_unchain 2 0 0 [.ref (ad 2), .int a1] (gW cy ad ln v ou) (fun r w1 => ∃ v1 : gV, r = none ∧ post v1 ∧ w1 = gW cy ad ln v1 ou) := by
  unfold wp_X2_unchain at h
  refine mM.of (cc := cX2_unchain) (nL := 5) (ret0 := none) (by decide +kernel) rfl (Nat.le_of_ble_eq_true rfl) ?_
  intro p e s m args below meth c A C hini
  refine mW.sub (lv' := [(0, .ref (ad 2)), (1, .int a1)]) [0, 1] rfl ?_
  refine m_aload_n C dX2_unchain_0 rfl 0 rfl ?_
  refine m_get (T := TX2) (N := 9) C hiX2_unchain_X2 2 gp_2 rfl 2 (by decide) (by decide +kernel) rfl dX2_unchain_1 ?_
  refine m_iload_n C dX2_unchain_4 rfl 1 rfl ?_
  obtain ⟨b1, h⟩ := h
  refine m_iald C 10 (gp_I (by decide)) b1 dX2_unchain_5 ?_
  refine m_sipush (v := 511) C dX2_unchain_6 (by decide) ?_
  refine m_iand C dX2_unchain_9 ?_
  refine m_topi (fun x2 ex2 => ?_)
  have h := h x2 ex2
  refine m_istore_n (lv' := [(2, .int x2), (0, .ref (ad 2)), (1, .int a1)]) C dX2_unchain_10 rfl (by decide) rfl ?_
  refine m_aload_n C dX2_unchain_11 rfl 1 rfl ?_
  refine m_get (T := TX2) (N := 9) C hiX2_unchain_X2 2 gp_2 rfl 4 (by decide) (by decide +kernel) rfl dX2_unchain_12 ?_
  refine m_iload_n C dX2_unchain_15 rfl 0 rfl ?_
  obtain ⟨b3, h⟩ := h
  refine m_iald C 12 (gp_I (by decide)) b3 dX2_unchain_16 ?_
  refine m_iload_n C dX2_unchain_17 rfl 2 rfl ?_
  refine m_icmp_ne (tgt := 34) C dX2_unchain_18 (by decide) (fun c4 => ?_) (fun c4 => ?_)
  · have h := h.2 c4
    refine m_aload_n C dX2_unchain_34 rfl 1 rfl ?_
    refine m_get (T := TX2) (N := 9) C hiX2_unchain_X2 2 gp_2 rfl 4 (by decide) (by decide +kernel) rfl dX2_unchain_35 ?_
    refine m_iload_n C dX2_unchain_38 rfl 0 rfl ?_
    obtain ⟨b5, h⟩ := h
    refine m_iald C 12 (gp_I (by decide)) b5 dX2_unchain_39 ?_
    refine m_istore_n (lv' := [(3, .int (v 12 x2.toNatClampNeg)), (2, .int x2), (0, .ref (ad 2)), (1, .int a1)]) C dX2_unchain_40 rfl (by decide) rfl ?_
    refine m_iconst (v := 0) C dX2_unchain_41 (by decide) ?_
    refine m_istore (lv' := [(4, .int 0), (3, .int (v 12 x2.toNatClampNeg)), (2, .int x2), (0, .ref (ad 2)), (1, .int a1)]) C dX2_unchain_42 (by decide) rfl ?_
    obtain ⟨I44, ⟨n0, h0⟩, hI⟩ := h
    refine mW.sub (lv' := [(0, .ref (ad 2)), (1, .int a1), (2, .int x2), (3, .int (v 12 x2.toNatClampNeg)), (4, .int 0)]) [3, 4, 2, 1, 0] rfl ?_
    refine m_ind (σ := Int32 × Int32) (fun n z => I44 n z.1 z.2) (fun z => gW cy ad ln v ou) 44 (fun z => [(0, .ref (ad 2)), (1, .int a1), (2, .int x2), (3, .int z.1), (4, .int z.2)]) ?_ n0 ((v 12 x2.toNatClampNeg), 0) h0
    intro n z hi ih
    obtain ⟨x6, x7⟩ := z
    have h := hI n x6 x7 hi
    show mW _ _ _ _ _ _ _ _ _ _ _ _ _ _ _ _ (gW cy ad ln v ou) 44 [(0, .ref (ad 2)), (1, .int a1), (2, .int x2), (3, .int x6), (4, .int x7)] []
    refine m_iload C dX2_unchain_44 4 rfl ?_
    refine m_sipush (v := 400) C dX2_unchain_46 (by decide) ?_
    refine m_icmp_ge (tgt := 96) C dX2_unchain_49 (by decide) (fun c8 => ?_) (fun c8 => ?_)
    · have h := h.1 c8
      exact m_vret C dX2_unchain_96 (Nat.le_of_ble_eq_true rfl) (Nat.le_of_ble_eq_true rfl) ⟨_, rfl, h, rfl⟩
    · have h := h.2 c8
      refine m_aload_n C dX2_unchain_52 rfl 0 rfl ?_
      refine m_iload_n C dX2_unchain_53 rfl 3 rfl ?_
      obtain ⟨b9, h⟩ := h
      refine m_callV C (p_X2_has l D cy ad ln v ou x6 b9) (cwV 1 C.2.2.2.2.1 gX2_unchain_X2_has rfl rfl rfl (by decide +kernel) ⟨Nat.le_of_ble_eq_true rfl, Nat.le_of_ble_eq_true rfl⟩) 2 gp_2 rfl rfl rfl (Nat.le_of_ble_eq_true rfl) dX2_unchain_54 ⟨by decide, by decide⟩ (fun r w1 h1 => ?_)
      obtain ⟨rfl, rfl⟩ := h1
      refine mW.eq (st' := [.int (phs v x6)]) rfl rfl rfl rfl ?_
      refine m_if_eq (tgt := 96) C dX2_unchain_57 (by decide) (fun c10 => ?_) (fun c10 => ?_)
      · have h := h.1 c10
        exact m_vret C dX2_unchain_96 (Nat.le_of_ble_eq_true rfl) (Nat.le_of_ble_eq_true rfl) ⟨_, rfl, h, rfl⟩
      · have h := h.2 c10
        refine m_aload_n C dX2_unchain_60 rfl 0 rfl ?_
        refine m_get (T := TX2) (N := 9) C hiX2_unchain_X2 2 gp_2 rfl 3 (by decide) (by decide +kernel) rfl dX2_unchain_61 ?_
        refine m_iload_n C dX2_unchain_64 rfl 3 rfl ?_
        obtain ⟨b11, h⟩ := h
        refine m_iald C 11 (gp_I (by decide)) b11 dX2_unchain_65 ?_
        refine m_iload_n C dX2_unchain_66 rfl 1 rfl ?_
        refine m_icmp_ne (tgt := 83) C dX2_unchain_67 (by decide) (fun c12 => ?_) (fun c12 => ?_)
        · have h := h.2 c12
          refine m_aload_n C dX2_unchain_83 rfl 0 rfl ?_
          refine m_get (T := TX2) (N := 9) C hiX2_unchain_X2 2 gp_2 rfl 3 (by decide) (by decide +kernel) rfl dX2_unchain_84 ?_
          refine m_iload_n C dX2_unchain_87 rfl 3 rfl ?_
          obtain ⟨b13, h⟩ := h
          refine m_iald C 11 (gp_I (by decide)) b13 dX2_unchain_88 ?_
          refine m_istore_n (lv' := [(3, .int (v 11 x6.toNatClampNeg)), (0, .ref (ad 2)), (1, .int a1), (2, .int x2), (4, .int x7)]) C dX2_unchain_89 rfl (by decide) rfl ?_
          refine m_iinc (lv' := [(4, .int (x7 + 1)), (3, .int (v 11 x6.toNatClampNeg)), (0, .ref (ad 2)), (1, .int a1), (2, .int x2)]) C dX2_unchain_90 (k := 4) rfl rfl (by decide) rfl ?_
          refine m_goto (tgt := 44) C dX2_unchain_93 (by decide) ?_
          obtain ⟨n14, hn, h⟩ := h
          exact mW.sub [2, 3, 4, 1, 0] rfl (ih n14 ((v 11 x6.toNatClampNeg), (x7 + 1)) hn h)
        · have h := h.1 c12
          refine m_aload_n C dX2_unchain_70 rfl 0 rfl ?_
          refine m_get (T := TX2) (N := 9) C hiX2_unchain_X2 2 gp_2 rfl 3 (by decide) (by decide +kernel) rfl dX2_unchain_71 ?_
          refine m_iload_n C dX2_unchain_74 rfl 3 rfl ?_
          refine m_aload_n C dX2_unchain_75 rfl 0 rfl ?_
          refine m_get (T := TX2) (N := 9) C hiX2_unchain_X2 2 gp_2 rfl 3 (by decide) (by decide +kernel) rfl dX2_unchain_76 ?_
          refine m_iload_n C dX2_unchain_79 rfl 1 rfl ?_
          obtain ⟨b15, h⟩ := h
          refine m_iald C 11 (gp_I (by decide)) b15 dX2_unchain_80 ?_
          obtain ⟨b16, h⟩ := h
          obtain ⟨v17, ev17⟩ : ∃ z : gV, z = va_up v 11 (upd (v 11) x6.toNatClampNeg (v 11 a1.toNatClampNeg)) := ⟨_, rfl⟩
          have h := h v17 ev17
          refine m_iast (w' := gW cy ad ln v17 ou) C 11 (gp_I (by decide)) b16 dX2_unchain_81 (by rw [ev17]; exact gs_I (by decide)) ?_
          exact m_vret C dX2_unchain_82 (Nat.le_of_ble_eq_true rfl) (Nat.le_of_ble_eq_true rfl) ⟨_, rfl, h, rfl⟩
  · have h := h.1 c4
    refine m_aload_n C dX2_unchain_21 rfl 1 rfl ?_
    refine m_get (T := TX2) (N := 9) C hiX2_unchain_X2 2 gp_2 rfl 4 (by decide) (by decide +kernel) rfl dX2_unchain_22 ?_
    refine m_iload_n C dX2_unchain_25 rfl 0 rfl ?_
    refine m_aload_n C dX2_unchain_26 rfl 1 rfl ?_
    refine m_get (T := TX2) (N := 9) C hiX2_unchain_X2 2 gp_2 rfl 3 (by decide) (by decide +kernel) rfl dX2_unchain_27 ?_
    refine m_iload_n C dX2_unchain_30 rfl 2 rfl ?_
    obtain ⟨b18, h⟩ := h
    refine m_iald C 11 (gp_I (by decide)) b18 dX2_unchain_31 ?_
    obtain ⟨b19, h⟩ := h
    obtain ⟨v20, ev20⟩ : ∃ z : gV, z = va_up v 12 (upd (v 12) x2.toNatClampNeg (v 11 a1.toNatClampNeg)) := ⟨_, rfl⟩
    have h := h v20 ev20
    refine m_iast (w' := gW cy ad ln v20 ou) C 12 (gp_I (by decide)) b19 dX2_unchain_32 (by rw [ev20]; exact gs_I (by decide)) ?_
    exact m_vret C dX2_unchain_33 (Nat.le_of_ble_eq_true rfl) (Nat.le_of_ble_eq_true rfl) ⟨_, rfl, h, rfl⟩
theorem hiX2_giveBack_X2 : ∀ w ∈ wsX20, w ∈ wsX2_giveBack := by decide +kernel
def wp_X2_giveBack (ln : Nat → Nat) (v : gV) (a1 : Int32) (post : gV → Prop) : Prop :=
  ln 8 = 400 ∧ ((((phs v a1) = 0) → (post v)) ∧ (¬ ((phs v a1) = 0) → (vp_in a1 (ln 8) ∧ (vp_in a1 (ln 8) ∧ ∀ v5 : gV, v5 = va_up v 8 (upd (v 8) a1.toNatClampNeg ((v 8 a1.toNatClampNeg) - 1)) → (vp_in a1 (ln 8) ∧ ((((v5 8 a1.toNatClampNeg) = 0) → (wp_X2_unchain ln v5 a1 (fun (v9 : gV) => (∀ v10 : gV, v10 = va_up v9 2 (upd (v9 2) 6 (if a1 < v9 2 6 then a1 else v9 2 6)) → (∀ v11 : gV, v11 = va_up v10 2 (upd (v10 2) 7 ((v10 2 7) - 1)) → (vp_in a1 (ln 9) ∧ (∀ v13 : gV, v13 = va_up v11 2 (upd (v11 2) 8 ((v11 2 8) - (v11 9 a1.toNatClampNeg))) → (post v13)))))))) ∧ (¬ ((v5 8 a1.toNatClampNeg) = 0) → (post v5))))))))
set_option maxHeartbeats 4000000 in
set_option maxRecDepth 100000 in
theorem s_X2_giveBack (l : Launch) (D : va_G) (cy : Nat → ClassId) (ad ln : Nat → Nat) (v : gV) (ou : Nat → Int64) (a1 : Int32) {post : gV → Prop} (h : wp_X2_giveBack ln v a1 post) : mM l D cy yX2_giveBack wsX2_giveBack 3 0 0 [.ref (ad 2), .int a1] (gW cy ad ln v ou) (fun r w1 => ∃ v1 : gV, r = none ∧ post v1 ∧ w1 = gW cy ad ln v1 ou) := by
  unfold wp_X2_giveBack at h
  refine mM.of (cc := cX2_giveBack) (nL := 2) (ret0 := none) (by decide +kernel) rfl (Nat.le_of_ble_eq_true rfl) ?_
  intro p e s m args below meth c A C hini
  refine mW.sub (lv' := [(0, .ref (ad 2)), (1, .int a1)]) [0, 1] rfl ?_
  refine m_aload_n C dX2_giveBack_0 rfl 0 rfl ?_
  refine m_iload_n C dX2_giveBack_1 rfl 1 rfl ?_
  obtain ⟨b1, h⟩ := h
  refine m_callV C (p_X2_has l D cy ad ln v ou a1 b1) (cwV 1 C.2.2.2.2.1 gX2_giveBack_X2_has rfl rfl rfl (by decide +kernel) ⟨Nat.le_of_ble_eq_true rfl, Nat.le_of_ble_eq_true rfl⟩) 2 gp_2 rfl rfl rfl (Nat.le_of_ble_eq_true rfl) dX2_giveBack_2 ⟨by decide, by decide⟩ (fun r w1 h1 => ?_)
  obtain ⟨rfl, rfl⟩ := h1
  refine mW.eq (st' := [.int (phs v a1)]) rfl rfl rfl rfl ?_
  refine m_if_ne (tgt := 9) C dX2_giveBack_5 (by decide) (fun c2 => ?_) (fun c2 => ?_)
  · have h := h.2 c2
    refine m_aload_n C dX2_giveBack_9 rfl 0 rfl ?_
    refine m_get (T := TX2) (N := 9) C hiX2_giveBack_X2 2 gp_2 rfl 0 (by decide) (by decide +kernel) rfl dX2_giveBack_10 ?_
    refine m_iload_n C dX2_giveBack_13 rfl 1 rfl ?_
    refine m_dup2_11 C dX2_giveBack_14 rfl rfl ?_
    obtain ⟨b3, h⟩ := h
    refine m_iald C 8 (gp_I (by decide)) b3 dX2_giveBack_15 ?_
    refine m_iconst (v := 1) C dX2_giveBack_16 (by decide) ?_
    refine m_isub C dX2_giveBack_17 ?_
    obtain ⟨b4, h⟩ := h
    obtain ⟨v5, ev5⟩ : ∃ z : gV, z = va_up v 8 (upd (v 8) a1.toNatClampNeg ((v 8 a1.toNatClampNeg) - 1)) := ⟨_, rfl⟩
    have h := h v5 ev5
    refine m_iast (w' := gW cy ad ln v5 ou) C 8 (gp_I (by decide)) b4 dX2_giveBack_18 (by rw [ev5]; exact gs_I (by decide)) ?_
    refine m_aload_n C dX2_giveBack_19 rfl 0 rfl ?_
    refine m_get (T := TX2) (N := 9) C hiX2_giveBack_X2 2 gp_2 rfl 0 (by decide) (by decide +kernel) rfl dX2_giveBack_20 ?_
    refine m_iload_n C dX2_giveBack_23 rfl 1 rfl ?_
    obtain ⟨b6, h⟩ := h
    refine m_iald C 8 (gp_I (by decide)) b6 dX2_giveBack_24 ?_
    refine m_if_ne (tgt := 70) C dX2_giveBack_25 (by decide) (fun c7 => ?_) (fun c7 => ?_)
    · have h := h.2 c7
      exact m_vret C dX2_giveBack_70 (Nat.le_of_ble_eq_true rfl) (Nat.le_of_ble_eq_true rfl) ⟨_, rfl, h, rfl⟩
    · have h := h.1 c7
      refine m_aload_n C dX2_giveBack_28 rfl 0 rfl ?_
      refine m_iload_n C dX2_giveBack_29 rfl 1 rfl ?_
      refine m_callV C (s_X2_unchain l D cy ad ln v5 ou a1  h) (cwV 1 C.2.2.2.2.1 gX2_giveBack_X2_unchain rfl rfl rfl (by decide +kernel) ⟨Nat.le_of_ble_eq_true rfl, Nat.le_of_ble_eq_true rfl⟩) 2 gp_2 rfl rfl rfl (Nat.le_of_ble_eq_true rfl) dX2_giveBack_30 ⟨by decide, by decide⟩ (fun r w1 h1 => ?_)
      obtain ⟨v9, rfl, h, rfl⟩ := h1
      refine mW.eq (st' := []) rfl rfl rfl rfl ?_
      refine m_aload_n C dX2_giveBack_33 rfl 0 rfl ?_
      refine m_aload_n C dX2_giveBack_34 rfl 0 rfl ?_
      refine m_get (T := TX2) (N := 9) C hiX2_giveBack_X2 2 gp_2 rfl 6 (by decide) (by decide +kernel) rfl dX2_giveBack_35 ?_
      refine m_iload_n C dX2_giveBack_38 rfl 1 rfl ?_
      refine m_mmin (index := 79) C (by decide +kernel) (by decide +kernel) (by decide +kernel) (by decide +kernel) (by decide) (Nat.le_of_ble_eq_true rfl) (Nat.le_of_ble_eq_true rfl) (Nat.le_of_ble_eq_true rfl) dX2_giveBack_39 ?_
      obtain ⟨v10, ev10⟩ : ∃ z : gV, z = va_up v9 2 (upd (v9 2) 6 (if a1 < v9 2 6 then a1 else v9 2 6)) := ⟨_, rfl⟩
      have h := h v10 ev10
      refine m_put (w' := gW cy ad ln v10 ou) (T := TX2) (N := 9) C hiX2_giveBack_X2 tyX2 tyX2_ok nmX2 2 gp_2 rfl 6 (by decide) (by decide +kernel) rfl rfl rfl (Nat.le_of_ble_eq_true rfl) dX2_giveBack_42 (by rw [ev10]; exact gW_set (k := 2) (by decide) rfl) ?_
      refine m_aload_n C dX2_giveBack_45 rfl 0 rfl ?_
      refine m_dup C dX2_giveBack_46 rfl ?_
      refine m_get (T := TX2) (N := 9) C hiX2_giveBack_X2 2 gp_2 rfl 7 (by decide) (by decide +kernel) rfl dX2_giveBack_47 ?_
      refine m_iconst (v := 1) C dX2_giveBack_50 (by decide) ?_
      refine m_isub C dX2_giveBack_51 ?_
      obtain ⟨v11, ev11⟩ : ∃ z : gV, z = va_up v10 2 (upd (v10 2) 7 ((v10 2 7) - 1)) := ⟨_, rfl⟩
      have h := h v11 ev11
      refine m_put (w' := gW cy ad ln v11 ou) (T := TX2) (N := 9) C hiX2_giveBack_X2 tyX2 tyX2_ok nmX2 2 gp_2 rfl 7 (by decide) (by decide +kernel) rfl rfl rfl (Nat.le_of_ble_eq_true rfl) dX2_giveBack_52 (by rw [ev11]; exact gW_set (k := 2) (by decide) rfl) ?_
      refine m_aload_n C dX2_giveBack_55 rfl 0 rfl ?_
      refine m_dup C dX2_giveBack_56 rfl ?_
      refine m_get (T := TX2) (N := 9) C hiX2_giveBack_X2 2 gp_2 rfl 8 (by decide) (by decide +kernel) rfl dX2_giveBack_57 ?_
      refine m_aload_n C dX2_giveBack_60 rfl 0 rfl ?_
      refine m_get (T := TX2) (N := 9) C hiX2_giveBack_X2 2 gp_2 rfl 1 (by decide) (by decide +kernel) rfl dX2_giveBack_61 ?_
      refine m_iload_n C dX2_giveBack_64 rfl 1 rfl ?_
      obtain ⟨b12, h⟩ := h
      refine m_iald C 9 (gp_I (by decide)) b12 dX2_giveBack_65 ?_
      refine m_isub C dX2_giveBack_66 ?_
      obtain ⟨v13, ev13⟩ : ∃ z : gV, z = va_up v11 2 (upd (v11 2) 8 ((v11 2 8) - (v11 9 a1.toNatClampNeg))) := ⟨_, rfl⟩
      have h := h v13 ev13
      refine m_put (w' := gW cy ad ln v13 ou) (T := TX2) (N := 9) C hiX2_giveBack_X2 tyX2 tyX2_ok nmX2 2 gp_2 rfl 8 (by decide) (by decide +kernel) rfl rfl rfl (Nat.le_of_ble_eq_true rfl) dX2_giveBack_67 (by rw [ev13]; exact gW_set (k := 2) (by decide) rfl) ?_
      exact m_vret C dX2_giveBack_70 (Nat.le_of_ble_eq_true rfl) (Nat.le_of_ble_eq_true rfl) ⟨_, rfl, h, rfl⟩
  · have h := h.1 c2
    exact m_vret C dX2_giveBack_8 (Nat.le_of_ble_eq_true rfl) (Nat.le_of_ble_eq_true rfl) ⟨_, rfl, h, rfl⟩
theorem hiX4_begin_X4 : ∀ w ∈ wsX40, w ∈ wsX4_begin := by decide +kernel
def wp_X4_begin (ln : Nat → Nat) (v : gV) (a1 : Int32) (a2 : Int32) (a3 : Int32) (post : gV → Prop) : Prop :=
  (∀ x5 : Int32, x5 = (if (pin a1 1 8) = 0 then 0 else if (pin a2 1 32) = 0 then 0 else if (pin a3 a2 64) = 0 then 0 else 1) → ((∀ v8 : gV, v8 = vrf v (if x5 = 0 then 1 else 0) 0 0 → ((((prf (if x5 = 0 then 1 else 0) 0 0) = 0) → (∀ v10 : gV, v10 = va_up v8 46 (upd (v8 46) 1 a1) → (∀ v11 : gV, v11 = va_up v10 46 (upd (v10 46) 2 a2) → (∀ v12 : gV, v12 = va_up v11 46 (upd (v11 46) 3 a3) → (∃ I74 : Nat → Int32 → gV → Prop, (∃ n, I74 n 0 v12) ∧ ∀ (n : Nat) (x13 : Int32) (v14 : gV), I74 n x13 v14 → (((16 ≤ x13) → (∃ I106 : Nat → Int32 → gV → Prop, (∃ n, I106 n 0 v14) ∧ ∀ (n : Nat) (x16 : Int32) (v17 : gV), I106 n x16 v17 → (((400 ≤ x16) → (post v17)) ∧ (¬ (400 ≤ x16) → (vp_in x16 (ln 56) ∧ ∀ v20 : gV, v20 = va_up v17 56 (upd (v17 56) x16.toNatClampNeg 0) → (∃ n', n' < n ∧ I106 n' (x16 + 1) v20)))))) ∧ (¬ (16 ≤ x13) → (vp_in x13 (ln 52) ∧ ∀ v23 : gV, v23 = va_up v14 52 (upd (v14 52) x13.toNatClampNeg 0) → (vp_in x13 (ln 54) ∧ ∀ v25 : gV, v25 = va_up v23 54 (upd (v23 54) x13.toNatClampNeg 0) → (∃ n', n' < n ∧ I74 n' (x13 + 1) v25)))))))))) ∧ (¬ ((prf (if x5 = 0 then 1 else 0) 0 0) = 0) → (post v8))))))
set_option maxHeartbeats 4000000 in
set_option maxRecDepth 100000 in
theorem s_X4_begin (l : Launch) (D : va_G) (cy : Nat → ClassId) (ad ln : Nat → Nat) (v : gV) (ou : Nat → Int64) (a1 : Int32) (a2 : Int32) (a3 : Int32) {post : gV → Prop} (h : wp_X4_begin ln v a1 a2 a3 post) : mM l D cy yX4_begin wsX4_begin 2 0 0 [.ref (ad 46), .int a1, .int a2, .int a3] (gW cy ad ln v ou) (fun r w1 => ∃ v1 : gV, r = none ∧ post v1 ∧ w1 = gW cy ad ln v1 ou) := by
  unfold wp_X4_begin at h
  refine mM.of (cc := cX4_begin) (nL := 6) (ret0 := none) (by decide +kernel) rfl (Nat.le_of_ble_eq_true rfl) ?_
  intro p e s m args below meth c A C hini
  refine mW.sub (lv' := [(0, .ref (ad 46)), (1, .int a1), (2, .int a2), (3, .int a3)]) [0, 1, 2, 3] rfl ?_
  refine m_iload_n C dX4_begin_0 rfl 1 rfl ?_
  refine m_iconst (v := 1) C dX4_begin_1 (by decide) ?_
  refine m_bipush (v := 8) C dX4_begin_2 (by decide) ?_
  refine m_callS C (p_X4_in l D cy ad ln v ou a1 1 8) (va_cwS 3 C.2.2.2.2.1 gX4_begin_X4_in rfl rfl rfl (by decide +kernel) ⟨Nat.le_of_ble_eq_true rfl, Nat.le_of_ble_eq_true rfl⟩) rfl rfl (Nat.le_of_ble_eq_true rfl) dX4_begin_4 ⟨by decide, by decide⟩ (fun r w1 h1 => ?_)
  obtain ⟨rfl, rfl⟩ := h1
  refine mW.eq (st' := [.int (pin a1 1 8)]) rfl rfl rfl rfl ?_
  refine m_join (P := 35) (wM := gW cy ad ln v ou) (lvM := [(0, .ref (ad 46)), (1, .int a1), (2, .int a2), (3, .int a3)]) (stM := [.int (if (pin a1 1 8) = 0 then 0 else if (pin a2 1 32) = 0 then 0 else if (pin a3 a2 64) = 0 then 0 else 1)]) ?_ (fun hJ35_4 => ?_)
  · refine m_topi (fun x5 ex5 => ?_)
    have h := h x5 ex5
    refine m_istore (lv' := [(4, .int x5), (0, .ref (ad 46)), (1, .int a1), (2, .int a2), (3, .int a3)]) C dX4_begin_35 (by decide) rfl ?_
    refine m_aload_n C dX4_begin_37 rfl 1 rfl ?_
    refine m_iload C dX4_begin_38 0 rfl ?_
    refine m_join (P := 48) (wM := gW cy ad ln v ou) (lvM := [(4, .int x5), (0, .ref (ad 46)), (1, .int a1), (2, .int a2), (3, .int a3)]) (stM := [.int (if x5 = 0 then 1 else 0), .ref (ad 46)]) ?_ (fun hJ48_7 => ?_)
    · refine m_iconst (v := 0) C dX4_begin_48 (by decide) ?_
      refine m_iconst (v := 0) C dX4_begin_49 (by decide) ?_
      refine m_callV C (p_X4_refuse l D cy ad ln v ou (if x5 = 0 then 1 else 0) 0 0) (cwV 3 C.2.2.2.2.1 gX4_begin_X4_refuse rfl rfl rfl (by decide +kernel) ⟨Nat.le_of_ble_eq_true rfl, Nat.le_of_ble_eq_true rfl⟩) 46 gp_46 rfl rfl rfl (Nat.le_of_ble_eq_true rfl) dX4_begin_50 ⟨by decide, by decide⟩ (fun r w1 h1 => ?_)
      obtain ⟨v8, ev8⟩ : ∃ z : gV, z = vrf v (if x5 = 0 then 1 else 0) 0 0 := ⟨_, rfl⟩
      rw [← ev8] at h1
      obtain ⟨rfl, rfl⟩ := h1
      refine mW.eq (st' := [.int (prf (if x5 = 0 then 1 else 0) 0 0)]) rfl rfl rfl rfl ?_
      have h := h v8 ev8
      refine m_if_ne (tgt := 128) C dX4_begin_53 (by decide) (fun c9 => ?_) (fun c9 => ?_)
      · have h := h.2 c9
        exact m_vret C dX4_begin_128 (Nat.le_of_ble_eq_true rfl) (Nat.le_of_ble_eq_true rfl) ⟨_, rfl, h, rfl⟩
      · have h := h.1 c9
        refine m_aload_n C dX4_begin_56 rfl 1 rfl ?_
        refine m_iload_n C dX4_begin_57 rfl 2 rfl ?_
        obtain ⟨v10, ev10⟩ : ∃ z : gV, z = va_up v8 46 (upd (v8 46) 1 a1) := ⟨_, rfl⟩
        have h := h v10 ev10
        refine m_put (w' := gW cy ad ln v10 ou) (T := TX4) (N := 19) C hiX4_begin_X4 tyX4 tyX4_ok nmX4 46 gp_46 rfl 1 (by decide) (by decide +kernel) rfl rfl rfl (Nat.le_of_ble_eq_true rfl) dX4_begin_58 (by rw [ev10]; exact gW_set (k := 46) (by decide) rfl) ?_
        refine m_aload_n C dX4_begin_61 rfl 1 rfl ?_
        refine m_iload_n C dX4_begin_62 rfl 3 rfl ?_
        obtain ⟨v11, ev11⟩ : ∃ z : gV, z = va_up v10 46 (upd (v10 46) 2 a2) := ⟨_, rfl⟩
        have h := h v11 ev11
        refine m_put (w' := gW cy ad ln v11 ou) (T := TX4) (N := 19) C hiX4_begin_X4 tyX4 tyX4_ok nmX4 46 gp_46 rfl 2 (by decide) (by decide +kernel) rfl rfl rfl (Nat.le_of_ble_eq_true rfl) dX4_begin_63 (by rw [ev11]; exact gW_set (k := 46) (by decide) rfl) ?_
        refine m_aload_n C dX4_begin_66 rfl 1 rfl ?_
        refine m_iload_n C dX4_begin_67 rfl 4 rfl ?_
        obtain ⟨v12, ev12⟩ : ∃ z : gV, z = va_up v11 46 (upd (v11 46) 3 a3) := ⟨_, rfl⟩
        have h := h v12 ev12
        refine m_put (w' := gW cy ad ln v12 ou) (T := TX4) (N := 19) C hiX4_begin_X4 tyX4 tyX4_ok nmX4 46 gp_46 rfl 3 (by decide) (by decide +kernel) rfl rfl rfl (Nat.le_of_ble_eq_true rfl) dX4_begin_68 (by rw [ev12]; exact gW_set (k := 46) (by decide) rfl) ?_
        refine m_iconst (v := 0) C dX4_begin_71 (by decide) ?_
        refine m_istore (lv' := [(5, .int 0), (4, .int x5), (0, .ref (ad 46)), (1, .int a1), (2, .int a2), (3, .int a3)]) C dX4_begin_72 (by decide) rfl ?_
        obtain ⟨I74, ⟨n0, h0⟩, hI⟩ := h
        refine mW.sub (lv' := [(0, .ref (ad 46)), (1, .int a1), (2, .int a2), (3, .int a3), (4, .int x5), (5, .int 0)]) [2, 3, 4, 5, 1, 0] rfl ?_
        refine m_ind (σ := Int32 × gV) (fun n z => I74 n z.1 z.2) (fun z => gW cy ad ln z.2 ou) 74 (fun z => [(0, .ref (ad 46)), (1, .int a1), (2, .int a2), (3, .int a3), (4, .int x5), (5, .int z.1)]) ?_ n0 (0, v12) h0
        intro n z hi ih
        obtain ⟨x13, v14⟩ := z
        have h := hI n x13 v14 hi
        show mW _ _ _ _ _ _ _ _ _ _ _ _ _ _ _ _ (gW cy ad ln v14 ou) 74 [(0, .ref (ad 46)), (1, .int a1), (2, .int a2), (3, .int a3), (4, .int x5), (5, .int x13)] []
        refine m_iload C dX4_begin_74 5 rfl ?_
        refine m_bipush (v := 16) C dX4_begin_76 (by decide) ?_
        refine m_icmp_ge (tgt := 103) C dX4_begin_78 (by decide) (fun c15 => ?_) (fun c15 => ?_)
        · have h := h.1 c15
          refine m_iconst (v := 0) C dX4_begin_103 (by decide) ?_
          refine m_istore (lv' := [(5, .int 0), (0, .ref (ad 46)), (1, .int a1), (2, .int a2), (3, .int a3), (4, .int x5)]) C dX4_begin_104 (by decide) rfl ?_
          obtain ⟨I106, ⟨n0, h0⟩, hI⟩ := h
          refine mW.sub (lv' := [(0, .ref (ad 46)), (1, .int a1), (2, .int a2), (3, .int a3), (4, .int x5), (5, .int 0)]) [1, 2, 3, 4, 5, 0] rfl ?_
          refine m_ind (σ := Int32 × gV) (fun n z => I106 n z.1 z.2) (fun z => gW cy ad ln z.2 ou) 106 (fun z => [(0, .ref (ad 46)), (1, .int a1), (2, .int a2), (3, .int a3), (4, .int x5), (5, .int z.1)]) ?_ n0 (0, v14) h0
          intro n z hi ih
          obtain ⟨x16, v17⟩ := z
          have h := hI n x16 v17 hi
          show mW _ _ _ _ _ _ _ _ _ _ _ _ _ _ _ _ (gW cy ad ln v17 ou) 106 [(0, .ref (ad 46)), (1, .int a1), (2, .int a2), (3, .int a3), (4, .int x5), (5, .int x16)] []
          refine m_iload C dX4_begin_106 5 rfl ?_
          refine m_sipush (v := 400) C dX4_begin_108 (by decide) ?_
          refine m_icmp_ge (tgt := 128) C dX4_begin_111 (by decide) (fun c18 => ?_) (fun c18 => ?_)
          · have h := h.1 c18
            exact m_vret C dX4_begin_128 (Nat.le_of_ble_eq_true rfl) (Nat.le_of_ble_eq_true rfl) ⟨_, rfl, h, rfl⟩
          · have h := h.2 c18
            refine m_aload_n C dX4_begin_114 rfl 0 rfl ?_
            refine m_get (T := TX4) (N := 19) C hiX4_begin_X4 46 gp_46 rfl 16 (by decide) (by decide +kernel) rfl dX4_begin_115 ?_
            refine m_iload C dX4_begin_118 5 rfl ?_
            refine m_iconst (v := 0) C dX4_begin_120 (by decide) ?_
            obtain ⟨b19, h⟩ := h
            obtain ⟨v20, ev20⟩ : ∃ z : gV, z = va_up v17 56 (upd (v17 56) x16.toNatClampNeg 0) := ⟨_, rfl⟩
            have h := h v20 ev20
            refine m_iast (w' := gW cy ad ln v20 ou) C 56 (gp_I (by decide)) b19 dX4_begin_121 (by rw [ev20]; exact gs_I (by decide)) ?_
            refine m_iinc (lv' := [(5, .int (x16 + 1)), (0, .ref (ad 46)), (1, .int a1), (2, .int a2), (3, .int a3), (4, .int x5)]) C dX4_begin_122 (k := 5) rfl rfl (by decide) rfl ?_
            refine m_goto (tgt := 106) C dX4_begin_125 (by decide) ?_
            obtain ⟨n21, hn, h⟩ := h
            exact mW.sub [1, 2, 3, 4, 5, 0] rfl (ih n21 ((x16 + 1), v20) hn h)
        · have h := h.2 c15
          refine m_aload_n C dX4_begin_81 rfl 0 rfl ?_
          refine m_get (T := TX4) (N := 19) C hiX4_begin_X4 46 gp_46 rfl 12 (by decide) (by decide +kernel) rfl dX4_begin_82 ?_
          refine m_iload C dX4_begin_85 5 rfl ?_
          refine m_iconst (v := 0) C dX4_begin_87 (by decide) ?_
          obtain ⟨b22, h⟩ := h
          obtain ⟨v23, ev23⟩ : ∃ z : gV, z = va_up v14 52 (upd (v14 52) x13.toNatClampNeg 0) := ⟨_, rfl⟩
          have h := h v23 ev23
          refine m_iast (w' := gW cy ad ln v23 ou) C 52 (gp_I (by decide)) b22 dX4_begin_88 (by rw [ev23]; exact gs_I (by decide)) ?_
          refine m_aload_n C dX4_begin_89 rfl 0 rfl ?_
          refine m_get (T := TX4) (N := 19) C hiX4_begin_X4 46 gp_46 rfl 14 (by decide) (by decide +kernel) rfl dX4_begin_90 ?_
          refine m_iload C dX4_begin_93 5 rfl ?_
          refine m_iconst (v := 0) C dX4_begin_95 (by decide) ?_
          obtain ⟨b24, h⟩ := h
          obtain ⟨v25, ev25⟩ : ∃ z : gV, z = va_up v23 54 (upd (v23 54) x13.toNatClampNeg 0) := ⟨_, rfl⟩
          have h := h v25 ev25
          refine m_iast (w' := gW cy ad ln v25 ou) C 54 (gp_I (by decide)) b24 dX4_begin_96 (by rw [ev25]; exact gs_I (by decide)) ?_
          refine m_iinc (lv' := [(5, .int (x13 + 1)), (0, .ref (ad 46)), (1, .int a1), (2, .int a2), (3, .int a3), (4, .int x5)]) C dX4_begin_97 (k := 5) rfl rfl (by decide) rfl ?_
          refine m_goto (tgt := 74) C dX4_begin_100 (by decide) ?_
          obtain ⟨n26, hn, h⟩ := h
          exact mW.sub [1, 2, 3, 4, 5, 0] rfl (ih n26 ((x13 + 1), v25) hn h)
    · refine m_if_ne (tgt := 47) C dX4_begin_40 (by decide) (fun c6 => ?_) (fun c6 => ?_)
      · refine m_iconst (v := 0) C dX4_begin_47 (by decide) ?_
        refine mW.sub (lv' := [(4, .int x5), (0, .ref (ad 46)), (1, .int a1), (2, .int a2), (3, .int a3)]) [0, 1, 2, 3, 4] rfl ?_
        exact mW.eq rfl rfl (by simp only [if_neg c6]) rfl hJ48_7
      · refine m_iconst (v := 1) C dX4_begin_43 (by decide) ?_
        refine m_goto (tgt := 48) C dX4_begin_44 (by decide) ?_
        refine mW.sub (lv' := [(4, .int x5), (0, .ref (ad 46)), (1, .int a1), (2, .int a2), (3, .int a3)]) [0, 1, 2, 3, 4] rfl ?_
        exact mW.eq rfl rfl (by simp only [if_pos c6]) rfl hJ48_7
  · refine m_if_eq (tgt := 34) C dX4_begin_7 (by decide) (fun c1 => ?_) (fun c1 => ?_)
    · refine m_iconst (v := 0) C dX4_begin_34 (by decide) ?_
      refine mW.sub (lv' := [(0, .ref (ad 46)), (1, .int a1), (2, .int a2), (3, .int a3)]) [0, 1, 2, 3] rfl ?_
      exact mW.eq rfl rfl (by simp only [if_pos c1]) rfl hJ35_4
    · refine m_iload_n C dX4_begin_10 rfl 2 rfl ?_
      refine m_iconst (v := 1) C dX4_begin_11 (by decide) ?_
      refine m_bipush (v := 32) C dX4_begin_12 (by decide) ?_
      refine m_callS C (p_X4_in l D cy ad ln v ou a2 1 32) (va_cwS 3 C.2.2.2.2.1 gX4_begin_X4_in rfl rfl rfl (by decide +kernel) ⟨Nat.le_of_ble_eq_true rfl, Nat.le_of_ble_eq_true rfl⟩) rfl rfl (Nat.le_of_ble_eq_true rfl) dX4_begin_14 ⟨by decide, by decide⟩ (fun r w1 h1 => ?_)
      obtain ⟨rfl, rfl⟩ := h1
      refine mW.eq (st' := [.int (pin a2 1 32)]) rfl rfl rfl rfl ?_
      refine m_if_eq (tgt := 34) C dX4_begin_17 (by decide) (fun c2 => ?_) (fun c2 => ?_)
      · refine m_iconst (v := 0) C dX4_begin_34 (by decide) ?_
        refine mW.sub (lv' := [(0, .ref (ad 46)), (1, .int a1), (2, .int a2), (3, .int a3)]) [0, 1, 2, 3] rfl ?_
        exact mW.eq rfl rfl (by simp only [if_neg c1, if_pos c2]) rfl hJ35_4
      · refine m_iload_n C dX4_begin_20 rfl 3 rfl ?_
        refine m_iload_n C dX4_begin_21 rfl 2 rfl ?_
        refine m_bipush (v := 64) C dX4_begin_22 (by decide) ?_
        refine m_callS C (p_X4_in l D cy ad ln v ou a3 a2 64) (va_cwS 3 C.2.2.2.2.1 gX4_begin_X4_in rfl rfl rfl (by decide +kernel) ⟨Nat.le_of_ble_eq_true rfl, Nat.le_of_ble_eq_true rfl⟩) rfl rfl (Nat.le_of_ble_eq_true rfl) dX4_begin_24 ⟨by decide, by decide⟩ (fun r w1 h1 => ?_)
        obtain ⟨rfl, rfl⟩ := h1
        refine mW.eq (st' := [.int (pin a3 a2 64)]) rfl rfl rfl rfl ?_
        refine m_if_eq (tgt := 34) C dX4_begin_27 (by decide) (fun c3 => ?_) (fun c3 => ?_)
        · refine m_iconst (v := 0) C dX4_begin_34 (by decide) ?_
          refine mW.sub (lv' := [(0, .ref (ad 46)), (1, .int a1), (2, .int a2), (3, .int a3)]) [0, 1, 2, 3] rfl ?_
          exact mW.eq rfl rfl (by simp only [if_neg c1, if_neg c2, if_pos c3]) rfl hJ35_4
        · refine m_iconst (v := 1) C dX4_begin_30 (by decide) ?_
          refine m_goto (tgt := 35) C dX4_begin_31 (by decide) ?_
          refine mW.sub (lv' := [(0, .ref (ad 46)), (1, .int a1), (2, .int a2), (3, .int a3)]) [0, 1, 2, 3] rfl ?_
          exact mW.eq rfl rfl (by simp only [if_neg c1, if_neg c2, if_neg c3]) rfl hJ35_4
theorem hiX4_put_X4 : ∀ w ∈ wsX40, w ∈ wsX4_put := by decide +kernel
def wp_X4_put (ln : Nat → Nat) (v : gV) (a1 : Int32) (a2 : Int32) (post : Int32 → gV → Prop) : Prop :=
  ((∀ v6 : gV, v6 = vrf v (if (pin a1 1 4) = 0 then 1 else 0) (if (pin a1 1 4) = 0 then 0 else if ((v 46 4) + a1) ≤ 1500 then 0 else 1) 0 → ((((prf (if (pin a1 1 4) = 0 then 1 else 0) (if (pin a1 1 4) = 0 then 0 else if ((v 46 4) + a1) ≤ 1500 then 0 else 1) 0) = 0) → (∃ I50 : Nat → Int32 → gV → Prop, (∃ n, I50 n 0 v6) ∧ ∀ (n : Nat) (x8 : Int32) (v9 : gV), I50 n x8 v9 → (((a1 ≤ x8) → (post (v9 46 4) v9)) ∧ (¬ (a1 ≤ x8) → (vp_in (v9 46 4) (ln 47) ∧ ∀ v12 : gV, v12 = va_up v9 47 (upd (v9 47) (v9 46 4).toNatClampNeg ((a2 >>> ((8 * x8) &&& 31)) &&& 255)) → (∀ v13 : gV, v13 = va_up v12 46 (upd (v12 46) 4 ((v12 46 4) + 1)) → (∃ n', n' < n ∧ I50 n' (x8 + 1) v13))))))) ∧ (¬ ((prf (if (pin a1 1 4) = 0 then 1 else 0) (if (pin a1 1 4) = 0 then 0 else if ((v 46 4) + a1) ≤ 1500 then 0 else 1) 0) = 0) → (post 0 v6)))))
set_option maxHeartbeats 4000000 in
set_option maxRecDepth 100000 in
theorem s_X4_put (l : Launch) (D : va_G) (cy : Nat → ClassId) (ad ln : Nat → Nat) (v : gV) (ou : Nat → Int64) (a1 : Int32) (a2 : Int32) {post : Int32 → gV → Prop} (h : wp_X4_put ln v a1 a2 post) : mM l D cy yX4_put wsX4_put 2 0 0 [.ref (ad 46), .int a1, .int a2] (gW cy ad ln v ou) (fun r w1 => ∃ (x1 : Int32) (v1 : gV), r = some (.int x1) ∧ post x1 v1 ∧ w1 = gW cy ad ln v1 ou) := by
  unfold wp_X4_put at h
  refine mM.of (cc := cX4_put) (nL := 5) (ret0 := (some .int)) (by decide +kernel) rfl (Nat.le_of_ble_eq_true rfl) ?_
  intro p e s m args below meth c A C hini
  refine mW.sub (lv' := [(0, .ref (ad 46)), (1, .int a1), (2, .int a2)]) [0, 1, 2] rfl ?_
  refine m_iload_n C dX4_put_0 rfl 1 rfl ?_
  refine m_iconst (v := 1) C dX4_put_1 (by decide) ?_
  refine m_iconst (v := 4) C dX4_put_2 (by decide) ?_
  refine m_callS C (p_X4_in l D cy ad ln v ou a1 1 4) (va_cwS 3 C.2.2.2.2.1 gX4_put_X4_in rfl rfl rfl (by decide +kernel) ⟨Nat.le_of_ble_eq_true rfl, Nat.le_of_ble_eq_true rfl⟩) rfl rfl (Nat.le_of_ble_eq_true rfl) dX4_put_3 ⟨by decide, by decide⟩ (fun r w1 h1 => ?_)
  obtain ⟨rfl, rfl⟩ := h1
  refine mW.eq (st' := [.int (pin a1 1 4)]) rfl rfl rfl rfl ?_
  refine m_istore_n (lv' := [(3, .int (pin a1 1 4)), (0, .ref (ad 46)), (1, .int a1), (2, .int a2)]) C dX4_put_6 rfl (by decide) rfl ?_
  refine m_aload_n C dX4_put_7 rfl 1 rfl ?_
  refine m_iload_n C dX4_put_8 rfl 0 rfl ?_
  refine m_join (P := 17) (wM := gW cy ad ln v ou) (lvM := [(3, .int (pin a1 1 4)), (0, .ref (ad 46)), (1, .int a1), (2, .int a2)]) (stM := [.int (if (pin a1 1 4) = 0 then 1 else 0), .ref (ad 46)]) ?_ (fun hJ17_2 => ?_)
  · refine m_iload_n C dX4_put_17 rfl 0 rfl ?_
    refine m_join (P := 38) (wM := gW cy ad ln v ou) (lvM := [(3, .int (pin a1 1 4)), (0, .ref (ad 46)), (1, .int a1), (2, .int a2)]) (stM := [.int (if (pin a1 1 4) = 0 then 0 else if ((v 46 4) + a1) ≤ 1500 then 0 else 1), .int (if (pin a1 1 4) = 0 then 1 else 0), .ref (ad 46)]) ?_ (fun hJ38_5 => ?_)
    · refine m_iconst (v := 0) C dX4_put_38 (by decide) ?_
      refine m_callV C (p_X4_refuse l D cy ad ln v ou (if (pin a1 1 4) = 0 then 1 else 0) (if (pin a1 1 4) = 0 then 0 else if ((v 46 4) + a1) ≤ 1500 then 0 else 1) 0) (cwV 3 C.2.2.2.2.1 gX4_put_X4_refuse rfl rfl rfl (by decide +kernel) ⟨Nat.le_of_ble_eq_true rfl, Nat.le_of_ble_eq_true rfl⟩) 46 gp_46 rfl rfl rfl (Nat.le_of_ble_eq_true rfl) dX4_put_39 ⟨by decide, by decide⟩ (fun r w1 h1 => ?_)
      obtain ⟨v6, ev6⟩ : ∃ z : gV, z = vrf v (if (pin a1 1 4) = 0 then 1 else 0) (if (pin a1 1 4) = 0 then 0 else if ((v 46 4) + a1) ≤ 1500 then 0 else 1) 0 := ⟨_, rfl⟩
      rw [← ev6] at h1
      obtain ⟨rfl, rfl⟩ := h1
      refine mW.eq (st' := [.int (prf (if (pin a1 1 4) = 0 then 1 else 0) (if (pin a1 1 4) = 0 then 0 else if ((v 46 4) + a1) ≤ 1500 then 0 else 1) 0)]) rfl rfl rfl rfl ?_
      have h := h v6 ev6
      refine m_if_eq (tgt := 47) C dX4_put_42 (by decide) (fun c7 => ?_) (fun c7 => ?_)
      · have h := h.1 c7
        refine m_iconst (v := 0) C dX4_put_47 (by decide) ?_
        refine m_istore (lv' := [(4, .int 0), (3, .int (pin a1 1 4)), (0, .ref (ad 46)), (1, .int a1), (2, .int a2)]) C dX4_put_48 (by decide) rfl ?_
        obtain ⟨I50, ⟨n0, h0⟩, hI⟩ := h
        refine mW.sub (lv' := [(0, .ref (ad 46)), (1, .int a1), (2, .int a2), (3, .int (pin a1 1 4)), (4, .int 0)]) [2, 3, 4, 1, 0] rfl ?_
        refine m_ind (σ := Int32 × gV) (fun n z => I50 n z.1 z.2) (fun z => gW cy ad ln z.2 ou) 50 (fun z => [(0, .ref (ad 46)), (1, .int a1), (2, .int a2), (3, .int (pin a1 1 4)), (4, .int z.1)]) ?_ n0 (0, v6) h0
        intro n z hi ih
        obtain ⟨x8, v9⟩ := z
        have h := hI n x8 v9 hi
        show mW _ _ _ _ _ _ _ _ _ _ _ _ _ _ _ _ (gW cy ad ln v9 ou) 50 [(0, .ref (ad 46)), (1, .int a1), (2, .int a2), (3, .int (pin a1 1 4)), (4, .int x8)] []
        refine m_iload C dX4_put_50 4 rfl ?_
        refine m_iload_n C dX4_put_52 rfl 1 rfl ?_
        refine m_icmp_ge (tgt := 92) C dX4_put_53 (by decide) (fun c10 => ?_) (fun c10 => ?_)
        · have h := h.1 c10
          refine m_aload_n C dX4_put_92 rfl 0 rfl ?_
          refine m_get (T := TX4) (N := 19) C hiX4_put_X4 46 gp_46 rfl 4 (by decide) (by decide +kernel) rfl dX4_put_93 ?_
          exact m_iret C dX4_put_96 (Nat.le_of_ble_eq_true rfl) (Nat.le_of_ble_eq_true rfl) ⟨_, _, rfl, h, rfl⟩
        · have h := h.2 c10
          refine m_aload_n C dX4_put_56 rfl 0 rfl ?_
          refine m_get (T := TX4) (N := 19) C hiX4_put_X4 46 gp_46 rfl 5 (by decide) (by decide +kernel) rfl dX4_put_57 ?_
          refine m_aload_n C dX4_put_60 rfl 0 rfl ?_
          refine m_get (T := TX4) (N := 19) C hiX4_put_X4 46 gp_46 rfl 4 (by decide) (by decide +kernel) rfl dX4_put_61 ?_
          refine m_iload_n C dX4_put_64 rfl 2 rfl ?_
          refine m_bipush (v := 8) C dX4_put_65 (by decide) ?_
          refine m_iload C dX4_put_67 4 rfl ?_
          refine m_imul C dX4_put_69 ?_
          refine m_ishr C dX4_put_70 ?_
          refine m_sipush (v := 255) C dX4_put_71 (by decide) ?_
          refine m_iand C dX4_put_74 ?_
          obtain ⟨b11, h⟩ := h
          obtain ⟨v12, ev12⟩ : ∃ z : gV, z = va_up v9 47 (upd (v9 47) (v9 46 4).toNatClampNeg ((a2 >>> ((8 * x8) &&& 31)) &&& 255)) := ⟨_, rfl⟩
          have h := h v12 ev12
          refine m_iast (w' := gW cy ad ln v12 ou) C 47 (gp_I (by decide)) b11 dX4_put_75 (by rw [ev12]; exact gs_I (by decide)) ?_
          refine m_aload_n C dX4_put_76 rfl 0 rfl ?_
          refine m_dup C dX4_put_77 rfl ?_
          refine m_get (T := TX4) (N := 19) C hiX4_put_X4 46 gp_46 rfl 4 (by decide) (by decide +kernel) rfl dX4_put_78 ?_
          refine m_iconst (v := 1) C dX4_put_81 (by decide) ?_
          refine m_iadd C dX4_put_82 ?_
          obtain ⟨v13, ev13⟩ : ∃ z : gV, z = va_up v12 46 (upd (v12 46) 4 ((v12 46 4) + 1)) := ⟨_, rfl⟩
          have h := h v13 ev13
          refine m_put (w' := gW cy ad ln v13 ou) (T := TX4) (N := 19) C hiX4_put_X4 tyX4 tyX4_ok nmX4 46 gp_46 rfl 4 (by decide) (by decide +kernel) rfl rfl rfl (Nat.le_of_ble_eq_true rfl) dX4_put_83 (by rw [ev13]; exact gW_set (k := 46) (by decide) rfl) ?_
          refine m_iinc (lv' := [(4, .int (x8 + 1)), (0, .ref (ad 46)), (1, .int a1), (2, .int a2), (3, .int (pin a1 1 4))]) C dX4_put_86 (k := 4) rfl rfl (by decide) rfl ?_
          refine m_goto (tgt := 50) C dX4_put_89 (by decide) ?_
          obtain ⟨n14, hn, h⟩ := h
          exact mW.sub [1, 2, 3, 4, 0] rfl (ih n14 ((x8 + 1), v13) hn h)
      · have h := h.2 c7
        refine m_iconst (v := 0) C dX4_put_45 (by decide) ?_
        exact m_iret C dX4_put_46 (Nat.le_of_ble_eq_true rfl) (Nat.le_of_ble_eq_true rfl) ⟨_, _, rfl, h, rfl⟩
    · refine m_if_eq (tgt := 37) C dX4_put_18 (by decide) (fun c3 => ?_) (fun c3 => ?_)
      · refine m_iconst (v := 0) C dX4_put_37 (by decide) ?_
        refine mW.sub (lv' := [(3, .int (pin a1 1 4)), (0, .ref (ad 46)), (1, .int a1), (2, .int a2)]) [0, 1, 2, 3] rfl ?_
        exact mW.eq rfl rfl (by simp only [if_pos c3]) rfl hJ38_5
      · refine m_aload_n C dX4_put_21 rfl 1 rfl ?_
        refine m_get (T := TX4) (N := 19) C hiX4_put_X4 46 gp_46 rfl 4 (by decide) (by decide +kernel) rfl dX4_put_22 ?_
        refine m_iload_n C dX4_put_25 rfl 2 rfl ?_
        refine m_iadd C dX4_put_26 ?_
        refine m_sipush (v := 1500) C dX4_put_27 (by decide) ?_
        refine m_icmp_le (tgt := 37) C dX4_put_30 (by decide) (fun c4 => ?_) (fun c4 => ?_)
        · refine m_iconst (v := 0) C dX4_put_37 (by decide) ?_
          refine mW.sub (lv' := [(3, .int (pin a1 1 4)), (0, .ref (ad 46)), (1, .int a1), (2, .int a2)]) [0, 1, 2, 3] rfl ?_
          exact mW.eq rfl rfl (by simp only [if_neg c3, if_pos c4]) rfl hJ38_5
        · refine m_iconst (v := 1) C dX4_put_33 (by decide) ?_
          refine m_goto (tgt := 38) C dX4_put_34 (by decide) ?_
          refine mW.sub (lv' := [(3, .int (pin a1 1 4)), (0, .ref (ad 46)), (1, .int a1), (2, .int a2)]) [0, 1, 2, 3] rfl ?_
          exact mW.eq rfl rfl (by simp only [if_neg c3, if_neg c4]) rfl hJ38_5
  · refine m_if_ne (tgt := 16) C dX4_put_9 (by decide) (fun c1 => ?_) (fun c1 => ?_)
    · refine m_iconst (v := 0) C dX4_put_16 (by decide) ?_
      refine mW.sub (lv' := [(3, .int (pin a1 1 4)), (0, .ref (ad 46)), (1, .int a1), (2, .int a2)]) [0, 1, 2, 3] rfl ?_
      exact mW.eq rfl rfl (by simp only [if_neg c1]) rfl hJ17_2
    · refine m_iconst (v := 1) C dX4_put_12 (by decide) ?_
      refine m_goto (tgt := 17) C dX4_put_13 (by decide) ?_
      refine mW.sub (lv' := [(3, .int (pin a1 1 4)), (0, .ref (ad 46)), (1, .int a1), (2, .int a2)]) [0, 1, 2, 3] rfl ?_
      exact mW.eq rfl rfl (by simp only [if_pos c1]) rfl hJ17_2
theorem hiX4_size_X4 : ∀ w ∈ wsX40, w ∈ wsX4_size := by decide +kernel
def wp_X4_size (ln : Nat → Nat) (v : gV) (a1 : Int32) (post : Int32 → gV → Prop) : Prop :=
  (∀ v3 : gV, v3 = vrf v (if (pin a1 0 15) = 0 then 1 else 0) 0 0 → ((((prf (if (pin a1 0 15) = 0 then 1 else 0) 0 0) = 0) → vp_in a1 (ln 52)) ∧ (post (if (prf (if (pin a1 0 15) = 0 then 1 else 0) 0 0) = 0 then v3 52 a1.toNatClampNeg else 0) v3)))
set_option maxHeartbeats 4000000 in
set_option maxRecDepth 100000 in
theorem s_X4_size (l : Launch) (D : va_G) (cy : Nat → ClassId) (ad ln : Nat → Nat) (v : gV) (ou : Nat → Int64) (a1 : Int32) {post : Int32 → gV → Prop} (h : wp_X4_size ln v a1 post) : mM l D cy yX4_size wsX4_size 3 0 0 [.ref (ad 46), .int a1] (gW cy ad ln v ou) (fun r w1 => ∃ (x1 : Int32) (v1 : gV), r = some (.int x1) ∧ post x1 v1 ∧ w1 = gW cy ad ln v1 ou) := by
  unfold wp_X4_size at h
  refine mM.of (cc := cX4_size) (nL := 2) (ret0 := (some .int)) (by decide +kernel) rfl (Nat.le_of_ble_eq_true rfl) ?_
  intro p e s m args below meth c A C hini
  refine mW.sub (lv' := [(0, .ref (ad 46)), (1, .int a1)]) [0, 1] rfl ?_
  refine m_aload_n C dX4_size_0 rfl 0 rfl ?_
  refine m_iload_n C dX4_size_1 rfl 1 rfl ?_
  refine m_callS C (p_X4_isFile l D cy ad ln v ou a1) (va_cwS 1 C.2.2.2.2.1 gX4_size_X4_isFile rfl rfl rfl (by decide +kernel) ⟨Nat.le_of_ble_eq_true rfl, Nat.le_of_ble_eq_true rfl⟩) rfl rfl (Nat.le_of_ble_eq_true rfl) dX4_size_2 ⟨by decide, by decide⟩ (fun r w1 h1 => ?_)
  obtain ⟨rfl, rfl⟩ := h1
  refine mW.eq (st' := [.int (pin a1 0 15), .ref (ad 46)]) rfl rfl rfl rfl ?_
  refine m_join (P := 13) (wM := gW cy ad ln v ou) (lvM := [(0, .ref (ad 46)), (1, .int a1)]) (stM := [.int (if (pin a1 0 15) = 0 then 1 else 0), .ref (ad 46)]) ?_ (fun hJ13_2 => ?_)
  · refine m_iconst (v := 0) C dX4_size_13 (by decide) ?_
    refine m_iconst (v := 0) C dX4_size_14 (by decide) ?_
    refine m_callV C (p_X4_refuse l D cy ad ln v ou (if (pin a1 0 15) = 0 then 1 else 0) 0 0) (cwV 3 C.2.2.2.2.1 gX4_size_X4_refuse rfl rfl rfl (by decide +kernel) ⟨Nat.le_of_ble_eq_true rfl, Nat.le_of_ble_eq_true rfl⟩) 46 gp_46 rfl rfl rfl (Nat.le_of_ble_eq_true rfl) dX4_size_15 ⟨by decide, by decide⟩ (fun r w1 h1 => ?_)
    obtain ⟨v3, ev3⟩ : ∃ z : gV, z = vrf v (if (pin a1 0 15) = 0 then 1 else 0) 0 0 := ⟨_, rfl⟩
    rw [← ev3] at h1
    obtain ⟨rfl, rfl⟩ := h1
    refine mW.eq (st' := [.int (prf (if (pin a1 0 15) = 0 then 1 else 0) 0 0)]) rfl rfl rfl rfl ?_
    have h := h v3 ev3
    obtain ⟨b5, h⟩ := h
    refine m_join (P := 31) (wM := gW cy ad ln v3 ou) (lvM := [(0, .ref (ad 46)), (1, .int a1)]) (stM := [.int (if (prf (if (pin a1 0 15) = 0 then 1 else 0) 0 0) = 0 then v3 52 a1.toNatClampNeg else 0)]) ?_ (fun hJ31_6 => ?_)
    · exact m_iret C dX4_size_31 (Nat.le_of_ble_eq_true rfl) (Nat.le_of_ble_eq_true rfl) ⟨_, _, rfl, h, rfl⟩
    · refine m_if_eq (tgt := 25) C dX4_size_18 (by decide) (fun c4 => ?_) (fun c4 => ?_)
      · refine m_aload_n C dX4_size_25 rfl 0 rfl ?_
        refine m_get (T := TX4) (N := 19) C hiX4_size_X4 46 gp_46 rfl 12 (by decide) (by decide +kernel) rfl dX4_size_26 ?_
        refine m_iload_n C dX4_size_29 rfl 1 rfl ?_
        refine m_iald C 52 (gp_I (by decide)) (b5 c4) dX4_size_30 ?_
        refine mW.sub (lv' := [(0, .ref (ad 46)), (1, .int a1)]) [0, 1] rfl ?_
        exact mW.eq rfl rfl (by simp only [if_pos c4]) rfl hJ31_6
      · refine m_iconst (v := 0) C dX4_size_21 (by decide) ?_
        refine m_goto (tgt := 31) C dX4_size_22 (by decide) ?_
        refine mW.sub (lv' := [(0, .ref (ad 46)), (1, .int a1)]) [0, 1] rfl ?_
        exact mW.eq rfl rfl (by simp only [if_neg c4]) rfl hJ31_6
  · refine m_if_ne (tgt := 12) C dX4_size_5 (by decide) (fun c1 => ?_) (fun c1 => ?_)
    · refine m_iconst (v := 0) C dX4_size_12 (by decide) ?_
      refine mW.sub (lv' := [(0, .ref (ad 46)), (1, .int a1)]) [0, 1] rfl ?_
      exact mW.eq rfl rfl (by simp only [if_neg c1]) rfl hJ13_2
    · refine m_iconst (v := 1) C dX4_size_8 (by decide) ?_
      refine m_goto (tgt := 13) C dX4_size_9 (by decide) ?_
      refine mW.sub (lv' := [(0, .ref (ad 46)), (1, .int a1)]) [0, 1] rfl ?_
      exact mW.eq rfl rfl (by simp only [if_pos c1]) rfl hJ13_2
theorem hiX4_get_X4 : ∀ w ∈ wsX40, w ∈ wsX4_get := by decide +kernel
def wp_X4_get (ln : Nat → Nat) (v : gV) (a1 : Int32) (a2 : Int32) (post : Int32 → gV → Prop) : Prop :=
  ((¬ ((pin a1 0 15) = 0)) → ((pin a1 0 15) = 0) → vp_in 0 (ln 52)) ∧ ((¬ ((pin a1 0 15) = 0)) → (¬ ((pin a1 0 15) = 0)) → vp_in a1 (ln 52)) ∧ (∀ x8 : Int32, x8 = (if (pin a1 0 15) = 0 then 0 else if (pin a1 0 15) = 0 then if (pin a2 0 ((v 52 (0 : Int32).toNatClampNeg) - 1)) = 0 then 0 else 1 else if (pin a2 0 ((v 52 a1.toNatClampNeg) - 1)) = 0 then 0 else 1) → ((∀ v11 : gV, v11 = vrf v (if x8 = 0 then 1 else 0) 0 0 → ((((prf (if x8 = 0 then 1 else 0) 0 0) = 0) → vp_in ((1500 * a1) + a2) (ln 53)) ∧ (post (if (prf (if x8 = 0 then 1 else 0) 0 0) = 0 then v11 53 ((1500 * a1) + a2).toNatClampNeg else 0) v11)))))
set_option maxHeartbeats 4000000 in
set_option maxRecDepth 100000 in
theorem s_X4_get (l : Launch) (D : va_G) (cy : Nat → ClassId) (ad ln : Nat → Nat) (v : gV) (ou : Nat → Int64) (a1 : Int32) (a2 : Int32) {post : Int32 → gV → Prop} (h : wp_X4_get ln v a1 a2 post) : mM l D cy yX4_get wsX4_get 3 0 0 [.ref (ad 46), .int a1, .int a2] (gW cy ad ln v ou) (fun r w1 => ∃ (x1 : Int32) (v1 : gV), r = some (.int x1) ∧ post x1 v1 ∧ w1 = gW cy ad ln v1 ou) := by
  unfold wp_X4_get at h
  refine mM.of (cc := cX4_get) (nL := 4) (ret0 := (some .int)) (by decide +kernel) rfl (Nat.le_of_ble_eq_true rfl) ?_
  intro p e s m args below meth c A C hini
  refine mW.sub (lv' := [(0, .ref (ad 46)), (1, .int a1), (2, .int a2)]) [0, 1, 2] rfl ?_
  refine m_iload_n C dX4_get_0 rfl 1 rfl ?_
  refine m_callS C (p_X4_isFile l D cy ad ln v ou a1) (va_cwS 1 C.2.2.2.2.1 gX4_get_X4_isFile rfl rfl rfl (by decide +kernel) ⟨Nat.le_of_ble_eq_true rfl, Nat.le_of_ble_eq_true rfl⟩) rfl rfl (Nat.le_of_ble_eq_true rfl) dX4_get_1 ⟨by decide, by decide⟩ (fun r w1 h1 => ?_)
  obtain ⟨rfl, rfl⟩ := h1
  refine mW.eq (st' := [.int (pin a1 0 15)]) rfl rfl rfl rfl ?_
  obtain ⟨b3, h⟩ := h
  obtain ⟨b5, h⟩ := h
  refine m_join (P := 39) (wM := gW cy ad ln v ou) (lvM := [(0, .ref (ad 46)), (1, .int a1), (2, .int a2)]) (stM := [.int (if (pin a1 0 15) = 0 then 0 else if (pin a1 0 15) = 0 then if (pin a2 0 ((v 52 (0 : Int32).toNatClampNeg) - 1)) = 0 then 0 else 1 else if (pin a2 0 ((v 52 a1.toNatClampNeg) - 1)) = 0 then 0 else 1)]) ?_ (fun hJ39_7 => ?_)
  · refine m_topi (fun x8 ex8 => ?_)
    have h := h x8 ex8
    refine m_istore_n (lv' := [(3, .int x8), (0, .ref (ad 46)), (1, .int a1), (2, .int a2)]) C dX4_get_39 rfl (by decide) rfl ?_
    refine m_aload_n C dX4_get_40 rfl 1 rfl ?_
    refine m_iload_n C dX4_get_41 rfl 0 rfl ?_
    refine m_join (P := 50) (wM := gW cy ad ln v ou) (lvM := [(3, .int x8), (0, .ref (ad 46)), (1, .int a1), (2, .int a2)]) (stM := [.int (if x8 = 0 then 1 else 0), .ref (ad 46)]) ?_ (fun hJ50_10 => ?_)
    · refine m_iconst (v := 0) C dX4_get_50 (by decide) ?_
      refine m_iconst (v := 0) C dX4_get_51 (by decide) ?_
      refine m_callV C (p_X4_refuse l D cy ad ln v ou (if x8 = 0 then 1 else 0) 0 0) (cwV 3 C.2.2.2.2.1 gX4_get_X4_refuse rfl rfl rfl (by decide +kernel) ⟨Nat.le_of_ble_eq_true rfl, Nat.le_of_ble_eq_true rfl⟩) 46 gp_46 rfl rfl rfl (Nat.le_of_ble_eq_true rfl) dX4_get_52 ⟨by decide, by decide⟩ (fun r w1 h1 => ?_)
      obtain ⟨v11, ev11⟩ : ∃ z : gV, z = vrf v (if x8 = 0 then 1 else 0) 0 0 := ⟨_, rfl⟩
      rw [← ev11] at h1
      obtain ⟨rfl, rfl⟩ := h1
      refine mW.eq (st' := [.int (prf (if x8 = 0 then 1 else 0) 0 0)]) rfl rfl rfl rfl ?_
      have h := h v11 ev11
      obtain ⟨b13, h⟩ := h
      refine m_join (P := 74) (wM := gW cy ad ln v11 ou) (lvM := [(3, .int x8), (0, .ref (ad 46)), (1, .int a1), (2, .int a2)]) (stM := [.int (if (prf (if x8 = 0 then 1 else 0) 0 0) = 0 then v11 53 ((1500 * a1) + a2).toNatClampNeg else 0)]) ?_ (fun hJ74_14 => ?_)
      · exact m_iret C dX4_get_74 (Nat.le_of_ble_eq_true rfl) (Nat.le_of_ble_eq_true rfl) ⟨_, _, rfl, h, rfl⟩
      · refine m_if_eq (tgt := 62) C dX4_get_55 (by decide) (fun c12 => ?_) (fun c12 => ?_)
        · refine m_aload_n C dX4_get_62 rfl 1 rfl ?_
          refine m_get (T := TX4) (N := 19) C hiX4_get_X4 46 gp_46 rfl 13 (by decide) (by decide +kernel) rfl dX4_get_63 ?_
          refine m_sipush (v := 1500) C dX4_get_66 (by decide) ?_
          refine m_iload_n C dX4_get_69 rfl 2 rfl ?_
          refine m_imul C dX4_get_70 ?_
          refine m_iload_n C dX4_get_71 rfl 3 rfl ?_
          refine m_iadd C dX4_get_72 ?_
          refine m_iald C 53 (gp_I (by decide)) (b13 c12) dX4_get_73 ?_
          refine mW.sub (lv' := [(3, .int x8), (0, .ref (ad 46)), (1, .int a1), (2, .int a2)]) [0, 1, 2, 3] rfl ?_
          exact mW.eq rfl rfl (by simp only [if_pos c12]) rfl hJ74_14
        · refine m_iconst (v := 0) C dX4_get_58 (by decide) ?_
          refine m_goto (tgt := 74) C dX4_get_59 (by decide) ?_
          refine mW.sub (lv' := [(3, .int x8), (0, .ref (ad 46)), (1, .int a1), (2, .int a2)]) [0, 1, 2, 3] rfl ?_
          exact mW.eq rfl rfl (by simp only [if_neg c12]) rfl hJ74_14
    · refine m_if_ne (tgt := 49) C dX4_get_42 (by decide) (fun c9 => ?_) (fun c9 => ?_)
      · refine m_iconst (v := 0) C dX4_get_49 (by decide) ?_
        refine mW.sub (lv' := [(3, .int x8), (0, .ref (ad 46)), (1, .int a1), (2, .int a2)]) [0, 1, 2, 3] rfl ?_
        exact mW.eq rfl rfl (by simp only [if_neg c9]) rfl hJ50_10
      · refine m_iconst (v := 1) C dX4_get_45 (by decide) ?_
        refine m_goto (tgt := 50) C dX4_get_46 (by decide) ?_
        refine mW.sub (lv' := [(3, .int x8), (0, .ref (ad 46)), (1, .int a1), (2, .int a2)]) [0, 1, 2, 3] rfl ?_
        exact mW.eq rfl rfl (by simp only [if_pos c9]) rfl hJ50_10
  · refine m_if_eq (tgt := 38) C dX4_get_4 (by decide) (fun c1 => ?_) (fun c1 => ?_)
    · refine m_iconst (v := 0) C dX4_get_38 (by decide) ?_
      refine mW.sub (lv' := [(0, .ref (ad 46)), (1, .int a1), (2, .int a2)]) [0, 1, 2] rfl ?_
      exact mW.eq rfl rfl (by simp only [if_pos c1]) rfl hJ39_7
    · refine m_iload_n C dX4_get_7 rfl 2 rfl ?_
      refine m_iconst (v := 0) C dX4_get_8 (by decide) ?_
      refine m_aload_n C dX4_get_9 rfl 0 rfl ?_
      refine m_get (T := TX4) (N := 19) C hiX4_get_X4 46 gp_46 rfl 12 (by decide) (by decide +kernel) rfl dX4_get_10 ?_
      refine m_iload_n C dX4_get_13 rfl 1 rfl ?_
      refine m_callS C (p_X4_isFile l D cy ad ln v ou a1) (va_cwS 1 C.2.2.2.2.1 gX4_get_X4_isFile rfl rfl rfl (by decide +kernel) ⟨Nat.le_of_ble_eq_true rfl, Nat.le_of_ble_eq_true rfl⟩) rfl rfl (Nat.le_of_ble_eq_true rfl) dX4_get_14 ⟨by decide, by decide⟩ (fun r w1 h1 => ?_)
      obtain ⟨rfl, rfl⟩ := h1
      refine mW.eq (st' := [.int (pin a1 0 15), .ref (ad 52), .int 0, .int a2]) rfl rfl rfl rfl ?_
      refine m_if_eq (tgt := 24) C dX4_get_17 (by decide) (fun c2 => ?_) (fun c2 => ?_)
      · refine m_iconst (v := 0) C dX4_get_24 (by decide) ?_
        refine m_iald C 52 (gp_I (by decide)) (b3 c1 c2) dX4_get_25 ?_
        refine m_iconst (v := 1) C dX4_get_26 (by decide) ?_
        refine m_isub C dX4_get_27 ?_
        refine m_callS C (p_X4_in l D cy ad ln v ou a2 0 ((v 52 (0 : Int32).toNatClampNeg) - 1)) (va_cwS 3 C.2.2.2.2.1 gX4_get_X4_in rfl rfl rfl (by decide +kernel) ⟨Nat.le_of_ble_eq_true rfl, Nat.le_of_ble_eq_true rfl⟩) rfl rfl (Nat.le_of_ble_eq_true rfl) dX4_get_28 ⟨by decide, by decide⟩ (fun r w1 h1 => ?_)
        obtain ⟨rfl, rfl⟩ := h1
        refine mW.eq (st' := [.int (pin a2 0 ((v 52 (0 : Int32).toNatClampNeg) - 1))]) rfl rfl rfl rfl ?_
        refine m_if_eq (tgt := 38) C dX4_get_31 (by decide) (fun c4 => ?_) (fun c4 => ?_)
        · refine m_iconst (v := 0) C dX4_get_38 (by decide) ?_
          exact absurd c2 c1
        · refine m_iconst (v := 1) C dX4_get_34 (by decide) ?_
          refine m_goto (tgt := 39) C dX4_get_35 (by decide) ?_
          exact absurd c2 c1
      · refine m_iload_n C dX4_get_20 rfl 1 rfl ?_
        refine m_goto (tgt := 25) C dX4_get_21 (by decide) ?_
        refine m_iald C 52 (gp_I (by decide)) (b5 c1 c2) dX4_get_25 ?_
        refine m_iconst (v := 1) C dX4_get_26 (by decide) ?_
        refine m_isub C dX4_get_27 ?_
        refine m_callS C (p_X4_in l D cy ad ln v ou a2 0 ((v 52 a1.toNatClampNeg) - 1)) (va_cwS 3 C.2.2.2.2.1 gX4_get_X4_in rfl rfl rfl (by decide +kernel) ⟨Nat.le_of_ble_eq_true rfl, Nat.le_of_ble_eq_true rfl⟩) rfl rfl (Nat.le_of_ble_eq_true rfl) dX4_get_28 ⟨by decide, by decide⟩ (fun r w1 h1 => ?_)
        obtain ⟨rfl, rfl⟩ := h1
        refine mW.eq (st' := [.int (pin a2 0 ((v 52 a1.toNatClampNeg) - 1))]) rfl rfl rfl rfl ?_
        refine m_if_eq (tgt := 38) C dX4_get_31 (by decide) (fun c6 => ?_) (fun c6 => ?_)
        · refine m_iconst (v := 0) C dX4_get_38 (by decide) ?_
          refine mW.sub (lv' := [(0, .ref (ad 46)), (1, .int a1), (2, .int a2)]) [0, 1, 2] rfl ?_
          exact mW.eq rfl rfl (by simp only [if_neg c1, if_neg c2, if_pos c6]) rfl hJ39_7
        · refine m_iconst (v := 1) C dX4_get_34 (by decide) ?_
          refine m_goto (tgt := 39) C dX4_get_35 (by decide) ?_
          refine mW.sub (lv' := [(0, .ref (ad 46)), (1, .int a1), (2, .int a2)]) [0, 1, 2] rfl ?_
          exact mW.eq rfl rfl (by simp only [if_neg c1, if_neg c2, if_neg c6]) rfl hJ39_7
theorem hiX4_parts_X4 : ∀ w ∈ wsX40, w ∈ wsX4_parts := by decide +kernel
def wp_X4_parts (ln : Nat → Nat) (v : gV) (a1 : Int32) (post : Int32 → gV → Prop) : Prop :=
  (∀ v3 : gV, v3 = vrf v (if (pin a1 0 15) = 0 then 1 else 0) 0 0 → ((((prf (if (pin a1 0 15) = 0 then 1 else 0) 0 0) = 0) → vp_in a1 (ln 54)) ∧ (post (if (prf (if (pin a1 0 15) = 0 then 1 else 0) 0 0) = 0 then v3 54 a1.toNatClampNeg else 0) v3)))
set_option maxHeartbeats 4000000 in
set_option maxRecDepth 100000 in
theorem s_X4_parts (l : Launch) (D : va_G) (cy : Nat → ClassId) (ad ln : Nat → Nat) (v : gV) (ou : Nat → Int64) (a1 : Int32) {post : Int32 → gV → Prop} (h : wp_X4_parts ln v a1 post) : mM l D cy yX4_parts wsX4_parts 3 0 0 [.ref (ad 46), .int a1] (gW cy ad ln v ou) (fun r w1 => ∃ (x1 : Int32) (v1 : gV), r = some (.int x1) ∧ post x1 v1 ∧ w1 = gW cy ad ln v1 ou) := by
  unfold wp_X4_parts at h
  refine mM.of (cc := cX4_parts) (nL := 2) (ret0 := (some .int)) (by decide +kernel) rfl (Nat.le_of_ble_eq_true rfl) ?_
  intro p e s m args below meth c A C hini
  refine mW.sub (lv' := [(0, .ref (ad 46)), (1, .int a1)]) [0, 1] rfl ?_
  refine m_aload_n C dX4_parts_0 rfl 0 rfl ?_
  refine m_iload_n C dX4_parts_1 rfl 1 rfl ?_
  refine m_callS C (p_X4_isFile l D cy ad ln v ou a1) (va_cwS 1 C.2.2.2.2.1 gX4_parts_X4_isFile rfl rfl rfl (by decide +kernel) ⟨Nat.le_of_ble_eq_true rfl, Nat.le_of_ble_eq_true rfl⟩) rfl rfl (Nat.le_of_ble_eq_true rfl) dX4_parts_2 ⟨by decide, by decide⟩ (fun r w1 h1 => ?_)
  obtain ⟨rfl, rfl⟩ := h1
  refine mW.eq (st' := [.int (pin a1 0 15), .ref (ad 46)]) rfl rfl rfl rfl ?_
  refine m_join (P := 13) (wM := gW cy ad ln v ou) (lvM := [(0, .ref (ad 46)), (1, .int a1)]) (stM := [.int (if (pin a1 0 15) = 0 then 1 else 0), .ref (ad 46)]) ?_ (fun hJ13_2 => ?_)
  · refine m_iconst (v := 0) C dX4_parts_13 (by decide) ?_
    refine m_iconst (v := 0) C dX4_parts_14 (by decide) ?_
    refine m_callV C (p_X4_refuse l D cy ad ln v ou (if (pin a1 0 15) = 0 then 1 else 0) 0 0) (cwV 3 C.2.2.2.2.1 gX4_parts_X4_refuse rfl rfl rfl (by decide +kernel) ⟨Nat.le_of_ble_eq_true rfl, Nat.le_of_ble_eq_true rfl⟩) 46 gp_46 rfl rfl rfl (Nat.le_of_ble_eq_true rfl) dX4_parts_15 ⟨by decide, by decide⟩ (fun r w1 h1 => ?_)
    obtain ⟨v3, ev3⟩ : ∃ z : gV, z = vrf v (if (pin a1 0 15) = 0 then 1 else 0) 0 0 := ⟨_, rfl⟩
    rw [← ev3] at h1
    obtain ⟨rfl, rfl⟩ := h1
    refine mW.eq (st' := [.int (prf (if (pin a1 0 15) = 0 then 1 else 0) 0 0)]) rfl rfl rfl rfl ?_
    have h := h v3 ev3
    obtain ⟨b5, h⟩ := h
    refine m_join (P := 31) (wM := gW cy ad ln v3 ou) (lvM := [(0, .ref (ad 46)), (1, .int a1)]) (stM := [.int (if (prf (if (pin a1 0 15) = 0 then 1 else 0) 0 0) = 0 then v3 54 a1.toNatClampNeg else 0)]) ?_ (fun hJ31_6 => ?_)
    · exact m_iret C dX4_parts_31 (Nat.le_of_ble_eq_true rfl) (Nat.le_of_ble_eq_true rfl) ⟨_, _, rfl, h, rfl⟩
    · refine m_if_eq (tgt := 25) C dX4_parts_18 (by decide) (fun c4 => ?_) (fun c4 => ?_)
      · refine m_aload_n C dX4_parts_25 rfl 0 rfl ?_
        refine m_get (T := TX4) (N := 19) C hiX4_parts_X4 46 gp_46 rfl 14 (by decide) (by decide +kernel) rfl dX4_parts_26 ?_
        refine m_iload_n C dX4_parts_29 rfl 1 rfl ?_
        refine m_iald C 54 (gp_I (by decide)) (b5 c4) dX4_parts_30 ?_
        refine mW.sub (lv' := [(0, .ref (ad 46)), (1, .int a1)]) [0, 1] rfl ?_
        exact mW.eq rfl rfl (by simp only [if_pos c4]) rfl hJ31_6
      · refine m_iconst (v := 0) C dX4_parts_21 (by decide) ?_
        refine m_goto (tgt := 31) C dX4_parts_22 (by decide) ?_
        refine mW.sub (lv' := [(0, .ref (ad 46)), (1, .int a1)]) [0, 1] rfl ?_
        exact mW.eq rfl rfl (by simp only [if_neg c4]) rfl hJ31_6
  · refine m_if_ne (tgt := 12) C dX4_parts_5 (by decide) (fun c1 => ?_) (fun c1 => ?_)
    · refine m_iconst (v := 0) C dX4_parts_12 (by decide) ?_
      refine mW.sub (lv' := [(0, .ref (ad 46)), (1, .int a1)]) [0, 1] rfl ?_
      exact mW.eq rfl rfl (by simp only [if_neg c1]) rfl hJ13_2
    · refine m_iconst (v := 1) C dX4_parts_8 (by decide) ?_
      refine m_goto (tgt := 13) C dX4_parts_9 (by decide) ?_
      refine mW.sub (lv' := [(0, .ref (ad 46)), (1, .int a1)]) [0, 1] rfl ?_
      exact mW.eq rfl rfl (by simp only [if_pos c1]) rfl hJ13_2
theorem hiX4_part_X4 : ∀ w ∈ wsX40, w ∈ wsX4_part := by decide +kernel
def wp_X4_part (ln : Nat → Nat) (v : gV) (a1 : Int32) (a2 : Int32) (post : Int32 → gV → Prop) : Prop :=
  ((¬ ((pin a1 0 15) = 0)) → ((pin a1 0 15) = 0) → vp_in 0 (ln 54)) ∧ ((¬ ((pin a1 0 15) = 0)) → (¬ ((pin a1 0 15) = 0)) → vp_in a1 (ln 54)) ∧ (∀ x8 : Int32, x8 = (if (pin a1 0 15) = 0 then 0 else if (pin a1 0 15) = 0 then if (pin a2 0 ((v 54 (0 : Int32).toNatClampNeg) - 1)) = 0 then 0 else 1 else if (pin a2 0 ((v 54 a1.toNatClampNeg) - 1)) = 0 then 0 else 1) → ((∀ v11 : gV, v11 = vrf v (if x8 = 0 then 1 else 0) 0 0 → ((((prf (if x8 = 0 then 1 else 0) 0 0) = 0) → vp_in ((1500 * a1) + a2) (ln 55)) ∧ (post (if (prf (if x8 = 0 then 1 else 0) 0 0) = 0 then v11 55 ((1500 * a1) + a2).toNatClampNeg else 0) v11)))))
set_option maxHeartbeats 4000000 in
set_option maxRecDepth 100000 in
theorem s_X4_part (l : Launch) (D : va_G) (cy : Nat → ClassId) (ad ln : Nat → Nat) (v : gV) (ou : Nat → Int64) (a1 : Int32) (a2 : Int32) {post : Int32 → gV → Prop} (h : wp_X4_part ln v a1 a2 post) : mM l D cy yX4_part wsX4_part 3 0 0 [.ref (ad 46), .int a1, .int a2] (gW cy ad ln v ou) (fun r w1 => ∃ (x1 : Int32) (v1 : gV), r = some (.int x1) ∧ post x1 v1 ∧ w1 = gW cy ad ln v1 ou) := by
  unfold wp_X4_part at h
  refine mM.of (cc := cX4_part) (nL := 4) (ret0 := (some .int)) (by decide +kernel) rfl (Nat.le_of_ble_eq_true rfl) ?_
  intro p e s m args below meth c A C hini
  refine mW.sub (lv' := [(0, .ref (ad 46)), (1, .int a1), (2, .int a2)]) [0, 1, 2] rfl ?_
  refine m_iload_n C dX4_part_0 rfl 1 rfl ?_
  refine m_callS C (p_X4_isFile l D cy ad ln v ou a1) (va_cwS 1 C.2.2.2.2.1 gX4_part_X4_isFile rfl rfl rfl (by decide +kernel) ⟨Nat.le_of_ble_eq_true rfl, Nat.le_of_ble_eq_true rfl⟩) rfl rfl (Nat.le_of_ble_eq_true rfl) dX4_part_1 ⟨by decide, by decide⟩ (fun r w1 h1 => ?_)
  obtain ⟨rfl, rfl⟩ := h1
  refine mW.eq (st' := [.int (pin a1 0 15)]) rfl rfl rfl rfl ?_
  obtain ⟨b3, h⟩ := h
  obtain ⟨b5, h⟩ := h
  refine m_join (P := 39) (wM := gW cy ad ln v ou) (lvM := [(0, .ref (ad 46)), (1, .int a1), (2, .int a2)]) (stM := [.int (if (pin a1 0 15) = 0 then 0 else if (pin a1 0 15) = 0 then if (pin a2 0 ((v 54 (0 : Int32).toNatClampNeg) - 1)) = 0 then 0 else 1 else if (pin a2 0 ((v 54 a1.toNatClampNeg) - 1)) = 0 then 0 else 1)]) ?_ (fun hJ39_7 => ?_)
  · refine m_topi (fun x8 ex8 => ?_)
    have h := h x8 ex8
    refine m_istore_n (lv' := [(3, .int x8), (0, .ref (ad 46)), (1, .int a1), (2, .int a2)]) C dX4_part_39 rfl (by decide) rfl ?_
    refine m_aload_n C dX4_part_40 rfl 1 rfl ?_
    refine m_iload_n C dX4_part_41 rfl 0 rfl ?_
    refine m_join (P := 50) (wM := gW cy ad ln v ou) (lvM := [(3, .int x8), (0, .ref (ad 46)), (1, .int a1), (2, .int a2)]) (stM := [.int (if x8 = 0 then 1 else 0), .ref (ad 46)]) ?_ (fun hJ50_10 => ?_)
    · refine m_iconst (v := 0) C dX4_part_50 (by decide) ?_
      refine m_iconst (v := 0) C dX4_part_51 (by decide) ?_
      refine m_callV C (p_X4_refuse l D cy ad ln v ou (if x8 = 0 then 1 else 0) 0 0) (cwV 3 C.2.2.2.2.1 gX4_part_X4_refuse rfl rfl rfl (by decide +kernel) ⟨Nat.le_of_ble_eq_true rfl, Nat.le_of_ble_eq_true rfl⟩) 46 gp_46 rfl rfl rfl (Nat.le_of_ble_eq_true rfl) dX4_part_52 ⟨by decide, by decide⟩ (fun r w1 h1 => ?_)
      obtain ⟨v11, ev11⟩ : ∃ z : gV, z = vrf v (if x8 = 0 then 1 else 0) 0 0 := ⟨_, rfl⟩
      rw [← ev11] at h1
      obtain ⟨rfl, rfl⟩ := h1
      refine mW.eq (st' := [.int (prf (if x8 = 0 then 1 else 0) 0 0)]) rfl rfl rfl rfl ?_
      have h := h v11 ev11
      obtain ⟨b13, h⟩ := h
      refine m_join (P := 74) (wM := gW cy ad ln v11 ou) (lvM := [(3, .int x8), (0, .ref (ad 46)), (1, .int a1), (2, .int a2)]) (stM := [.int (if (prf (if x8 = 0 then 1 else 0) 0 0) = 0 then v11 55 ((1500 * a1) + a2).toNatClampNeg else 0)]) ?_ (fun hJ74_14 => ?_)
      · exact m_iret C dX4_part_74 (Nat.le_of_ble_eq_true rfl) (Nat.le_of_ble_eq_true rfl) ⟨_, _, rfl, h, rfl⟩
      · refine m_if_eq (tgt := 62) C dX4_part_55 (by decide) (fun c12 => ?_) (fun c12 => ?_)
        · refine m_aload_n C dX4_part_62 rfl 1 rfl ?_
          refine m_get (T := TX4) (N := 19) C hiX4_part_X4 46 gp_46 rfl 15 (by decide) (by decide +kernel) rfl dX4_part_63 ?_
          refine m_sipush (v := 1500) C dX4_part_66 (by decide) ?_
          refine m_iload_n C dX4_part_69 rfl 2 rfl ?_
          refine m_imul C dX4_part_70 ?_
          refine m_iload_n C dX4_part_71 rfl 3 rfl ?_
          refine m_iadd C dX4_part_72 ?_
          refine m_iald C 55 (gp_I (by decide)) (b13 c12) dX4_part_73 ?_
          refine mW.sub (lv' := [(3, .int x8), (0, .ref (ad 46)), (1, .int a1), (2, .int a2)]) [0, 1, 2, 3] rfl ?_
          exact mW.eq rfl rfl (by simp only [if_pos c12]) rfl hJ74_14
        · refine m_iconst (v := 0) C dX4_part_58 (by decide) ?_
          refine m_goto (tgt := 74) C dX4_part_59 (by decide) ?_
          refine mW.sub (lv' := [(3, .int x8), (0, .ref (ad 46)), (1, .int a1), (2, .int a2)]) [0, 1, 2, 3] rfl ?_
          exact mW.eq rfl rfl (by simp only [if_neg c12]) rfl hJ74_14
    · refine m_if_ne (tgt := 49) C dX4_part_42 (by decide) (fun c9 => ?_) (fun c9 => ?_)
      · refine m_iconst (v := 0) C dX4_part_49 (by decide) ?_
        refine mW.sub (lv' := [(3, .int x8), (0, .ref (ad 46)), (1, .int a1), (2, .int a2)]) [0, 1, 2, 3] rfl ?_
        exact mW.eq rfl rfl (by simp only [if_neg c9]) rfl hJ50_10
      · refine m_iconst (v := 1) C dX4_part_45 (by decide) ?_
        refine m_goto (tgt := 50) C dX4_part_46 (by decide) ?_
        refine mW.sub (lv' := [(3, .int x8), (0, .ref (ad 46)), (1, .int a1), (2, .int a2)]) [0, 1, 2, 3] rfl ?_
        exact mW.eq rfl rfl (by simp only [if_pos c9]) rfl hJ50_10
  · refine m_if_eq (tgt := 38) C dX4_part_4 (by decide) (fun c1 => ?_) (fun c1 => ?_)
    · refine m_iconst (v := 0) C dX4_part_38 (by decide) ?_
      refine mW.sub (lv' := [(0, .ref (ad 46)), (1, .int a1), (2, .int a2)]) [0, 1, 2] rfl ?_
      exact mW.eq rfl rfl (by simp only [if_pos c1]) rfl hJ39_7
    · refine m_iload_n C dX4_part_7 rfl 2 rfl ?_
      refine m_iconst (v := 0) C dX4_part_8 (by decide) ?_
      refine m_aload_n C dX4_part_9 rfl 0 rfl ?_
      refine m_get (T := TX4) (N := 19) C hiX4_part_X4 46 gp_46 rfl 14 (by decide) (by decide +kernel) rfl dX4_part_10 ?_
      refine m_iload_n C dX4_part_13 rfl 1 rfl ?_
      refine m_callS C (p_X4_isFile l D cy ad ln v ou a1) (va_cwS 1 C.2.2.2.2.1 gX4_part_X4_isFile rfl rfl rfl (by decide +kernel) ⟨Nat.le_of_ble_eq_true rfl, Nat.le_of_ble_eq_true rfl⟩) rfl rfl (Nat.le_of_ble_eq_true rfl) dX4_part_14 ⟨by decide, by decide⟩ (fun r w1 h1 => ?_)
      obtain ⟨rfl, rfl⟩ := h1
      refine mW.eq (st' := [.int (pin a1 0 15), .ref (ad 54), .int 0, .int a2]) rfl rfl rfl rfl ?_
      refine m_if_eq (tgt := 24) C dX4_part_17 (by decide) (fun c2 => ?_) (fun c2 => ?_)
      · refine m_iconst (v := 0) C dX4_part_24 (by decide) ?_
        refine m_iald C 54 (gp_I (by decide)) (b3 c1 c2) dX4_part_25 ?_
        refine m_iconst (v := 1) C dX4_part_26 (by decide) ?_
        refine m_isub C dX4_part_27 ?_
        refine m_callS C (p_X4_in l D cy ad ln v ou a2 0 ((v 54 (0 : Int32).toNatClampNeg) - 1)) (va_cwS 3 C.2.2.2.2.1 gX4_part_X4_in rfl rfl rfl (by decide +kernel) ⟨Nat.le_of_ble_eq_true rfl, Nat.le_of_ble_eq_true rfl⟩) rfl rfl (Nat.le_of_ble_eq_true rfl) dX4_part_28 ⟨by decide, by decide⟩ (fun r w1 h1 => ?_)
        obtain ⟨rfl, rfl⟩ := h1
        refine mW.eq (st' := [.int (pin a2 0 ((v 54 (0 : Int32).toNatClampNeg) - 1))]) rfl rfl rfl rfl ?_
        refine m_if_eq (tgt := 38) C dX4_part_31 (by decide) (fun c4 => ?_) (fun c4 => ?_)
        · refine m_iconst (v := 0) C dX4_part_38 (by decide) ?_
          exact absurd c2 c1
        · refine m_iconst (v := 1) C dX4_part_34 (by decide) ?_
          refine m_goto (tgt := 39) C dX4_part_35 (by decide) ?_
          exact absurd c2 c1
      · refine m_iload_n C dX4_part_20 rfl 1 rfl ?_
        refine m_goto (tgt := 25) C dX4_part_21 (by decide) ?_
        refine m_iald C 54 (gp_I (by decide)) (b5 c1 c2) dX4_part_25 ?_
        refine m_iconst (v := 1) C dX4_part_26 (by decide) ?_
        refine m_isub C dX4_part_27 ?_
        refine m_callS C (p_X4_in l D cy ad ln v ou a2 0 ((v 54 a1.toNatClampNeg) - 1)) (va_cwS 3 C.2.2.2.2.1 gX4_part_X4_in rfl rfl rfl (by decide +kernel) ⟨Nat.le_of_ble_eq_true rfl, Nat.le_of_ble_eq_true rfl⟩) rfl rfl (Nat.le_of_ble_eq_true rfl) dX4_part_28 ⟨by decide, by decide⟩ (fun r w1 h1 => ?_)
        obtain ⟨rfl, rfl⟩ := h1
        refine mW.eq (st' := [.int (pin a2 0 ((v 54 a1.toNatClampNeg) - 1))]) rfl rfl rfl rfl ?_
        refine m_if_eq (tgt := 38) C dX4_part_31 (by decide) (fun c6 => ?_) (fun c6 => ?_)
        · refine m_iconst (v := 0) C dX4_part_38 (by decide) ?_
          refine mW.sub (lv' := [(0, .ref (ad 46)), (1, .int a1), (2, .int a2)]) [0, 1, 2] rfl ?_
          exact mW.eq rfl rfl (by simp only [if_neg c1, if_neg c2, if_pos c6]) rfl hJ39_7
        · refine m_iconst (v := 1) C dX4_part_34 (by decide) ?_
          refine m_goto (tgt := 39) C dX4_part_35 (by decide) ?_
          refine mW.sub (lv' := [(0, .ref (ad 46)), (1, .int a1), (2, .int a2)]) [0, 1, 2] rfl ?_
          exact mW.eq rfl rfl (by simp only [if_neg c1, if_neg c2, if_neg c6]) rfl hJ39_7
theorem hiX4_about_X4 : ∀ w ∈ wsX40, w ∈ wsX4_about := by decide +kernel
def wp_X4_about (ln : Nat → Nat) (v : gV) (a1 : Int32) (a2 : Int32) (post : Int32 → gV → Prop) : Prop :=
  ((¬ ((pin a1 0 399) = 0)) → ((pin a1 0 399) = 0) → vp_in 0 (ln 56)) ∧ ((¬ ((pin a1 0 399) = 0)) → (¬ ((pin a1 0 399) = 0)) → vp_in a1 (ln 56)) ∧ (∀ x8 : Int32, x8 = (if (pin a1 0 399) = 0 then 0 else if (pin a1 0 399) = 0 then if (v 56 (0 : Int32).toNatClampNeg) ≤ 0 then 0 else 1 else if (v 56 a1.toNatClampNeg) ≤ 0 then 0 else 1) → (((∀ v14 : gV, v14 = vrf v (if x8 = 0 then 1 else 0) (if x8 = 0 then 0 else if (pin a2 0 2) = 0 then 1 else 0) 0 → ((((prf (if x8 = 0 then 1 else 0) (if x8 = 0 then 0 else if (pin a2 0 2) = 0 then 1 else 0) 0) = 0) → (∃ I84 : Nat → Int32 → Int32 → gV → Prop, (∃ n, I84 n 0 0 v14) ∧ ∀ (n : Nat) (x16 : Int32) (x17 : Int32) (v18 : gV), I84 n x16 x17 v18 → (((16 ≤ x17) → (((¬ (a2 = 0)) → (a2 = 1) → vp_in a1 (ln 56)) ∧ ((a2 = 0) → vp_in a1 (ln 57)) ∧ (post (if a2 = 0 then v18 57 a1.toNatClampNeg else if a2 = 1 then v18 56 a1.toNatClampNeg else x16) v18))) ∧ (¬ (16 ≤ x17) → (wp_X4_has ln v18 x17 a1 (fun (x25 : Int32) (v26 : gV) => ((∀ x29 : Int32, x29 = (if x25 = 0 then x16 else x16 + 1) → (∃ n', n' < n ∧ I84 n' x29 (x17 + 1) v26))))))))) ∧ (¬ ((prf (if x8 = 0 then 1 else 0) (if x8 = 0 then 0 else if (pin a2 0 2) = 0 then 1 else 0) 0) = 0) → (post 0 v14)))))))
set_option maxHeartbeats 4000000 in
set_option maxRecDepth 100000 in
theorem s_X4_about (l : Launch) (D : va_G) (cy : Nat → ClassId) (ad ln : Nat → Nat) (v : gV) (ou : Nat → Int64) (a1 : Int32) (a2 : Int32) {post : Int32 → gV → Prop} (h : wp_X4_about ln v a1 a2 post) : mM l D cy yX4_about wsX4_about 2 0 0 [.ref (ad 46), .int a1, .int a2] (gW cy ad ln v ou) (fun r w1 => ∃ (x1 : Int32) (v1 : gV), r = some (.int x1) ∧ post x1 v1 ∧ w1 = gW cy ad ln v1 ou) := by
  unfold wp_X4_about at h
  refine mM.of (cc := cX4_about) (nL := 6) (ret0 := (some .int)) (by decide +kernel) rfl (Nat.le_of_ble_eq_true rfl) ?_
  intro p e s m args below meth c A C hini
  refine mW.sub (lv' := [(0, .ref (ad 46)), (1, .int a1), (2, .int a2)]) [0, 1, 2] rfl ?_
  refine m_iload_n C dX4_about_0 rfl 1 rfl ?_
  refine m_iconst (v := 0) C dX4_about_1 (by decide) ?_
  refine m_sipush (v := 399) C dX4_about_2 (by decide) ?_
  refine m_callS C (p_X4_in l D cy ad ln v ou a1 0 399) (va_cwS 3 C.2.2.2.2.1 gX4_about_X4_in rfl rfl rfl (by decide +kernel) ⟨Nat.le_of_ble_eq_true rfl, Nat.le_of_ble_eq_true rfl⟩) rfl rfl (Nat.le_of_ble_eq_true rfl) dX4_about_5 ⟨by decide, by decide⟩ (fun r w1 h1 => ?_)
  obtain ⟨rfl, rfl⟩ := h1
  refine mW.eq (st' := [.int (pin a1 0 399)]) rfl rfl rfl rfl ?_
  obtain ⟨b3, h⟩ := h
  obtain ⟨b5, h⟩ := h
  refine m_join (P := 40) (wM := gW cy ad ln v ou) (lvM := [(0, .ref (ad 46)), (1, .int a1), (2, .int a2)]) (stM := [.int (if (pin a1 0 399) = 0 then 0 else if (pin a1 0 399) = 0 then if (v 56 (0 : Int32).toNatClampNeg) ≤ 0 then 0 else 1 else if (v 56 a1.toNatClampNeg) ≤ 0 then 0 else 1)]) ?_ (fun hJ40_7 => ?_)
  · refine m_topi (fun x8 ex8 => ?_)
    have h := h x8 ex8
    refine m_istore_n (lv' := [(3, .int x8), (0, .ref (ad 46)), (1, .int a1), (2, .int a2)]) C dX4_about_40 rfl (by decide) rfl ?_
    refine m_aload_n C dX4_about_41 rfl 1 rfl ?_
    refine m_iload_n C dX4_about_42 rfl 0 rfl ?_
    refine m_join (P := 51) (wM := gW cy ad ln v ou) (lvM := [(3, .int x8), (0, .ref (ad 46)), (1, .int a1), (2, .int a2)]) (stM := [.int (if x8 = 0 then 1 else 0), .ref (ad 46)]) ?_ (fun hJ51_10 => ?_)
    · refine m_iload_n C dX4_about_51 rfl 0 rfl ?_
      refine m_join (P := 69) (wM := gW cy ad ln v ou) (lvM := [(3, .int x8), (0, .ref (ad 46)), (1, .int a1), (2, .int a2)]) (stM := [.int (if x8 = 0 then 0 else if (pin a2 0 2) = 0 then 1 else 0), .int (if x8 = 0 then 1 else 0), .ref (ad 46)]) ?_ (fun hJ69_13 => ?_)
      · refine m_iconst (v := 0) C dX4_about_69 (by decide) ?_
        refine m_callV C (p_X4_refuse l D cy ad ln v ou (if x8 = 0 then 1 else 0) (if x8 = 0 then 0 else if (pin a2 0 2) = 0 then 1 else 0) 0) (cwV 3 C.2.2.2.2.1 gX4_about_X4_refuse rfl rfl rfl (by decide +kernel) ⟨Nat.le_of_ble_eq_true rfl, Nat.le_of_ble_eq_true rfl⟩) 46 gp_46 rfl rfl rfl (Nat.le_of_ble_eq_true rfl) dX4_about_70 ⟨by decide, by decide⟩ (fun r w1 h1 => ?_)
        obtain ⟨v14, ev14⟩ : ∃ z : gV, z = vrf v (if x8 = 0 then 1 else 0) (if x8 = 0 then 0 else if (pin a2 0 2) = 0 then 1 else 0) 0 := ⟨_, rfl⟩
        rw [← ev14] at h1
        obtain ⟨rfl, rfl⟩ := h1
        refine mW.eq (st' := [.int (prf (if x8 = 0 then 1 else 0) (if x8 = 0 then 0 else if (pin a2 0 2) = 0 then 1 else 0) 0)]) rfl rfl rfl rfl ?_
        have h := h v14 ev14
        refine m_if_eq (tgt := 78) C dX4_about_73 (by decide) (fun c15 => ?_) (fun c15 => ?_)
        · have h := h.1 c15
          refine m_iconst (v := 0) C dX4_about_78 (by decide) ?_
          refine m_istore (lv' := [(4, .int 0), (3, .int x8), (0, .ref (ad 46)), (1, .int a1), (2, .int a2)]) C dX4_about_79 (by decide) rfl ?_
          refine m_iconst (v := 0) C dX4_about_81 (by decide) ?_
          refine m_istore (lv' := [(5, .int 0), (4, .int 0), (3, .int x8), (0, .ref (ad 46)), (1, .int a1), (2, .int a2)]) C dX4_about_82 (by decide) rfl ?_
          obtain ⟨I84, ⟨n0, h0⟩, hI⟩ := h
          refine mW.sub (lv' := [(0, .ref (ad 46)), (1, .int a1), (2, .int a2), (3, .int x8), (4, .int 0), (5, .int 0)]) [3, 4, 5, 2, 1, 0] rfl ?_
          refine m_ind (σ := Int32 × Int32 × gV) (fun n z => I84 n z.1 z.2.1 z.2.2) (fun z => gW cy ad ln z.2.2 ou) 84 (fun z => [(0, .ref (ad 46)), (1, .int a1), (2, .int a2), (3, .int x8), (4, .int z.1), (5, .int z.2.1)]) ?_ n0 (0, 0, v14) h0
          intro n z hi ih
          obtain ⟨x16, x17, v18⟩ := z
          have h := hI n x16 x17 v18 hi
          show mW _ _ _ _ _ _ _ _ _ _ _ _ _ _ _ _ (gW cy ad ln v18 ou) 84 [(0, .ref (ad 46)), (1, .int a1), (2, .int a2), (3, .int x8), (4, .int x16), (5, .int x17)] []
          refine m_iload C dX4_about_84 5 rfl ?_
          refine m_bipush (v := 16) C dX4_about_86 (by decide) ?_
          refine m_icmp_ge (tgt := 118) C dX4_about_88 (by decide) (fun c19 => ?_) (fun c19 => ?_)
          · have h := h.1 c19
            refine m_iload_n C dX4_about_118 rfl 2 rfl ?_
            obtain ⟨b22, h⟩ := h
            obtain ⟨b23, h⟩ := h
            refine m_join (P := 147) (wM := gW cy ad ln v18 ou) (lvM := [(0, .ref (ad 46)), (1, .int a1), (2, .int a2), (3, .int x8), (4, .int x16), (5, .int x17)]) (stM := [.int (if a2 = 0 then v18 57 a1.toNatClampNeg else if a2 = 1 then v18 56 a1.toNatClampNeg else x16)]) ?_ (fun hJ147_24 => ?_)
            · exact m_iret C dX4_about_147 (Nat.le_of_ble_eq_true rfl) (Nat.le_of_ble_eq_true rfl) ⟨_, _, rfl, h, rfl⟩
            · refine m_if_ne (tgt := 131) C dX4_about_119 (by decide) (fun c20 => ?_) (fun c20 => ?_)
              · refine m_iload_n C dX4_about_131 rfl 2 rfl ?_
                refine m_iconst (v := 1) C dX4_about_132 (by decide) ?_
                refine m_icmp_ne (tgt := 145) C dX4_about_133 (by decide) (fun c21 => ?_) (fun c21 => ?_)
                · refine m_iload C dX4_about_145 4 rfl ?_
                  refine mW.sub (lv' := [(0, .ref (ad 46)), (1, .int a1), (2, .int a2), (3, .int x8), (4, .int x16), (5, .int x17)]) [0, 1, 2, 3, 4, 5] rfl ?_
                  exact mW.eq rfl rfl (by simp only [if_neg c20, if_neg c21]) rfl hJ147_24
                · refine m_aload_n C dX4_about_136 rfl 0 rfl ?_
                  refine m_get (T := TX4) (N := 19) C hiX4_about_X4 46 gp_46 rfl 16 (by decide) (by decide +kernel) rfl dX4_about_137 ?_
                  refine m_iload_n C dX4_about_140 rfl 1 rfl ?_
                  refine m_iald C 56 (gp_I (by decide)) (b22 c20 c21) dX4_about_141 ?_
                  refine m_goto (tgt := 147) C dX4_about_142 (by decide) ?_
                  refine mW.sub (lv' := [(0, .ref (ad 46)), (1, .int a1), (2, .int a2), (3, .int x8), (4, .int x16), (5, .int x17)]) [0, 1, 2, 3, 4, 5] rfl ?_
                  exact mW.eq rfl rfl (by simp only [if_neg c20, if_pos c21]) rfl hJ147_24
              · refine m_aload_n C dX4_about_122 rfl 0 rfl ?_
                refine m_get (T := TX4) (N := 19) C hiX4_about_X4 46 gp_46 rfl 17 (by decide) (by decide +kernel) rfl dX4_about_123 ?_
                refine m_iload_n C dX4_about_126 rfl 1 rfl ?_
                refine m_iald C 57 (gp_I (by decide)) (b23 c20) dX4_about_127 ?_
                refine m_goto (tgt := 147) C dX4_about_128 (by decide) ?_
                refine mW.sub (lv' := [(0, .ref (ad 46)), (1, .int a1), (2, .int a2), (3, .int x8), (4, .int x16), (5, .int x17)]) [0, 1, 2, 3, 4, 5] rfl ?_
                exact mW.eq rfl rfl (by simp only [if_pos c20]) rfl hJ147_24
          · have h := h.2 c19
            refine m_aload_n C dX4_about_91 rfl 0 rfl ?_
            refine m_iload C dX4_about_92 5 rfl ?_
            refine m_iload_n C dX4_about_94 rfl 1 rfl ?_
            refine m_callV C (s_X4_has l D cy ad ln v18 ou x17 a1  h) (cwV 2 C.2.2.2.2.1 gX4_about_X4_has rfl rfl rfl (by decide +kernel) ⟨Nat.le_of_ble_eq_true rfl, Nat.le_of_ble_eq_true rfl⟩) 46 gp_46 rfl rfl rfl (Nat.le_of_ble_eq_true rfl) dX4_about_95 ⟨by decide, by decide⟩ (fun r w1 h1 => ?_)
            obtain ⟨x25, v26, rfl, h, rfl⟩ := h1
            refine mW.eq (st' := [.int x25]) rfl rfl rfl rfl ?_
            refine m_join (P := 110) (wM := gW cy ad ln v26 ou) (lvM := [(0, .ref (ad 46)), (1, .int a1), (2, .int a2), (3, .int x8), (4, .int x16), (5, .int x17)]) (stM := [.int (if x25 = 0 then x16 else x16 + 1)]) ?_ (fun hJ110_28 => ?_)
            · refine m_topi (fun x29 ex29 => ?_)
              have h := h x29 ex29
              refine m_istore (lv' := [(4, .int x29), (0, .ref (ad 46)), (1, .int a1), (2, .int a2), (3, .int x8), (5, .int x17)]) C dX4_about_110 (by decide) rfl ?_
              refine m_iinc (lv' := [(5, .int (x17 + 1)), (4, .int x29), (0, .ref (ad 46)), (1, .int a1), (2, .int a2), (3, .int x8)]) C dX4_about_112 (k := 5) rfl rfl (by decide) rfl ?_
              refine m_goto (tgt := 84) C dX4_about_115 (by decide) ?_
              obtain ⟨n30, hn, h⟩ := h
              exact mW.sub [2, 3, 4, 5, 1, 0] rfl (ih n30 (x29, (x17 + 1), v26) hn h)
            · refine m_if_eq (tgt := 108) C dX4_about_98 (by decide) (fun c27 => ?_) (fun c27 => ?_)
              · refine m_iload C dX4_about_108 4 rfl ?_
                refine mW.sub (lv' := [(0, .ref (ad 46)), (1, .int a1), (2, .int a2), (3, .int x8), (4, .int x16), (5, .int x17)]) [0, 1, 2, 3, 4, 5] rfl ?_
                exact mW.eq rfl rfl (by simp only [if_pos c27]) rfl hJ110_28
              · refine m_iload C dX4_about_101 4 rfl ?_
                refine m_iconst (v := 1) C dX4_about_103 (by decide) ?_
                refine m_iadd C dX4_about_104 ?_
                refine m_goto (tgt := 110) C dX4_about_105 (by decide) ?_
                refine mW.sub (lv' := [(0, .ref (ad 46)), (1, .int a1), (2, .int a2), (3, .int x8), (4, .int x16), (5, .int x17)]) [0, 1, 2, 3, 4, 5] rfl ?_
                exact mW.eq rfl rfl (by simp only [if_neg c27]) rfl hJ110_28
        · have h := h.2 c15
          refine m_iconst (v := 0) C dX4_about_76 (by decide) ?_
          exact m_iret C dX4_about_77 (Nat.le_of_ble_eq_true rfl) (Nat.le_of_ble_eq_true rfl) ⟨_, _, rfl, h, rfl⟩
      · refine m_if_eq (tgt := 68) C dX4_about_52 (by decide) (fun c11 => ?_) (fun c11 => ?_)
        · refine m_iconst (v := 0) C dX4_about_68 (by decide) ?_
          refine mW.sub (lv' := [(3, .int x8), (0, .ref (ad 46)), (1, .int a1), (2, .int a2)]) [0, 1, 2, 3] rfl ?_
          exact mW.eq rfl rfl (by simp only [if_pos c11]) rfl hJ69_13
        · refine m_iload_n C dX4_about_55 rfl 3 rfl ?_
          refine m_iconst (v := 0) C dX4_about_56 (by decide) ?_
          refine m_iconst (v := 2) C dX4_about_57 (by decide) ?_
          refine m_callS C (p_X4_in l D cy ad ln v ou a2 0 2) (va_cwS 3 C.2.2.2.2.1 gX4_about_X4_in rfl rfl rfl (by decide +kernel) ⟨Nat.le_of_ble_eq_true rfl, Nat.le_of_ble_eq_true rfl⟩) rfl rfl (Nat.le_of_ble_eq_true rfl) dX4_about_58 ⟨by decide, by decide⟩ (fun r w1 h1 => ?_)
          obtain ⟨rfl, rfl⟩ := h1
          refine mW.eq (st' := [.int (pin a2 0 2), .int (if x8 = 0 then 1 else 0), .ref (ad 46)]) rfl rfl rfl rfl ?_
          refine m_if_ne (tgt := 68) C dX4_about_61 (by decide) (fun c12 => ?_) (fun c12 => ?_)
          · refine m_iconst (v := 0) C dX4_about_68 (by decide) ?_
            refine mW.sub (lv' := [(3, .int x8), (0, .ref (ad 46)), (1, .int a1), (2, .int a2)]) [0, 1, 2, 3] rfl ?_
            exact mW.eq rfl rfl (by simp only [if_neg c11, if_neg c12]) rfl hJ69_13
          · refine m_iconst (v := 1) C dX4_about_64 (by decide) ?_
            refine m_goto (tgt := 69) C dX4_about_65 (by decide) ?_
            refine mW.sub (lv' := [(3, .int x8), (0, .ref (ad 46)), (1, .int a1), (2, .int a2)]) [0, 1, 2, 3] rfl ?_
            exact mW.eq rfl rfl (by simp only [if_neg c11, if_pos c12]) rfl hJ69_13
    · refine m_if_ne (tgt := 50) C dX4_about_43 (by decide) (fun c9 => ?_) (fun c9 => ?_)
      · refine m_iconst (v := 0) C dX4_about_50 (by decide) ?_
        refine mW.sub (lv' := [(3, .int x8), (0, .ref (ad 46)), (1, .int a1), (2, .int a2)]) [0, 1, 2, 3] rfl ?_
        exact mW.eq rfl rfl (by simp only [if_neg c9]) rfl hJ51_10
      · refine m_iconst (v := 1) C dX4_about_46 (by decide) ?_
        refine m_goto (tgt := 51) C dX4_about_47 (by decide) ?_
        refine mW.sub (lv' := [(3, .int x8), (0, .ref (ad 46)), (1, .int a1), (2, .int a2)]) [0, 1, 2, 3] rfl ?_
        exact mW.eq rfl rfl (by simp only [if_pos c9]) rfl hJ51_10
  · refine m_if_eq (tgt := 39) C dX4_about_8 (by decide) (fun c1 => ?_) (fun c1 => ?_)
    · refine m_iconst (v := 0) C dX4_about_39 (by decide) ?_
      refine mW.sub (lv' := [(0, .ref (ad 46)), (1, .int a1), (2, .int a2)]) [0, 1, 2] rfl ?_
      exact mW.eq rfl rfl (by simp only [if_pos c1]) rfl hJ40_7
    · refine m_aload_n C dX4_about_11 rfl 0 rfl ?_
      refine m_get (T := TX4) (N := 19) C hiX4_about_X4 46 gp_46 rfl 16 (by decide) (by decide +kernel) rfl dX4_about_12 ?_
      refine m_iload_n C dX4_about_15 rfl 1 rfl ?_
      refine m_iconst (v := 0) C dX4_about_16 (by decide) ?_
      refine m_sipush (v := 399) C dX4_about_17 (by decide) ?_
      refine m_callS C (p_X4_in l D cy ad ln v ou a1 0 399) (va_cwS 3 C.2.2.2.2.1 gX4_about_X4_in rfl rfl rfl (by decide +kernel) ⟨Nat.le_of_ble_eq_true rfl, Nat.le_of_ble_eq_true rfl⟩) rfl rfl (Nat.le_of_ble_eq_true rfl) dX4_about_20 ⟨by decide, by decide⟩ (fun r w1 h1 => ?_)
      obtain ⟨rfl, rfl⟩ := h1
      refine mW.eq (st' := [.int (pin a1 0 399), .ref (ad 56)]) rfl rfl rfl rfl ?_
      refine m_if_eq (tgt := 30) C dX4_about_23 (by decide) (fun c2 => ?_) (fun c2 => ?_)
      · refine m_iconst (v := 0) C dX4_about_30 (by decide) ?_
        refine m_iald C 56 (gp_I (by decide)) (b3 c1 c2) dX4_about_31 ?_
        refine m_if_le (tgt := 39) C dX4_about_32 (by decide) (fun c4 => ?_) (fun c4 => ?_)
        · refine m_iconst (v := 0) C dX4_about_39 (by decide) ?_
          exact absurd c2 c1
        · refine m_iconst (v := 1) C dX4_about_35 (by decide) ?_
          refine m_goto (tgt := 40) C dX4_about_36 (by decide) ?_
          exact absurd c2 c1
      · refine m_iload_n C dX4_about_26 rfl 1 rfl ?_
        refine m_goto (tgt := 31) C dX4_about_27 (by decide) ?_
        refine m_iald C 56 (gp_I (by decide)) (b5 c1 c2) dX4_about_31 ?_
        refine m_if_le (tgt := 39) C dX4_about_32 (by decide) (fun c6 => ?_) (fun c6 => ?_)
        · refine m_iconst (v := 0) C dX4_about_39 (by decide) ?_
          refine mW.sub (lv' := [(0, .ref (ad 46)), (1, .int a1), (2, .int a2)]) [0, 1, 2] rfl ?_
          exact mW.eq rfl rfl (by simp only [if_neg c1, if_neg c2, if_pos c6]) rfl hJ40_7
        · refine m_iconst (v := 1) C dX4_about_35 (by decide) ?_
          refine m_goto (tgt := 40) C dX4_about_36 (by decide) ?_
          refine mW.sub (lv' := [(0, .ref (ad 46)), (1, .int a1), (2, .int a2)]) [0, 1, 2] rfl ?_
          exact mW.eq rfl rfl (by simp only [if_neg c1, if_neg c2, if_neg c6]) rfl hJ40_7
theorem hiX4_common_X4 : ∀ w ∈ wsX40, w ∈ wsX4_common := by decide +kernel
def wp_X4_common (ln : Nat → Nat) (v : gV) (a1 : Int32) (a2 : Int32) (post : Int32 → gV → Prop) : Prop :=
  (∀ v4 : gV, v4 = vrf v (if (pin a1 0 15) = 0 then 1 else if (pin a2 0 15) = 0 then 1 else 0) 0 0 → ((((prf (if (pin a1 0 15) = 0 then 1 else if (pin a2 0 15) = 0 then 1 else 0) 0 0) = 0) → (∃ I35 : Nat → Int32 → Int32 → gV → Prop, (∃ n, I35 n 0 0 v4) ∧ ∀ (n : Nat) (x6 : Int32) (x7 : Int32) (v8 : gV), I35 n x6 x7 v8 → (vp_in a1 (ln 54) ∧ ((((v8 54 a1.toNatClampNeg) ≤ x7) → (post x6 v8)) ∧ (¬ ((v8 54 a1.toNatClampNeg) ≤ x7) → (vp_in ((1500 * a1) + x7) (ln 55) ∧ (∀ x12 : Int32, x12 = (v8 55 ((1500 * a1) + x7).toNatClampNeg) → (wp_X4_has ln v8 a2 x12 (fun (x13 : Int32) (v14 : gV) => (((¬ (x13 = 0)) → vp_in x12 (ln 57)) ∧ (∀ x18 : Int32, x18 = (if x13 = 0 then x6 else x6 + (v14 57 x12.toNatClampNeg)) → (∃ n', n' < n ∧ I35 n' x18 (x7 + 1) v14)))))))))))) ∧ (¬ ((prf (if (pin a1 0 15) = 0 then 1 else if (pin a2 0 15) = 0 then 1 else 0) 0 0) = 0) → (post 0 v4))))
set_option maxHeartbeats 4000000 in
set_option maxRecDepth 100000 in
theorem s_X4_common (l : Launch) (D : va_G) (cy : Nat → ClassId) (ad ln : Nat → Nat) (v : gV) (ou : Nat → Int64) (a1 : Int32) (a2 : Int32) {post : Int32 → gV → Prop} (h : wp_X4_common ln v a1 a2 post) : mM l D cy yX4_common wsX4_common 3 0 0 [.ref (ad 46), .int a1, .int a2] (gW cy ad ln v ou) (fun r w1 => ∃ (x1 : Int32) (v1 : gV), r = some (.int x1) ∧ post x1 v1 ∧ w1 = gW cy ad ln v1 ou) := by
  unfold wp_X4_common at h
  refine mM.of (cc := cX4_common) (nL := 6) (ret0 := (some .int)) (by decide +kernel) rfl (Nat.le_of_ble_eq_true rfl) ?_
  intro p e s m args below meth c A C hini
  refine mW.sub (lv' := [(0, .ref (ad 46)), (1, .int a1), (2, .int a2)]) [0, 1, 2] rfl ?_
  refine m_aload_n C dX4_common_0 rfl 0 rfl ?_
  refine m_iload_n C dX4_common_1 rfl 1 rfl ?_
  refine m_callS C (p_X4_isFile l D cy ad ln v ou a1) (va_cwS 1 C.2.2.2.2.1 gX4_common_X4_isFile rfl rfl rfl (by decide +kernel) ⟨Nat.le_of_ble_eq_true rfl, Nat.le_of_ble_eq_true rfl⟩) rfl rfl (Nat.le_of_ble_eq_true rfl) dX4_common_2 ⟨by decide, by decide⟩ (fun r w1 h1 => ?_)
  obtain ⟨rfl, rfl⟩ := h1
  refine mW.eq (st' := [.int (pin a1 0 15), .ref (ad 46)]) rfl rfl rfl rfl ?_
  refine m_join (P := 20) (wM := gW cy ad ln v ou) (lvM := [(0, .ref (ad 46)), (1, .int a1), (2, .int a2)]) (stM := [.int (if (pin a1 0 15) = 0 then 1 else if (pin a2 0 15) = 0 then 1 else 0), .ref (ad 46)]) ?_ (fun hJ20_3 => ?_)
  · refine m_iconst (v := 0) C dX4_common_20 (by decide) ?_
    refine m_iconst (v := 0) C dX4_common_21 (by decide) ?_
    refine m_callV C (p_X4_refuse l D cy ad ln v ou (if (pin a1 0 15) = 0 then 1 else if (pin a2 0 15) = 0 then 1 else 0) 0 0) (cwV 3 C.2.2.2.2.1 gX4_common_X4_refuse rfl rfl rfl (by decide +kernel) ⟨Nat.le_of_ble_eq_true rfl, Nat.le_of_ble_eq_true rfl⟩) 46 gp_46 rfl rfl rfl (Nat.le_of_ble_eq_true rfl) dX4_common_22 ⟨by decide, by decide⟩ (fun r w1 h1 => ?_)
    obtain ⟨v4, ev4⟩ : ∃ z : gV, z = vrf v (if (pin a1 0 15) = 0 then 1 else if (pin a2 0 15) = 0 then 1 else 0) 0 0 := ⟨_, rfl⟩
    rw [← ev4] at h1
    obtain ⟨rfl, rfl⟩ := h1
    refine mW.eq (st' := [.int (prf (if (pin a1 0 15) = 0 then 1 else if (pin a2 0 15) = 0 then 1 else 0) 0 0)]) rfl rfl rfl rfl ?_
    have h := h v4 ev4
    refine m_if_eq (tgt := 30) C dX4_common_25 (by decide) (fun c5 => ?_) (fun c5 => ?_)
    · have h := h.1 c5
      refine m_iconst (v := 0) C dX4_common_30 (by decide) ?_
      refine m_istore_n (lv' := [(3, .int 0), (0, .ref (ad 46)), (1, .int a1), (2, .int a2)]) C dX4_common_31 rfl (by decide) rfl ?_
      refine m_iconst (v := 0) C dX4_common_32 (by decide) ?_
      refine m_istore (lv' := [(4, .int 0), (3, .int 0), (0, .ref (ad 46)), (1, .int a1), (2, .int a2)]) C dX4_common_33 (by decide) rfl ?_
      obtain ⟨I35, ⟨n0, h0⟩, hI⟩ := h
      refine mW.sub (lv' := [(0, .ref (ad 46)), (1, .int a1), (2, .int a2), (3, .int 0), (4, .int 0)]) [2, 3, 4, 1, 0] rfl ?_
      refine m_ind (σ := Int32 × Int32 × gV) (fun n z => I35 n z.1 z.2.1 z.2.2) (fun z => gW cy ad ln z.2.2 ou) 35 (fun z => [(0, .ref (ad 46)), (1, .int a1), (2, .int a2), (3, .int z.1), (4, .int z.2.1)]) ?_ n0 (0, 0, v4) h0
      intro n z hi ih
      obtain ⟨x6, x7, v8⟩ := z
      have h := hI n x6 x7 v8 hi
      show mW _ _ _ _ _ _ _ _ _ _ _ _ _ _ _ _ (gW cy ad ln v8 ou) 35 [(0, .ref (ad 46)), (1, .int a1), (2, .int a2), (3, .int x6), (4, .int x7)] []
      refine m_iload C dX4_common_35 4 rfl ?_
      refine m_aload_n C dX4_common_37 rfl 0 rfl ?_
      refine m_get (T := TX4) (N := 19) C hiX4_common_X4 46 gp_46 rfl 14 (by decide) (by decide +kernel) rfl dX4_common_38 ?_
      refine m_iload_n C dX4_common_41 rfl 1 rfl ?_
      obtain ⟨b9, h⟩ := h
      refine m_iald C 54 (gp_I (by decide)) b9 dX4_common_42 ?_
      refine m_icmp_ge (tgt := 91) C dX4_common_43 (by decide) (fun c10 => ?_) (fun c10 => ?_)
      · have h := h.1 c10
        refine m_iload_n C dX4_common_91 rfl 3 rfl ?_
        exact m_iret C dX4_common_92 (Nat.le_of_ble_eq_true rfl) (Nat.le_of_ble_eq_true rfl) ⟨_, _, rfl, h, rfl⟩
      · have h := h.2 c10
        refine m_aload_n C dX4_common_46 rfl 0 rfl ?_
        refine m_get (T := TX4) (N := 19) C hiX4_common_X4 46 gp_46 rfl 15 (by decide) (by decide +kernel) rfl dX4_common_47 ?_
        refine m_sipush (v := 1500) C dX4_common_50 (by decide) ?_
        refine m_iload_n C dX4_common_53 rfl 1 rfl ?_
        refine m_imul C dX4_common_54 ?_
        refine m_iload C dX4_common_55 4 rfl ?_
        refine m_iadd C dX4_common_57 ?_
        obtain ⟨b11, h⟩ := h
        refine m_iald C 55 (gp_I (by decide)) b11 dX4_common_58 ?_
        refine m_topi (fun x12 ex12 => ?_)
        have h := h x12 ex12
        refine m_istore (lv' := [(5, .int x12), (0, .ref (ad 46)), (1, .int a1), (2, .int a2), (3, .int x6), (4, .int x7)]) C dX4_common_59 (by decide) rfl ?_
        refine m_aload_n C dX4_common_61 rfl 1 rfl ?_
        refine m_iload_n C dX4_common_62 rfl 3 rfl ?_
        refine m_iload C dX4_common_63 0 rfl ?_
        refine m_callV C (s_X4_has l D cy ad ln v8 ou a2 x12  h) (cwV 2 C.2.2.2.2.1 gX4_common_X4_has rfl rfl rfl (by decide +kernel) ⟨Nat.le_of_ble_eq_true rfl, Nat.le_of_ble_eq_true rfl⟩) 46 gp_46 rfl rfl rfl (Nat.le_of_ble_eq_true rfl) dX4_common_65 ⟨by decide, by decide⟩ (fun r w1 h1 => ?_)
        obtain ⟨x13, v14, rfl, h, rfl⟩ := h1
        refine mW.eq (st' := [.int x13]) rfl rfl rfl rfl ?_
        obtain ⟨b16, h⟩ := h
        refine m_join (P := 84) (wM := gW cy ad ln v14 ou) (lvM := [(5, .int x12), (0, .ref (ad 46)), (1, .int a1), (2, .int a2), (3, .int x6), (4, .int x7)]) (stM := [.int (if x13 = 0 then x6 else x6 + (v14 57 x12.toNatClampNeg))]) ?_ (fun hJ84_17 => ?_)
        · refine m_topi (fun x18 ex18 => ?_)
          have h := h x18 ex18
          refine m_istore_n (lv' := [(3, .int x18), (5, .int x12), (0, .ref (ad 46)), (1, .int a1), (2, .int a2), (4, .int x7)]) C dX4_common_84 rfl (by decide) rfl ?_
          refine m_iinc (lv' := [(4, .int (x7 + 1)), (3, .int x18), (5, .int x12), (0, .ref (ad 46)), (1, .int a1), (2, .int a2)]) C dX4_common_85 (k := 5) rfl rfl (by decide) rfl ?_
          refine m_goto (tgt := 35) C dX4_common_88 (by decide) ?_
          obtain ⟨n19, hn, h⟩ := h
          exact mW.sub [3, 4, 5, 1, 0] rfl (ih n19 (x18, (x7 + 1), v14) hn h)
        · refine m_if_eq (tgt := 83) C dX4_common_68 (by decide) (fun c15 => ?_) (fun c15 => ?_)
          · refine m_iload_n C dX4_common_83 rfl 4 rfl ?_
            refine mW.sub (lv' := [(5, .int x12), (0, .ref (ad 46)), (1, .int a1), (2, .int a2), (3, .int x6), (4, .int x7)]) [0, 1, 2, 3, 4, 5] rfl ?_
            exact mW.eq rfl rfl (by simp only [if_pos c15]) rfl hJ84_17
          · refine m_iload_n C dX4_common_71 rfl 4 rfl ?_
            refine m_aload_n C dX4_common_72 rfl 1 rfl ?_
            refine m_get (T := TX4) (N := 19) C hiX4_common_X4 46 gp_46 rfl 17 (by decide) (by decide +kernel) rfl dX4_common_73 ?_
            refine m_iload C dX4_common_76 0 rfl ?_
            refine m_iald C 57 (gp_I (by decide)) (b16 c15) dX4_common_78 ?_
            refine m_iadd C dX4_common_79 ?_
            refine m_goto (tgt := 84) C dX4_common_80 (by decide) ?_
            refine mW.sub (lv' := [(5, .int x12), (0, .ref (ad 46)), (1, .int a1), (2, .int a2), (3, .int x6), (4, .int x7)]) [0, 1, 2, 3, 4, 5] rfl ?_
            exact mW.eq rfl rfl (by simp only [if_neg c15]) rfl hJ84_17
    · have h := h.2 c5
      refine m_iconst (v := 0) C dX4_common_28 (by decide) ?_
      exact m_iret C dX4_common_29 (Nat.le_of_ble_eq_true rfl) (Nat.le_of_ble_eq_true rfl) ⟨_, _, rfl, h, rfl⟩
  · refine m_if_eq (tgt := 15) C dX4_common_5 (by decide) (fun c1 => ?_) (fun c1 => ?_)
    · refine m_iconst (v := 1) C dX4_common_15 (by decide) ?_
      refine m_goto (tgt := 20) C dX4_common_16 (by decide) ?_
      refine mW.sub (lv' := [(0, .ref (ad 46)), (1, .int a1), (2, .int a2)]) [0, 1, 2] rfl ?_
      exact mW.eq rfl rfl (by simp only [if_pos c1]) rfl hJ20_3
    · refine m_iload_n C dX4_common_8 rfl 2 rfl ?_
      refine m_callS C (p_X4_isFile l D cy ad ln v ou a2) (va_cwS 1 C.2.2.2.2.1 gX4_common_X4_isFile rfl rfl rfl (by decide +kernel) ⟨Nat.le_of_ble_eq_true rfl, Nat.le_of_ble_eq_true rfl⟩) rfl rfl (Nat.le_of_ble_eq_true rfl) dX4_common_9 ⟨by decide, by decide⟩ (fun r w1 h1 => ?_)
      obtain ⟨rfl, rfl⟩ := h1
      refine mW.eq (st' := [.int (pin a2 0 15), .ref (ad 46)]) rfl rfl rfl rfl ?_
      refine m_if_ne (tgt := 19) C dX4_common_12 (by decide) (fun c2 => ?_) (fun c2 => ?_)
      · refine m_iconst (v := 0) C dX4_common_19 (by decide) ?_
        refine mW.sub (lv' := [(0, .ref (ad 46)), (1, .int a1), (2, .int a2)]) [0, 1, 2] rfl ?_
        exact mW.eq rfl rfl (by simp only [if_neg c1, if_neg c2]) rfl hJ20_3
      · refine m_iconst (v := 1) C dX4_common_15 (by decide) ?_
        refine m_goto (tgt := 20) C dX4_common_16 (by decide) ?_
        refine mW.sub (lv' := [(0, .ref (ad 46)), (1, .int a1), (2, .int a2)]) [0, 1, 2] rfl ?_
        exact mW.eq rfl rfl (by simp only [if_neg c1, if_pos c2]) rfl hJ20_3
theorem hiX4_all_X4 : ∀ w ∈ wsX40, w ∈ wsX4_all := by decide +kernel
def wp_X4_all (ln : Nat → Nat) (v : gV) (a1 : Int32) (post : Int32 → gV → Prop) : Prop :=
  (∀ v3 : gV, v3 = vrf v (if (pin a1 0 2) = 0 then 1 else 0) 0 0 → ((((prf (if (pin a1 0 2) = 0 then 1 else 0) 0 0) = 0) → (∃ I32 : Nat → Int32 → Int32 → Int32 → Prop, (∃ n, I32 n 0 0 0) ∧ ∀ (n : Nat) (x5 : Int32) (x6 : Int32) (x7 : Int32), I32 n x5 x6 x7 → (((400 ≤ x7) → ((post (if a1 = 0 then x5 else if a1 = 1 then x6 else v3 46 4) v3))) ∧ (¬ (400 ≤ x7) → (vp_in x7 (ln 56) ∧ ((∀ x15 : Int32, x15 = (if (v3 56 x7.toNatClampNeg) ≤ 0 then x5 else x5 + 1) → (vp_in x7 (ln 56) ∧ (((¬ ((v3 56 x7.toNatClampNeg) ≤ 0)) → vp_in x7 (ln 57)) ∧ (∀ x20 : Int32, x20 = (if (v3 56 x7.toNatClampNeg) ≤ 0 then x6 else x6 + (v3 57 x7.toNatClampNeg)) → (∃ n', n' < n ∧ I32 n' x15 x20 (x7 + 1)))))))))))) ∧ (¬ ((prf (if (pin a1 0 2) = 0 then 1 else 0) 0 0) = 0) → (post 0 v3))))
set_option maxHeartbeats 4000000 in
set_option maxRecDepth 100000 in
theorem s_X4_all (l : Launch) (D : va_G) (cy : Nat → ClassId) (ad ln : Nat → Nat) (v : gV) (ou : Nat → Int64) (a1 : Int32) {post : Int32 → gV → Prop} (h : wp_X4_all ln v a1 post) : mM l D cy yX4_all wsX4_all 2 0 0 [.ref (ad 46), .int a1] (gW cy ad ln v ou) (fun r w1 => ∃ (x1 : Int32) (v1 : gV), r = some (.int x1) ∧ post x1 v1 ∧ w1 = gW cy ad ln v1 ou) := by
  unfold wp_X4_all at h
  refine mM.of (cc := cX4_all) (nL := 5) (ret0 := (some .int)) (by decide +kernel) rfl (Nat.le_of_ble_eq_true rfl) ?_
  intro p e s m args below meth c A C hini
  refine mW.sub (lv' := [(0, .ref (ad 46)), (1, .int a1)]) [0, 1] rfl ?_
  refine m_aload_n C dX4_all_0 rfl 0 rfl ?_
  refine m_iload_n C dX4_all_1 rfl 1 rfl ?_
  refine m_iconst (v := 0) C dX4_all_2 (by decide) ?_
  refine m_iconst (v := 2) C dX4_all_3 (by decide) ?_
  refine m_callS C (p_X4_in l D cy ad ln v ou a1 0 2) (va_cwS 3 C.2.2.2.2.1 gX4_all_X4_in rfl rfl rfl (by decide +kernel) ⟨Nat.le_of_ble_eq_true rfl, Nat.le_of_ble_eq_true rfl⟩) rfl rfl (Nat.le_of_ble_eq_true rfl) dX4_all_4 ⟨by decide, by decide⟩ (fun r w1 h1 => ?_)
  obtain ⟨rfl, rfl⟩ := h1
  refine mW.eq (st' := [.int (pin a1 0 2), .ref (ad 46)]) rfl rfl rfl rfl ?_
  refine m_join (P := 15) (wM := gW cy ad ln v ou) (lvM := [(0, .ref (ad 46)), (1, .int a1)]) (stM := [.int (if (pin a1 0 2) = 0 then 1 else 0), .ref (ad 46)]) ?_ (fun hJ15_2 => ?_)
  · refine m_iconst (v := 0) C dX4_all_15 (by decide) ?_
    refine m_iconst (v := 0) C dX4_all_16 (by decide) ?_
    refine m_callV C (p_X4_refuse l D cy ad ln v ou (if (pin a1 0 2) = 0 then 1 else 0) 0 0) (cwV 3 C.2.2.2.2.1 gX4_all_X4_refuse rfl rfl rfl (by decide +kernel) ⟨Nat.le_of_ble_eq_true rfl, Nat.le_of_ble_eq_true rfl⟩) 46 gp_46 rfl rfl rfl (Nat.le_of_ble_eq_true rfl) dX4_all_17 ⟨by decide, by decide⟩ (fun r w1 h1 => ?_)
    obtain ⟨v3, ev3⟩ : ∃ z : gV, z = vrf v (if (pin a1 0 2) = 0 then 1 else 0) 0 0 := ⟨_, rfl⟩
    rw [← ev3] at h1
    obtain ⟨rfl, rfl⟩ := h1
    refine mW.eq (st' := [.int (prf (if (pin a1 0 2) = 0 then 1 else 0) 0 0)]) rfl rfl rfl rfl ?_
    have h := h v3 ev3
    refine m_if_eq (tgt := 25) C dX4_all_20 (by decide) (fun c4 => ?_) (fun c4 => ?_)
    · have h := h.1 c4
      refine m_iconst (v := 0) C dX4_all_25 (by decide) ?_
      refine m_istore_n (lv' := [(2, .int 0), (0, .ref (ad 46)), (1, .int a1)]) C dX4_all_26 rfl (by decide) rfl ?_
      refine m_iconst (v := 0) C dX4_all_27 (by decide) ?_
      refine m_istore_n (lv' := [(3, .int 0), (2, .int 0), (0, .ref (ad 46)), (1, .int a1)]) C dX4_all_28 rfl (by decide) rfl ?_
      refine m_iconst (v := 0) C dX4_all_29 (by decide) ?_
      refine m_istore (lv' := [(4, .int 0), (3, .int 0), (2, .int 0), (0, .ref (ad 46)), (1, .int a1)]) C dX4_all_30 (by decide) rfl ?_
      obtain ⟨I32, ⟨n0, h0⟩, hI⟩ := h
      refine mW.sub (lv' := [(0, .ref (ad 46)), (1, .int a1), (2, .int 0), (3, .int 0), (4, .int 0)]) [3, 4, 2, 1, 0] rfl ?_
      refine m_ind (σ := Int32 × Int32 × Int32) (fun n z => I32 n z.1 z.2.1 z.2.2) (fun z => gW cy ad ln v3 ou) 32 (fun z => [(0, .ref (ad 46)), (1, .int a1), (2, .int z.1), (3, .int z.2.1), (4, .int z.2.2)]) ?_ n0 (0, 0, 0) h0
      intro n z hi ih
      obtain ⟨x5, x6, x7⟩ := z
      have h := hI n x5 x6 x7 hi
      show mW _ _ _ _ _ _ _ _ _ _ _ _ _ _ _ _ (gW cy ad ln v3 ou) 32 [(0, .ref (ad 46)), (1, .int a1), (2, .int x5), (3, .int x6), (4, .int x7)] []
      refine m_iload C dX4_all_32 4 rfl ?_
      refine m_sipush (v := 400) C dX4_all_34 (by decide) ?_
      refine m_icmp_ge (tgt := 88) C dX4_all_37 (by decide) (fun c8 => ?_) (fun c8 => ?_)
      · have h := h.1 c8
        refine m_iload_n C dX4_all_88 rfl 1 rfl ?_
        refine m_join (P := 109) (wM := gW cy ad ln v3 ou) (lvM := [(0, .ref (ad 46)), (1, .int a1), (2, .int x5), (3, .int x6), (4, .int x7)]) (stM := [.int (if a1 = 0 then x5 else if a1 = 1 then x6 else v3 46 4)]) ?_ (fun hJ109_11 => ?_)
        · exact m_iret C dX4_all_109 (Nat.le_of_ble_eq_true rfl) (Nat.le_of_ble_eq_true rfl) ⟨_, _, rfl, h, rfl⟩
        · refine m_if_ne (tgt := 96) C dX4_all_89 (by decide) (fun c9 => ?_) (fun c9 => ?_)
          · refine m_iload_n C dX4_all_96 rfl 1 rfl ?_
            refine m_iconst (v := 1) C dX4_all_97 (by decide) ?_
            refine m_icmp_ne (tgt := 105) C dX4_all_98 (by decide) (fun c10 => ?_) (fun c10 => ?_)
            · refine m_aload_n C dX4_all_105 rfl 0 rfl ?_
              refine m_get (T := TX4) (N := 19) C hiX4_all_X4 46 gp_46 rfl 4 (by decide) (by decide +kernel) rfl dX4_all_106 ?_
              refine mW.sub (lv' := [(0, .ref (ad 46)), (1, .int a1), (2, .int x5), (3, .int x6), (4, .int x7)]) [0, 1, 2, 3, 4] rfl ?_
              exact mW.eq rfl rfl (by simp only [if_neg c9, if_neg c10]) rfl hJ109_11
            · refine m_iload_n C dX4_all_101 rfl 3 rfl ?_
              refine m_goto (tgt := 109) C dX4_all_102 (by decide) ?_
              refine mW.sub (lv' := [(0, .ref (ad 46)), (1, .int a1), (2, .int x5), (3, .int x6), (4, .int x7)]) [0, 1, 2, 3, 4] rfl ?_
              exact mW.eq rfl rfl (by simp only [if_neg c9, if_pos c10]) rfl hJ109_11
          · refine m_iload_n C dX4_all_92 rfl 2 rfl ?_
            refine m_goto (tgt := 109) C dX4_all_93 (by decide) ?_
            refine mW.sub (lv' := [(0, .ref (ad 46)), (1, .int a1), (2, .int x5), (3, .int x6), (4, .int x7)]) [0, 1, 2, 3, 4] rfl ?_
            exact mW.eq rfl rfl (by simp only [if_pos c9]) rfl hJ109_11
      · have h := h.2 c8
        refine m_aload_n C dX4_all_40 rfl 0 rfl ?_
        refine m_get (T := TX4) (N := 19) C hiX4_all_X4 46 gp_46 rfl 16 (by decide) (by decide +kernel) rfl dX4_all_41 ?_
        refine m_iload C dX4_all_44 4 rfl ?_
        obtain ⟨b12, h⟩ := h
        refine m_iald C 56 (gp_I (by decide)) b12 dX4_all_46 ?_
        refine m_join (P := 57) (wM := gW cy ad ln v3 ou) (lvM := [(0, .ref (ad 46)), (1, .int a1), (2, .int x5), (3, .int x6), (4, .int x7)]) (stM := [.int (if (v3 56 x7.toNatClampNeg) ≤ 0 then x5 else x5 + 1)]) ?_ (fun hJ57_14 => ?_)
        · refine m_topi (fun x15 ex15 => ?_)
          have h := h x15 ex15
          refine m_istore_n (lv' := [(2, .int x15), (0, .ref (ad 46)), (1, .int a1), (3, .int x6), (4, .int x7)]) C dX4_all_57 rfl (by decide) rfl ?_
          refine m_aload_n C dX4_all_58 rfl 1 rfl ?_
          refine m_get (T := TX4) (N := 19) C hiX4_all_X4 46 gp_46 rfl 16 (by decide) (by decide +kernel) rfl dX4_all_59 ?_
          refine m_iload C dX4_all_62 4 rfl ?_
          obtain ⟨b16, h⟩ := h
          refine m_iald C 56 (gp_I (by decide)) b16 dX4_all_64 ?_
          obtain ⟨b18, h⟩ := h
          refine m_join (P := 81) (wM := gW cy ad ln v3 ou) (lvM := [(2, .int x15), (0, .ref (ad 46)), (1, .int a1), (3, .int x6), (4, .int x7)]) (stM := [.int (if (v3 56 x7.toNatClampNeg) ≤ 0 then x6 else x6 + (v3 57 x7.toNatClampNeg))]) ?_ (fun hJ81_19 => ?_)
          · refine m_topi (fun x20 ex20 => ?_)
            have h := h x20 ex20
            refine m_istore_n (lv' := [(3, .int x20), (2, .int x15), (0, .ref (ad 46)), (1, .int a1), (4, .int x7)]) C dX4_all_81 rfl (by decide) rfl ?_
            refine m_iinc (lv' := [(4, .int (x7 + 1)), (3, .int x20), (2, .int x15), (0, .ref (ad 46)), (1, .int a1)]) C dX4_all_82 (k := 4) rfl rfl (by decide) rfl ?_
            refine m_goto (tgt := 32) C dX4_all_85 (by decide) ?_
            obtain ⟨n21, hn, h⟩ := h
            exact mW.sub [3, 4, 2, 1, 0] rfl (ih n21 (x15, x20, (x7 + 1)) hn h)
          · refine m_if_le (tgt := 80) C dX4_all_65 (by decide) (fun c17 => ?_) (fun c17 => ?_)
            · refine m_iload_n C dX4_all_80 rfl 3 rfl ?_
              refine mW.sub (lv' := [(2, .int x15), (0, .ref (ad 46)), (1, .int a1), (3, .int x6), (4, .int x7)]) [0, 1, 2, 3, 4] rfl ?_
              exact mW.eq rfl rfl (by simp only [if_pos c17]) rfl hJ81_19
            · refine m_iload_n C dX4_all_68 rfl 3 rfl ?_
              refine m_aload_n C dX4_all_69 rfl 1 rfl ?_
              refine m_get (T := TX4) (N := 19) C hiX4_all_X4 46 gp_46 rfl 17 (by decide) (by decide +kernel) rfl dX4_all_70 ?_
              refine m_iload C dX4_all_73 4 rfl ?_
              refine m_iald C 57 (gp_I (by decide)) (b18 c17) dX4_all_75 ?_
              refine m_iadd C dX4_all_76 ?_
              refine m_goto (tgt := 81) C dX4_all_77 (by decide) ?_
              refine mW.sub (lv' := [(2, .int x15), (0, .ref (ad 46)), (1, .int a1), (3, .int x6), (4, .int x7)]) [0, 1, 2, 3, 4] rfl ?_
              exact mW.eq rfl rfl (by simp only [if_neg c17]) rfl hJ81_19
        · refine m_if_le (tgt := 56) C dX4_all_47 (by decide) (fun c13 => ?_) (fun c13 => ?_)
          · refine m_iload_n C dX4_all_56 rfl 2 rfl ?_
            refine mW.sub (lv' := [(0, .ref (ad 46)), (1, .int a1), (2, .int x5), (3, .int x6), (4, .int x7)]) [0, 1, 2, 3, 4] rfl ?_
            exact mW.eq rfl rfl (by simp only [if_pos c13]) rfl hJ57_14
          · refine m_iload_n C dX4_all_50 rfl 2 rfl ?_
            refine m_iconst (v := 1) C dX4_all_51 (by decide) ?_
            refine m_iadd C dX4_all_52 ?_
            refine m_goto (tgt := 57) C dX4_all_53 (by decide) ?_
            refine mW.sub (lv' := [(0, .ref (ad 46)), (1, .int a1), (2, .int x5), (3, .int x6), (4, .int x7)]) [0, 1, 2, 3, 4] rfl ?_
            exact mW.eq rfl rfl (by simp only [if_neg c13]) rfl hJ57_14
    · have h := h.2 c4
      refine m_iconst (v := 0) C dX4_all_23 (by decide) ?_
      exact m_iret C dX4_all_24 (Nat.le_of_ble_eq_true rfl) (Nat.le_of_ble_eq_true rfl) ⟨_, _, rfl, h, rfl⟩
  · refine m_if_ne (tgt := 14) C dX4_all_7 (by decide) (fun c1 => ?_) (fun c1 => ?_)
    · refine m_iconst (v := 0) C dX4_all_14 (by decide) ?_
      refine mW.sub (lv' := [(0, .ref (ad 46)), (1, .int a1)]) [0, 1] rfl ?_
      exact mW.eq rfl rfl (by simp only [if_neg c1]) rfl hJ15_2
    · refine m_iconst (v := 1) C dX4_all_10 (by decide) ?_
      refine m_goto (tgt := 15) C dX4_all_11 (by decide) ?_
      refine mW.sub (lv' := [(0, .ref (ad 46)), (1, .int a1)]) [0, 1] rfl ?_
      exact mW.eq rfl rfl (by simp only [if_pos c1]) rfl hJ15_2
