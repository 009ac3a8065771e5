theorem va_up_id {α : Type} (f : Nat → α) (k : Nat) : va_up f k (f k) = f := by
  funext j
  unfold va_up
  split
  · rename_i h; rw [h]
  · rfl
theorem hiX2_add_X2 : ∀ w ∈ wsX20, w ∈ wsX2_add := by decide +kernel
def wp_X2_add (mc ms : Nat) (ln : Nat → Nat) (v : gV) (a1 : Int32) (r2 : Nat) (a3 : Int32) (a4 : Int32) (post : Int32 → (Nat → Nat) → gV → Prop) : Prop :=
  wp_X2_leastFree ln v  (fun (x1 : Int32) (v2 : gV) => (((x1 = (-1)) → (post (-1) ln v2)) ∧ (¬ (x1 = (-1)) → (∃ k : Nat, x1 = nI k ∧ k < 400 ∧ 1024 ≤ ln 13 ∧ ln 13 ≤ 25600 ∧ (∀ i, i < ln 13 → fits .byte (.int (v2 13 i)) = true) ∧ 0 + mrC ln x1 ≤ mc ∧ 0 + mrS ln x1 ≤ ms ∧ ∀ (ln4 : Nat → Nat) (v5 : gV), ln4 = va_up ln 13 (mrL ln x1) → v5 = mrV ln v2 x1 → ((¬ a3 < 0) ∧ ((¬ (x1 * 64) < 0) ∧ ((¬ a4 < 0) ∧ ((a3.toNatClampNeg + a4.toNatClampNeg ≤ ln4 r2) ∧ (((x1 * 64).toNatClampNeg + a4.toNatClampNeg ≤ ln4 13) ∧ ((∀ i, i < a4.toNatClampNeg → fits .byte (.int (v5 r2 (a3.toNatClampNeg + i))) = true) ∧ (∀ v10 : gV, v10 = va_up v5 13 (va_cpy (v5 r2) (v5 13) a3.toNatClampNeg (x1 * 64).toNatClampNeg a4.toNatClampNeg) → (vp_in x1 (ln4 8) ∧ ∀ v18 : gV, v18 = va_up v10 8 (upd (v10 8) x1.toNatClampNeg 1) → (vp_in x1 (ln4 9) ∧ ∀ v20 : gV, v20 = va_up v18 9 (upd (v18 9) x1.toNatClampNeg a4) → (vp_in x1 (ln4 10) ∧ ∀ v22 : gV, v22 = va_up v20 10 (upd (v20 10) x1.toNatClampNeg a1) → (vp_in (a1 &&& 511) (ln4 12) ∧ (vp_in x1 (ln4 11) ∧ ∀ v25 : gV, v25 = va_up v22 11 (upd (v22 11) x1.toNatClampNeg (v22 12 (a1 &&& 511).toNatClampNeg)) → (vp_in (a1 &&& 511) (ln4 12) ∧ ∀ v27 : gV, v27 = va_up v25 12 (upd (v25 12) (a1 &&& 511).toNatClampNeg x1) → (∀ v28 : gV, v28 = va_up v27 2 (upd (v27 2) 7 ((v27 2 7) + 1)) → (∀ v29 : gV, v29 = va_up v28 2 (upd (v28 2) 8 ((v28 2 8) + a4)) → (post x1 ln4 v29))))))))))))))))))))
set_option maxHeartbeats 4000000 in
set_option maxRecDepth 100000 in
theorem s_X2_add (l : Launch) (D : va_G) (cy : Nat → ClassId) (ad ln : Nat → Nat) (v : gV) (ou : Nat → Int64) (mc ms : Nat) (a1 : Int32) (r2 : Nat) (a3 : Int32) (a4 : Int32) (hr2 : gBs r2 = true) (hr2n : r2 ≠ 13) {post : Int32 → (Nat → Nat) → gV → Prop} (h : wp_X2_add mc ms ln v a1 r2 a3 a4 post) : mM l D cy yX2_add wsX2_add 4 mc ms [.ref (ad 2), .int a1, .ref (ad r2), .int a3, .int a4] (gW cy ad ln v ou) (fun r w1 => ∃ (x1 : Int32) (q1 : Nat) (ln1 : Nat → Nat) (v1 : gV), r = some (.int x1) ∧ post x1 ln1 v1 ∧ w1 = gW cy (va_up ad 13 q1) ln1 v1 ou) := by
  unfold wp_X2_add at h
  refine mM.of (cc := cX2_add) (nL := 6) (ret0 := (some .int)) (by decide +kernel) rfl (Nat.le_of_ble_eq_true rfl) ?_
  intro p e s m args below meth c A C hini
  refine mW.sub (lv' := [(0, .ref (ad 2)), (1, .int a1), (2, .ref (ad r2)), (3, .int a3), (4, .int a4)]) [0, 1, 2, 3, 4] rfl ?_
  refine m_aload_n C dX2_add_0 rfl 0 rfl ?_
  refine m_callV C (s_X2_leastFree l D cy ad ln v ou   h) (cwV 0 C.2.2.2.2.1 gX2_add_X2_leastFree rfl rfl rfl (by decide +kernel) ⟨Nat.le_of_ble_eq_true rfl, Nat.le_of_ble_eq_true rfl⟩) 2 gp_2 rfl rfl rfl (Nat.le_of_ble_eq_true rfl) dX2_add_1 ⟨Nat.zero_le _, Nat.zero_le _⟩ (fun r w1 h1 => ?_)
  obtain ⟨x1, v2, rfl, h, rfl⟩ := h1
  refine mW.eq (st' := [.int x1]) rfl rfl rfl rfl ?_
  refine m_istore (lv' := [(5, .int x1), (0, .ref (ad 2)), (1, .int a1), (2, .ref (ad r2)), (3, .int a3), (4, .int a4)]) C dX2_add_4 (by decide) rfl ?_
  refine m_iload C dX2_add_6 0 rfl ?_
  refine m_iconst (v := (-1)) C dX2_add_8 (by decide) ?_
  refine m_icmp_ne (tgt := 14) C dX2_add_9 (by decide) (fun c3 => ?_) (fun c3 => ?_)
  · have h := h.2 c3
    refine m_aload_n C dX2_add_14 rfl 1 rfl ?_
    refine m_iload C dX2_add_15 0 rfl ?_
    obtain ⟨kN, ekN, hk1, hk2, hk3, hk4, k8, k9, h⟩ := h
    have hM := s_makeRoomFor l D cy ad ln v2 ou kN hk1 hk2 hk3 hk4
    rw [← ekN] at hM
    refine m_callV C hM (cwV 1 C.2.2.2.2.1 gX2_add_X2_makeRoomFor rfl rfl rfl (by decide +kernel) ⟨Nat.le_of_ble_eq_true rfl, Nat.le_of_ble_eq_true rfl⟩) 2 gp_2 rfl rfl rfl (Nat.le_of_ble_eq_true rfl) dX2_add_17 ⟨k8, k9⟩ (fun r w1 h1 => ?_)
    obtain ⟨rfl, q7, rfl⟩ := h1
    obtain ⟨ad6, ead6⟩ : ∃ z : Nat → Nat, z = va_up ad 13 q7 := ⟨_, rfl⟩
    obtain ⟨ln4, eln4⟩ : ∃ z : Nat → Nat, z = va_up ln 13 (mrL ln x1) := ⟨_, rfl⟩
    obtain ⟨v5, ev5⟩ : ∃ z : gV, z = mrV ln v2 x1 := ⟨_, rfl⟩
    rw [← ead6, ← eln4, ← ev5]
    have h := h ln4 v5 eln4 ev5
    refine mW.eq (lv' := [(5, .int x1), (0, .ref (ad6 2)), (1, .int a1), (2, .ref (ad6 r2)), (3, .int a3), (4, .int a4)]) (st' := []) rfl (by first | rfl | (rw [ead6]; first | rfl | (simp only [va_up_ne _ _ hr2n]; rfl))) (by first | rfl | (rw [ead6]; first | rfl | (simp only [va_up_ne _ _ hr2n]; rfl))) rfl ?_
    refine m_aload_n C dX2_add_20 rfl 3 rfl ?_
    refine m_iload_n C dX2_add_21 rfl 4 rfl ?_
    refine m_aload_n C dX2_add_22 rfl 1 rfl ?_
    refine m_get (T := TX2) (N := 9) C hiX2_add_X2 2 gp_2 rfl 5 (by decide) (by decide +kernel) rfl dX2_add_23 ?_
    refine m_iload C dX2_add_26 0 rfl ?_
    refine m_bipush (v := 64) C dX2_add_28 (by decide) ?_
    refine m_imul C dX2_add_30 ?_
    refine m_iload C dX2_add_31 5 rfl ?_
    obtain ⟨b11, h⟩ := h
    obtain ⟨b12, h⟩ := h
    obtain ⟨b13, h⟩ := h
    obtain ⟨b14, h⟩ := h
    obtain ⟨b15, h⟩ := h
    obtain ⟨b16, h⟩ := h
    obtain ⟨v10, ev10⟩ : ∃ z : gV, z = va_up v5 13 (va_cpy (v5 r2) (v5 13) a3.toNatClampNeg (x1 * 64).toNatClampNeg a4.toNatClampNeg) := ⟨_, rfl⟩
    have h := h v10 ev10
    refine m_copy (w' := gW cy ad6 ln4 v10 ou) C (by decide +kernel) (by decide +kernel) (by decide +kernel) (by decide +kernel) r2 13 1 1 (gp_B hr2) (gp_B (by decide)) rfl rfl rfl b11 b12 b13 b14 b15 b16 (Nat.le_of_ble_eq_true rfl) (Nat.le_of_ble_eq_true rfl) dX2_add_33 (by rw [ev10]; exact gs_B (by decide)) ?_
    refine m_aload_n C dX2_add_36 rfl 1 rfl ?_
    refine m_get (T := TX2) (N := 9) C hiX2_add_X2 2 gp_2 rfl 0 (by decide) (by decide +kernel) rfl dX2_add_37 ?_
    refine m_iload C dX2_add_40 0 rfl ?_
    refine m_iconst (v := 1) C dX2_add_42 (by decide) ?_
    obtain ⟨b17, h⟩ := h
    obtain ⟨v18, ev18⟩ : ∃ z : gV, z = va_up v10 8 (upd (v10 8) x1.toNatClampNeg 1) := ⟨_, rfl⟩
    have h := h v18 ev18
    refine m_iast (w' := gW cy ad6 ln4 v18 ou) C 8 (gp_I (by decide)) b17 dX2_add_43 (by rw [ev18]; exact gs_I (by decide)) ?_
    refine m_aload_n C dX2_add_44 rfl 1 rfl ?_
    refine m_get (T := TX2) (N := 9) C hiX2_add_X2 2 gp_2 rfl 1 (by decide) (by decide +kernel) rfl dX2_add_45 ?_
    refine m_iload C dX2_add_48 0 rfl ?_
    refine m_iload C dX2_add_50 5 rfl ?_
    obtain ⟨b19, h⟩ := h
    obtain ⟨v20, ev20⟩ : ∃ z : gV, z = va_up v18 9 (upd (v18 9) x1.toNatClampNeg a4) := ⟨_, rfl⟩
    have h := h v20 ev20
    refine m_iast (w' := gW cy ad6 ln4 v20 ou) C 9 (gp_I (by decide)) b19 dX2_add_52 (by rw [ev20]; exact gs_I (by decide)) ?_
    refine m_aload_n C dX2_add_53 rfl 1 rfl ?_
    refine m_get (T := TX2) (N := 9) C hiX2_add_X2 2 gp_2 rfl 2 (by decide) (by decide +kernel) rfl dX2_add_54 ?_
    refine m_iload C dX2_add_57 0 rfl ?_
    refine m_iload_n C dX2_add_59 rfl 2 rfl ?_
    obtain ⟨b21, h⟩ := h
    obtain ⟨v22, ev22⟩ : ∃ z : gV, z = va_up v20 10 (upd (v20 10) x1.toNatClampNeg a1) := ⟨_, rfl⟩
    have h := h v22 ev22
    refine m_iast (w' := gW cy ad6 ln4 v22 ou) C 10 (gp_I (by decide)) b21 dX2_add_60 (by rw [ev22]; exact gs_I (by decide)) ?_
    refine m_aload_n C dX2_add_61 rfl 1 rfl ?_
    refine m_get (T := TX2) (N := 9) C hiX2_add_X2 2 gp_2 rfl 3 (by decide) (by decide +kernel) rfl dX2_add_62 ?_
    refine m_iload C dX2_add_65 0 rfl ?_
    refine m_aload_n C dX2_add_67 rfl 1 rfl ?_
    refine m_get (T := TX2) (N := 9) C hiX2_add_X2 2 gp_2 rfl 4 (by decide) (by decide +kernel) rfl dX2_add_68 ?_
    refine m_iload_n C dX2_add_71 rfl 2 rfl ?_
    refine m_sipush (v := 511) C dX2_add_72 (by decide) ?_
    refine m_iand C dX2_add_75 ?_
    obtain ⟨b23, h⟩ := h
    refine m_iald C 12 (gp_I (by decide)) b23 dX2_add_76 ?_
    obtain ⟨b24, h⟩ := h
    obtain ⟨v25, ev25⟩ : ∃ z : gV, z = va_up v22 11 (upd (v22 11) x1.toNatClampNeg (v22 12 (a1 &&& 511).toNatClampNeg)) := ⟨_, rfl⟩
    have h := h v25 ev25
    refine m_iast (w' := gW cy ad6 ln4 v25 ou) C 11 (gp_I (by decide)) b24 dX2_add_77 (by rw [ev25]; exact gs_I (by decide)) ?_
    refine m_aload_n C dX2_add_78 rfl 1 rfl ?_
    refine m_get (T := TX2) (N := 9) C hiX2_add_X2 2 gp_2 rfl 4 (by decide) (by decide +kernel) rfl dX2_add_79 ?_
    refine m_iload_n C dX2_add_82 rfl 2 rfl ?_
    refine m_sipush (v := 511) C dX2_add_83 (by decide) ?_
    refine m_iand C dX2_add_86 ?_
    refine m_iload C dX2_add_87 0 rfl ?_
    obtain ⟨b26, h⟩ := h
    obtain ⟨v27, ev27⟩ : ∃ z : gV, z = va_up v25 12 (upd (v25 12) (a1 &&& 511).toNatClampNeg x1) := ⟨_, rfl⟩
    have h := h v27 ev27
    refine m_iast (w' := gW cy ad6 ln4 v27 ou) C 12 (gp_I (by decide)) b26 dX2_add_89 (by rw [ev27]; exact gs_I (by decide)) ?_
    refine m_aload_n C dX2_add_90 rfl 1 rfl ?_
    refine m_dup C dX2_add_91 rfl ?_
    refine m_get (T := TX2) (N := 9) C hiX2_add_X2 2 gp_2 rfl 7 (by decide) (by decide +kernel) rfl dX2_add_92 ?_
    refine m_iconst (v := 1) C dX2_add_95 (by decide) ?_
    refine m_iadd C dX2_add_96 ?_
    obtain ⟨v28, ev28⟩ : ∃ z : gV, z = va_up v27 2 (upd (v27 2) 7 ((v27 2 7) + 1)) := ⟨_, rfl⟩
    have h := h v28 ev28
    refine m_put (w' := gW cy ad6 ln4 v28 ou) (T := TX2) (N := 9) C hiX2_add_X2 tyX2 tyX2_ok nmX2 2 gp_2 rfl 7 (by decide) (by decide +kernel) rfl rfl rfl (Nat.le_of_ble_eq_true rfl) dX2_add_97 (by rw [ev28]; exact gW_set (k := 2) (by decide) rfl) ?_
    refine m_aload_n C dX2_add_100 rfl 1 rfl ?_
    refine m_dup C dX2_add_101 rfl ?_
    refine m_get (T := TX2) (N := 9) C hiX2_add_X2 2 gp_2 rfl 8 (by decide) (by decide +kernel) rfl dX2_add_102 ?_
    refine m_iload C dX2_add_105 5 rfl ?_
    refine m_iadd C dX2_add_107 ?_
    obtain ⟨v29, ev29⟩ : ∃ z : gV, z = va_up v28 2 (upd (v28 2) 8 ((v28 2 8) + a4)) := ⟨_, rfl⟩
    have h := h v29 ev29
    refine m_put (w' := gW cy ad6 ln4 v29 ou) (T := TX2) (N := 9) C hiX2_add_X2 tyX2 tyX2_ok nmX2 2 gp_2 rfl 8 (by decide) (by decide +kernel) rfl rfl rfl (Nat.le_of_ble_eq_true rfl) dX2_add_108 (by rw [ev29]; exact gW_set (k := 2) (by decide) rfl) ?_
    refine m_iload C dX2_add_111 0 rfl ?_
    exact m_iret C dX2_add_113 k8 k9 ⟨_, _, _, _, rfl, h, by rw [ead6]⟩
  · have h := h.1 c3
    refine m_iconst (v := (-1)) C dX2_add_12 (by decide) ?_
    exact m_iret C dX2_add_13 (Nat.zero_le _) (Nat.zero_le _) ⟨_, ad 13, _, _, rfl, h, by rw [va_up_id]⟩
def wp_X2_take (mc ms : Nat) (ln : Nat → Nat) (v : gV) (r1 : Nat) (a2 : Int32) (a3 : Int32) (post : Int32 → (Nat → Nat) → gV → Prop) : Prop :=
  wp_X2_hashOf ln v r1 a2 a3 (fun (x1 : Int32) (v2 : gV) => (wp_X2_find ln v2 x1 r1 a2 (a3 - a2) (fun (x3 : Int32) (v4 : gV) => (((x3 = (-1)) → (∃ (mc14 ms15 : Nat), 0 + mc14 ≤ mc ∧ 0 + ms15 ≤ ms ∧ wp_X2_add mc14 ms15 ln v4 x1 r1 a2 (a3 - a2) (fun (x16 : Int32) (ln8 : Nat → Nat) (v9 : gV) => (post x16 ln8 v9)))) ∧ (¬ (x3 = (-1)) → (wp_X2_useAgain ln v4 x3 (fun (v7 : gV) => (post x3 ln v7))))))))
set_option maxHeartbeats 4000000 in
set_option maxRecDepth 100000 in
theorem s_X2_take (l : Launch) (D : va_G) (cy : Nat → ClassId) (ad ln : Nat → Nat) (v : gV) (ou : Nat → Int64) (mc ms : Nat) (r1 : Nat) (a2 : Int32) (a3 : Int32) (hr1 : gBs r1 = true) (hr1n : r1 ≠ 13) {post : Int32 → (Nat → Nat) → gV → Prop} (h : wp_X2_take mc ms ln v r1 a2 a3 post) : mM l D cy yX2_take wsX2_take 5 mc ms [.ref (ad 2), .ref (ad r1), .int a2, .int a3] (gW cy ad ln v ou) (fun r w1 => ∃ (x1 : Int32) (q1 : Nat) (ln1 : Nat → Nat) (v1 : gV), r = some (.int x1) ∧ post x1 ln1 v1 ∧ w1 = gW cy (va_up ad 13 q1) ln1 v1 ou) := by
  unfold wp_X2_take at h
  refine mM.of (cc := cX2_take) (nL := 6) (ret0 := (some .int)) (by decide +kernel) rfl (Nat.le_of_ble_eq_true rfl) ?_
  intro p e s m args below meth c A C hini
  refine mW.sub (lv' := [(0, .ref (ad 2)), (1, .ref (ad r1)), (2, .int a2), (3, .int a3)]) [0, 1, 2, 3] rfl ?_
  refine m_aload_n C dX2_take_0 rfl 1 rfl ?_
  refine m_iload_n C dX2_take_1 rfl 2 rfl ?_
  refine m_iload_n C dX2_take_2 rfl 3 rfl ?_
  refine m_callS C (s_X2_hashOf l D cy ad ln v ou r1 a2 a3 hr1 h) (va_cwS 3 C.2.2.2.2.1 gX2_take_X2_hashOf rfl rfl rfl (by decide +kernel) ⟨Nat.le_of_ble_eq_true rfl, Nat.le_of_ble_eq_true rfl⟩) rfl rfl (Nat.le_of_ble_eq_true rfl) dX2_take_3 ⟨Nat.zero_le _, Nat.zero_le _⟩ (fun r w1 h1 => ?_)
  obtain ⟨x1, v2, rfl, h, rfl⟩ := h1
  refine mW.eq (st' := [.int x1]) rfl rfl rfl rfl ?_
  refine m_istore (lv' := [(4, .int x1), (0, .ref (ad 2)), (1, .ref (ad r1)), (2, .int a2), (3, .int a3)]) C dX2_take_6 (by decide) rfl ?_
  refine m_aload_n C dX2_take_8 rfl 1 rfl ?_
  refine m_iload C dX2_take_9 0 rfl ?_
  refine m_aload_n C dX2_take_11 rfl 2 rfl ?_
  refine m_iload_n C dX2_take_12 rfl 3 rfl ?_
  refine m_iload_n C dX2_take_13 rfl 4 rfl ?_
  refine m_iload_n C dX2_take_14 rfl 3 rfl ?_
  refine m_isub C dX2_take_15 ?_
  refine m_callV C (s_X2_find l D cy ad ln v2 ou x1 r1 a2 (a3 - a2) hr1 h) (cwV 4 C.2.2.2.2.1 gX2_take_X2_find rfl rfl rfl (by decide +kernel) ⟨Nat.le_of_ble_eq_true rfl, Nat.le_of_ble_eq_true rfl⟩) 2 gp_2 rfl rfl rfl (Nat.le_of_ble_eq_true rfl) dX2_take_16 ⟨Nat.zero_le _, Nat.zero_le _⟩ (fun r w1 h1 => ?_)
  obtain ⟨x3, v4, rfl, h, rfl⟩ := h1
  refine mW.eq (st' := [.int x3]) rfl rfl rfl rfl ?_
  refine m_istore (lv' := [(5, .int x3), (4, .int x1), (0, .ref (ad 2)), (1, .ref (ad r1)), (2, .int a2), (3, .int a3)]) C dX2_take_19 (by decide) rfl ?_
  refine m_iload C dX2_take_21 0 rfl ?_
  refine m_iconst (v := (-1)) C dX2_take_23 (by decide) ?_
  refine m_icmp_ne (tgt := 39) C dX2_take_24 (by decide) (fun c5 => ?_) (fun c5 => ?_)
  · have h := h.2 c5
    refine m_aload_n C dX2_take_39 rfl 2 rfl ?_
    refine m_iload C dX2_take_40 0 rfl ?_
    refine m_callV C (s_X2_useAgain l D cy ad ln v4 ou x3  h) (cwV 1 C.2.2.2.2.1 gX2_take_X2_useAgain rfl rfl rfl (by decide +kernel) ⟨Nat.le_of_ble_eq_true rfl, Nat.le_of_ble_eq_true rfl⟩) 2 gp_2 rfl rfl rfl (Nat.le_of_ble_eq_true rfl) dX2_take_42 ⟨Nat.zero_le _, Nat.zero_le _⟩ (fun r w1 h1 => ?_)
    obtain ⟨v7, rfl, h, rfl⟩ := h1
    refine mW.eq (st' := []) rfl rfl rfl rfl ?_
    refine m_iload C dX2_take_45 0 rfl ?_
    exact m_iret C dX2_take_47 (Nat.zero_le _) (Nat.zero_le _) ⟨_, ad 13, _, _, rfl, h, by rw [va_up_id]⟩
  · have h := h.1 c5
    refine m_aload_n C dX2_take_27 rfl 2 rfl ?_
    refine m_iload C dX2_take_28 1 rfl ?_
    refine m_aload_n C dX2_take_30 rfl 3 rfl ?_
    refine m_iload_n C dX2_take_31 rfl 4 rfl ?_
    refine m_iload_n C dX2_take_32 rfl 5 rfl ?_
    refine m_iload_n C dX2_take_33 rfl 4 rfl ?_
    refine m_isub C dX2_take_34 ?_
    obtain ⟨mc14, ms15, k12, k13, h⟩ := h
    refine m_callV C (s_X2_add l D cy ad ln v4 ou mc14 ms15 x1 r1 a2 (a3 - a2) hr1 hr1n h) (cwV 4 C.2.2.2.2.1 gX2_take_X2_add rfl rfl rfl (by decide +kernel) ⟨Nat.le_of_ble_eq_true rfl, Nat.le_of_ble_eq_true rfl⟩) 2 gp_2 rfl rfl rfl (Nat.le_of_ble_eq_true rfl) dX2_take_35 ⟨k12, k13⟩ (fun r w1 h1 => ?_)
    obtain ⟨x16, q11, ln8, v9, rfl, h, rfl⟩ := h1
    obtain ⟨ad10, ead10⟩ : ∃ z : Nat → Nat, z = va_up ad 13 q11 := ⟨_, rfl⟩
    rw [← ead10]
    refine mW.eq (lv' := [(5, .int x3), (4, .int x1), (0, .ref (ad10 2)), (1, .ref (ad10 r1)), (2, .int a2), (3, .int a3)]) (st' := [.int x16]) rfl (by first | rfl | (rw [ead10]; first | rfl | (simp only [va_up_ne _ _ hr1n]; rfl))) (by first | rfl | (rw [ead10]; first | rfl | (simp only [va_up_ne _ _ hr1n]; rfl))) rfl ?_
    exact m_iret C dX2_take_38 k12 k13 ⟨_, _, _, _, rfl, h, by rw [ead10]⟩
