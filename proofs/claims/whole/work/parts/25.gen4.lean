theorem hiX4_cut_X4 : ∀ w ∈ wsX40, w ∈ wsX4_cut := by decide +kernel
def wp_X4_cut (ln : Nat → Nat) (v : gV) (post : gV → Prop) : Prop :=
  ∀ v1 : gV, v1 = va_up v 46 (upd (v 46) 8 0) → (∃ I9 : Nat → Int32 → Int32 → gV → Prop, (∃ n, I9 n 0 1 v1) ∧ ∀ (n : Nat) (x2 : Int32) (x3 : Int32) (v4 : gV), I9 n x2 x3 v4 → ((((v4 46 6) < x3) → (post v4)) ∧ (¬ ((v4 46 6) < x3) → (((x3 = (v4 46 6)) → ((((1 : Int32) = 0) → (∃ n', n' < n ∧ I9 n' x2 (x3 + 1) v4)) ∧ (¬ ((1 : Int32) = 0) → (vp_in (v4 46 8) (ln 49) ∧ ∀ v10 : gV, v10 = va_up v4 49 (upd (v4 49) (v4 46 8).toNatClampNeg x3) → (∀ v11 : gV, v11 = va_up v10 46 (upd (v10 46) 8 ((v10 46 8) + 1)) → (∃ n', n' < n ∧ I9 n' x3 (x3 + 1) v11)))))) ∧ (¬ (x3 = (v4 46 6)) → ((((x3 - x2) = (v4 46 3)) → ((((1 : Int32) = 0) → (∃ n', n' < n ∧ I9 n' x2 (x3 + 1) v4)) ∧ (¬ ((1 : Int32) = 0) → (vp_in (v4 46 8) (ln 49) ∧ ∀ v17 : gV, v17 = va_up v4 49 (upd (v4 49) (v4 46 8).toNatClampNeg x3) → (∀ v18 : gV, v18 = va_up v17 46 (upd (v17 46) 8 ((v17 46 8) + 1)) → (∃ n', n' < n ∧ I9 n' x3 (x3 + 1) v18)))))) ∧ (¬ ((x3 - x2) = (v4 46 3)) → ((((x3 - x2) < (v4 46 2)) → ((((0 : Int32) = 0) → (∃ n', n' < n ∧ I9 n' x2 (x3 + 1) v4)) ∧ (¬ ((0 : Int32) = 0) → (vp_in (v4 46 8) (ln 49) ∧ ∀ v24 : gV, v24 = va_up v4 49 (upd (v4 49) (v4 46 8).toNatClampNeg x3) → (∀ v25 : gV, v25 = va_up v24 46 (upd (v24 46) 8 ((v24 46 8) + 1)) → (∃ n', n' < n ∧ I9 n' x3 (x3 + 1) v25)))))) ∧ (¬ ((x3 - x2) < (v4 46 2)) → (wp_X4_sum ln v4 x2 x3 (fun (x27 : Int32) (v28 : gV) => ((∀ x31 : Int32, x31 = (if (x27 &&& ((1 <<< ((v28 46 1) &&& 31)) - 1)) = 0 then 1 else 0) → (((x31 = 0) → (∃ n', n' < n ∧ I9 n' x2 (x3 + 1) v28)) ∧ (¬ (x31 = 0) → (vp_in (v28 46 8) (ln 49) ∧ ∀ v35 : gV, v35 = va_up v28 49 (upd (v28 49) (v28 46 8).toNatClampNeg x3) → (∀ v36 : gV, v36 = va_up v35 46 (upd (v35 46) 8 ((v35 46 8) + 1)) → (∃ n', n' < n ∧ I9 n' x3 (x3 + 1) v36))))))))))))))))))
set_option maxHeartbeats 4000000 in
set_option maxRecDepth 100000 in
theorem s_X4_cut (l : Launch) (D : va_G) (cy : Nat → ClassId) (ad ln : Nat → Nat) (v : gV) (ou : Nat → Int64) {post : gV → Prop} (h : wp_X4_cut ln v  post) : mM l D cy yX4_cut wsX4_cut 3 0 0 [.ref (ad 46)] (gW cy ad ln v ou) (fun r w1 => ∃ v1 : gV, r = none ∧ post v1 ∧ w1 = gW cy ad ln v1 ou) := by
  unfold wp_X4_cut at h
  refine mM.of (cc := cX4_cut) (nL := 5) (ret0 := none) (by decide +kernel) rfl (Nat.le_of_ble_eq_true rfl) ?_
  intro p e s m args below meth c A C hini
  refine mW.sub (lv' := [(0, .ref (ad 46))]) [0] rfl ?_
  refine m_aload_n C dX4_cut_0 rfl 0 rfl ?_
  refine m_iconst (v := 0) C dX4_cut_1 (by decide) ?_
  obtain ⟨v1, ev1⟩ : ∃ z : gV, z = va_up v 46 (upd (v 46) 8 0) := ⟨_, rfl⟩
  have h := h v1 ev1
  refine m_put (w' := gW cy ad ln v1 ou) (T := TX4) (N := 19) C hiX4_cut_X4 tyX4 tyX4_ok nmX4 46 gp_46 rfl 8 (by decide) (by decide +kernel) rfl rfl rfl (Nat.le_of_ble_eq_true rfl) dX4_cut_2 (by rw [ev1]; exact gW_set (k := 46) (by decide) rfl) ?_
  refine m_iconst (v := 0) C dX4_cut_5 (by decide) ?_
  refine m_istore_n (lv' := [(1, .int 0), (0, .ref (ad 46))]) C dX4_cut_6 rfl (by decide) rfl ?_
  refine m_iconst (v := 1) C dX4_cut_7 (by decide) ?_
  refine m_istore_n (lv' := [(2, .int 1), (1, .int 0), (0, .ref (ad 46))]) C dX4_cut_8 rfl (by decide) rfl ?_
  obtain ⟨I9, ⟨n0, h0⟩, hI⟩ := h
  refine mW.sub (lv' := [(0, .ref (ad 46)), (1, .int 0), (2, .int 1)]) [2, 1, 0] rfl ?_
  refine m_ind (σ := Int32 × Int32 × gV) (fun n z => I9 n z.1 z.2.1 z.2.2) (fun z => gW cy ad ln z.2.2 ou) 9 (fun z => [(0, .ref (ad 46)), (1, .int z.1), (2, .int z.2.1)]) ?_ n0 (0, 1, v1) h0
  intro n z hi ih
  obtain ⟨x2, x3, v4⟩ := z
  have h := hI n x2 x3 v4 hi
  show mW _ _ _ _ _ _ _ _ _ _ _ _ _ _ _ _ (gW cy ad ln v4 ou) 9 [(0, .ref (ad 46)), (1, .int x2), (2, .int x3)] []
  refine m_iload_n C dX4_cut_9 rfl 2 rfl ?_
  refine m_aload_n C dX4_cut_10 rfl 0 rfl ?_
  refine m_get (T := TX4) (N := 19) C hiX4_cut_X4 46 gp_46 rfl 6 (by decide) (by decide +kernel) rfl dX4_cut_11 ?_
  refine m_icmp_gt (tgt := 103) C dX4_cut_14 (by decide) (fun c5 => ?_) (fun c5 => ?_)
  · have h := h.1 c5
    exact m_vret C dX4_cut_103 (Nat.le_of_ble_eq_true rfl) (Nat.le_of_ble_eq_true rfl) ⟨_, rfl, h, rfl⟩
  · have h := h.2 c5
    refine m_iload_n C dX4_cut_17 rfl 2 rfl ?_
    refine m_iload_n C dX4_cut_18 rfl 1 rfl ?_
    refine m_isub C dX4_cut_19 ?_
    refine m_istore_n (lv' := [(3, .int (x3 - x2)), (0, .ref (ad 46)), (1, .int x2), (2, .int x3)]) C dX4_cut_20 rfl (by decide) rfl ?_
    refine m_iload_n C dX4_cut_21 rfl 3 rfl ?_
    refine m_aload_n C dX4_cut_22 rfl 1 rfl ?_
    refine m_get (T := TX4) (N := 19) C hiX4_cut_X4 46 gp_46 rfl 6 (by decide) (by decide +kernel) rfl dX4_cut_23 ?_
    refine m_icmp_eq (tgt := 63) C dX4_cut_26 (by decide) (fun c6 => ?_) (fun c6 => ?_)
    · have h := h.1 c6
      refine m_iconst (v := 1) C dX4_cut_63 (by decide) ?_
      refine m_goto (tgt := 68) C dX4_cut_64 (by decide) ?_
      refine m_istore (lv' := [(4, .int 1), (3, .int (x3 - x2)), (0, .ref (ad 46)), (1, .int x2), (2, .int x3)]) C dX4_cut_68 (by decide) rfl ?_
      refine m_iload C dX4_cut_70 0 rfl ?_
      refine m_if_eq (tgt := 97) C dX4_cut_72 (by decide) (fun c7 => ?_) (fun c7 => ?_)
      · have h := h.1 c7
        refine m_iinc (lv' := [(2, .int (x3 + 1)), (4, .int 1), (3, .int (x3 - x2)), (0, .ref (ad 46)), (1, .int x2)]) C dX4_cut_97 (k := 4) rfl rfl (by decide) rfl ?_
        refine m_goto (tgt := 9) C dX4_cut_100 (by decide) ?_
        obtain ⟨n8, hn, h⟩ := h
        exact mW.sub [3, 4, 0] rfl (ih n8 (x2, (x3 + 1), v4) hn h)
      · have h := h.2 c7
        refine m_aload_n C dX4_cut_75 rfl 2 rfl ?_
        refine m_get (T := TX4) (N := 19) C hiX4_cut_X4 46 gp_46 rfl 9 (by decide) (by decide +kernel) rfl dX4_cut_76 ?_
        refine m_aload_n C dX4_cut_79 rfl 2 rfl ?_
        refine m_get (T := TX4) (N := 19) C hiX4_cut_X4 46 gp_46 rfl 8 (by decide) (by decide +kernel) rfl dX4_cut_80 ?_
        refine m_iload_n C dX4_cut_83 rfl 4 rfl ?_
        obtain ⟨b9, h⟩ := h
        obtain ⟨v10, ev10⟩ : ∃ z : gV, z = va_up v4 49 (upd (v4 49) (v4 46 8).toNatClampNeg x3) := ⟨_, rfl⟩
        have h := h v10 ev10
        refine m_iast (w' := gW cy ad ln v10 ou) C 49 (gp_I (by decide)) b9 dX4_cut_84 (by rw [ev10]; exact gs_I (by decide)) ?_
        refine m_aload_n C dX4_cut_85 rfl 2 rfl ?_
        refine m_dup C dX4_cut_86 rfl ?_
        refine m_get (T := TX4) (N := 19) C hiX4_cut_X4 46 gp_46 rfl 8 (by decide) (by decide +kernel) rfl dX4_cut_87 ?_
        refine m_iconst (v := 1) C dX4_cut_90 (by decide) ?_
        refine m_iadd C dX4_cut_91 ?_
        obtain ⟨v11, ev11⟩ : ∃ z : gV, z = va_up v10 46 (upd (v10 46) 8 ((v10 46 8) + 1)) := ⟨_, rfl⟩
        have h := h v11 ev11
        refine m_put (w' := gW cy ad ln v11 ou) (T := TX4) (N := 19) C hiX4_cut_X4 tyX4 tyX4_ok nmX4 46 gp_46 rfl 8 (by decide) (by decide +kernel) rfl rfl rfl (Nat.le_of_ble_eq_true rfl) dX4_cut_92 (by rw [ev11]; exact gW_set (k := 46) (by decide) rfl) ?_
        refine m_iload_n C dX4_cut_95 rfl 4 rfl ?_
        refine m_istore_n (lv' := [(1, .int x3), (4, .int 1), (3, .int (x3 - x2)), (0, .ref (ad 46)), (2, .int x3)]) C dX4_cut_96 rfl (by decide) rfl ?_
        refine m_iinc (lv' := [(2, .int (x3 + 1)), (1, .int x3), (4, .int 1), (3, .int (x3 - x2)), (0, .ref (ad 46))]) C dX4_cut_97 (k := 4) rfl rfl (by decide) rfl ?_
        refine m_goto (tgt := 9) C dX4_cut_100 (by decide) ?_
        obtain ⟨n12, hn, h⟩ := h
        exact mW.sub [4, 1, 0] rfl (ih n12 (x3, (x3 + 1), v11) hn h)
    · have h := h.2 c6
      refine m_iload_n C dX4_cut_29 rfl 0 rfl ?_
      refine m_aload_n C dX4_cut_30 rfl 1 rfl ?_
      refine m_get (T := TX4) (N := 19) C hiX4_cut_X4 46 gp_46 rfl 3 (by decide) (by decide +kernel) rfl dX4_cut_31 ?_
      refine m_icmp_eq (tgt := 63) C dX4_cut_34 (by decide) (fun c13 => ?_) (fun c13 => ?_)
      · have h := h.1 c13
        refine m_iconst (v := 1) C dX4_cut_63 (by decide) ?_
        refine m_goto (tgt := 68) C dX4_cut_64 (by decide) ?_
        refine m_istore (lv' := [(4, .int 1), (3, .int (x3 - x2)), (0, .ref (ad 46)), (1, .int x2), (2, .int x3)]) C dX4_cut_68 (by decide) rfl ?_
        refine m_iload C dX4_cut_70 0 rfl ?_
        refine m_if_eq (tgt := 97) C dX4_cut_72 (by decide) (fun c14 => ?_) (fun c14 => ?_)
        · have h := h.1 c14
          refine m_iinc (lv' := [(2, .int (x3 + 1)), (4, .int 1), (3, .int (x3 - x2)), (0, .ref (ad 46)), (1, .int x2)]) C dX4_cut_97 (k := 4) rfl rfl (by decide) rfl ?_
          refine m_goto (tgt := 9) C dX4_cut_100 (by decide) ?_
          obtain ⟨n15, hn, h⟩ := h
          exact mW.sub [3, 4, 0] rfl (ih n15 (x2, (x3 + 1), v4) hn h)
        · have h := h.2 c14
          refine m_aload_n C dX4_cut_75 rfl 2 rfl ?_
          refine m_get (T := TX4) (N := 19) C hiX4_cut_X4 46 gp_46 rfl 9 (by decide) (by decide +kernel) rfl dX4_cut_76 ?_
          refine m_aload_n C dX4_cut_79 rfl 2 rfl ?_
          refine m_get (T := TX4) (N := 19) C hiX4_cut_X4 46 gp_46 rfl 8 (by decide) (by decide +kernel) rfl dX4_cut_80 ?_
          refine m_iload_n C dX4_cut_83 rfl 4 rfl ?_
          obtain ⟨b16, h⟩ := h
          obtain ⟨v17, ev17⟩ : ∃ z : gV, z = va_up v4 49 (upd (v4 49) (v4 46 8).toNatClampNeg x3) := ⟨_, rfl⟩
          have h := h v17 ev17
          refine m_iast (w' := gW cy ad ln v17 ou) C 49 (gp_I (by decide)) b16 dX4_cut_84 (by rw [ev17]; exact gs_I (by decide)) ?_
          refine m_aload_n C dX4_cut_85 rfl 2 rfl ?_
          refine m_dup C dX4_cut_86 rfl ?_
          refine m_get (T := TX4) (N := 19) C hiX4_cut_X4 46 gp_46 rfl 8 (by decide) (by decide +kernel) rfl dX4_cut_87 ?_
          refine m_iconst (v := 1) C dX4_cut_90 (by decide) ?_
          refine m_iadd C dX4_cut_91 ?_
          obtain ⟨v18, ev18⟩ : ∃ z : gV, z = va_up v17 46 (upd (v17 46) 8 ((v17 46 8) + 1)) := ⟨_, rfl⟩
          have h := h v18 ev18
          refine m_put (w' := gW cy ad ln v18 ou) (T := TX4) (N := 19) C hiX4_cut_X4 tyX4 tyX4_ok nmX4 46 gp_46 rfl 8 (by decide) (by decide +kernel) rfl rfl rfl (Nat.le_of_ble_eq_true rfl) dX4_cut_92 (by rw [ev18]; exact gW_set (k := 46) (by decide) rfl) ?_
          refine m_iload_n C dX4_cut_95 rfl 4 rfl ?_
          refine m_istore_n (lv' := [(1, .int x3), (4, .int 1), (3, .int (x3 - x2)), (0, .ref (ad 46)), (2, .int x3)]) C dX4_cut_96 rfl (by decide) rfl ?_
          refine m_iinc (lv' := [(2, .int (x3 + 1)), (1, .int x3), (4, .int 1), (3, .int (x3 - x2)), (0, .ref (ad 46))]) C dX4_cut_97 (k := 4) rfl rfl (by decide) rfl ?_
          refine m_goto (tgt := 9) C dX4_cut_100 (by decide) ?_
          obtain ⟨n19, hn, h⟩ := h
          exact mW.sub [4, 1, 0] rfl (ih n19 (x3, (x3 + 1), v18) hn h)
      · have h := h.2 c13
        refine m_iload_n C dX4_cut_37 rfl 0 rfl ?_
        refine m_aload_n C dX4_cut_38 rfl 1 rfl ?_
        refine m_get (T := TX4) (N := 19) C hiX4_cut_X4 46 gp_46 rfl 2 (by decide) (by decide +kernel) rfl dX4_cut_39 ?_
        refine m_icmp_lt (tgt := 67) C dX4_cut_42 (by decide) (fun c20 => ?_) (fun c20 => ?_)
        · have h := h.1 c20
          refine m_iconst (v := 0) C dX4_cut_67 (by decide) ?_
          refine m_istore (lv' := [(4, .int 0), (3, .int (x3 - x2)), (0, .ref (ad 46)), (1, .int x2), (2, .int x3)]) C dX4_cut_68 (by decide) rfl ?_
          refine m_iload C dX4_cut_70 0 rfl ?_
          refine m_if_eq (tgt := 97) C dX4_cut_72 (by decide) (fun c21 => ?_) (fun c21 => ?_)
          · have h := h.1 c21
            refine m_iinc (lv' := [(2, .int (x3 + 1)), (4, .int 0), (3, .int (x3 - x2)), (0, .ref (ad 46)), (1, .int x2)]) C dX4_cut_97 (k := 4) rfl rfl (by decide) rfl ?_
            refine m_goto (tgt := 9) C dX4_cut_100 (by decide) ?_
            obtain ⟨n22, hn, h⟩ := h
            exact mW.sub [3, 4, 0] rfl (ih n22 (x2, (x3 + 1), v4) hn h)
          · have h := h.2 c21
            refine m_aload_n C dX4_cut_75 rfl 2 rfl ?_
            refine m_get (T := TX4) (N := 19) C hiX4_cut_X4 46 gp_46 rfl 9 (by decide) (by decide +kernel) rfl dX4_cut_76 ?_
            refine m_aload_n C dX4_cut_79 rfl 2 rfl ?_
            refine m_get (T := TX4) (N := 19) C hiX4_cut_X4 46 gp_46 rfl 8 (by decide) (by decide +kernel) rfl dX4_cut_80 ?_
            refine m_iload_n C dX4_cut_83 rfl 4 rfl ?_
            obtain ⟨b23, h⟩ := h
            obtain ⟨v24, ev24⟩ : ∃ z : gV, z = va_up v4 49 (upd (v4 49) (v4 46 8).toNatClampNeg x3) := ⟨_, rfl⟩
            have h := h v24 ev24
            refine m_iast (w' := gW cy ad ln v24 ou) C 49 (gp_I (by decide)) b23 dX4_cut_84 (by rw [ev24]; exact gs_I (by decide)) ?_
            refine m_aload_n C dX4_cut_85 rfl 2 rfl ?_
            refine m_dup C dX4_cut_86 rfl ?_
            refine m_get (T := TX4) (N := 19) C hiX4_cut_X4 46 gp_46 rfl 8 (by decide) (by decide +kernel) rfl dX4_cut_87 ?_
            refine m_iconst (v := 1) C dX4_cut_90 (by decide) ?_
            refine m_iadd C dX4_cut_91 ?_
            obtain ⟨v25, ev25⟩ : ∃ z : gV, z = va_up v24 46 (upd (v24 46) 8 ((v24 46 8) + 1)) := ⟨_, rfl⟩
            have h := h v25 ev25
            refine m_put (w' := gW cy ad ln v25 ou) (T := TX4) (N := 19) C hiX4_cut_X4 tyX4 tyX4_ok nmX4 46 gp_46 rfl 8 (by decide) (by decide +kernel) rfl rfl rfl (Nat.le_of_ble_eq_true rfl) dX4_cut_92 (by rw [ev25]; exact gW_set (k := 46) (by decide) rfl) ?_
            refine m_iload_n C dX4_cut_95 rfl 4 rfl ?_
            refine m_istore_n (lv' := [(1, .int x3), (4, .int 0), (3, .int (x3 - x2)), (0, .ref (ad 46)), (2, .int x3)]) C dX4_cut_96 rfl (by decide) rfl ?_
            refine m_iinc (lv' := [(2, .int (x3 + 1)), (1, .int x3), (4, .int 0), (3, .int (x3 - x2)), (0, .ref (ad 46))]) C dX4_cut_97 (k := 4) rfl rfl (by decide) rfl ?_
            refine m_goto (tgt := 9) C dX4_cut_100 (by decide) ?_
            obtain ⟨n26, hn, h⟩ := h
            exact mW.sub [4, 1, 0] rfl (ih n26 (x3, (x3 + 1), v25) hn h)
        · have h := h.2 c20
          refine m_aload_n C dX4_cut_45 rfl 1 rfl ?_
          refine m_iload_n C dX4_cut_46 rfl 2 rfl ?_
          refine m_iload_n C dX4_cut_47 rfl 3 rfl ?_
          refine m_callV C (s_X4_sum l D cy ad ln v4 ou x2 x3  h) (cwV 2 C.2.2.2.2.1 gX4_cut_X4_sum rfl rfl rfl (by decide +kernel) ⟨Nat.le_of_ble_eq_true rfl, Nat.le_of_ble_eq_true rfl⟩) 46 gp_46 rfl rfl rfl (Nat.le_of_ble_eq_true rfl) dX4_cut_48 ⟨by decide, by decide⟩ (fun r w1 h1 => ?_)
          obtain ⟨x27, v28, rfl, h, rfl⟩ := h1
          refine mW.eq (st' := [.int x27]) rfl rfl rfl rfl ?_
          refine m_iconst (v := 1) C dX4_cut_51 (by decide) ?_
          refine m_aload_n C dX4_cut_52 rfl 1 rfl ?_
          refine m_get (T := TX4) (N := 19) C hiX4_cut_X4 46 gp_46 rfl 1 (by decide) (by decide +kernel) rfl dX4_cut_53 ?_
          refine m_ishl C dX4_cut_56 ?_
          refine m_iconst (v := 1) C dX4_cut_57 (by decide) ?_
          refine m_isub C dX4_cut_58 ?_
          refine m_iand C dX4_cut_59 ?_
          refine m_join (P := 68) (wM := gW cy ad ln v28 ou) (lvM := [(3, .int (x3 - x2)), (0, .ref (ad 46)), (1, .int x2), (2, .int x3)]) (stM := [.int (if (x27 &&& ((1 <<< ((v28 46 1) &&& 31)) - 1)) = 0 then 1 else 0)]) ?_ (fun hJ68_30 => ?_)
          · refine m_topi (fun x31 ex31 => ?_)
            have h := h x31 ex31
            refine m_istore (lv' := [(4, .int x31), (3, .int (x3 - x2)), (0, .ref (ad 46)), (1, .int x2), (2, .int x3)]) C dX4_cut_68 (by decide) rfl ?_
            refine m_iload C dX4_cut_70 0 rfl ?_
            refine m_if_eq (tgt := 97) C dX4_cut_72 (by decide) (fun c32 => ?_) (fun c32 => ?_)
            · have h := h.1 c32
              refine m_iinc (lv' := [(2, .int (x3 + 1)), (4, .int x31), (3, .int (x3 - x2)), (0, .ref (ad 46)), (1, .int x2)]) C dX4_cut_97 (k := 4) rfl rfl (by decide) rfl ?_
              refine m_goto (tgt := 9) C dX4_cut_100 (by decide) ?_
              obtain ⟨n33, hn, h⟩ := h
              exact mW.sub [3, 4, 0] rfl (ih n33 (x2, (x3 + 1), v28) hn h)
            · have h := h.2 c32
              refine m_aload_n C dX4_cut_75 rfl 2 rfl ?_
              refine m_get (T := TX4) (N := 19) C hiX4_cut_X4 46 gp_46 rfl 9 (by decide) (by decide +kernel) rfl dX4_cut_76 ?_
              refine m_aload_n C dX4_cut_79 rfl 2 rfl ?_
              refine m_get (T := TX4) (N := 19) C hiX4_cut_X4 46 gp_46 rfl 8 (by decide) (by decide +kernel) rfl dX4_cut_80 ?_
              refine m_iload_n C dX4_cut_83 rfl 4 rfl ?_
              obtain ⟨b34, h⟩ := h
              obtain ⟨v35, ev35⟩ : ∃ z : gV, z = va_up v28 49 (upd (v28 49) (v28 46 8).toNatClampNeg x3) := ⟨_, rfl⟩
              have h := h v35 ev35
              refine m_iast (w' := gW cy ad ln v35 ou) C 49 (gp_I (by decide)) b34 dX4_cut_84 (by rw [ev35]; exact gs_I (by decide)) ?_
              refine m_aload_n C dX4_cut_85 rfl 2 rfl ?_
              refine m_dup C dX4_cut_86 rfl ?_
              refine m_get (T := TX4) (N := 19) C hiX4_cut_X4 46 gp_46 rfl 8 (by decide) (by decide +kernel) rfl dX4_cut_87 ?_
              refine m_iconst (v := 1) C dX4_cut_90 (by decide) ?_
              refine m_iadd C dX4_cut_91 ?_
              obtain ⟨v36, ev36⟩ : ∃ z : gV, z = va_up v35 46 (upd (v35 46) 8 ((v35 46 8) + 1)) := ⟨_, rfl⟩
              have h := h v36 ev36
              refine m_put (w' := gW cy ad ln v36 ou) (T := TX4) (N := 19) C hiX4_cut_X4 tyX4 tyX4_ok nmX4 46 gp_46 rfl 8 (by decide) (by decide +kernel) rfl rfl rfl (Nat.le_of_ble_eq_true rfl) dX4_cut_92 (by rw [ev36]; exact gW_set (k := 46) (by decide) rfl) ?_
              refine m_iload_n C dX4_cut_95 rfl 4 rfl ?_
              refine m_istore_n (lv' := [(1, .int x3), (4, .int x31), (3, .int (x3 - x2)), (0, .ref (ad 46)), (2, .int x3)]) C dX4_cut_96 rfl (by decide) rfl ?_
              refine m_iinc (lv' := [(2, .int (x3 + 1)), (1, .int x3), (4, .int x31), (3, .int (x3 - x2)), (0, .ref (ad 46))]) C dX4_cut_97 (k := 4) rfl rfl (by decide) rfl ?_
              refine m_goto (tgt := 9) C dX4_cut_100 (by decide) ?_
              obtain ⟨n37, hn, h⟩ := h
              exact mW.sub [4, 1, 0] rfl (ih n37 (x3, (x3 + 1), v36) hn h)
          · refine m_if_ne (tgt := 67) C dX4_cut_60 (by decide) (fun c29 => ?_) (fun c29 => ?_)
            · refine m_iconst (v := 0) C dX4_cut_67 (by decide) ?_
              refine mW.sub (lv' := [(3, .int (x3 - x2)), (0, .ref (ad 46)), (1, .int x2), (2, .int x3)]) [0, 1, 2, 3] rfl ?_
              exact mW.eq rfl rfl (by simp only [if_neg c29]) rfl hJ68_30
            · refine m_iconst (v := 1) C dX4_cut_63 (by decide) ?_
              refine m_goto (tgt := 68) C dX4_cut_64 (by decide) ?_
              refine mW.sub (lv' := [(3, .int (x3 - x2)), (0, .ref (ad 46)), (1, .int x2), (2, .int x3)]) [0, 1, 2, 3] rfl ?_
              exact mW.eq rfl rfl (by simp only [if_pos c29]) rfl hJ68_30
theorem hiX4_numberOf_X4 : ∀ w ∈ wsX40, w ∈ wsX4_numberOf := by decide +kernel
def wp_X4_numberOf (ln : Nat → Nat) (v : gV) (a1 : Int32) (a2 : Int32) (post : Int32 → gV → Prop) : Prop :=
  ∃ I5 : Nat → Int32 → Int32 → gV → Prop, (∃ n, I5 n (-1) 0 v) ∧ ∀ (n : Nat) (x1 : Int32) (x2 : Int32) (v3 : gV), I5 n x1 x2 v3 → (((400 ≤ x2) → (((x1 < 0) → (post x1 v3)) ∧ (¬ (x1 < 0) → (vp_in x1 (ln 51) ∧ ∀ v7 : gV, v7 = va_up v3 51 (upd (v3 51) x1.toNatClampNeg (vp_nar .boolean 1)) → (vp_in x1 (ln 57) ∧ ∀ v9 : gV, v9 = va_up v7 57 (upd (v7 57) x1.toNatClampNeg (a2 - a1)) → (∃ I87 : Nat → Int32 → gV → Prop, (∃ n, I87 n 0 v9) ∧ ∀ (n : Nat) (x10 : Int32) (v11 : gV), I87 n x10 v11 → ((((a2 - a1) ≤ x10) → (post x1 v11)) ∧ (¬ ((a2 - a1) ≤ x10) → (vp_in (a1 + x10) (ln 48) ∧ (vp_in ((64 * x1) + x10) (ln 58) ∧ ∀ v15 : gV, v15 = va_up v11 58 (upd (v11 58) ((64 * x1) + x10).toNatClampNeg (v11 48 (a1 + x10).toNatClampNeg)) → (∃ n', n' < n ∧ I87 n' (x10 + 1) v15))))))))))) ∧ (¬ (400 ≤ x2) → (wp_X4_isPart ln v3 x2 a1 a2 (fun (x17 : Int32) (v18 : gV) => (((x17 = 0) → (((¬ (0 ≤ x1)) → vp_in x2 (ln 56)) ∧ ((¬ (0 ≤ x1)) → ((v18 56 x2.toNatClampNeg) = 0) → vp_in x2 (ln 51)) ∧ (∀ x26 : Int32, x26 = (if 0 ≤ x1 then x1 else if (v18 56 x2.toNatClampNeg) = 0 then if (v18 51 x2.toNatClampNeg) = 0 then x2 else x1 else x1) → (∃ n', n' < n ∧ I5 n' x26 (x2 + 1) v18)))) ∧ (¬ (x17 = 0) → (post x2 v18)))))))
set_option maxHeartbeats 4000000 in
set_option maxRecDepth 100000 in
theorem s_X4_numberOf (l : Launch) (D : va_G) (cy : Nat → ClassId) (ad ln : Nat → Nat) (v : gV) (ou : Nat → Int64) (a1 : Int32) (a2 : Int32) {post : Int32 → gV → Prop} (h : wp_X4_numberOf ln v a1 a2 post) : mM l D cy yX4_numberOf wsX4_numberOf 2 0 0 [.ref (ad 46), .int a1, .int a2] (gW cy ad ln v ou) (fun r w1 => ∃ (x1 : Int32) (v1 : gV), r = some (.int x1) ∧ post x1 v1 ∧ w1 = gW cy ad ln v1 ou) := by
  unfold wp_X4_numberOf at h
  refine mM.of (cc := cX4_numberOf) (nL := 5) (ret0 := (some .int)) (by decide +kernel) rfl (Nat.le_of_ble_eq_true rfl) ?_
  intro p e s m args below meth c A C hini
  refine mW.sub (lv' := [(0, .ref (ad 46)), (1, .int a1), (2, .int a2)]) [0, 1, 2] rfl ?_
  refine m_iconst (v := (-1)) C dX4_numberOf_0 (by decide) ?_
  refine m_istore_n (lv' := [(3, .int (-1)), (0, .ref (ad 46)), (1, .int a1), (2, .int a2)]) C dX4_numberOf_1 rfl (by decide) rfl ?_
  refine m_iconst (v := 0) C dX4_numberOf_2 (by decide) ?_
  refine m_istore (lv' := [(4, .int 0), (3, .int (-1)), (0, .ref (ad 46)), (1, .int a1), (2, .int a2)]) C dX4_numberOf_3 (by decide) rfl ?_
  obtain ⟨I5, ⟨n0, h0⟩, hI⟩ := h
  refine mW.sub (lv' := [(0, .ref (ad 46)), (1, .int a1), (2, .int a2), (3, .int (-1)), (4, .int 0)]) [2, 3, 4, 1, 0] rfl ?_
  refine m_ind (σ := Int32 × Int32 × gV) (fun n z => I5 n z.1 z.2.1 z.2.2) (fun z => gW cy ad ln z.2.2 ou) 5 (fun z => [(0, .ref (ad 46)), (1, .int a1), (2, .int a2), (3, .int z.1), (4, .int z.2.1)]) ?_ n0 ((-1), 0, v) h0
  intro n z hi ih
  obtain ⟨x1, x2, v3⟩ := z
  have h := hI n x1 x2 v3 hi
  show mW _ _ _ _ _ _ _ _ _ _ _ _ _ _ _ _ (gW cy ad ln v3 ou) 5 [(0, .ref (ad 46)), (1, .int a1), (2, .int a2), (3, .int x1), (4, .int x2)] []
  refine m_iload C dX4_numberOf_5 4 rfl ?_
  refine m_sipush (v := 400) C dX4_numberOf_7 (by decide) ?_
  refine m_icmp_ge (tgt := 64) C dX4_numberOf_10 (by decide) (fun c4 => ?_) (fun c4 => ?_)
  · have h := h.1 c4
    refine m_iload_n C dX4_numberOf_64 rfl 3 rfl ?_
    refine m_if_lt (tgt := 122) C dX4_numberOf_65 (by decide) (fun c5 => ?_) (fun c5 => ?_)
    · have h := h.1 c5
      refine m_iload_n C dX4_numberOf_122 rfl 3 rfl ?_
      exact m_iret C dX4_numberOf_123 (Nat.le_of_ble_eq_true rfl) (Nat.le_of_ble_eq_true rfl) ⟨_, _, rfl, h, rfl⟩
    · have h := h.2 c5
      refine m_aload_n C dX4_numberOf_68 rfl 0 rfl ?_
      refine m_get (T := TX4) (N := 19) C hiX4_numberOf_X4 46 gp_46 rfl 11 (by decide) (by decide +kernel) rfl dX4_numberOf_69 ?_
      refine m_iload_n C dX4_numberOf_72 rfl 3 rfl ?_
      refine m_iconst (v := 1) C dX4_numberOf_73 (by decide) ?_
      obtain ⟨b6, h⟩ := h
      obtain ⟨v7, ev7⟩ : ∃ z : gV, z = va_up v3 51 (upd (v3 51) x1.toNatClampNeg (vp_nar .boolean 1)) := ⟨_, rfl⟩
      have h := h v7 ev7
      refine m_zast (w' := gW cy ad ln v7 ou) C 51 gp_Z b6 dX4_numberOf_74 (by rw [ev7]; exact gs_Z) ?_
      refine m_aload_n C dX4_numberOf_75 rfl 0 rfl ?_
      refine m_get (T := TX4) (N := 19) C hiX4_numberOf_X4 46 gp_46 rfl 17 (by decide) (by decide +kernel) rfl dX4_numberOf_76 ?_
      refine m_iload_n C dX4_numberOf_79 rfl 3 rfl ?_
      refine m_iload_n C dX4_numberOf_80 rfl 2 rfl ?_
      refine m_iload_n C dX4_numberOf_81 rfl 1 rfl ?_
      refine m_isub C dX4_numberOf_82 ?_
      obtain ⟨b8, h⟩ := h
      obtain ⟨v9, ev9⟩ : ∃ z : gV, z = va_up v7 57 (upd (v7 57) x1.toNatClampNeg (a2 - a1)) := ⟨_, rfl⟩
      have h := h v9 ev9
      refine m_iast (w' := gW cy ad ln v9 ou) C 57 (gp_I (by decide)) b8 dX4_numberOf_83 (by rw [ev9]; exact gs_I (by decide)) ?_
      refine m_iconst (v := 0) C dX4_numberOf_84 (by decide) ?_
      refine m_istore (lv' := [(4, .int 0), (0, .ref (ad 46)), (1, .int a1), (2, .int a2), (3, .int x1)]) C dX4_numberOf_85 (by decide) rfl ?_
      obtain ⟨I87, ⟨n0, h0⟩, hI⟩ := h
      refine mW.sub (lv' := [(0, .ref (ad 46)), (1, .int a1), (2, .int a2), (3, .int x1), (4, .int 0)]) [1, 2, 3, 4, 0] rfl ?_
      refine m_ind (σ := Int32 × gV) (fun n z => I87 n z.1 z.2) (fun z => gW cy ad ln z.2 ou) 87 (fun z => [(0, .ref (ad 46)), (1, .int a1), (2, .int a2), (3, .int x1), (4, .int z.1)]) ?_ n0 (0, v9) h0
      intro n z hi ih
      obtain ⟨x10, v11⟩ := z
      have h := hI n x10 v11 hi
      show mW _ _ _ _ _ _ _ _ _ _ _ _ _ _ _ _ (gW cy ad ln v11 ou) 87 [(0, .ref (ad 46)), (1, .int a1), (2, .int a2), (3, .int x1), (4, .int x10)] []
      refine m_iload C dX4_numberOf_87 4 rfl ?_
      refine m_iload_n C dX4_numberOf_89 rfl 2 rfl ?_
      refine m_iload_n C dX4_numberOf_90 rfl 1 rfl ?_
      refine m_isub C dX4_numberOf_91 ?_
      refine m_icmp_ge (tgt := 122) C dX4_numberOf_92 (by decide) (fun c12 => ?_) (fun c12 => ?_)
      · have h := h.1 c12
        refine m_iload_n C dX4_numberOf_122 rfl 3 rfl ?_
        exact m_iret C dX4_numberOf_123 (Nat.le_of_ble_eq_true rfl) (Nat.le_of_ble_eq_true rfl) ⟨_, _, rfl, h, rfl⟩
      · have h := h.2 c12
        refine m_aload_n C dX4_numberOf_95 rfl 0 rfl ?_
        refine m_get (T := TX4) (N := 19) C hiX4_numberOf_X4 46 gp_46 rfl 18 (by decide) (by decide +kernel) rfl dX4_numberOf_96 ?_
        refine m_bipush (v := 64) C dX4_numberOf_99 (by decide) ?_
        refine m_iload_n C dX4_numberOf_101 rfl 3 rfl ?_
        refine m_imul C dX4_numberOf_102 ?_
        refine m_iload C dX4_numberOf_103 4 rfl ?_
        refine m_iadd C dX4_numberOf_105 ?_
        refine m_aload_n C dX4_numberOf_106 rfl 0 rfl ?_
        refine m_get (T := TX4) (N := 19) C hiX4_numberOf_X4 46 gp_46 rfl 7 (by decide) (by decide +kernel) rfl dX4_numberOf_107 ?_
        refine m_iload_n C dX4_numberOf_110 rfl 1 rfl ?_
        refine m_iload C dX4_numberOf_111 4 rfl ?_
        refine m_iadd C dX4_numberOf_113 ?_
        obtain ⟨b13, h⟩ := h
        refine m_iald C 48 (gp_I (by decide)) b13 dX4_numberOf_114 ?_
        obtain ⟨b14, h⟩ := h
        obtain ⟨v15, ev15⟩ : ∃ z : gV, z = va_up v11 58 (upd (v11 58) ((64 * x1) + x10).toNatClampNeg (v11 48 (a1 + x10).toNatClampNeg)) := ⟨_, rfl⟩
        have h := h v15 ev15
        refine m_iast (w' := gW cy ad ln v15 ou) C 58 (gp_I (by decide)) b14 dX4_numberOf_115 (by rw [ev15]; exact gs_I (by decide)) ?_
        refine m_iinc (lv' := [(4, .int (x10 + 1)), (0, .ref (ad 46)), (1, .int a1), (2, .int a2), (3, .int x1)]) C dX4_numberOf_116 (k := 4) rfl rfl (by decide) rfl ?_
        refine m_goto (tgt := 87) C dX4_numberOf_119 (by decide) ?_
        obtain ⟨n16, hn, h⟩ := h
        exact mW.sub [1, 2, 3, 4, 0] rfl (ih n16 ((x10 + 1), v15) hn h)
  · have h := h.2 c4
    refine m_aload_n C dX4_numberOf_13 rfl 0 rfl ?_
    refine m_iload C dX4_numberOf_14 4 rfl ?_
    refine m_iload_n C dX4_numberOf_16 rfl 1 rfl ?_
    refine m_iload_n C dX4_numberOf_17 rfl 2 rfl ?_
    refine m_callV C (s_X4_isPart l D cy ad ln v3 ou x2 a1 a2  h) (cwV 3 C.2.2.2.2.1 gX4_numberOf_X4_isPart rfl rfl rfl (by decide +kernel) ⟨Nat.le_of_ble_eq_true rfl, Nat.le_of_ble_eq_true rfl⟩) 46 gp_46 rfl rfl rfl (Nat.le_of_ble_eq_true rfl) dX4_numberOf_18 ⟨by decide, by decide⟩ (fun r w1 h1 => ?_)
    obtain ⟨x17, v18, rfl, h, rfl⟩ := h1
    refine mW.eq (st' := [.int x17]) rfl rfl rfl rfl ?_
    refine m_if_eq (tgt := 27) C dX4_numberOf_21 (by decide) (fun c19 => ?_) (fun c19 => ?_)
    · have h := h.1 c19
      refine m_iload_n C dX4_numberOf_27 rfl 3 rfl ?_
      obtain ⟨b21, h⟩ := h
      obtain ⟨b23, h⟩ := h
      refine m_join (P := 57) (wM := gW cy ad ln v18 ou) (lvM := [(0, .ref (ad 46)), (1, .int a1), (2, .int a2), (3, .int x1), (4, .int x2)]) (stM := [.int (if 0 ≤ x1 then x1 else if (v18 56 x2.toNatClampNeg) = 0 then if (v18 51 x2.toNatClampNeg) = 0 then x2 else x1 else x1)]) ?_ (fun hJ57_25 => ?_)
      · refine m_topi (fun x26 ex26 => ?_)
        have h := h x26 ex26
        refine m_istore_n (lv' := [(3, .int x26), (0, .ref (ad 46)), (1, .int a1), (2, .int a2), (4, .int x2)]) C dX4_numberOf_57 rfl (by decide) rfl ?_
        refine m_iinc (lv' := [(4, .int (x2 + 1)), (3, .int x26), (0, .ref (ad 46)), (1, .int a1), (2, .int a2)]) C dX4_numberOf_58 (k := 4) rfl rfl (by decide) rfl ?_
        refine m_goto (tgt := 5) C dX4_numberOf_61 (by decide) ?_
        obtain ⟨n27, hn, h⟩ := h
        exact mW.sub [2, 3, 4, 1, 0] rfl (ih n27 (x26, (x2 + 1), v18) hn h)
      · refine m_if_ge (tgt := 56) C dX4_numberOf_28 (by decide) (fun c20 => ?_) (fun c20 => ?_)
        · refine m_iload_n C dX4_numberOf_56 rfl 3 rfl ?_
          refine mW.sub (lv' := [(0, .ref (ad 46)), (1, .int a1), (2, .int a2), (3, .int x1), (4, .int x2)]) [0, 1, 2, 3, 4] rfl ?_
          exact mW.eq rfl rfl (by simp only [if_pos c20]) rfl hJ57_25
        · refine m_aload_n C dX4_numberOf_31 rfl 0 rfl ?_
          refine m_get (T := TX4) (N := 19) C hiX4_numberOf_X4 46 gp_46 rfl 16 (by decide) (by decide +kernel) rfl dX4_numberOf_32 ?_
          refine m_iload C dX4_numberOf_35 4 rfl ?_
          refine m_iald C 56 (gp_I (by decide)) (b21 c20) dX4_numberOf_37 ?_
          refine m_if_ne (tgt := 56) C dX4_numberOf_38 (by decide) (fun c22 => ?_) (fun c22 => ?_)
          · refine m_iload_n C dX4_numberOf_56 rfl 3 rfl ?_
            refine mW.sub (lv' := [(0, .ref (ad 46)), (1, .int a1), (2, .int a2), (3, .int x1), (4, .int x2)]) [0, 1, 2, 3, 4] rfl ?_
            exact mW.eq rfl rfl (by simp only [if_neg c20, if_neg c22]) rfl hJ57_25
          · refine m_aload_n C dX4_numberOf_41 rfl 0 rfl ?_
            refine m_get (T := TX4) (N := 19) C hiX4_numberOf_X4 46 gp_46 rfl 11 (by decide) (by decide +kernel) rfl dX4_numberOf_42 ?_
            refine m_iload C dX4_numberOf_45 4 rfl ?_
            refine m_zald C 51 gp_Z (b23 c20 c22) dX4_numberOf_47 ?_
            refine m_if_ne (tgt := 56) C dX4_numberOf_48 (by decide) (fun c24 => ?_) (fun c24 => ?_)
            · refine m_iload_n C dX4_numberOf_56 rfl 3 rfl ?_
              refine mW.sub (lv' := [(0, .ref (ad 46)), (1, .int a1), (2, .int a2), (3, .int x1), (4, .int x2)]) [0, 1, 2, 3, 4] rfl ?_
              exact mW.eq rfl rfl (by simp only [if_neg c20, if_pos c22, if_neg c24]) rfl hJ57_25
            · refine m_iload C dX4_numberOf_51 4 rfl ?_
              refine m_goto (tgt := 57) C dX4_numberOf_53 (by decide) ?_
              refine mW.sub (lv' := [(0, .ref (ad 46)), (1, .int a1), (2, .int a2), (3, .int x1), (4, .int x2)]) [0, 1, 2, 3, 4] rfl ?_
              exact mW.eq rfl rfl (by simp only [if_neg c20, if_pos c22, if_pos c24]) rfl hJ57_25
    · have h := h.2 c19
      refine m_iload C dX4_numberOf_24 4 rfl ?_
      exact m_iret C dX4_numberOf_26 (Nat.le_of_ble_eq_true rfl) (Nat.le_of_ble_eq_true rfl) ⟨_, _, rfl, h, rfl⟩
theorem hiX4_give_X4 : ∀ w ∈ wsX40, w ∈ wsX4_give := by decide +kernel
def wp_X4_give (ln : Nat → Nat) (v : gV) (post : Int32 → gV → Prop) : Prop :=
  ∃ I2 : Nat → Int32 → gV → Prop, (∃ n, I2 n 0 v) ∧ ∀ (n : Nat) (x1 : Int32) (v2 : gV), I2 n x1 v2 → (((400 ≤ x1) → (wp_X4_cut ln v2  (fun (v5 : gV) => (∃ I30 : Nat → Int32 → Int32 → gV → Prop, (∃ n, I30 n 1 0 v5) ∧ ∀ (n : Nat) (x6 : Int32) (x7 : Int32) (v8 : gV), I30 n x6 x7 v8 → ((((v8 46 8) ≤ x7) → (∃ I88 : Nat → Int32 → Int32 → Prop, (∃ n, I88 n 0 0) ∧ ∀ (n : Nat) (x10 : Int32) (x11 : Int32), I88 n x10 x11 → (((400 ≤ x11) → ((post (if x6 = 0 then (-1) else x10) v8))) ∧ (¬ (400 ≤ x11) → (vp_in x11 (ln 51) ∧ ((∀ x18 : Int32, x18 = (if (v8 51 x11.toNatClampNeg) = 0 then x10 else x10 + 1) → (∃ n', n' < n ∧ I88 n' x18 (x11 + 1))))))))) ∧ (¬ ((v8 46 8) ≤ x7) → (((x6 = 0) → (∃ I88 : Nat → Int32 → Int32 → Prop, (∃ n, I88 n 0 0) ∧ ∀ (n : Nat) (x21 : Int32) (x22 : Int32), I88 n x21 x22 → (((400 ≤ x22) → ((post (if x6 = 0 then (-1) else x21) v8))) ∧ (¬ (400 ≤ x22) → (vp_in x22 (ln 51) ∧ ((∀ x29 : Int32, x29 = (if (v8 51 x22.toNatClampNeg) = 0 then x21 else x21 + 1) → (∃ n', n' < n ∧ I88 n' x29 (x22 + 1))))))))) ∧ (¬ (x6 = 0) → (wp_X4_beginOf ln v8 x7 (fun (x31 : Int32) (v32 : gV) => (vp_in x7 (ln 49) ∧ (wp_X4_numberOf ln v32 x31 (v32 49 x7.toNatClampNeg) (fun (x34 : Int32) (v35 : gV) => (vp_in x7 (ln 50) ∧ ∀ v37 : gV, v37 = va_up v35 50 (upd (v35 50) x7.toNatClampNeg x34) → (vp_in x7 (ln 50) ∧ ((∀ x41 : Int32, x41 = (if (v37 50 x7.toNatClampNeg) < 0 then 0 else 1) → (∃ n', n' < n ∧ I30 n' x41 (x7 + 1) v37)))))))))))))))))) ∧ (¬ (400 ≤ x1) → (vp_in x1 (ln 51) ∧ ∀ v44 : gV, v44 = va_up v2 51 (upd (v2 51) x1.toNatClampNeg (vp_nar .boolean 0)) → (∃ n', n' < n ∧ I2 n' (x1 + 1) v44))))
set_option maxHeartbeats 4000000 in
set_option maxRecDepth 100000 in
theorem s_X4_give (l : Launch) (D : va_G) (cy : Nat → ClassId) (ad ln : Nat → Nat) (v : gV) (ou : Nat → Int64) {post : Int32 → gV → Prop} (h : wp_X4_give ln v  post) : mM l D cy yX4_give wsX4_give 4 0 0 [.ref (ad 46)] (gW cy ad ln v ou) (fun r w1 => ∃ (x1 : Int32) (v1 : gV), r = some (.int x1) ∧ post x1 v1 ∧ w1 = gW cy ad ln v1 ou) := by
  unfold wp_X4_give at h
  refine mM.of (cc := cX4_give) (nL := 4) (ret0 := (some .int)) (by decide +kernel) rfl (Nat.le_of_ble_eq_true rfl) ?_
  intro p e s m args below meth c A C hini
  refine mW.sub (lv' := [(0, .ref (ad 46))]) [0] rfl ?_
  refine m_iconst (v := 0) C dX4_give_0 (by decide) ?_
  refine m_istore_n (lv' := [(1, .int 0), (0, .ref (ad 46))]) C dX4_give_1 rfl (by decide) rfl ?_
  obtain ⟨I2, ⟨n0, h0⟩, hI⟩ := h
  refine mW.sub (lv' := [(0, .ref (ad 46)), (1, .int 0)]) [1, 0] rfl ?_
  refine m_ind (σ := Int32 × gV) (fun n z => I2 n z.1 z.2) (fun z => gW cy ad ln z.2 ou) 2 (fun z => [(0, .ref (ad 46)), (1, .int z.1)]) ?_ n0 (0, v) h0
  intro n z hi ih
  obtain ⟨x1, v2⟩ := z
  have h := hI n x1 v2 hi
  show mW _ _ _ _ _ _ _ _ _ _ _ _ _ _ _ _ (gW cy ad ln v2 ou) 2 [(0, .ref (ad 46)), (1, .int x1)] []
  refine m_iload_n C dX4_give_2 rfl 1 rfl ?_
  refine m_sipush (v := 400) C dX4_give_3 (by decide) ?_
  refine m_icmp_ge (tgt := 22) C dX4_give_6 (by decide) (fun c3 => ?_) (fun c3 => ?_)
  · have h := h.1 c3
    refine m_aload_n C dX4_give_22 rfl 0 rfl ?_
    refine m_callV C (s_X4_cut l D cy ad ln v2 ou   h) (cwV 0 C.2.2.2.2.1 gX4_give_X4_cut rfl rfl rfl (by decide +kernel) ⟨Nat.le_of_ble_eq_true rfl, Nat.le_of_ble_eq_true rfl⟩) 46 gp_46 rfl rfl rfl (Nat.le_of_ble_eq_true rfl) dX4_give_23 ⟨by decide, by decide⟩ (fun r w1 h1 => ?_)
    obtain ⟨v5, rfl, h, rfl⟩ := h1
    refine mW.eq (st' := []) rfl rfl rfl rfl ?_
    refine m_iconst (v := 1) C dX4_give_26 (by decide) ?_
    refine m_istore_n (lv' := [(1, .int 1), (0, .ref (ad 46))]) C dX4_give_27 rfl (by decide) rfl ?_
    refine m_iconst (v := 0) C dX4_give_28 (by decide) ?_
    refine m_istore_n (lv' := [(2, .int 0), (1, .int 1), (0, .ref (ad 46))]) C dX4_give_29 rfl (by decide) rfl ?_
    obtain ⟨I30, ⟨n0, h0⟩, hI⟩ := h
    refine mW.sub (lv' := [(0, .ref (ad 46)), (1, .int 1), (2, .int 0)]) [2, 1, 0] rfl ?_
    refine m_ind (σ := Int32 × Int32 × gV) (fun n z => I30 n z.1 z.2.1 z.2.2) (fun z => gW cy ad ln z.2.2 ou) 30 (fun z => [(0, .ref (ad 46)), (1, .int z.1), (2, .int z.2.1)]) ?_ n0 (1, 0, v5) h0
    intro n z hi ih
    obtain ⟨x6, x7, v8⟩ := z
    have h := hI n x6 x7 v8 hi
    show mW _ _ _ _ _ _ _ _ _ _ _ _ _ _ _ _ (gW cy ad ln v8 ou) 30 [(0, .ref (ad 46)), (1, .int x6), (2, .int x7)] []
    refine m_iload_n C dX4_give_30 rfl 2 rfl ?_
    refine m_aload_n C dX4_give_31 rfl 0 rfl ?_
    refine m_get (T := TX4) (N := 19) C hiX4_give_X4 46 gp_46 rfl 8 (by decide) (by decide +kernel) rfl dX4_give_32 ?_
    refine m_icmp_ge (tgt := 84) C dX4_give_35 (by decide) (fun c9 => ?_) (fun c9 => ?_)
    · have h := h.1 c9
      refine m_iconst (v := 0) C dX4_give_84 (by decide) ?_
      refine m_istore_n (lv' := [(2, .int 0), (0, .ref (ad 46)), (1, .int x6)]) C dX4_give_85 rfl (by decide) rfl ?_
      refine m_iconst (v := 0) C dX4_give_86 (by decide) ?_
      refine m_istore_n (lv' := [(3, .int 0), (2, .int 0), (0, .ref (ad 46)), (1, .int x6)]) C dX4_give_87 rfl (by decide) rfl ?_
      obtain ⟨I88, ⟨n0, h0⟩, hI⟩ := h
      refine mW.sub (lv' := [(0, .ref (ad 46)), (1, .int x6), (2, .int 0), (3, .int 0)]) [2, 3, 1, 0] rfl ?_
      refine m_ind (σ := Int32 × Int32) (fun n z => I88 n z.1 z.2) (fun z => gW cy ad ln v8 ou) 88 (fun z => [(0, .ref (ad 46)), (1, .int x6), (2, .int z.1), (3, .int z.2)]) ?_ n0 (0, 0) h0
      intro n z hi ih
      obtain ⟨x10, x11⟩ := z
      have h := hI n x10 x11 hi
      show mW _ _ _ _ _ _ _ _ _ _ _ _ _ _ _ _ (gW cy ad ln v8 ou) 88 [(0, .ref (ad 46)), (1, .int x6), (2, .int x10), (3, .int x11)] []
      refine m_iload_n C dX4_give_88 rfl 3 rfl ?_
      refine m_sipush (v := 400) C dX4_give_89 (by decide) ?_
      refine m_icmp_ge (tgt := 118) C dX4_give_92 (by decide) (fun c12 => ?_) (fun c12 => ?_)
      · have h := h.1 c12
        refine m_iload_n C dX4_give_118 rfl 1 rfl ?_
        refine m_join (P := 127) (wM := gW cy ad ln v8 ou) (lvM := [(0, .ref (ad 46)), (1, .int x6), (2, .int x10), (3, .int x11)]) (stM := [.int (if x6 = 0 then (-1) else x10)]) ?_ (fun hJ127_14 => ?_)
        · exact m_iret C dX4_give_127 (Nat.le_of_ble_eq_true rfl) (Nat.le_of_ble_eq_true rfl) ⟨_, _, rfl, h, rfl⟩
        · refine m_if_eq (tgt := 126) C dX4_give_119 (by decide) (fun c13 => ?_) (fun c13 => ?_)
          · refine m_iconst (v := (-1)) C dX4_give_126 (by decide) ?_
            refine mW.sub (lv' := [(0, .ref (ad 46)), (1, .int x6), (2, .int x10), (3, .int x11)]) [0, 1, 2, 3] rfl ?_
            exact mW.eq rfl rfl (by simp only [if_pos c13]) rfl hJ127_14
          · refine m_iload_n C dX4_give_122 rfl 2 rfl ?_
            refine m_goto (tgt := 127) C dX4_give_123 (by decide) ?_
            refine mW.sub (lv' := [(0, .ref (ad 46)), (1, .int x6), (2, .int x10), (3, .int x11)]) [0, 1, 2, 3] rfl ?_
            exact mW.eq rfl rfl (by simp only [if_neg c13]) rfl hJ127_14
      · have h := h.2 c12
        refine m_aload_n C dX4_give_95 rfl 0 rfl ?_
        refine m_get (T := TX4) (N := 19) C hiX4_give_X4 46 gp_46 rfl 11 (by decide) (by decide +kernel) rfl dX4_give_96 ?_
        refine m_iload_n C dX4_give_99 rfl 3 rfl ?_
        obtain ⟨b15, h⟩ := h
        refine m_zald C 51 gp_Z b15 dX4_give_100 ?_
        refine m_join (P := 111) (wM := gW cy ad ln v8 ou) (lvM := [(0, .ref (ad 46)), (1, .int x6), (2, .int x10), (3, .int x11)]) (stM := [.int (if (v8 51 x11.toNatClampNeg) = 0 then x10 else x10 + 1)]) ?_ (fun hJ111_17 => ?_)
        · refine m_topi (fun x18 ex18 => ?_)
          have h := h x18 ex18
          refine m_istore_n (lv' := [(2, .int x18), (0, .ref (ad 46)), (1, .int x6), (3, .int x11)]) C dX4_give_111 rfl (by decide) rfl ?_
          refine m_iinc (lv' := [(3, .int (x11 + 1)), (2, .int x18), (0, .ref (ad 46)), (1, .int x6)]) C dX4_give_112 (k := 3) rfl rfl (by decide) rfl ?_
          refine m_goto (tgt := 88) C dX4_give_115 (by decide) ?_
          obtain ⟨n19, hn, h⟩ := h
          exact mW.sub [2, 3, 1, 0] rfl (ih n19 (x18, (x11 + 1)) hn h)
        · refine m_if_eq (tgt := 110) C dX4_give_101 (by decide) (fun c16 => ?_) (fun c16 => ?_)
          · refine m_iload_n C dX4_give_110 rfl 2 rfl ?_
            refine mW.sub (lv' := [(0, .ref (ad 46)), (1, .int x6), (2, .int x10), (3, .int x11)]) [0, 1, 2, 3] rfl ?_
            exact mW.eq rfl rfl (by simp only [if_pos c16]) rfl hJ111_17
          · refine m_iload_n C dX4_give_104 rfl 2 rfl ?_
            refine m_iconst (v := 1) C dX4_give_105 (by decide) ?_
            refine m_iadd C dX4_give_106 ?_
            refine m_goto (tgt := 111) C dX4_give_107 (by decide) ?_
            refine mW.sub (lv' := [(0, .ref (ad 46)), (1, .int x6), (2, .int x10), (3, .int x11)]) [0, 1, 2, 3] rfl ?_
            exact mW.eq rfl rfl (by simp only [if_neg c16]) rfl hJ111_17
    · have h := h.2 c9
      refine m_iload_n C dX4_give_38 rfl 1 rfl ?_
      refine m_if_eq (tgt := 84) C dX4_give_39 (by decide) (fun c20 => ?_) (fun c20 => ?_)
      · have h := h.1 c20
        refine m_iconst (v := 0) C dX4_give_84 (by decide) ?_
        refine m_istore_n (lv' := [(2, .int 0), (0, .ref (ad 46)), (1, .int x6)]) C dX4_give_85 rfl (by decide) rfl ?_
        refine m_iconst (v := 0) C dX4_give_86 (by decide) ?_
        refine m_istore_n (lv' := [(3, .int 0), (2, .int 0), (0, .ref (ad 46)), (1, .int x6)]) C dX4_give_87 rfl (by decide) rfl ?_
        obtain ⟨I88, ⟨n0, h0⟩, hI⟩ := h
        refine mW.sub (lv' := [(0, .ref (ad 46)), (1, .int x6), (2, .int 0), (3, .int 0)]) [2, 3, 1, 0] rfl ?_
        refine m_ind (σ := Int32 × Int32) (fun n z => I88 n z.1 z.2) (fun z => gW cy ad ln v8 ou) 88 (fun z => [(0, .ref (ad 46)), (1, .int x6), (2, .int z.1), (3, .int z.2)]) ?_ n0 (0, 0) h0
        intro n z hi ih
        obtain ⟨x21, x22⟩ := z
        have h := hI n x21 x22 hi
        show mW _ _ _ _ _ _ _ _ _ _ _ _ _ _ _ _ (gW cy ad ln v8 ou) 88 [(0, .ref (ad 46)), (1, .int x6), (2, .int x21), (3, .int x22)] []
        refine m_iload_n C dX4_give_88 rfl 3 rfl ?_
        refine m_sipush (v := 400) C dX4_give_89 (by decide) ?_
        refine m_icmp_ge (tgt := 118) C dX4_give_92 (by decide) (fun c23 => ?_) (fun c23 => ?_)
        · have h := h.1 c23
          refine m_iload_n C dX4_give_118 rfl 1 rfl ?_
          refine m_join (P := 127) (wM := gW cy ad ln v8 ou) (lvM := [(0, .ref (ad 46)), (1, .int x6), (2, .int x21), (3, .int x22)]) (stM := [.int (if x6 = 0 then (-1) else x21)]) ?_ (fun hJ127_25 => ?_)
          · exact m_iret C dX4_give_127 (Nat.le_of_ble_eq_true rfl) (Nat.le_of_ble_eq_true rfl) ⟨_, _, rfl, h, rfl⟩
          · refine m_if_eq (tgt := 126) C dX4_give_119 (by decide) (fun c24 => ?_) (fun c24 => ?_)
            · refine m_iconst (v := (-1)) C dX4_give_126 (by decide) ?_
              refine mW.sub (lv' := [(0, .ref (ad 46)), (1, .int x6), (2, .int x21), (3, .int x22)]) [0, 1, 2, 3] rfl ?_
              exact mW.eq rfl rfl (by simp only [if_pos c24]) rfl hJ127_25
            · refine m_iload_n C dX4_give_122 rfl 2 rfl ?_
              refine m_goto (tgt := 127) C dX4_give_123 (by decide) ?_
              refine mW.sub (lv' := [(0, .ref (ad 46)), (1, .int x6), (2, .int x21), (3, .int x22)]) [0, 1, 2, 3] rfl ?_
              exact mW.eq rfl rfl (by simp only [if_neg c24]) rfl hJ127_25
        · have h := h.2 c23
          refine m_aload_n C dX4_give_95 rfl 0 rfl ?_
          refine m_get (T := TX4) (N := 19) C hiX4_give_X4 46 gp_46 rfl 11 (by decide) (by decide +kernel) rfl dX4_give_96 ?_
          refine m_iload_n C dX4_give_99 rfl 3 rfl ?_
          obtain ⟨b26, h⟩ := h
          refine m_zald C 51 gp_Z b26 dX4_give_100 ?_
          refine m_join (P := 111) (wM := gW cy ad ln v8 ou) (lvM := [(0, .ref (ad 46)), (1, .int x6), (2, .int x21), (3, .int x22)]) (stM := [.int (if (v8 51 x22.toNatClampNeg) = 0 then x21 else x21 + 1)]) ?_ (fun hJ111_28 => ?_)
          · refine m_topi (fun x29 ex29 => ?_)
            have h := h x29 ex29
            refine m_istore_n (lv' := [(2, .int x29), (0, .ref (ad 46)), (1, .int x6), (3, .int x22)]) C dX4_give_111 rfl (by decide) rfl ?_
            refine m_iinc (lv' := [(3, .int (x22 + 1)), (2, .int x29), (0, .ref (ad 46)), (1, .int x6)]) C dX4_give_112 (k := 3) rfl rfl (by decide) rfl ?_
            refine m_goto (tgt := 88) C dX4_give_115 (by decide) ?_
            obtain ⟨n30, hn, h⟩ := h
            exact mW.sub [2, 3, 1, 0] rfl (ih n30 (x29, (x22 + 1)) hn h)
          · refine m_if_eq (tgt := 110) C dX4_give_101 (by decide) (fun c27 => ?_) (fun c27 => ?_)
            · refine m_iload_n C dX4_give_110 rfl 2 rfl ?_
              refine mW.sub (lv' := [(0, .ref (ad 46)), (1, .int x6), (2, .int x21), (3, .int x22)]) [0, 1, 2, 3] rfl ?_
              exact mW.eq rfl rfl (by simp only [if_pos c27]) rfl hJ111_28
            · refine m_iload_n C dX4_give_104 rfl 2 rfl ?_
              refine m_iconst (v := 1) C dX4_give_105 (by decide) ?_
              refine m_iadd C dX4_give_106 ?_
              refine m_goto (tgt := 111) C dX4_give_107 (by decide) ?_
              refine mW.sub (lv' := [(0, .ref (ad 46)), (1, .int x6), (2, .int x21), (3, .int x22)]) [0, 1, 2, 3] rfl ?_
              exact mW.eq rfl rfl (by simp only [if_neg c27]) rfl hJ111_28
      · have h := h.2 c20
        refine m_aload_n C dX4_give_42 rfl 0 rfl ?_
        refine m_get (T := TX4) (N := 19) C hiX4_give_X4 46 gp_46 rfl 10 (by decide) (by decide +kernel) rfl dX4_give_43 ?_
        refine m_iload_n C dX4_give_46 rfl 2 rfl ?_
        refine m_aload_n C dX4_give_47 rfl 0 rfl ?_
        refine m_aload_n C dX4_give_48 rfl 0 rfl ?_
        refine m_iload_n C dX4_give_49 rfl 2 rfl ?_
        refine m_callV C (s_X4_beginOf l D cy ad ln v8 ou x7  h) (cwV 1 C.2.2.2.2.1 gX4_give_X4_beginOf rfl rfl rfl (by decide +kernel) ⟨Nat.le_of_ble_eq_true rfl, Nat.le_of_ble_eq_true rfl⟩) 46 gp_46 rfl rfl rfl (Nat.le_of_ble_eq_true rfl) dX4_give_50 ⟨by decide, by decide⟩ (fun r w1 h1 => ?_)
        obtain ⟨x31, v32, rfl, h, rfl⟩ := h1
        refine mW.eq (st' := [.int x31, .ref (ad 46), .int x7, .ref (ad 50)]) rfl rfl rfl rfl ?_
        refine m_aload_n C dX4_give_53 rfl 0 rfl ?_
        refine m_get (T := TX4) (N := 19) C hiX4_give_X4 46 gp_46 rfl 9 (by decide) (by decide +kernel) rfl dX4_give_54 ?_
        refine m_iload_n C dX4_give_57 rfl 2 rfl ?_
        obtain ⟨b33, h⟩ := h
        refine m_iald C 49 (gp_I (by decide)) b33 dX4_give_58 ?_
        refine m_callV C (s_X4_numberOf l D cy ad ln v32 ou x31 (v32 49 x7.toNatClampNeg)  h) (cwV 2 C.2.2.2.2.1 gX4_give_X4_numberOf rfl rfl rfl (by decide +kernel) ⟨Nat.le_of_ble_eq_true rfl, Nat.le_of_ble_eq_true rfl⟩) 46 gp_46 rfl rfl rfl (Nat.le_of_ble_eq_true rfl) dX4_give_59 ⟨by decide, by decide⟩ (fun r w1 h1 => ?_)
        obtain ⟨x34, v35, rfl, h, rfl⟩ := h1
        refine mW.eq (st' := [.int x34, .int x7, .ref (ad 50)]) rfl rfl rfl rfl ?_
        obtain ⟨b36, h⟩ := h
        obtain ⟨v37, ev37⟩ : ∃ z : gV, z = va_up v35 50 (upd (v35 50) x7.toNatClampNeg x34) := ⟨_, rfl⟩
        have h := h v37 ev37
        refine m_iast (w' := gW cy ad ln v37 ou) C 50 (gp_I (by decide)) b36 dX4_give_62 (by rw [ev37]; exact gs_I (by decide)) ?_
        refine m_aload_n C dX4_give_63 rfl 0 rfl ?_
        refine m_get (T := TX4) (N := 19) C hiX4_give_X4 46 gp_46 rfl 10 (by decide) (by decide +kernel) rfl dX4_give_64 ?_
        refine m_iload_n C dX4_give_67 rfl 2 rfl ?_
        obtain ⟨b38, h⟩ := h
        refine m_iald C 50 (gp_I (by decide)) b38 dX4_give_68 ?_
        refine m_join (P := 77) (wM := gW cy ad ln v37 ou) (lvM := [(0, .ref (ad 46)), (1, .int x6), (2, .int x7)]) (stM := [.int (if (v37 50 x7.toNatClampNeg) < 0 then 0 else 1)]) ?_ (fun hJ77_40 => ?_)
        · refine m_topi (fun x41 ex41 => ?_)
          have h := h x41 ex41
          refine m_istore_n (lv' := [(1, .int x41), (0, .ref (ad 46)), (2, .int x7)]) C dX4_give_77 rfl (by decide) rfl ?_
          refine m_iinc (lv' := [(2, .int (x7 + 1)), (1, .int x41), (0, .ref (ad 46))]) C dX4_give_78 (k := 2) rfl rfl (by decide) rfl ?_
          refine m_goto (tgt := 30) C dX4_give_81 (by decide) ?_
          obtain ⟨n42, hn, h⟩ := h
          exact mW.sub [2, 1, 0] rfl (ih n42 (x41, (x7 + 1), v37) hn h)
        · refine m_if_lt (tgt := 76) C dX4_give_69 (by decide) (fun c39 => ?_) (fun c39 => ?_)
          · refine m_iconst (v := 0) C dX4_give_76 (by decide) ?_
            refine mW.sub (lv' := [(0, .ref (ad 46)), (1, .int x6), (2, .int x7)]) [0, 1, 2] rfl ?_
            exact mW.eq rfl rfl (by simp only [if_pos c39]) rfl hJ77_40
          · refine m_iconst (v := 1) C dX4_give_72 (by decide) ?_
            refine m_goto (tgt := 77) C dX4_give_73 (by decide) ?_
            refine mW.sub (lv' := [(0, .ref (ad 46)), (1, .int x6), (2, .int x7)]) [0, 1, 2] rfl ?_
            exact mW.eq rfl rfl (by simp only [if_neg c39]) rfl hJ77_40
  · have h := h.2 c3
    refine m_aload_n C dX4_give_9 rfl 0 rfl ?_
    refine m_get (T := TX4) (N := 19) C hiX4_give_X4 46 gp_46 rfl 11 (by decide) (by decide +kernel) rfl dX4_give_10 ?_
    refine m_iload_n C dX4_give_13 rfl 1 rfl ?_
    refine m_iconst (v := 0) C dX4_give_14 (by decide) ?_
    obtain ⟨b43, h⟩ := h
    obtain ⟨v44, ev44⟩ : ∃ z : gV, z = va_up v2 51 (upd (v2 51) x1.toNatClampNeg (vp_nar .boolean 0)) := ⟨_, rfl⟩
    have h := h v44 ev44
    refine m_zast (w' := gW cy ad ln v44 ou) C 51 gp_Z b43 dX4_give_15 (by rw [ev44]; exact gs_Z) ?_
    refine m_iinc (lv' := [(1, .int (x1 + 1)), (0, .ref (ad 46))]) C dX4_give_16 (k := 1) rfl rfl (by decide) rfl ?_
    refine m_goto (tgt := 2) C dX4_give_19 (by decide) ?_
    obtain ⟨n45, hn, h⟩ := h
    exact mW.sub [1, 0] rfl (ih n45 ((x1 + 1), v44) hn h)
theorem hiX4_take_X4 : ∀ w ∈ wsX40, w ∈ wsX4_take := by decide +kernel
def wp_X4_take (ln : Nat → Nat) (v : gV) (a1 : Int32) (post : gV → Prop) : Prop :=
  ∃ I2 : Nat → Int32 → gV → Prop, (∃ n, I2 n 0 v) ∧ ∀ (n : Nat) (x1 : Int32) (v2 : gV), I2 n x1 v2 → ((((v2 46 8) ≤ x1) → (∃ I33 : Nat → Int32 → gV → Prop, (∃ n, I33 n 0 v2) ∧ ∀ (n : Nat) (x4 : Int32) (v5 : gV), I33 n x4 v5 → (vp_in a1 (ln 54) ∧ ((((v5 54 a1.toNatClampNeg) ≤ x4) → (vp_in a1 (ln 52) ∧ ∀ v9 : gV, v9 = va_up v5 52 (upd (v5 52) a1.toNatClampNeg (v5 46 6)) → (vp_in a1 (ln 54) ∧ ∀ v11 : gV, v11 = va_up v9 54 (upd (v9 54) a1.toNatClampNeg (v9 46 8)) → (∃ I92 : Nat → Int32 → gV → Prop, (∃ n, I92 n 0 v11) ∧ ∀ (n : Nat) (x12 : Int32) (v13 : gV), I92 n x12 v13 → ((((v13 46 6) ≤ x12) → (∃ I126 : Nat → Int32 → gV → Prop, (∃ n, I126 n 0 v13) ∧ ∀ (n : Nat) (x15 : Int32) (v16 : gV), I126 n x15 v16 → ((((v16 46 8) ≤ x15) → (post v16)) ∧ (¬ ((v16 46 8) ≤ x15) → (vp_in x15 (ln 50) ∧ (vp_in ((1500 * a1) + x15) (ln 55) ∧ ∀ v20 : gV, v20 = va_up v16 55 (upd (v16 55) ((1500 * a1) + x15).toNatClampNeg (v16 50 x15.toNatClampNeg)) → (∃ n', n' < n ∧ I126 n' (x15 + 1) v20))))))) ∧ (¬ ((v13 46 6) ≤ x12) → (vp_in x12 (ln 48) ∧ (vp_in ((1500 * a1) + x12) (ln 53) ∧ ∀ v24 : gV, v24 = va_up v13 53 (upd (v13 53) ((1500 * a1) + x12).toNatClampNeg (v13 48 x12.toNatClampNeg)) → (∃ n', n' < n ∧ I92 n' (x12 + 1) v24))))))))) ∧ (¬ ((v5 54 a1.toNatClampNeg) ≤ x4) → (vp_in ((1500 * a1) + x4) (ln 55) ∧ (vp_in (v5 55 ((1500 * a1) + x4).toNatClampNeg) (ln 56) ∧ (vp_in (v5 55 ((1500 * a1) + x4).toNatClampNeg) (ln 56) ∧ ∀ v29 : gV, v29 = va_up v5 56 (upd (v5 56) (v5 55 ((1500 * a1) + x4).toNatClampNeg).toNatClampNeg ((v5 56 (v5 55 ((1500 * a1) + x4).toNatClampNeg).toNatClampNeg) - 1)) → (∃ n', n' < n ∧ I33 n' (x4 + 1) v29))))))))) ∧ (¬ ((v2 46 8) ≤ x1) → (vp_in x1 (ln 50) ∧ (vp_in (v2 50 x1.toNatClampNeg) (ln 56) ∧ (vp_in (v2 50 x1.toNatClampNeg) (ln 56) ∧ ∀ v34 : gV, v34 = va_up v2 56 (upd (v2 56) (v2 50 x1.toNatClampNeg).toNatClampNeg ((v2 56 (v2 50 x1.toNatClampNeg).toNatClampNeg) + 1)) → (∃ n', n' < n ∧ I2 n' (x1 + 1) v34))))))
set_option maxHeartbeats 4000000 in
set_option maxRecDepth 100000 in
theorem s_X4_take (l : Launch) (D : va_G) (cy : Nat → ClassId) (ad ln : Nat → Nat) (v : gV) (ou : Nat → Int64) (a1 : Int32) {post : gV → Prop} (h : wp_X4_take ln v a1 post) : mM l D cy yX4_take wsX4_take 1 0 0 [.ref (ad 46), .int a1] (gW cy ad ln v ou) (fun r w1 => ∃ v1 : gV, r = none ∧ post v1 ∧ w1 = gW cy ad ln v1 ou) := by
  unfold wp_X4_take at h
  refine mM.of (cc := cX4_take) (nL := 3) (ret0 := none) (by decide +kernel) rfl (Nat.le_of_ble_eq_true rfl) ?_
  intro p e s m args below meth c A C hini
  refine mW.sub (lv' := [(0, .ref (ad 46)), (1, .int a1)]) [0, 1] rfl ?_
  refine m_iconst (v := 0) C dX4_take_0 (by decide) ?_
  refine m_istore_n (lv' := [(2, .int 0), (0, .ref (ad 46)), (1, .int a1)]) C dX4_take_1 rfl (by decide) rfl ?_
  obtain ⟨I2, ⟨n0, h0⟩, hI⟩ := h
  refine mW.sub (lv' := [(0, .ref (ad 46)), (1, .int a1), (2, .int 0)]) [1, 2, 0] rfl ?_
  refine m_ind (σ := Int32 × gV) (fun n z => I2 n z.1 z.2) (fun z => gW cy ad ln z.2 ou) 2 (fun z => [(0, .ref (ad 46)), (1, .int a1), (2, .int z.1)]) ?_ n0 (0, v) h0
  intro n z hi ih
  obtain ⟨x1, v2⟩ := z
  have h := hI n x1 v2 hi
  show mW _ _ _ _ _ _ _ _ _ _ _ _ _ _ _ _ (gW cy ad ln v2 ou) 2 [(0, .ref (ad 46)), (1, .int a1), (2, .int x1)] []
  refine m_iload_n C dX4_take_2 rfl 2 rfl ?_
  refine m_aload_n C dX4_take_3 rfl 0 rfl ?_
  refine m_get (T := TX4) (N := 19) C hiX4_take_X4 46 gp_46 rfl 8 (by decide) (by decide +kernel) rfl dX4_take_4 ?_
  refine m_icmp_ge (tgt := 31) C dX4_take_7 (by decide) (fun c3 => ?_) (fun c3 => ?_)
  · have h := h.1 c3
    refine m_iconst (v := 0) C dX4_take_31 (by decide) ?_
    refine m_istore_n (lv' := [(2, .int 0), (0, .ref (ad 46)), (1, .int a1)]) C dX4_take_32 rfl (by decide) rfl ?_
    obtain ⟨I33, ⟨n0, h0⟩, hI⟩ := h
    refine mW.sub (lv' := [(0, .ref (ad 46)), (1, .int a1), (2, .int 0)]) [1, 2, 0] rfl ?_
    refine m_ind (σ := Int32 × gV) (fun n z => I33 n z.1 z.2) (fun z => gW cy ad ln z.2 ou) 33 (fun z => [(0, .ref (ad 46)), (1, .int a1), (2, .int z.1)]) ?_ n0 (0, v2) h0
    intro n z hi ih
    obtain ⟨x4, v5⟩ := z
    have h := hI n x4 v5 hi
    show mW _ _ _ _ _ _ _ _ _ _ _ _ _ _ _ _ (gW cy ad ln v5 ou) 33 [(0, .ref (ad 46)), (1, .int a1), (2, .int x4)] []
    refine m_iload_n C dX4_take_33 rfl 2 rfl ?_
    refine m_aload_n C dX4_take_34 rfl 0 rfl ?_
    refine m_get (T := TX4) (N := 19) C hiX4_take_X4 46 gp_46 rfl 14 (by decide) (by decide +kernel) rfl dX4_take_35 ?_
    refine m_iload_n C dX4_take_38 rfl 1 rfl ?_
    obtain ⟨b6, h⟩ := h
    refine m_iald C 54 (gp_I (by decide)) b6 dX4_take_39 ?_
    refine m_icmp_ge (tgt := 70) C dX4_take_40 (by decide) (fun c7 => ?_) (fun c7 => ?_)
    · have h := h.1 c7
      refine m_aload_n C dX4_take_70 rfl 0 rfl ?_
      refine m_get (T := TX4) (N := 19) C hiX4_take_X4 46 gp_46 rfl 12 (by decide) (by decide +kernel) rfl dX4_take_71 ?_
      refine m_iload_n C dX4_take_74 rfl 1 rfl ?_
      refine m_aload_n C dX4_take_75 rfl 0 rfl ?_
      refine m_get (T := TX4) (N := 19) C hiX4_take_X4 46 gp_46 rfl 6 (by decide) (by decide +kernel) rfl dX4_take_76 ?_
      obtain ⟨b8, h⟩ := h
      obtain ⟨v9, ev9⟩ : ∃ z : gV, z = va_up v5 52 (upd (v5 52) a1.toNatClampNeg (v5 46 6)) := ⟨_, rfl⟩
      have h := h v9 ev9
      refine m_iast (w' := gW cy ad ln v9 ou) C 52 (gp_I (by decide)) b8 dX4_take_79 (by rw [ev9]; exact gs_I (by decide)) ?_
      refine m_aload_n C dX4_take_80 rfl 0 rfl ?_
      refine m_get (T := TX4) (N := 19) C hiX4_take_X4 46 gp_46 rfl 14 (by decide) (by decide +kernel) rfl dX4_take_81 ?_
      refine m_iload_n C dX4_take_84 rfl 1 rfl ?_
      refine m_aload_n C dX4_take_85 rfl 0 rfl ?_
      refine m_get (T := TX4) (N := 19) C hiX4_take_X4 46 gp_46 rfl 8 (by decide) (by decide +kernel) rfl dX4_take_86 ?_
      obtain ⟨b10, h⟩ := h
      obtain ⟨v11, ev11⟩ : ∃ z : gV, z = va_up v9 54 (upd (v9 54) a1.toNatClampNeg (v9 46 8)) := ⟨_, rfl⟩
      have h := h v11 ev11
      refine m_iast (w' := gW cy ad ln v11 ou) C 54 (gp_I (by decide)) b10 dX4_take_89 (by rw [ev11]; exact gs_I (by decide)) ?_
      refine m_iconst (v := 0) C dX4_take_90 (by decide) ?_
      refine m_istore_n (lv' := [(2, .int 0), (0, .ref (ad 46)), (1, .int a1)]) C dX4_take_91 rfl (by decide) rfl ?_
      obtain ⟨I92, ⟨n0, h0⟩, hI⟩ := h
      refine mW.sub (lv' := [(0, .ref (ad 46)), (1, .int a1), (2, .int 0)]) [1, 2, 0] rfl ?_
      refine m_ind (σ := Int32 × gV) (fun n z => I92 n z.1 z.2) (fun z => gW cy ad ln z.2 ou) 92 (fun z => [(0, .ref (ad 46)), (1, .int a1), (2, .int z.1)]) ?_ n0 (0, v11) h0
      intro n z hi ih
      obtain ⟨x12, v13⟩ := z
      have h := hI n x12 v13 hi
      show mW _ _ _ _ _ _ _ _ _ _ _ _ _ _ _ _ (gW cy ad ln v13 ou) 92 [(0, .ref (ad 46)), (1, .int a1), (2, .int x12)] []
      refine m_iload_n C dX4_take_92 rfl 2 rfl ?_
      refine m_aload_n C dX4_take_93 rfl 0 rfl ?_
      refine m_get (T := TX4) (N := 19) C hiX4_take_X4 46 gp_46 rfl 6 (by decide) (by decide +kernel) rfl dX4_take_94 ?_
      refine m_icmp_ge (tgt := 124) C dX4_take_97 (by decide) (fun c14 => ?_) (fun c14 => ?_)
      · have h := h.1 c14
        refine m_iconst (v := 0) C dX4_take_124 (by decide) ?_
        refine m_istore_n (lv' := [(2, .int 0), (0, .ref (ad 46)), (1, .int a1)]) C dX4_take_125 rfl (by decide) rfl ?_
        obtain ⟨I126, ⟨n0, h0⟩, hI⟩ := h
        refine mW.sub (lv' := [(0, .ref (ad 46)), (1, .int a1), (2, .int 0)]) [1, 2, 0] rfl ?_
        refine m_ind (σ := Int32 × gV) (fun n z => I126 n z.1 z.2) (fun z => gW cy ad ln z.2 ou) 126 (fun z => [(0, .ref (ad 46)), (1, .int a1), (2, .int z.1)]) ?_ n0 (0, v13) h0
        intro n z hi ih
        obtain ⟨x15, v16⟩ := z
        have h := hI n x15 v16 hi
        show mW _ _ _ _ _ _ _ _ _ _ _ _ _ _ _ _ (gW cy ad ln v16 ou) 126 [(0, .ref (ad 46)), (1, .int a1), (2, .int x15)] []
        refine m_iload_n C dX4_take_126 rfl 2 rfl ?_
        refine m_aload_n C dX4_take_127 rfl 0 rfl ?_
        refine m_get (T := TX4) (N := 19) C hiX4_take_X4 46 gp_46 rfl 8 (by decide) (by decide +kernel) rfl dX4_take_128 ?_
        refine m_icmp_ge (tgt := 158) C dX4_take_131 (by decide) (fun c17 => ?_) (fun c17 => ?_)
        · have h := h.1 c17
          exact m_vret C dX4_take_158 (Nat.le_of_ble_eq_true rfl) (Nat.le_of_ble_eq_true rfl) ⟨_, rfl, h, rfl⟩
        · have h := h.2 c17
          refine m_aload_n C dX4_take_134 rfl 0 rfl ?_
          refine m_get (T := TX4) (N := 19) C hiX4_take_X4 46 gp_46 rfl 15 (by decide) (by decide +kernel) rfl dX4_take_135 ?_
          refine m_sipush (v := 1500) C dX4_take_138 (by decide) ?_
          refine m_iload_n C dX4_take_141 rfl 1 rfl ?_
          refine m_imul C dX4_take_142 ?_
          refine m_iload_n C dX4_take_143 rfl 2 rfl ?_
          refine m_iadd C dX4_take_144 ?_
          refine m_aload_n C dX4_take_145 rfl 0 rfl ?_
          refine m_get (T := TX4) (N := 19) C hiX4_take_X4 46 gp_46 rfl 10 (by decide) (by decide +kernel) rfl dX4_take_146 ?_
          refine m_iload_n C dX4_take_149 rfl 2 rfl ?_
          obtain ⟨b18, h⟩ := h
          refine m_iald C 50 (gp_I (by decide)) b18 dX4_take_150 ?_
          obtain ⟨b19, h⟩ := h
          obtain ⟨v20, ev20⟩ : ∃ z : gV, z = va_up v16 55 (upd (v16 55) ((1500 * a1) + x15).toNatClampNeg (v16 50 x15.toNatClampNeg)) := ⟨_, rfl⟩
          have h := h v20 ev20
          refine m_iast (w' := gW cy ad ln v20 ou) C 55 (gp_I (by decide)) b19 dX4_take_151 (by rw [ev20]; exact gs_I (by decide)) ?_
          refine m_iinc (lv' := [(2, .int (x15 + 1)), (0, .ref (ad 46)), (1, .int a1)]) C dX4_take_152 (k := 2) rfl rfl (by decide) rfl ?_
          refine m_goto (tgt := 126) C dX4_take_155 (by decide) ?_
          obtain ⟨n21, hn, h⟩ := h
          exact mW.sub [1, 2, 0] rfl (ih n21 ((x15 + 1), v20) hn h)
      · have h := h.2 c14
        refine m_aload_n C dX4_take_100 rfl 0 rfl ?_
        refine m_get (T := TX4) (N := 19) C hiX4_take_X4 46 gp_46 rfl 13 (by decide) (by decide +kernel) rfl dX4_take_101 ?_
        refine m_sipush (v := 1500) C dX4_take_104 (by decide) ?_
        refine m_iload_n C dX4_take_107 rfl 1 rfl ?_
        refine m_imul C dX4_take_108 ?_
        refine m_iload_n C dX4_take_109 rfl 2 rfl ?_
        refine m_iadd C dX4_take_110 ?_
        refine m_aload_n C dX4_take_111 rfl 0 rfl ?_
        refine m_get (T := TX4) (N := 19) C hiX4_take_X4 46 gp_46 rfl 7 (by decide) (by decide +kernel) rfl dX4_take_112 ?_
        refine m_iload_n C dX4_take_115 rfl 2 rfl ?_
        obtain ⟨b22, h⟩ := h
        refine m_iald C 48 (gp_I (by decide)) b22 dX4_take_116 ?_
        obtain ⟨b23, h⟩ := h
        obtain ⟨v24, ev24⟩ : ∃ z : gV, z = va_up v13 53 (upd (v13 53) ((1500 * a1) + x12).toNatClampNeg (v13 48 x12.toNatClampNeg)) := ⟨_, rfl⟩
        have h := h v24 ev24
        refine m_iast (w' := gW cy ad ln v24 ou) C 53 (gp_I (by decide)) b23 dX4_take_117 (by rw [ev24]; exact gs_I (by decide)) ?_
        refine m_iinc (lv' := [(2, .int (x12 + 1)), (0, .ref (ad 46)), (1, .int a1)]) C dX4_take_118 (k := 2) rfl rfl (by decide) rfl ?_
        refine m_goto (tgt := 92) C dX4_take_121 (by decide) ?_
        obtain ⟨n25, hn, h⟩ := h
        exact mW.sub [1, 2, 0] rfl (ih n25 ((x12 + 1), v24) hn h)
    · have h := h.2 c7
      refine m_aload_n C dX4_take_43 rfl 0 rfl ?_
      refine m_get (T := TX4) (N := 19) C hiX4_take_X4 46 gp_46 rfl 16 (by decide) (by decide +kernel) rfl dX4_take_44 ?_
      refine m_aload_n C dX4_take_47 rfl 0 rfl ?_
      refine m_get (T := TX4) (N := 19) C hiX4_take_X4 46 gp_46 rfl 15 (by decide) (by decide +kernel) rfl dX4_take_48 ?_
      refine m_sipush (v := 1500) C dX4_take_51 (by decide) ?_
      refine m_iload_n C dX4_take_54 rfl 1 rfl ?_
      refine m_imul C dX4_take_55 ?_
      refine m_iload_n C dX4_take_56 rfl 2 rfl ?_
      refine m_iadd C dX4_take_57 ?_
      obtain ⟨b26, h⟩ := h
      refine m_iald C 55 (gp_I (by decide)) b26 dX4_take_58 ?_
      refine m_dup2_11 C dX4_take_59 rfl rfl ?_
      obtain ⟨b27, h⟩ := h
      refine m_iald C 56 (gp_I (by decide)) b27 dX4_take_60 ?_
      refine m_iconst (v := 1) C dX4_take_61 (by decide) ?_
      refine m_isub C dX4_take_62 ?_
      obtain ⟨b28, h⟩ := h
      obtain ⟨v29, ev29⟩ : ∃ z : gV, z = va_up v5 56 (upd (v5 56) (v5 55 ((1500 * a1) + x4).toNatClampNeg).toNatClampNeg ((v5 56 (v5 55 ((1500 * a1) + x4).toNatClampNeg).toNatClampNeg) - 1)) := ⟨_, rfl⟩
      have h := h v29 ev29
      refine m_iast (w' := gW cy ad ln v29 ou) C 56 (gp_I (by decide)) b28 dX4_take_63 (by rw [ev29]; exact gs_I (by decide)) ?_
      refine m_iinc (lv' := [(2, .int (x4 + 1)), (0, .ref (ad 46)), (1, .int a1)]) C dX4_take_64 (k := 2) rfl rfl (by decide) rfl ?_
      refine m_goto (tgt := 33) C dX4_take_67 (by decide) ?_
      obtain ⟨n30, hn, h⟩ := h
      exact mW.sub [1, 2, 0] rfl (ih n30 ((x4 + 1), v29) hn h)
  · have h := h.2 c3
    refine m_aload_n C dX4_take_10 rfl 0 rfl ?_
    refine m_get (T := TX4) (N := 19) C hiX4_take_X4 46 gp_46 rfl 16 (by decide) (by decide +kernel) rfl dX4_take_11 ?_
    refine m_aload_n C dX4_take_14 rfl 0 rfl ?_
    refine m_get (T := TX4) (N := 19) C hiX4_take_X4 46 gp_46 rfl 10 (by decide) (by decide +kernel) rfl dX4_take_15 ?_
    refine m_iload_n C dX4_take_18 rfl 2 rfl ?_
    obtain ⟨b31, h⟩ := h
    refine m_iald C 50 (gp_I (by decide)) b31 dX4_take_19 ?_
    refine m_dup2_11 C dX4_take_20 rfl rfl ?_
    obtain ⟨b32, h⟩ := h
    refine m_iald C 56 (gp_I (by decide)) b32 dX4_take_21 ?_
    refine m_iconst (v := 1) C dX4_take_22 (by decide) ?_
    refine m_iadd C dX4_take_23 ?_
    obtain ⟨b33, h⟩ := h
    obtain ⟨v34, ev34⟩ : ∃ z : gV, z = va_up v2 56 (upd (v2 56) (v2 50 x1.toNatClampNeg).toNatClampNeg ((v2 56 (v2 50 x1.toNatClampNeg).toNatClampNeg) + 1)) := ⟨_, rfl⟩
    have h := h v34 ev34
    refine m_iast (w' := gW cy ad ln v34 ou) C 56 (gp_I (by decide)) b33 dX4_take_24 (by rw [ev34]; exact gs_I (by decide)) ?_
    refine m_iinc (lv' := [(2, .int (x1 + 1)), (0, .ref (ad 46)), (1, .int a1)]) C dX4_take_25 (k := 2) rfl rfl (by decide) rfl ?_
    refine m_goto (tgt := 2) C dX4_take_28 (by decide) ?_
    obtain ⟨n35, hn, h⟩ := h
    exact mW.sub [1, 2, 0] rfl (ih n35 ((x1 + 1), v34) hn h)
theorem hiX4_store_X4 : ∀ w ∈ wsX40, w ∈ wsX4_store := by decide +kernel
def wp_X4_store (ln : Nat → Nat) (v : gV) (a1 : Int32) (post : Int32 → gV → Prop) : Prop :=
  (∀ v3 : gV, v3 = vrf v (if (pin a1 0 15) = 0 then 1 else 0) 0 0 → ((((prf (if (pin a1 0 15) = 0 then 1 else 0) 0 0) = 0) → (∀ v5 : gV, v5 = va_up v3 46 (upd (v3 46) 6 (v3 46 4)) → (∃ I33 : Nat → Int32 → gV → Prop, (∃ n, I33 n 0 v5) ∧ ∀ (n : Nat) (x6 : Int32) (v7 : gV), I33 n x6 v7 → ((((v7 46 6) ≤ x6) → (wp_X4_give ln v7  (fun (x9 : Int32) (v10 : gV) => ((∀ v13 : gV, v13 = vrf v10 0 (if 0 ≤ x9 then 0 else 1) 0 → ((((prf 0 (if 0 ≤ x9 then 0 else 1) 0) = 0) → (wp_X4_take ln v13 a1 (fun (v16 : gV) => (∀ v17 : gV, v17 = va_up v16 46 (upd (v16 46) 4 0) → (post x9 v17))))) ∧ (¬ ((prf 0 (if 0 ≤ x9 then 0 else 1) 0) = 0) → (post 0 v13)))))))) ∧ (¬ ((v7 46 6) ≤ x6) → (vp_in x6 (ln 47) ∧ (vp_in x6 (ln 48) ∧ ∀ v20 : gV, v20 = va_up v7 48 (upd (v7 48) x6.toNatClampNeg (v7 47 x6.toNatClampNeg)) → (∃ n', n' < n ∧ I33 n' (x6 + 1) v20)))))))) ∧ (¬ ((prf (if (pin a1 0 15) = 0 then 1 else 0) 0 0) = 0) → (post 0 v3))))
set_option maxHeartbeats 4000000 in
set_option maxRecDepth 100000 in
theorem s_X4_store (l : Launch) (D : va_G) (cy : Nat → ClassId) (ad ln : Nat → Nat) (v : gV) (ou : Nat → Int64) (a1 : Int32) {post : Int32 → gV → Prop} (h : wp_X4_store ln v a1 post) : mM l D cy yX4_store wsX4_store 5 0 0 [.ref (ad 46), .int a1] (gW cy ad ln v ou) (fun r w1 => ∃ (x1 : Int32) (v1 : gV), r = some (.int x1) ∧ post x1 v1 ∧ w1 = gW cy ad ln v1 ou) := by
  unfold wp_X4_store at h
  refine mM.of (cc := cX4_store) (nL := 3) (ret0 := (some .int)) (by decide +kernel) rfl (Nat.le_of_ble_eq_true rfl) ?_
  intro p e s m args below meth c A C hini
  refine mW.sub (lv' := [(0, .ref (ad 46)), (1, .int a1)]) [0, 1] rfl ?_
  refine m_aload_n C dX4_store_0 rfl 0 rfl ?_
  refine m_iload_n C dX4_store_1 rfl 1 rfl ?_
  refine m_callS C (p_X4_isFile l D cy ad ln v ou a1) (va_cwS 1 C.2.2.2.2.1 gX4_store_X4_isFile rfl rfl rfl (by decide +kernel) ⟨Nat.le_of_ble_eq_true rfl, Nat.le_of_ble_eq_true rfl⟩) rfl rfl (Nat.le_of_ble_eq_true rfl) dX4_store_2 ⟨by decide, by decide⟩ (fun r w1 h1 => ?_)
  obtain ⟨rfl, rfl⟩ := h1
  refine mW.eq (st' := [.int (pin a1 0 15), .ref (ad 46)]) rfl rfl rfl rfl ?_
  refine m_join (P := 13) (wM := gW cy ad ln v ou) (lvM := [(0, .ref (ad 46)), (1, .int a1)]) (stM := [.int (if (pin a1 0 15) = 0 then 1 else 0), .ref (ad 46)]) ?_ (fun hJ13_2 => ?_)
  · refine m_iconst (v := 0) C dX4_store_13 (by decide) ?_
    refine m_iconst (v := 0) C dX4_store_14 (by decide) ?_
    refine m_callV C (p_X4_refuse l D cy ad ln v ou (if (pin a1 0 15) = 0 then 1 else 0) 0 0) (cwV 3 C.2.2.2.2.1 gX4_store_X4_refuse rfl rfl rfl (by decide +kernel) ⟨Nat.le_of_ble_eq_true rfl, Nat.le_of_ble_eq_true rfl⟩) 46 gp_46 rfl rfl rfl (Nat.le_of_ble_eq_true rfl) dX4_store_15 ⟨by decide, by decide⟩ (fun r w1 h1 => ?_)
    obtain ⟨v3, ev3⟩ : ∃ z : gV, z = vrf v (if (pin a1 0 15) = 0 then 1 else 0) 0 0 := ⟨_, rfl⟩
    rw [← ev3] at h1
    obtain ⟨rfl, rfl⟩ := h1
    refine mW.eq (st' := [.int (prf (if (pin a1 0 15) = 0 then 1 else 0) 0 0)]) rfl rfl rfl rfl ?_
    have h := h v3 ev3
    refine m_if_eq (tgt := 23) C dX4_store_18 (by decide) (fun c4 => ?_) (fun c4 => ?_)
    · have h := h.1 c4
      refine m_aload_n C dX4_store_23 rfl 0 rfl ?_
      refine m_aload_n C dX4_store_24 rfl 0 rfl ?_
      refine m_get (T := TX4) (N := 19) C hiX4_store_X4 46 gp_46 rfl 4 (by decide) (by decide +kernel) rfl dX4_store_25 ?_
      obtain ⟨v5, ev5⟩ : ∃ z : gV, z = va_up v3 46 (upd (v3 46) 6 (v3 46 4)) := ⟨_, rfl⟩
      have h := h v5 ev5
      refine m_put (w' := gW cy ad ln v5 ou) (T := TX4) (N := 19) C hiX4_store_X4 tyX4 tyX4_ok nmX4 46 gp_46 rfl 6 (by decide) (by decide +kernel) rfl rfl rfl (Nat.le_of_ble_eq_true rfl) dX4_store_28 (by rw [ev5]; exact gW_set (k := 46) (by decide) rfl) ?_
      refine m_iconst (v := 0) C dX4_store_31 (by decide) ?_
      refine m_istore_n (lv' := [(2, .int 0), (0, .ref (ad 46)), (1, .int a1)]) C dX4_store_32 rfl (by decide) rfl ?_
      obtain ⟨I33, ⟨n0, h0⟩, hI⟩ := h
      refine mW.sub (lv' := [(0, .ref (ad 46)), (1, .int a1), (2, .int 0)]) [1, 2, 0] rfl ?_
      refine m_ind (σ := Int32 × gV) (fun n z => I33 n z.1 z.2) (fun z => gW cy ad ln z.2 ou) 33 (fun z => [(0, .ref (ad 46)), (1, .int a1), (2, .int z.1)]) ?_ n0 (0, v5) h0
      intro n z hi ih
      obtain ⟨x6, v7⟩ := z
      have h := hI n x6 v7 hi
      show mW _ _ _ _ _ _ _ _ _ _ _ _ _ _ _ _ (gW cy ad ln v7 ou) 33 [(0, .ref (ad 46)), (1, .int a1), (2, .int x6)] []
      refine m_iload_n C dX4_store_33 rfl 2 rfl ?_
      refine m_aload_n C dX4_store_34 rfl 0 rfl ?_
      refine m_get (T := TX4) (N := 19) C hiX4_store_X4 46 gp_46 rfl 6 (by decide) (by decide +kernel) rfl dX4_store_35 ?_
      refine m_icmp_ge (tgt := 59) C dX4_store_38 (by decide) (fun c8 => ?_) (fun c8 => ?_)
      · have h := h.1 c8
        refine m_aload_n C dX4_store_59 rfl 0 rfl ?_
        refine m_callV C (s_X4_give l D cy ad ln v7 ou   h) (cwV 0 C.2.2.2.2.1 gX4_store_X4_give rfl rfl rfl (by decide +kernel) ⟨Nat.le_of_ble_eq_true rfl, Nat.le_of_ble_eq_true rfl⟩) 46 gp_46 rfl rfl rfl (Nat.le_of_ble_eq_true rfl) dX4_store_60 ⟨by decide, by decide⟩ (fun r w1 h1 => ?_)
        obtain ⟨x9, v10, rfl, h, rfl⟩ := h1
        refine mW.eq (st' := [.int x9]) rfl rfl rfl rfl ?_
        refine m_istore_n (lv' := [(2, .int x9), (0, .ref (ad 46)), (1, .int a1)]) C dX4_store_63 rfl (by decide) rfl ?_
        refine m_aload_n C dX4_store_64 rfl 1 rfl ?_
        refine m_iconst (v := 0) C dX4_store_65 (by decide) ?_
        refine m_iload_n C dX4_store_66 rfl 0 rfl ?_
        refine m_join (P := 75) (wM := gW cy ad ln v10 ou) (lvM := [(2, .int x9), (0, .ref (ad 46)), (1, .int a1)]) (stM := [.int (if 0 ≤ x9 then 0 else 1), .int 0, .ref (ad 46)]) ?_ (fun hJ75_12 => ?_)
        · refine m_iconst (v := 0) C dX4_store_75 (by decide) ?_
          refine m_callV C (p_X4_refuse l D cy ad ln v10 ou 0 (if 0 ≤ x9 then 0 else 1) 0) (cwV 3 C.2.2.2.2.1 gX4_store_X4_refuse rfl rfl rfl (by decide +kernel) ⟨Nat.le_of_ble_eq_true rfl, Nat.le_of_ble_eq_true rfl⟩) 46 gp_46 rfl rfl rfl (Nat.le_of_ble_eq_true rfl) dX4_store_76 ⟨by decide, by decide⟩ (fun r w1 h1 => ?_)
          obtain ⟨v13, ev13⟩ : ∃ z : gV, z = vrf v10 0 (if 0 ≤ x9 then 0 else 1) 0 := ⟨_, rfl⟩
          rw [← ev13] at h1
          obtain ⟨rfl, rfl⟩ := h1
          refine mW.eq (st' := [.int (prf 0 (if 0 ≤ x9 then 0 else 1) 0)]) rfl rfl rfl rfl ?_
          have h := h v13 ev13
          refine m_if_eq (tgt := 84) C dX4_store_79 (by decide) (fun c14 => ?_) (fun c14 => ?_)
          · have h := h.1 c14
            refine m_aload_n C dX4_store_84 rfl 1 rfl ?_
            refine m_iload_n C dX4_store_85 rfl 2 rfl ?_
            refine m_callV C (s_X4_take l D cy ad ln v13 ou a1  h) (cwV 1 C.2.2.2.2.1 gX4_store_X4_take rfl rfl rfl (by decide +kernel) ⟨Nat.le_of_ble_eq_true rfl, Nat.le_of_ble_eq_true rfl⟩) 46 gp_46 rfl rfl rfl (Nat.le_of_ble_eq_true rfl) dX4_store_86 ⟨by decide, by decide⟩ (fun r w1 h1 => ?_)
            obtain ⟨v16, rfl, h, rfl⟩ := h1
            refine mW.eq (st' := []) rfl rfl rfl rfl ?_
            refine m_aload_n C dX4_store_89 rfl 1 rfl ?_
            refine m_iconst (v := 0) C dX4_store_90 (by decide) ?_
            obtain ⟨v17, ev17⟩ : ∃ z : gV, z = va_up v16 46 (upd (v16 46) 4 0) := ⟨_, rfl⟩
            have h := h v17 ev17
            refine m_put (w' := gW cy ad ln v17 ou) (T := TX4) (N := 19) C hiX4_store_X4 tyX4 tyX4_ok nmX4 46 gp_46 rfl 4 (by decide) (by decide +kernel) rfl rfl rfl (Nat.le_of_ble_eq_true rfl) dX4_store_91 (by rw [ev17]; exact gW_set (k := 46) (by decide) rfl) ?_
            refine m_iload_n C dX4_store_94 rfl 0 rfl ?_
            exact m_iret C dX4_store_95 (Nat.le_of_ble_eq_true rfl) (Nat.le_of_ble_eq_true rfl) ⟨_, _, rfl, h, rfl⟩
          · have h := h.2 c14
            refine m_iconst (v := 0) C dX4_store_82 (by decide) ?_
            exact m_iret C dX4_store_83 (Nat.le_of_ble_eq_true rfl) (Nat.le_of_ble_eq_true rfl) ⟨_, _, rfl, h, rfl⟩
        · refine m_if_ge (tgt := 74) C dX4_store_67 (by decide) (fun c11 => ?_) (fun c11 => ?_)
          · refine m_iconst (v := 0) C dX4_store_74 (by decide) ?_
            refine mW.sub (lv' := [(2, .int x9), (0, .ref (ad 46)), (1, .int a1)]) [0, 1, 2] rfl ?_
            exact mW.eq rfl rfl (by simp only [if_pos c11]) rfl hJ75_12
          · refine m_iconst (v := 1) C dX4_store_70 (by decide) ?_
            refine m_goto (tgt := 75) C dX4_store_71 (by decide) ?_
            refine mW.sub (lv' := [(2, .int x9), (0, .ref (ad 46)), (1, .int a1)]) [0, 1, 2] rfl ?_
            exact mW.eq rfl rfl (by simp only [if_neg c11]) rfl hJ75_12
      · have h := h.2 c8
        refine m_aload_n C dX4_store_41 rfl 0 rfl ?_
        refine m_get (T := TX4) (N := 19) C hiX4_store_X4 46 gp_46 rfl 7 (by decide) (by decide +kernel) rfl dX4_store_42 ?_
        refine m_iload_n C dX4_store_45 rfl 2 rfl ?_
        refine m_aload_n C dX4_store_46 rfl 0 rfl ?_
        refine m_get (T := TX4) (N := 19) C hiX4_store_X4 46 gp_46 rfl 5 (by decide) (by decide +kernel) rfl dX4_store_47 ?_
        refine m_iload_n C dX4_store_50 rfl 2 rfl ?_
        obtain ⟨b18, h⟩ := h
        refine m_iald C 47 (gp_I (by decide)) b18 dX4_store_51 ?_
        obtain ⟨b19, h⟩ := h
        obtain ⟨v20, ev20⟩ : ∃ z : gV, z = va_up v7 48 (upd (v7 48) x6.toNatClampNeg (v7 47 x6.toNatClampNeg)) := ⟨_, rfl⟩
        have h := h v20 ev20
        refine m_iast (w' := gW cy ad ln v20 ou) C 48 (gp_I (by decide)) b19 dX4_store_52 (by rw [ev20]; exact gs_I (by decide)) ?_
        refine m_iinc (lv' := [(2, .int (x6 + 1)), (0, .ref (ad 46)), (1, .int a1)]) C dX4_store_53 (k := 2) rfl rfl (by decide) rfl ?_
        refine m_goto (tgt := 33) C dX4_store_56 (by decide) ?_
        obtain ⟨n21, hn, h⟩ := h
        exact mW.sub [1, 2, 0] rfl (ih n21 ((x6 + 1), v20) hn h)
    · have h := h.2 c4
      refine m_iconst (v := 0) C dX4_store_21 (by decide) ?_
      exact m_iret C dX4_store_22 (Nat.le_of_ble_eq_true rfl) (Nat.le_of_ble_eq_true rfl) ⟨_, _, rfl, h, rfl⟩
  · refine m_if_ne (tgt := 12) C dX4_store_5 (by decide) (fun c1 => ?_) (fun c1 => ?_)
    · refine m_iconst (v := 0) C dX4_store_12 (by decide) ?_
      refine mW.sub (lv' := [(0, .ref (ad 46)), (1, .int a1)]) [0, 1] rfl ?_
      exact mW.eq rfl rfl (by simp only [if_neg c1]) rfl hJ13_2
    · refine m_iconst (v := 1) C dX4_store_8 (by decide) ?_
      refine m_goto (tgt := 13) C dX4_store_9 (by decide) ?_
      refine mW.sub (lv' := [(0, .ref (ad 46)), (1, .int a1)]) [0, 1] rfl ?_
      exact mW.eq rfl rfl (by simp only [if_pos c1]) rfl hJ13_2
theorem hiX4_edit_X4 : ∀ w ∈ wsX40, w ∈ wsX4_edit := by decide +kernel
def wp_X4_edit (ln : Nat → Nat) (v : gV) (a1 : Int32) (a2 : Int32) (a3 : Int32) (post : Int32 → gV → Prop) : Prop :=
  ((¬ ((pin a1 0 15) = 0)) → vp_in a1 (ln 52)) ∧ (∀ x4 : Int32, x4 = (if (pin a1 0 15) = 0 then 0 else v 52 a1.toNatClampNeg) → ((∀ x9 : Int32, x9 = (if (pin a1 0 15) = 0 then 0 else if (pin a2 0 x4) = 0 then 0 else if (pin a3 0 (x4 - a2)) = 0 then 0 else 1) → ((((∀ v18 : gV, v18 = vrf v (if (pin a1 0 15) = 0 then 1 else 0) (if (pin a1 0 15) = 0 then 0 else if x9 = 0 then 1 else 0) (if x9 = 0 then 0 else if ((x4 - a3) + (v 46 4)) ≤ 1500 then 0 else 1) → ((((prf (if (pin a1 0 15) = 0 then 1 else 0) (if (pin a1 0 15) = 0 then 0 else if x9 = 0 then 1 else 0) (if x9 = 0 then 0 else if ((x4 - a3) + (v 46 4)) ≤ 1500 then 0 else 1)) = 0) → (∀ v20 : gV, v20 = va_up v18 46 (upd (v18 46) 6 0) → (∃ I124 : Nat → Int32 → gV → Prop, (∃ n, I124 n 0 v20) ∧ ∀ (n : Nat) (x21 : Int32) (v22 : gV), I124 n x21 v22 → (((a2 ≤ x21) → (∃ I171 : Nat → Int32 → gV → Prop, (∃ n, I171 n 0 v22) ∧ ∀ (n : Nat) (x24 : Int32) (v25 : gV), I171 n x24 v25 → ((((v25 46 4) ≤ x24) → (∃ I217 : Nat → Int32 → gV → Prop, (∃ n, I217 n (a2 + a3) v25) ∧ ∀ (n : Nat) (x27 : Int32) (v28 : gV), I217 n x27 v28 → (((x4 ≤ x27) → (wp_X4_give ln v28  (fun (x30 : Int32) (v31 : gV) => ((∀ v34 : gV, v34 = vrf v31 0 0 (if 0 ≤ x30 then 0 else 1) → ((((prf 0 0 (if 0 ≤ x30 then 0 else 1)) = 0) → (wp_X4_take ln v34 a1 (fun (v37 : gV) => (∀ v38 : gV, v38 = va_up v37 46 (upd (v37 46) 4 0) → (post x30 v38))))) ∧ (¬ ((prf 0 0 (if 0 ≤ x30 then 0 else 1)) = 0) → (post 0 v34)))))))) ∧ (¬ (x4 ≤ x27) → (vp_in ((1500 * a1) + x27) (ln 53) ∧ (vp_in (v28 46 6) (ln 48) ∧ ∀ v41 : gV, v41 = va_up v28 48 (upd (v28 48) (v28 46 6).toNatClampNeg (v28 53 ((1500 * a1) + x27).toNatClampNeg)) → (∀ v42 : gV, v42 = va_up v41 46 (upd (v41 46) 6 ((v41 46 6) + 1)) → (∃ n', n' < n ∧ I217 n' (x27 + 1) v42)))))))) ∧ (¬ ((v25 46 4) ≤ x24) → (vp_in x24 (ln 47) ∧ (vp_in (v25 46 6) (ln 48) ∧ ∀ v46 : gV, v46 = va_up v25 48 (upd (v25 48) (v25 46 6).toNatClampNeg (v25 47 x24.toNatClampNeg)) → (∀ v47 : gV, v47 = va_up v46 46 (upd (v46 46) 6 ((v46 46 6) + 1)) → (∃ n', n' < n ∧ I171 n' (x24 + 1) v47)))))))) ∧ (¬ (a2 ≤ x21) → (vp_in ((1500 * a1) + x21) (ln 53) ∧ (vp_in (v22 46 6) (ln 48) ∧ ∀ v51 : gV, v51 = va_up v22 48 (upd (v22 48) (v22 46 6).toNatClampNeg (v22 53 ((1500 * a1) + x21).toNatClampNeg)) → (∀ v52 : gV, v52 = va_up v51 46 (upd (v51 46) 6 ((v51 46 6) + 1)) → (∃ n', n' < n ∧ I124 n' (x21 + 1) v52))))))))) ∧ (¬ ((prf (if (pin a1 0 15) = 0 then 1 else 0) (if (pin a1 0 15) = 0 then 0 else if x9 = 0 then 1 else 0) (if x9 = 0 then 0 else if ((x4 - a3) + (v 46 4)) ≤ 1500 then 0 else 1)) = 0) → (post 0 v18))))))))))
set_option maxHeartbeats 4000000 in
set_option maxRecDepth 100000 in
theorem s_X4_edit (l : Launch) (D : va_G) (cy : Nat → ClassId) (ad ln : Nat → Nat) (v : gV) (ou : Nat → Int64) (a1 : Int32) (a2 : Int32) (a3 : Int32) {post : Int32 → gV → Prop} (h : wp_X4_edit ln v a1 a2 a3 post) : mM l D cy yX4_edit wsX4_edit 5 0 0 [.ref (ad 46), .int a1, .int a2, .int a3] (gW cy ad ln v ou) (fun r w1 => ∃ (x1 : Int32) (v1 : gV), r = some (.int x1) ∧ post x1 v1 ∧ w1 = gW cy ad ln v1 ou) := by
  unfold wp_X4_edit at h
  refine mM.of (cc := cX4_edit) (nL := 8) (ret0 := (some .int)) (by decide +kernel) rfl (Nat.le_of_ble_eq_true rfl) ?_
  intro p e s m args below meth c A C hini
  refine mW.sub (lv' := [(0, .ref (ad 46)), (1, .int a1), (2, .int a2), (3, .int a3)]) [0, 1, 2, 3] rfl ?_
  refine m_iload_n C dX4_edit_0 rfl 1 rfl ?_
  refine m_callS C (p_X4_isFile l D cy ad ln v ou a1) (va_cwS 1 C.2.2.2.2.1 gX4_edit_X4_isFile rfl rfl rfl (by decide +kernel) ⟨Nat.le_of_ble_eq_true rfl, Nat.le_of_ble_eq_true rfl⟩) rfl rfl (Nat.le_of_ble_eq_true rfl) dX4_edit_1 ⟨by decide, by decide⟩ (fun r w1 h1 => ?_)
  obtain ⟨rfl, rfl⟩ := h1
  refine mW.eq (st' := [.int (pin a1 0 15)]) rfl rfl rfl rfl ?_
  refine m_istore (lv' := [(4, .int (pin a1 0 15)), (0, .ref (ad 46)), (1, .int a1), (2, .int a2), (3, .int a3)]) C dX4_edit_4 (by decide) rfl ?_
  refine m_iload C dX4_edit_6 0 rfl ?_
  obtain ⟨b2, h⟩ := h
  refine m_join (P := 21) (wM := gW cy ad ln v ou) (lvM := [(4, .int (pin a1 0 15)), (0, .ref (ad 46)), (1, .int a1), (2, .int a2), (3, .int a3)]) (stM := [.int (if (pin a1 0 15) = 0 then 0 else v 52 a1.toNatClampNeg)]) ?_ (fun hJ21_3 => ?_)
  · refine m_topi (fun x4 ex4 => ?_)
    have h := h x4 ex4
    refine m_istore (lv' := [(5, .int x4), (4, .int (pin a1 0 15)), (0, .ref (ad 46)), (1, .int a1), (2, .int a2), (3, .int a3)]) C dX4_edit_21 (by decide) rfl ?_
    refine m_iload C dX4_edit_23 1 rfl ?_
    refine m_join (P := 55) (wM := gW cy ad ln v ou) (lvM := [(5, .int x4), (4, .int (pin a1 0 15)), (0, .ref (ad 46)), (1, .int a1), (2, .int a2), (3, .int a3)]) (stM := [.int (if (pin a1 0 15) = 0 then 0 else if (pin a2 0 x4) = 0 then 0 else if (pin a3 0 (x4 - a2)) = 0 then 0 else 1)]) ?_ (fun hJ55_8 => ?_)
    · refine m_topi (fun x9 ex9 => ?_)
      have h := h x9 ex9
      refine m_istore (lv' := [(6, .int x9), (5, .int x4), (4, .int (pin a1 0 15)), (0, .ref (ad 46)), (1, .int a1), (2, .int a2), (3, .int a3)]) C dX4_edit_55 (by decide) rfl ?_
      refine m_aload_n C dX4_edit_57 rfl 3 rfl ?_
      refine m_iload C dX4_edit_58 2 rfl ?_
      refine m_join (P := 68) (wM := gW cy ad ln v ou) (lvM := [(6, .int x9), (5, .int x4), (4, .int (pin a1 0 15)), (0, .ref (ad 46)), (1, .int a1), (2, .int a2), (3, .int a3)]) (stM := [.int (if (pin a1 0 15) = 0 then 1 else 0), .ref (ad 46)]) ?_ (fun hJ68_11 => ?_)
      · refine m_iload C dX4_edit_68 2 rfl ?_
        refine m_join (P := 83) (wM := gW cy ad ln v ou) (lvM := [(6, .int x9), (5, .int x4), (4, .int (pin a1 0 15)), (0, .ref (ad 46)), (1, .int a1), (2, .int a2), (3, .int a3)]) (stM := [.int (if (pin a1 0 15) = 0 then 0 else if x9 = 0 then 1 else 0), .int (if (pin a1 0 15) = 0 then 1 else 0), .ref (ad 46)]) ?_ (fun hJ83_14 => ?_)
        · refine m_iload C dX4_edit_83 0 rfl ?_
          refine m_join (P := 108) (wM := gW cy ad ln v ou) (lvM := [(6, .int x9), (5, .int x4), (4, .int (pin a1 0 15)), (0, .ref (ad 46)), (1, .int a1), (2, .int a2), (3, .int a3)]) (stM := [.int (if x9 = 0 then 0 else if ((x4 - a3) + (v 46 4)) ≤ 1500 then 0 else 1), .int (if (pin a1 0 15) = 0 then 0 else if x9 = 0 then 1 else 0), .int (if (pin a1 0 15) = 0 then 1 else 0), .ref (ad 46)]) ?_ (fun hJ108_17 => ?_)
          · refine m_callV C (p_X4_refuse l D cy ad ln v ou (if (pin a1 0 15) = 0 then 1 else 0) (if (pin a1 0 15) = 0 then 0 else if x9 = 0 then 1 else 0) (if x9 = 0 then 0 else if ((x4 - a3) + (v 46 4)) ≤ 1500 then 0 else 1)) (cwV 3 C.2.2.2.2.1 gX4_edit_X4_refuse rfl rfl rfl (by decide +kernel) ⟨Nat.le_of_ble_eq_true rfl, Nat.le_of_ble_eq_true rfl⟩) 46 gp_46 rfl rfl rfl (Nat.le_of_ble_eq_true rfl) dX4_edit_108 ⟨by decide, by decide⟩ (fun r w1 h1 => ?_)
            obtain ⟨v18, ev18⟩ : ∃ z : gV, z = vrf v (if (pin a1 0 15) = 0 then 1 else 0) (if (pin a1 0 15) = 0 then 0 else if x9 = 0 then 1 else 0) (if x9 = 0 then 0 else if ((x4 - a3) + (v 46 4)) ≤ 1500 then 0 else 1) := ⟨_, rfl⟩
            rw [← ev18] at h1
            obtain ⟨rfl, rfl⟩ := h1
            refine mW.eq (st' := [.int (prf (if (pin a1 0 15) = 0 then 1 else 0) (if (pin a1 0 15) = 0 then 0 else if x9 = 0 then 1 else 0) (if x9 = 0 then 0 else if ((x4 - a3) + (v 46 4)) ≤ 1500 then 0 else 1))]) rfl rfl rfl rfl ?_
            have h := h v18 ev18
            refine m_if_eq (tgt := 116) C dX4_edit_111 (by decide) (fun c19 => ?_) (fun c19 => ?_)
            · have h := h.1 c19
              refine m_aload_n C dX4_edit_116 rfl 3 rfl ?_
              refine m_iconst (v := 0) C dX4_edit_117 (by decide) ?_
              obtain ⟨v20, ev20⟩ : ∃ z : gV, z = va_up v18 46 (upd (v18 46) 6 0) := ⟨_, rfl⟩
              have h := h v20 ev20
              refine m_put (w' := gW cy ad ln v20 ou) (T := TX4) (N := 19) C hiX4_edit_X4 tyX4 tyX4_ok nmX4 46 gp_46 rfl 6 (by decide) (by decide +kernel) rfl rfl rfl (Nat.le_of_ble_eq_true rfl) dX4_edit_118 (by rw [ev20]; exact gW_set (k := 46) (by decide) rfl) ?_
              refine m_iconst (v := 0) C dX4_edit_121 (by decide) ?_
              refine m_istore (lv' := [(7, .int 0), (6, .int x9), (5, .int x4), (4, .int (pin a1 0 15)), (0, .ref (ad 46)), (1, .int a1), (2, .int a2), (3, .int a3)]) C dX4_edit_122 (by decide) rfl ?_
              obtain ⟨I124, ⟨n0, h0⟩, hI⟩ := h
              refine mW.sub (lv' := [(0, .ref (ad 46)), (1, .int a1), (2, .int a2), (3, .int a3), (4, .int (pin a1 0 15)), (5, .int x4), (6, .int x9), (7, .int 0)]) [4, 5, 6, 7, 3, 2, 1, 0] rfl ?_
              refine m_ind (σ := Int32 × gV) (fun n z => I124 n z.1 z.2) (fun z => gW cy ad ln z.2 ou) 124 (fun z => [(0, .ref (ad 46)), (1, .int a1), (2, .int a2), (3, .int a3), (4, .int (pin a1 0 15)), (5, .int x4), (6, .int x9), (7, .int z.1)]) ?_ n0 (0, v20) h0
              intro n z hi ih
              obtain ⟨x21, v22⟩ := z
              have h := hI n x21 v22 hi
              show mW _ _ _ _ _ _ _ _ _ _ _ _ _ _ _ _ (gW cy ad ln v22 ou) 124 [(0, .ref (ad 46)), (1, .int a1), (2, .int a2), (3, .int a3), (4, .int (pin a1 0 15)), (5, .int x4), (6, .int x9), (7, .int x21)] []
              refine m_iload C dX4_edit_124 7 rfl ?_
              refine m_iload_n C dX4_edit_126 rfl 2 rfl ?_
              refine m_icmp_ge (tgt := 168) C dX4_edit_127 (by decide) (fun c23 => ?_) (fun c23 => ?_)
              · have h := h.1 c23
                refine m_iconst (v := 0) C dX4_edit_168 (by decide) ?_
                refine m_istore (lv' := [(7, .int 0), (0, .ref (ad 46)), (1, .int a1), (2, .int a2), (3, .int a3), (4, .int (pin a1 0 15)), (5, .int x4), (6, .int x9)]) C dX4_edit_169 (by decide) rfl ?_
                obtain ⟨I171, ⟨n0, h0⟩, hI⟩ := h
                refine mW.sub (lv' := [(0, .ref (ad 46)), (1, .int a1), (2, .int a2), (3, .int a3), (4, .int (pin a1 0 15)), (5, .int x4), (6, .int x9), (7, .int 0)]) [1, 2, 3, 4, 5, 6, 7, 0] rfl ?_
                refine m_ind (σ := Int32 × gV) (fun n z => I171 n z.1 z.2) (fun z => gW cy ad ln z.2 ou) 171 (fun z => [(0, .ref (ad 46)), (1, .int a1), (2, .int a2), (3, .int a3), (4, .int (pin a1 0 15)), (5, .int x4), (6, .int x9), (7, .int z.1)]) ?_ n0 (0, v22) h0
                intro n z hi ih
                obtain ⟨x24, v25⟩ := z
                have h := hI n x24 v25 hi
                show mW _ _ _ _ _ _ _ _ _ _ _ _ _ _ _ _ (gW cy ad ln v25 ou) 171 [(0, .ref (ad 46)), (1, .int a1), (2, .int a2), (3, .int a3), (4, .int (pin a1 0 15)), (5, .int x4), (6, .int x9), (7, .int x24)] []
                refine m_iload C dX4_edit_171 7 rfl ?_
                refine m_aload_n C dX4_edit_173 rfl 0 rfl ?_
                refine m_get (T := TX4) (N := 19) C hiX4_edit_X4 46 gp_46 rfl 4 (by decide) (by decide +kernel) rfl dX4_edit_174 ?_
                refine m_icmp_ge (tgt := 212) C dX4_edit_177 (by decide) (fun c26 => ?_) (fun c26 => ?_)
                · have h := h.1 c26
                  refine m_iload_n C dX4_edit_212 rfl 2 rfl ?_
                  refine m_iload_n C dX4_edit_213 rfl 3 rfl ?_
                  refine m_iadd C dX4_edit_214 ?_
                  refine m_istore (lv' := [(7, .int (a2 + a3)), (0, .ref (ad 46)), (1, .int a1), (2, .int a2), (3, .int a3), (4, .int (pin a1 0 15)), (5, .int x4), (6, .int x9)]) C dX4_edit_215 (by decide) rfl ?_
                  obtain ⟨I217, ⟨n0, h0⟩, hI⟩ := h
                  refine mW.sub (lv' := [(0, .ref (ad 46)), (1, .int a1), (2, .int a2), (3, .int a3), (4, .int (pin a1 0 15)), (5, .int x4), (6, .int x9), (7, .int (a2 + a3))]) [1, 2, 3, 4, 5, 6, 7, 0] rfl ?_
                  refine m_ind (σ := Int32 × gV) (fun n z => I217 n z.1 z.2) (fun z => gW cy ad ln z.2 ou) 217 (fun z => [(0, .ref (ad 46)), (1, .int a1), (2, .int a2), (3, .int a3), (4, .int (pin a1 0 15)), (5, .int x4), (6, .int x9), (7, .int z.1)]) ?_ n0 ((a2 + a3), v25) h0
                  intro n z hi ih
                  obtain ⟨x27, v28⟩ := z
                  have h := hI n x27 v28 hi
                  show mW _ _ _ _ _ _ _ _ _ _ _ _ _ _ _ _ (gW cy ad ln v28 ou) 217 [(0, .ref (ad 46)), (1, .int a1), (2, .int a2), (3, .int a3), (4, .int (pin a1 0 15)), (5, .int x4), (6, .int x9), (7, .int x27)] []
                  refine m_iload C dX4_edit_217 7 rfl ?_
                  refine m_iload C dX4_edit_219 5 rfl ?_
                  refine m_icmp_ge (tgt := 262) C dX4_edit_221 (by decide) (fun c29 => ?_) (fun c29 => ?_)
                  · have h := h.1 c29
                    refine m_aload_n C dX4_edit_262 rfl 0 rfl ?_
                    refine m_callV C (s_X4_give l D cy ad ln v28 ou   h) (cwV 0 C.2.2.2.2.1 gX4_edit_X4_give rfl rfl rfl (by decide +kernel) ⟨Nat.le_of_ble_eq_true rfl, Nat.le_of_ble_eq_true rfl⟩) 46 gp_46 rfl rfl rfl (Nat.le_of_ble_eq_true rfl) dX4_edit_263 ⟨by decide, by decide⟩ (fun r w1 h1 => ?_)
                    obtain ⟨x30, v31, rfl, h, rfl⟩ := h1
                    refine mW.eq (st' := [.int x30]) rfl rfl rfl rfl ?_
                    refine m_istore (lv' := [(7, .int x30), (0, .ref (ad 46)), (1, .int a1), (2, .int a2), (3, .int a3), (4, .int (pin a1 0 15)), (5, .int x4), (6, .int x9)]) C dX4_edit_266 (by decide) rfl ?_
                    refine m_aload_n C dX4_edit_268 rfl 1 rfl ?_
                    refine m_iconst (v := 0) C dX4_edit_269 (by decide) ?_
                    refine m_iconst (v := 0) C dX4_edit_270 (by decide) ?_
                    refine m_iload C dX4_edit_271 0 rfl ?_
                    refine m_join (P := 281) (wM := gW cy ad ln v31 ou) (lvM := [(7, .int x30), (0, .ref (ad 46)), (1, .int a1), (2, .int a2), (3, .int a3), (4, .int (pin a1 0 15)), (5, .int x4), (6, .int x9)]) (stM := [.int (if 0 ≤ x30 then 0 else 1), .int 0, .int 0, .ref (ad 46)]) ?_ (fun hJ281_33 => ?_)
                    · refine m_callV C (p_X4_refuse l D cy ad ln v31 ou 0 0 (if 0 ≤ x30 then 0 else 1)) (cwV 3 C.2.2.2.2.1 gX4_edit_X4_refuse rfl rfl rfl (by decide +kernel) ⟨Nat.le_of_ble_eq_true rfl, Nat.le_of_ble_eq_true rfl⟩) 46 gp_46 rfl rfl rfl (Nat.le_of_ble_eq_true rfl) dX4_edit_281 ⟨by decide, by decide⟩ (fun r w1 h1 => ?_)
                      obtain ⟨v34, ev34⟩ : ∃ z : gV, z = vrf v31 0 0 (if 0 ≤ x30 then 0 else 1) := ⟨_, rfl⟩
                      rw [← ev34] at h1
                      obtain ⟨rfl, rfl⟩ := h1
                      refine mW.eq (st' := [.int (prf 0 0 (if 0 ≤ x30 then 0 else 1))]) rfl rfl rfl rfl ?_
                      have h := h v34 ev34
                      refine m_if_eq (tgt := 289) C dX4_edit_284 (by decide) (fun c35 => ?_) (fun c35 => ?_)
                      · have h := h.1 c35
                        refine m_aload_n C dX4_edit_289 rfl 1 rfl ?_
                        refine m_iload_n C dX4_edit_290 rfl 2 rfl ?_
                        refine m_callV C (s_X4_take l D cy ad ln v34 ou a1  h) (cwV 1 C.2.2.2.2.1 gX4_edit_X4_take rfl rfl rfl (by decide +kernel) ⟨Nat.le_of_ble_eq_true rfl, Nat.le_of_ble_eq_true rfl⟩) 46 gp_46 rfl rfl rfl (Nat.le_of_ble_eq_true rfl) dX4_edit_291 ⟨by decide, by decide⟩ (fun r w1 h1 => ?_)
                        obtain ⟨v37, rfl, h, rfl⟩ := h1
                        refine mW.eq (st' := []) rfl rfl rfl rfl ?_
                        refine m_aload_n C dX4_edit_294 rfl 1 rfl ?_
                        refine m_iconst (v := 0) C dX4_edit_295 (by decide) ?_
                        obtain ⟨v38, ev38⟩ : ∃ z : gV, z = va_up v37 46 (upd (v37 46) 4 0) := ⟨_, rfl⟩
                        have h := h v38 ev38
                        refine m_put (w' := gW cy ad ln v38 ou) (T := TX4) (N := 19) C hiX4_edit_X4 tyX4 tyX4_ok nmX4 46 gp_46 rfl 4 (by decide) (by decide +kernel) rfl rfl rfl (Nat.le_of_ble_eq_true rfl) dX4_edit_296 (by rw [ev38]; exact gW_set (k := 46) (by decide) rfl) ?_
                        refine m_iload C dX4_edit_299 0 rfl ?_
                        exact m_iret C dX4_edit_301 (Nat.le_of_ble_eq_true rfl) (Nat.le_of_ble_eq_true rfl) ⟨_, _, rfl, h, rfl⟩
                      · have h := h.2 c35
                        refine m_iconst (v := 0) C dX4_edit_287 (by decide) ?_
                        exact m_iret C dX4_edit_288 (Nat.le_of_ble_eq_true rfl) (Nat.le_of_ble_eq_true rfl) ⟨_, _, rfl, h, rfl⟩
                    · refine m_if_ge (tgt := 280) C dX4_edit_273 (by decide) (fun c32 => ?_) (fun c32 => ?_)
                      · refine m_iconst (v := 0) C dX4_edit_280 (by decide) ?_
                        refine mW.sub (lv' := [(7, .int x30), (0, .ref (ad 46)), (1, .int a1), (2, .int a2), (3, .int a3), (4, .int (pin a1 0 15)), (5, .int x4), (6, .int x9)]) [0, 1, 2, 3, 4, 5, 6, 7] rfl ?_
                        exact mW.eq rfl rfl (by simp only [if_pos c32]) rfl hJ281_33
                      · refine m_iconst (v := 1) C dX4_edit_276 (by decide) ?_
                        refine m_goto (tgt := 281) C dX4_edit_277 (by decide) ?_
                        refine mW.sub (lv' := [(7, .int x30), (0, .ref (ad 46)), (1, .int a1), (2, .int a2), (3, .int a3), (4, .int (pin a1 0 15)), (5, .int x4), (6, .int x9)]) [0, 1, 2, 3, 4, 5, 6, 7] rfl ?_
                        exact mW.eq rfl rfl (by simp only [if_neg c32]) rfl hJ281_33
                  · have h := h.2 c29
                    refine m_aload_n C dX4_edit_224 rfl 0 rfl ?_
                    refine m_get (T := TX4) (N := 19) C hiX4_edit_X4 46 gp_46 rfl 7 (by decide) (by decide +kernel) rfl dX4_edit_225 ?_
                    refine m_aload_n C dX4_edit_228 rfl 0 rfl ?_
                    refine m_get (T := TX4) (N := 19) C hiX4_edit_X4 46 gp_46 rfl 6 (by decide) (by decide +kernel) rfl dX4_edit_229 ?_
                    refine m_aload_n C dX4_edit_232 rfl 0 rfl ?_
                    refine m_get (T := TX4) (N := 19) C hiX4_edit_X4 46 gp_46 rfl 13 (by decide) (by decide +kernel) rfl dX4_edit_233 ?_
                    refine m_sipush (v := 1500) C dX4_edit_236 (by decide) ?_
                    refine m_iload_n C dX4_edit_239 rfl 1 rfl ?_
                    refine m_imul C dX4_edit_240 ?_
                    refine m_iload C dX4_edit_241 7 rfl ?_
                    refine m_iadd C dX4_edit_243 ?_
                    obtain ⟨b39, h⟩ := h
                    refine m_iald C 53 (gp_I (by decide)) b39 dX4_edit_244 ?_
                    obtain ⟨b40, h⟩ := h
                    obtain ⟨v41, ev41⟩ : ∃ z : gV, z = va_up v28 48 (upd (v28 48) (v28 46 6).toNatClampNeg (v28 53 ((1500 * a1) + x27).toNatClampNeg)) := ⟨_, rfl⟩
                    have h := h v41 ev41
                    refine m_iast (w' := gW cy ad ln v41 ou) C 48 (gp_I (by decide)) b40 dX4_edit_245 (by rw [ev41]; exact gs_I (by decide)) ?_
                    refine m_aload_n C dX4_edit_246 rfl 0 rfl ?_
                    refine m_dup C dX4_edit_247 rfl ?_
                    refine m_get (T := TX4) (N := 19) C hiX4_edit_X4 46 gp_46 rfl 6 (by decide) (by decide +kernel) rfl dX4_edit_248 ?_
                    refine m_iconst (v := 1) C dX4_edit_251 (by decide) ?_
                    refine m_iadd C dX4_edit_252 ?_
                    obtain ⟨v42, ev42⟩ : ∃ z : gV, z = va_up v41 46 (upd (v41 46) 6 ((v41 46 6) + 1)) := ⟨_, rfl⟩
                    have h := h v42 ev42
                    refine m_put (w' := gW cy ad ln v42 ou) (T := TX4) (N := 19) C hiX4_edit_X4 tyX4 tyX4_ok nmX4 46 gp_46 rfl 6 (by decide) (by decide +kernel) rfl rfl rfl (Nat.le_of_ble_eq_true rfl) dX4_edit_253 (by rw [ev42]; exact gW_set (k := 46) (by decide) rfl) ?_
                    refine m_iinc (lv' := [(7, .int (x27 + 1)), (0, .ref (ad 46)), (1, .int a1), (2, .int a2), (3, .int a3), (4, .int (pin a1 0 15)), (5, .int x4), (6, .int x9)]) C dX4_edit_256 (k := 7) rfl rfl (by decide) rfl ?_
                    refine m_goto (tgt := 217) C dX4_edit_259 (by decide) ?_
                    obtain ⟨n43, hn, h⟩ := h
                    exact mW.sub [1, 2, 3, 4, 5, 6, 7, 0] rfl (ih n43 ((x27 + 1), v42) hn h)
                · have h := h.2 c26
                  refine m_aload_n C dX4_edit_180 rfl 0 rfl ?_
                  refine m_get (T := TX4) (N := 19) C hiX4_edit_X4 46 gp_46 rfl 7 (by decide) (by decide +kernel) rfl dX4_edit_181 ?_
                  refine m_aload_n C dX4_edit_184 rfl 0 rfl ?_
                  refine m_get (T := TX4) (N := 19) C hiX4_edit_X4 46 gp_46 rfl 6 (by decide) (by decide +kernel) rfl dX4_edit_185 ?_
                  refine m_aload_n C dX4_edit_188 rfl 0 rfl ?_
                  refine m_get (T := TX4) (N := 19) C hiX4_edit_X4 46 gp_46 rfl 5 (by decide) (by decide +kernel) rfl dX4_edit_189 ?_
                  refine m_iload C dX4_edit_192 7 rfl ?_
                  obtain ⟨b44, h⟩ := h
                  refine m_iald C 47 (gp_I (by decide)) b44 dX4_edit_194 ?_
                  obtain ⟨b45, h⟩ := h
                  obtain ⟨v46, ev46⟩ : ∃ z : gV, z = va_up v25 48 (upd (v25 48) (v25 46 6).toNatClampNeg (v25 47 x24.toNatClampNeg)) := ⟨_, rfl⟩
                  have h := h v46 ev46
                  refine m_iast (w' := gW cy ad ln v46 ou) C 48 (gp_I (by decide)) b45 dX4_edit_195 (by rw [ev46]; exact gs_I (by decide)) ?_
                  refine m_aload_n C dX4_edit_196 rfl 0 rfl ?_
                  refine m_dup C dX4_edit_197 rfl ?_
                  refine m_get (T := TX4) (N := 19) C hiX4_edit_X4 46 gp_46 rfl 6 (by decide) (by decide +kernel) rfl dX4_edit_198 ?_
                  refine m_iconst (v := 1) C dX4_edit_201 (by decide) ?_
                  refine m_iadd C dX4_edit_202 ?_
                  obtain ⟨v47, ev47⟩ : ∃ z : gV, z = va_up v46 46 (upd (v46 46) 6 ((v46 46 6) + 1)) := ⟨_, rfl⟩
                  have h := h v47 ev47
                  refine m_put (w' := gW cy ad ln v47 ou) (T := TX4) (N := 19) C hiX4_edit_X4 tyX4 tyX4_ok nmX4 46 gp_46 rfl 6 (by decide) (by decide +kernel) rfl rfl rfl (Nat.le_of_ble_eq_true rfl) dX4_edit_203 (by rw [ev47]; exact gW_set (k := 46) (by decide) rfl) ?_
                  refine m_iinc (lv' := [(7, .int (x24 + 1)), (0, .ref (ad 46)), (1, .int a1), (2, .int a2), (3, .int a3), (4, .int (pin a1 0 15)), (5, .int x4), (6, .int x9)]) C dX4_edit_206 (k := 7) rfl rfl (by decide) rfl ?_
                  refine m_goto (tgt := 171) C dX4_edit_209 (by decide) ?_
                  obtain ⟨n48, hn, h⟩ := h
                  exact mW.sub [1, 2, 3, 4, 5, 6, 7, 0] rfl (ih n48 ((x24 + 1), v47) hn h)
              · have h := h.2 c23
                refine m_aload_n C dX4_edit_130 rfl 0 rfl ?_
                refine m_get (T := TX4) (N := 19) C hiX4_edit_X4 46 gp_46 rfl 7 (by decide) (by decide +kernel) rfl dX4_edit_131 ?_
                refine m_aload_n C dX4_edit_134 rfl 0 rfl ?_
                refine m_get (T := TX4) (N := 19) C hiX4_edit_X4 46 gp_46 rfl 6 (by decide) (by decide +kernel) rfl dX4_edit_135 ?_
                refine m_aload_n C dX4_edit_138 rfl 0 rfl ?_
                refine m_get (T := TX4) (N := 19) C hiX4_edit_X4 46 gp_46 rfl 13 (by decide) (by decide +kernel) rfl dX4_edit_139 ?_
                refine m_sipush (v := 1500) C dX4_edit_142 (by decide) ?_
                refine m_iload_n C dX4_edit_145 rfl 1 rfl ?_
                refine m_imul C dX4_edit_146 ?_
                refine m_iload C dX4_edit_147 7 rfl ?_
                refine m_iadd C dX4_edit_149 ?_
                obtain ⟨b49, h⟩ := h
                refine m_iald C 53 (gp_I (by decide)) b49 dX4_edit_150 ?_
                obtain ⟨b50, h⟩ := h
                obtain ⟨v51, ev51⟩ : ∃ z : gV, z = va_up v22 48 (upd (v22 48) (v22 46 6).toNatClampNeg (v22 53 ((1500 * a1) + x21).toNatClampNeg)) := ⟨_, rfl⟩
                have h := h v51 ev51
                refine m_iast (w' := gW cy ad ln v51 ou) C 48 (gp_I (by decide)) b50 dX4_edit_151 (by rw [ev51]; exact gs_I (by decide)) ?_
                refine m_aload_n C dX4_edit_152 rfl 0 rfl ?_
                refine m_dup C dX4_edit_153 rfl ?_
                refine m_get (T := TX4) (N := 19) C hiX4_edit_X4 46 gp_46 rfl 6 (by decide) (by decide +kernel) rfl dX4_edit_154 ?_
                refine m_iconst (v := 1) C dX4_edit_157 (by decide) ?_
                refine m_iadd C dX4_edit_158 ?_
                obtain ⟨v52, ev52⟩ : ∃ z : gV, z = va_up v51 46 (upd (v51 46) 6 ((v51 46 6) + 1)) := ⟨_, rfl⟩
                have h := h v52 ev52
                refine m_put (w' := gW cy ad ln v52 ou) (T := TX4) (N := 19) C hiX4_edit_X4 tyX4 tyX4_ok nmX4 46 gp_46 rfl 6 (by decide) (by decide +kernel) rfl rfl rfl (Nat.le_of_ble_eq_true rfl) dX4_edit_159 (by rw [ev52]; exact gW_set (k := 46) (by decide) rfl) ?_
                refine m_iinc (lv' := [(7, .int (x21 + 1)), (0, .ref (ad 46)), (1, .int a1), (2, .int a2), (3, .int a3), (4, .int (pin a1 0 15)), (5, .int x4), (6, .int x9)]) C dX4_edit_162 (k := 7) rfl rfl (by decide) rfl ?_
                refine m_goto (tgt := 124) C dX4_edit_165 (by decide) ?_
                obtain ⟨n53, hn, h⟩ := h
                exact mW.sub [1, 2, 3, 4, 5, 6, 7, 0] rfl (ih n53 ((x21 + 1), v52) hn h)
            · have h := h.2 c19
              refine m_iconst (v := 0) C dX4_edit_114 (by decide) ?_
              exact m_iret C dX4_edit_115 (Nat.le_of_ble_eq_true rfl) (Nat.le_of_ble_eq_true rfl) ⟨_, _, rfl, h, rfl⟩
          · refine m_if_eq (tgt := 107) C dX4_edit_85 (by decide) (fun c15 => ?_) (fun c15 => ?_)
            · refine m_iconst (v := 0) C dX4_edit_107 (by decide) ?_
              refine mW.sub (lv' := [(6, .int x9), (5, .int x4), (4, .int (pin a1 0 15)), (0, .ref (ad 46)), (1, .int a1), (2, .int a2), (3, .int a3)]) [0, 1, 2, 3, 4, 5, 6] rfl ?_
              exact mW.eq rfl rfl (by simp only [if_pos c15]) rfl hJ108_17
            · refine m_iload C dX4_edit_88 1 rfl ?_
              refine m_iload_n C dX4_edit_90 rfl 6 rfl ?_
              refine m_isub C dX4_edit_91 ?_
              refine m_aload_n C dX4_edit_92 rfl 3 rfl ?_
              refine m_get (T := TX4) (N := 19) C hiX4_edit_X4 46 gp_46 rfl 4 (by decide) (by decide +kernel) rfl dX4_edit_93 ?_
              refine m_iadd C dX4_edit_96 ?_
              refine m_sipush (v := 1500) C dX4_edit_97 (by decide) ?_
              refine m_icmp_le (tgt := 107) C dX4_edit_100 (by decide) (fun c16 => ?_) (fun c16 => ?_)
              · refine m_iconst (v := 0) C dX4_edit_107 (by decide) ?_
                refine mW.sub (lv' := [(6, .int x9), (5, .int x4), (4, .int (pin a1 0 15)), (0, .ref (ad 46)), (1, .int a1), (2, .int a2), (3, .int a3)]) [0, 1, 2, 3, 4, 5, 6] rfl ?_
                exact mW.eq rfl rfl (by simp only [if_neg c15, if_pos c16]) rfl hJ108_17
              · refine m_iconst (v := 1) C dX4_edit_103 (by decide) ?_
                refine m_goto (tgt := 108) C dX4_edit_104 (by decide) ?_
                refine mW.sub (lv' := [(6, .int x9), (5, .int x4), (4, .int (pin a1 0 15)), (0, .ref (ad 46)), (1, .int a1), (2, .int a2), (3, .int a3)]) [0, 1, 2, 3, 4, 5, 6] rfl ?_
                exact mW.eq rfl rfl (by simp only [if_neg c15, if_neg c16]) rfl hJ108_17
        · refine m_if_eq (tgt := 82) C dX4_edit_70 (by decide) (fun c12 => ?_) (fun c12 => ?_)
          · refine m_iconst (v := 0) C dX4_edit_82 (by decide) ?_
            refine mW.sub (lv' := [(6, .int x9), (5, .int x4), (4, .int (pin a1 0 15)), (0, .ref (ad 46)), (1, .int a1), (2, .int a2), (3, .int a3)]) [0, 1, 2, 3, 4, 5, 6] rfl ?_
            exact mW.eq rfl rfl (by simp only [if_pos c12]) rfl hJ83_14
          · refine m_iload C dX4_edit_73 0 rfl ?_
            refine m_if_ne (tgt := 82) C dX4_edit_75 (by decide) (fun c13 => ?_) (fun c13 => ?_)
            · refine m_iconst (v := 0) C dX4_edit_82 (by decide) ?_
              refine mW.sub (lv' := [(6, .int x9), (5, .int x4), (4, .int (pin a1 0 15)), (0, .ref (ad 46)), (1, .int a1), (2, .int a2), (3, .int a3)]) [0, 1, 2, 3, 4, 5, 6] rfl ?_
              exact mW.eq rfl rfl (by simp only [if_neg c12, if_neg c13]) rfl hJ83_14
            · refine m_iconst (v := 1) C dX4_edit_78 (by decide) ?_
              refine m_goto (tgt := 83) C dX4_edit_79 (by decide) ?_
              refine mW.sub (lv' := [(6, .int x9), (5, .int x4), (4, .int (pin a1 0 15)), (0, .ref (ad 46)), (1, .int a1), (2, .int a2), (3, .int a3)]) [0, 1, 2, 3, 4, 5, 6] rfl ?_
              exact mW.eq rfl rfl (by simp only [if_neg c12, if_pos c13]) rfl hJ83_14
      · refine m_if_ne (tgt := 67) C dX4_edit_60 (by decide) (fun c10 => ?_) (fun c10 => ?_)
        · refine m_iconst (v := 0) C dX4_edit_67 (by decide) ?_
          refine mW.sub (lv' := [(6, .int x9), (5, .int x4), (4, .int (pin a1 0 15)), (0, .ref (ad 46)), (1, .int a1), (2, .int a2), (3, .int a3)]) [0, 1, 2, 3, 4, 5, 6] rfl ?_
          exact mW.eq rfl rfl (by simp only [if_neg c10]) rfl hJ68_11
        · refine m_iconst (v := 1) C dX4_edit_63 (by decide) ?_
          refine m_goto (tgt := 68) C dX4_edit_64 (by decide) ?_
          refine mW.sub (lv' := [(6, .int x9), (5, .int x4), (4, .int (pin a1 0 15)), (0, .ref (ad 46)), (1, .int a1), (2, .int a2), (3, .int a3)]) [0, 1, 2, 3, 4, 5, 6] rfl ?_
          exact mW.eq rfl rfl (by simp only [if_pos c10]) rfl hJ68_11
    · refine m_if_eq (tgt := 54) C dX4_edit_25 (by decide) (fun c5 => ?_) (fun c5 => ?_)
      · refine m_iconst (v := 0) C dX4_edit_54 (by decide) ?_
        refine mW.sub (lv' := [(5, .int x4), (4, .int (pin a1 0 15)), (0, .ref (ad 46)), (1, .int a1), (2, .int a2), (3, .int a3)]) [0, 1, 2, 3, 4, 5] rfl ?_
        exact mW.eq rfl rfl (by simp only [if_pos c5]) rfl hJ55_8
      · refine m_iload_n C dX4_edit_28 rfl 4 rfl ?_
        refine m_iconst (v := 0) C dX4_edit_29 (by decide) ?_
        refine m_iload C dX4_edit_30 0 rfl ?_
        refine m_callS C (p_X4_in l D cy ad ln v ou a2 0 x4) (va_cwS 3 C.2.2.2.2.1 gX4_edit_X4_in rfl rfl rfl (by decide +kernel) ⟨Nat.le_of_ble_eq_true rfl, Nat.le_of_ble_eq_true rfl⟩) rfl rfl (Nat.le_of_ble_eq_true rfl) dX4_edit_32 ⟨by decide, by decide⟩ (fun r w1 h1 => ?_)
        obtain ⟨rfl, rfl⟩ := h1
        refine mW.eq (st' := [.int (pin a2 0 x4)]) rfl rfl rfl rfl ?_
        refine m_if_eq (tgt := 54) C dX4_edit_35 (by decide) (fun c6 => ?_) (fun c6 => ?_)
        · refine m_iconst (v := 0) C dX4_edit_54 (by decide) ?_
          refine mW.sub (lv' := [(5, .int x4), (4, .int (pin a1 0 15)), (0, .ref (ad 46)), (1, .int a1), (2, .int a2), (3, .int a3)]) [0, 1, 2, 3, 4, 5] rfl ?_
          exact mW.eq rfl rfl (by simp only [if_neg c5, if_pos c6]) rfl hJ55_8
        · refine m_iload_n C dX4_edit_38 rfl 5 rfl ?_
          refine m_iconst (v := 0) C dX4_edit_39 (by decide) ?_
          refine m_iload C dX4_edit_40 0 rfl ?_
          refine m_iload_n C dX4_edit_42 rfl 4 rfl ?_
          refine m_isub C dX4_edit_43 ?_
          refine m_callS C (p_X4_in l D cy ad ln v ou a3 0 (x4 - a2)) (va_cwS 3 C.2.2.2.2.1 gX4_edit_X4_in rfl rfl rfl (by decide +kernel) ⟨Nat.le_of_ble_eq_true rfl, Nat.le_of_ble_eq_true rfl⟩) rfl rfl (Nat.le_of_ble_eq_true rfl) dX4_edit_44 ⟨by decide, by decide⟩ (fun r w1 h1 => ?_)
          obtain ⟨rfl, rfl⟩ := h1
          refine mW.eq (st' := [.int (pin a3 0 (x4 - a2))]) rfl rfl rfl rfl ?_
          refine m_if_eq (tgt := 54) C dX4_edit_47 (by decide) (fun c7 => ?_) (fun c7 => ?_)
          · refine m_iconst (v := 0) C dX4_edit_54 (by decide) ?_
            refine mW.sub (lv' := [(5, .int x4), (4, .int (pin a1 0 15)), (0, .ref (ad 46)), (1, .int a1), (2, .int a2), (3, .int a3)]) [0, 1, 2, 3, 4, 5] rfl ?_
            exact mW.eq rfl rfl (by simp only [if_neg c5, if_neg c6, if_pos c7]) rfl hJ55_8
          · refine m_iconst (v := 1) C dX4_edit_50 (by decide) ?_
            refine m_goto (tgt := 55) C dX4_edit_51 (by decide) ?_
            refine mW.sub (lv' := [(5, .int x4), (4, .int (pin a1 0 15)), (0, .ref (ad 46)), (1, .int a1), (2, .int a2), (3, .int a3)]) [0, 1, 2, 3, 4, 5] rfl ?_
            exact mW.eq rfl rfl (by simp only [if_neg c5, if_neg c6, if_neg c7]) rfl hJ55_8
  · refine m_if_eq (tgt := 20) C dX4_edit_8 (by decide) (fun c1 => ?_) (fun c1 => ?_)
    · refine m_iconst (v := 0) C dX4_edit_20 (by decide) ?_
      refine mW.sub (lv' := [(4, .int (pin a1 0 15)), (0, .ref (ad 46)), (1, .int a1), (2, .int a2), (3, .int a3)]) [0, 1, 2, 3, 4] rfl ?_
      exact mW.eq rfl rfl (by simp only [if_pos c1]) rfl hJ21_3
    · refine m_aload_n C dX4_edit_11 rfl 1 rfl ?_
      refine m_get (T := TX4) (N := 19) C hiX4_edit_X4 46 gp_46 rfl 12 (by decide) (by decide +kernel) rfl dX4_edit_12 ?_
      refine m_iload_n C dX4_edit_15 rfl 2 rfl ?_
      refine m_iald C 52 (gp_I (by decide)) (b2 c1) dX4_edit_16 ?_
      refine m_goto (tgt := 21) C dX4_edit_17 (by decide) ?_
      refine mW.sub (lv' := [(4, .int (pin a1 0 15)), (0, .ref (ad 46)), (1, .int a1), (2, .int a2), (3, .int a3)]) [0, 1, 2, 3, 4] rfl ?_
      exact mW.eq rfl rfl (by simp only [if_neg c1]) rfl hJ21_3
theorem hiX4_copy_X4 : ∀ w ∈ wsX40, w ∈ wsX4_copy := by decide +kernel
def wp_X4_copy (ln : Nat → Nat) (v : gV) (a1 : Int32) (a2 : Int32) (post : gV → Prop) : Prop :=
  (∀ v4 : gV, v4 = vrf v (if (pin a1 0 15) = 0 then 1 else if (pin a2 0 15) = 0 then 1 else 0) 0 0 → ((((prf (if (pin a1 0 15) = 0 then 1 else if (pin a2 0 15) = 0 then 1 else 0) 0 0) = 0) → (((a1 = a2) → (post v4)) ∧ (¬ (a1 = a2) → (vp_in a1 (ln 52) ∧ (∀ v8 : gV, v8 = va_up v4 46 (upd (v4 46) 6 (v4 52 a1.toNatClampNeg)) → (vp_in a1 (ln 54) ∧ (∀ v10 : gV, v10 = va_up v8 46 (upd (v8 46) 8 (v8 54 a1.toNatClampNeg)) → (∃ I56 : Nat → Int32 → gV → Prop, (∃ n, I56 n 0 v10) ∧ ∀ (n : Nat) (x11 : Int32) (v12 : gV), I56 n x11 v12 → ((((v12 46 6) ≤ x11) → (∃ I90 : Nat → Int32 → gV → Prop, (∃ n, I90 n 0 v12) ∧ ∀ (n : Nat) (x14 : Int32) (v15 : gV), I90 n x14 v15 → ((((v15 46 8) ≤ x14) → (wp_X4_take ln v15 a2 (fun (v18 : gV) => (post v18)))) ∧ (¬ ((v15 46 8) ≤ x14) → (vp_in ((1500 * a1) + x14) (ln 55) ∧ (vp_in x14 (ln 50) ∧ ∀ v21 : gV, v21 = va_up v15 50 (upd (v15 50) x14.toNatClampNeg (v15 55 ((1500 * a1) + x14).toNatClampNeg)) → (∃ n', n' < n ∧ I90 n' (x14 + 1) v21))))))) ∧ (¬ ((v12 46 6) ≤ x11) → (vp_in ((1500 * a1) + x11) (ln 53) ∧ (vp_in x11 (ln 48) ∧ ∀ v25 : gV, v25 = va_up v12 48 (upd (v12 48) x11.toNatClampNeg (v12 53 ((1500 * a1) + x11).toNatClampNeg)) → (∃ n', n' < n ∧ I56 n' (x11 + 1) v25))))))))))))) ∧ (¬ ((prf (if (pin a1 0 15) = 0 then 1 else if (pin a2 0 15) = 0 then 1 else 0) 0 0) = 0) → (post v4))))
set_option maxHeartbeats 4000000 in
set_option maxRecDepth 100000 in
theorem s_X4_copy (l : Launch) (D : va_G) (cy : Nat → ClassId) (ad ln : Nat → Nat) (v : gV) (ou : Nat → Int64) (a1 : Int32) (a2 : Int32) {post : gV → Prop} (h : wp_X4_copy ln v a1 a2 post) : mM l D cy yX4_copy wsX4_copy 3 0 0 [.ref (ad 46), .int a1, .int a2] (gW cy ad ln v ou) (fun r w1 => ∃ v1 : gV, r = none ∧ post v1 ∧ w1 = gW cy ad ln v1 ou) := by
  unfold wp_X4_copy at h
  refine mM.of (cc := cX4_copy) (nL := 4) (ret0 := none) (by decide +kernel) rfl (Nat.le_of_ble_eq_true rfl) ?_
  intro p e s m args below meth c A C hini
  refine mW.sub (lv' := [(0, .ref (ad 46)), (1, .int a1), (2, .int a2)]) [0, 1, 2] rfl ?_
  refine m_aload_n C dX4_copy_0 rfl 0 rfl ?_
  refine m_iload_n C dX4_copy_1 rfl 1 rfl ?_
  refine m_callS C (p_X4_isFile l D cy ad ln v ou a1) (va_cwS 1 C.2.2.2.2.1 gX4_copy_X4_isFile rfl rfl rfl (by decide +kernel) ⟨Nat.le_of_ble_eq_true rfl, Nat.le_of_ble_eq_true rfl⟩) rfl rfl (Nat.le_of_ble_eq_true rfl) dX4_copy_2 ⟨by decide, by decide⟩ (fun r w1 h1 => ?_)
  obtain ⟨rfl, rfl⟩ := h1
  refine mW.eq (st' := [.int (pin a1 0 15), .ref (ad 46)]) rfl rfl rfl rfl ?_
  refine m_join (P := 20) (wM := gW cy ad ln v ou) (lvM := [(0, .ref (ad 46)), (1, .int a1), (2, .int a2)]) (stM := [.int (if (pin a1 0 15) = 0 then 1 else if (pin a2 0 15) = 0 then 1 else 0), .ref (ad 46)]) ?_ (fun hJ20_3 => ?_)
  · refine m_iconst (v := 0) C dX4_copy_20 (by decide) ?_
    refine m_iconst (v := 0) C dX4_copy_21 (by decide) ?_
    refine m_callV C (p_X4_refuse l D cy ad ln v ou (if (pin a1 0 15) = 0 then 1 else if (pin a2 0 15) = 0 then 1 else 0) 0 0) (cwV 3 C.2.2.2.2.1 gX4_copy_X4_refuse rfl rfl rfl (by decide +kernel) ⟨Nat.le_of_ble_eq_true rfl, Nat.le_of_ble_eq_true rfl⟩) 46 gp_46 rfl rfl rfl (Nat.le_of_ble_eq_true rfl) dX4_copy_22 ⟨by decide, by decide⟩ (fun r w1 h1 => ?_)
    obtain ⟨v4, ev4⟩ : ∃ z : gV, z = vrf v (if (pin a1 0 15) = 0 then 1 else if (pin a2 0 15) = 0 then 1 else 0) 0 0 := ⟨_, rfl⟩
    rw [← ev4] at h1
    obtain ⟨rfl, rfl⟩ := h1
    refine mW.eq (st' := [.int (prf (if (pin a1 0 15) = 0 then 1 else if (pin a2 0 15) = 0 then 1 else 0) 0 0)]) rfl rfl rfl rfl ?_
    have h := h v4 ev4
    refine m_if_ne (tgt := 33) C dX4_copy_25 (by decide) (fun c5 => ?_) (fun c5 => ?_)
    · have h := h.2 c5
      exact m_vret C dX4_copy_33 (Nat.le_of_ble_eq_true rfl) (Nat.le_of_ble_eq_true rfl) ⟨_, rfl, h, rfl⟩
    · have h := h.1 c5
      refine m_iload_n C dX4_copy_28 rfl 1 rfl ?_
      refine m_iload_n C dX4_copy_29 rfl 2 rfl ?_
      refine m_icmp_ne (tgt := 34) C dX4_copy_30 (by decide) (fun c6 => ?_) (fun c6 => ?_)
      · have h := h.2 c6
        refine m_aload_n C dX4_copy_34 rfl 0 rfl ?_
        refine m_aload_n C dX4_copy_35 rfl 0 rfl ?_
        refine m_get (T := TX4) (N := 19) C hiX4_copy_X4 46 gp_46 rfl 12 (by decide) (by decide +kernel) rfl dX4_copy_36 ?_
        refine m_iload_n C dX4_copy_39 rfl 1 rfl ?_
        obtain ⟨b7, h⟩ := h
        refine m_iald C 52 (gp_I (by decide)) b7 dX4_copy_40 ?_
        obtain ⟨v8, ev8⟩ : ∃ z : gV, z = va_up v4 46 (upd (v4 46) 6 (v4 52 a1.toNatClampNeg)) := ⟨_, rfl⟩
        have h := h v8 ev8
        refine m_put (w' := gW cy ad ln v8 ou) (T := TX4) (N := 19) C hiX4_copy_X4 tyX4 tyX4_ok nmX4 46 gp_46 rfl 6 (by decide) (by decide +kernel) rfl rfl rfl (Nat.le_of_ble_eq_true rfl) dX4_copy_41 (by rw [ev8]; exact gW_set (k := 46) (by decide) rfl) ?_
        refine m_aload_n C dX4_copy_44 rfl 0 rfl ?_
        refine m_aload_n C dX4_copy_45 rfl 0 rfl ?_
        refine m_get (T := TX4) (N := 19) C hiX4_copy_X4 46 gp_46 rfl 14 (by decide) (by decide +kernel) rfl dX4_copy_46 ?_
        refine m_iload_n C dX4_copy_49 rfl 1 rfl ?_
        obtain ⟨b9, h⟩ := h
        refine m_iald C 54 (gp_I (by decide)) b9 dX4_copy_50 ?_
        obtain ⟨v10, ev10⟩ : ∃ z : gV, z = va_up v8 46 (upd (v8 46) 8 (v8 54 a1.toNatClampNeg)) := ⟨_, rfl⟩
        have h := h v10 ev10
        refine m_put (w' := gW cy ad ln v10 ou) (T := TX4) (N := 19) C hiX4_copy_X4 tyX4 tyX4_ok nmX4 46 gp_46 rfl 8 (by decide) (by decide +kernel) rfl rfl rfl (Nat.le_of_ble_eq_true rfl) dX4_copy_51 (by rw [ev10]; exact gW_set (k := 46) (by decide) rfl) ?_
        refine m_iconst (v := 0) C dX4_copy_54 (by decide) ?_
        refine m_istore_n (lv' := [(3, .int 0), (0, .ref (ad 46)), (1, .int a1), (2, .int a2)]) C dX4_copy_55 rfl (by decide) rfl ?_
        obtain ⟨I56, ⟨n0, h0⟩, hI⟩ := h
        refine mW.sub (lv' := [(0, .ref (ad 46)), (1, .int a1), (2, .int a2), (3, .int 0)]) [1, 2, 3, 0] rfl ?_
        refine m_ind (σ := Int32 × gV) (fun n z => I56 n z.1 z.2) (fun z => gW cy ad ln z.2 ou) 56 (fun z => [(0, .ref (ad 46)), (1, .int a1), (2, .int a2), (3, .int z.1)]) ?_ n0 (0, v10) h0
        intro n z hi ih
        obtain ⟨x11, v12⟩ := z
        have h := hI n x11 v12 hi
        show mW _ _ _ _ _ _ _ _ _ _ _ _ _ _ _ _ (gW cy ad ln v12 ou) 56 [(0, .ref (ad 46)), (1, .int a1), (2, .int a2), (3, .int x11)] []
        refine m_iload_n C dX4_copy_56 rfl 3 rfl ?_
        refine m_aload_n C dX4_copy_57 rfl 0 rfl ?_
        refine m_get (T := TX4) (N := 19) C hiX4_copy_X4 46 gp_46 rfl 6 (by decide) (by decide +kernel) rfl dX4_copy_58 ?_
        refine m_icmp_ge (tgt := 88) C dX4_copy_61 (by decide) (fun c13 => ?_) (fun c13 => ?_)
        · have h := h.1 c13
          refine m_iconst (v := 0) C dX4_copy_88 (by decide) ?_
          refine m_istore_n (lv' := [(3, .int 0), (0, .ref (ad 46)), (1, .int a1), (2, .int a2)]) C dX4_copy_89 rfl (by decide) rfl ?_
          obtain ⟨I90, ⟨n0, h0⟩, hI⟩ := h
          refine mW.sub (lv' := [(0, .ref (ad 46)), (1, .int a1), (2, .int a2), (3, .int 0)]) [1, 2, 3, 0] rfl ?_
          refine m_ind (σ := Int32 × gV) (fun n z => I90 n z.1 z.2) (fun z => gW cy ad ln z.2 ou) 90 (fun z => [(0, .ref (ad 46)), (1, .int a1), (2, .int a2), (3, .int z.1)]) ?_ n0 (0, v12) h0
          intro n z hi ih
          obtain ⟨x14, v15⟩ := z
          have h := hI n x14 v15 hi
          show mW _ _ _ _ _ _ _ _ _ _ _ _ _ _ _ _ (gW cy ad ln v15 ou) 90 [(0, .ref (ad 46)), (1, .int a1), (2, .int a2), (3, .int x14)] []
          refine m_iload_n C dX4_copy_90 rfl 3 rfl ?_
          refine m_aload_n C dX4_copy_91 rfl 0 rfl ?_
          refine m_get (T := TX4) (N := 19) C hiX4_copy_X4 46 gp_46 rfl 8 (by decide) (by decide +kernel) rfl dX4_copy_92 ?_
          refine m_icmp_ge (tgt := 122) C dX4_copy_95 (by decide) (fun c16 => ?_) (fun c16 => ?_)
          · have h := h.1 c16
            refine m_aload_n C dX4_copy_122 rfl 0 rfl ?_
            refine m_iload_n C dX4_copy_123 rfl 2 rfl ?_
            refine m_callV C (s_X4_take l D cy ad ln v15 ou a2  h) (cwV 1 C.2.2.2.2.1 gX4_copy_X4_take rfl rfl rfl (by decide +kernel) ⟨Nat.le_of_ble_eq_true rfl, Nat.le_of_ble_eq_true rfl⟩) 46 gp_46 rfl rfl rfl (Nat.le_of_ble_eq_true rfl) dX4_copy_124 ⟨by decide, by decide⟩ (fun r w1 h1 => ?_)
            obtain ⟨v18, rfl, h, rfl⟩ := h1
            refine mW.eq (st' := []) rfl rfl rfl rfl ?_
            exact m_vret C dX4_copy_127 (Nat.le_of_ble_eq_true rfl) (Nat.le_of_ble_eq_true rfl) ⟨_, rfl, h, rfl⟩
          · have h := h.2 c16
            refine m_aload_n C dX4_copy_98 rfl 0 rfl ?_
            refine m_get (T := TX4) (N := 19) C hiX4_copy_X4 46 gp_46 rfl 10 (by decide) (by decide +kernel) rfl dX4_copy_99 ?_
            refine m_iload_n C dX4_copy_102 rfl 3 rfl ?_
            refine m_aload_n C dX4_copy_103 rfl 0 rfl ?_
            refine m_get (T := TX4) (N := 19) C hiX4_copy_X4 46 gp_46 rfl 15 (by decide) (by decide +kernel) rfl dX4_copy_104 ?_
            refine m_sipush (v := 1500) C dX4_copy_107 (by decide) ?_
            refine m_iload_n C dX4_copy_110 rfl 1 rfl ?_
            refine m_imul C dX4_copy_111 ?_
            refine m_iload_n C dX4_copy_112 rfl 3 rfl ?_
            refine m_iadd C dX4_copy_113 ?_
            obtain ⟨b19, h⟩ := h
            refine m_iald C 55 (gp_I (by decide)) b19 dX4_copy_114 ?_
            obtain ⟨b20, h⟩ := h
            obtain ⟨v21, ev21⟩ : ∃ z : gV, z = va_up v15 50 (upd (v15 50) x14.toNatClampNeg (v15 55 ((1500 * a1) + x14).toNatClampNeg)) := ⟨_, rfl⟩
            have h := h v21 ev21
            refine m_iast (w' := gW cy ad ln v21 ou) C 50 (gp_I (by decide)) b20 dX4_copy_115 (by rw [ev21]; exact gs_I (by decide)) ?_
            refine m_iinc (lv' := [(3, .int (x14 + 1)), (0, .ref (ad 46)), (1, .int a1), (2, .int a2)]) C dX4_copy_116 (k := 3) rfl rfl (by decide) rfl ?_
            refine m_goto (tgt := 90) C dX4_copy_119 (by decide) ?_
            obtain ⟨n22, hn, h⟩ := h
            exact mW.sub [1, 2, 3, 0] rfl (ih n22 ((x14 + 1), v21) hn h)
        · have h := h.2 c13
          refine m_aload_n C dX4_copy_64 rfl 0 rfl ?_
          refine m_get (T := TX4) (N := 19) C hiX4_copy_X4 46 gp_46 rfl 7 (by decide) (by decide +kernel) rfl dX4_copy_65 ?_
          refine m_iload_n C dX4_copy_68 rfl 3 rfl ?_
          refine m_aload_n C dX4_copy_69 rfl 0 rfl ?_
          refine m_get (T := TX4) (N := 19) C hiX4_copy_X4 46 gp_46 rfl 13 (by decide) (by decide +kernel) rfl dX4_copy_70 ?_
          refine m_sipush (v := 1500) C dX4_copy_73 (by decide) ?_
          refine m_iload_n C dX4_copy_76 rfl 1 rfl ?_
          refine m_imul C dX4_copy_77 ?_
          refine m_iload_n C dX4_copy_78 rfl 3 rfl ?_
          refine m_iadd C dX4_copy_79 ?_
          obtain ⟨b23, h⟩ := h
          refine m_iald C 53 (gp_I (by decide)) b23 dX4_copy_80 ?_
          obtain ⟨b24, h⟩ := h
          obtain ⟨v25, ev25⟩ : ∃ z : gV, z = va_up v12 48 (upd (v12 48) x11.toNatClampNeg (v12 53 ((1500 * a1) + x11).toNatClampNeg)) := ⟨_, rfl⟩
          have h := h v25 ev25
          refine m_iast (w' := gW cy ad ln v25 ou) C 48 (gp_I (by decide)) b24 dX4_copy_81 (by rw [ev25]; exact gs_I (by decide)) ?_
          refine m_iinc (lv' := [(3, .int (x11 + 1)), (0, .ref (ad 46)), (1, .int a1), (2, .int a2)]) C dX4_copy_82 (k := 3) rfl rfl (by decide) rfl ?_
          refine m_goto (tgt := 56) C dX4_copy_85 (by decide) ?_
          obtain ⟨n26, hn, h⟩ := h
          exact mW.sub [1, 2, 3, 0] rfl (ih n26 ((x11 + 1), v25) hn h)
      · have h := h.1 c6
        exact m_vret C dX4_copy_33 (Nat.le_of_ble_eq_true rfl) (Nat.le_of_ble_eq_true rfl) ⟨_, rfl, h, rfl⟩
  · refine m_if_eq (tgt := 15) C dX4_copy_5 (by decide) (fun c1 => ?_) (fun c1 => ?_)
    · refine m_iconst (v := 1) C dX4_copy_15 (by decide) ?_
      refine m_goto (tgt := 20) C dX4_copy_16 (by decide) ?_
      refine mW.sub (lv' := [(0, .ref (ad 46)), (1, .int a1), (2, .int a2)]) [0, 1, 2] rfl ?_
      exact mW.eq rfl rfl (by simp only [if_pos c1]) rfl hJ20_3
    · refine m_iload_n C dX4_copy_8 rfl 2 rfl ?_
      refine m_callS C (p_X4_isFile l D cy ad ln v ou a2) (va_cwS 1 C.2.2.2.2.1 gX4_copy_X4_isFile rfl rfl rfl (by decide +kernel) ⟨Nat.le_of_ble_eq_true rfl, Nat.le_of_ble_eq_true rfl⟩) rfl rfl (Nat.le_of_ble_eq_true rfl) dX4_copy_9 ⟨by decide, by decide⟩ (fun r w1 h1 => ?_)
      obtain ⟨rfl, rfl⟩ := h1
      refine mW.eq (st' := [.int (pin a2 0 15), .ref (ad 46)]) rfl rfl rfl rfl ?_
      refine m_if_ne (tgt := 19) C dX4_copy_12 (by decide) (fun c2 => ?_) (fun c2 => ?_)
      · refine m_iconst (v := 0) C dX4_copy_19 (by decide) ?_
        refine mW.sub (lv' := [(0, .ref (ad 46)), (1, .int a1), (2, .int a2)]) [0, 1, 2] rfl ?_
        exact mW.eq rfl rfl (by simp only [if_neg c1, if_neg c2]) rfl hJ20_3
      · refine m_iconst (v := 1) C dX4_copy_15 (by decide) ?_
        refine m_goto (tgt := 20) C dX4_copy_16 (by decide) ?_
        refine mW.sub (lv' := [(0, .ref (ad 46)), (1, .int a1), (2, .int a2)]) [0, 1, 2] rfl ?_
        exact mW.eq rfl rfl (by simp only [if_neg c1, if_pos c2]) rfl hJ20_3
