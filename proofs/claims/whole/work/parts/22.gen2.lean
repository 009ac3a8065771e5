def wp_X4_isFile (ln : Nat → Nat) (v : gV) (a1 : Int32) (post : Int32 → gV → Prop) : Prop :=
  narrow .boolean (.int (pin a1 0 15)) = .int (pin a1 0 15) ∧ post (pin a1 0 15) v
set_option maxHeartbeats 4000000 in
set_option maxRecDepth 100000 in
theorem s_X4_isFile (l : Launch) (D : va_G) (cy : Nat → ClassId) (ad ln : Nat → Nat) (v : gV) (ou : Nat → Int64) (a1 : Int32) {post : Int32 → gV → Prop} (h : wp_X4_isFile ln v a1 post) : mM l D cy yX4_isFile wsX4_isFile 2 0 0 [.int a1] (gW cy ad ln v ou) (fun r w1 => ∃ (x1 : Int32) (v1 : gV), r = some (.int x1) ∧ post x1 v1 ∧ w1 = gW cy ad ln v1 ou) := by
  unfold wp_X4_isFile at h
  refine mM.of (cc := cX4_isFile) (nL := 1) (ret0 := (some .boolean)) (by decide +kernel) rfl (Nat.le_of_ble_eq_true rfl) ?_
  intro p e s m args below meth c A C hini
  refine mW.sub (lv' := [(0, .int a1)]) [0] rfl ?_
  refine m_iload_n C dX4_isFile_0 rfl 0 rfl ?_
  refine m_iconst (v := 0) C dX4_isFile_1 (by decide) ?_
  refine m_bipush (v := 15) C dX4_isFile_2 (by decide) ?_
  refine m_callS C (p_X4_in l D cy ad ln v ou a1 0 15) (va_cwS 3 C.2.2.2.2.1 gX4_isFile_X4_in rfl rfl rfl (by decide +kernel) ⟨Nat.le_of_ble_eq_true rfl, Nat.le_of_ble_eq_true rfl⟩) rfl rfl (Nat.le_of_ble_eq_true rfl) dX4_isFile_4 ⟨by decide, by decide⟩ (fun r w1 h1 => ?_)
  obtain ⟨rfl, rfl⟩ := h1
  refine mW.eq (st' := [.int (pin a1 0 15)]) rfl rfl rfl rfl ?_
  obtain ⟨hz, h⟩ := h
  exact m_zret C dX4_isFile_7 (Nat.le_of_ble_eq_true rfl) (Nat.le_of_ble_eq_true rfl) hz ⟨_, _, rfl, h, rfl⟩
theorem hiX2_usesOf_X2 : ∀ w ∈ wsX20, w ∈ wsX2_usesOf := by decide +kernel
def wp_X2_usesOf (ln : Nat → Nat) (v : gV) (a1 : Int32) (post : Int32 → gV → Prop) : Prop :=
  ln 8 = 400 ∧ (((¬ ((phs v a1) = 0)) → vp_in a1 (ln 8)) ∧ (post (if (phs v a1) = 0 then 0 else v 8 a1.toNatClampNeg) v))
set_option maxHeartbeats 4000000 in
set_option maxRecDepth 100000 in
theorem s_X2_usesOf (l : Launch) (D : va_G) (cy : Nat → ClassId) (ad ln : Nat → Nat) (v : gV) (ou : Nat → Int64) (a1 : Int32) {post : Int32 → gV → Prop} (h : wp_X2_usesOf ln v a1 post) : mM l D cy yX2_usesOf wsX2_usesOf 2 0 0 [.ref (ad 2), .int a1] (gW cy ad ln v ou) (fun r w1 => ∃ (x1 : Int32) (v1 : gV), r = some (.int x1) ∧ post x1 v1 ∧ w1 = gW cy ad ln v1 ou) := by
  unfold wp_X2_usesOf at h
  refine mM.of (cc := cX2_usesOf) (nL := 2) (ret0 := (some .int)) (by decide +kernel) rfl (Nat.le_of_ble_eq_true rfl) ?_
  intro p e s m args below meth c A C hini
  refine mW.sub (lv' := [(0, .ref (ad 2)), (1, .int a1)]) [0, 1] rfl ?_
  refine m_aload_n C dX2_usesOf_0 rfl 0 rfl ?_
  refine m_iload_n C dX2_usesOf_1 rfl 1 rfl ?_
  obtain ⟨b1, h⟩ := h
  refine m_callV C (p_X2_has l D cy ad ln v ou a1 b1) (cwV 1 C.2.2.2.2.1 gX2_usesOf_X2_has rfl rfl rfl (by decide +kernel) ⟨Nat.le_of_ble_eq_true rfl, Nat.le_of_ble_eq_true rfl⟩) 2 gp_2 rfl rfl rfl (Nat.le_of_ble_eq_true rfl) dX2_usesOf_2 ⟨by decide, by decide⟩ (fun r w1 h1 => ?_)
  obtain ⟨rfl, rfl⟩ := h1
  refine mW.eq (st' := [.int (phs v a1)]) rfl rfl rfl rfl ?_
  obtain ⟨b3, h⟩ := h
  refine m_join (P := 18) (wM := gW cy ad ln v ou) (lvM := [(0, .ref (ad 2)), (1, .int a1)]) (stM := [.int (if (phs v a1) = 0 then 0 else v 8 a1.toNatClampNeg)]) ?_ (fun hJ18_4 => ?_)
  · exact m_iret C dX2_usesOf_18 (Nat.le_of_ble_eq_true rfl) (Nat.le_of_ble_eq_true rfl) ⟨_, _, rfl, h, rfl⟩
  · refine m_if_eq (tgt := 17) C dX2_usesOf_5 (by decide) (fun c2 => ?_) (fun c2 => ?_)
    · refine m_iconst (v := 0) C dX2_usesOf_17 (by decide) ?_
      refine mW.sub (lv' := [(0, .ref (ad 2)), (1, .int a1)]) [0, 1] rfl ?_
      exact mW.eq rfl rfl (by simp only [if_pos c2]) rfl hJ18_4
    · refine m_aload_n C dX2_usesOf_8 rfl 0 rfl ?_
      refine m_get (T := TX2) (N := 9) C hiX2_usesOf_X2 2 gp_2 rfl 0 (by decide) (by decide +kernel) rfl dX2_usesOf_9 ?_
      refine m_iload_n C dX2_usesOf_12 rfl 1 rfl ?_
      refine m_iald C 8 (gp_I (by decide)) (b3 c2) dX2_usesOf_13 ?_
      refine m_goto (tgt := 18) C dX2_usesOf_14 (by decide) ?_
      refine mW.sub (lv' := [(0, .ref (ad 2)), (1, .int a1)]) [0, 1] rfl ?_
      exact mW.eq rfl rfl (by simp only [if_neg c2]) rfl hJ18_4
theorem hiX2_lengthOf_X2 : ∀ w ∈ wsX20, w ∈ wsX2_lengthOf := by decide +kernel
def wp_X2_lengthOf (ln : Nat → Nat) (v : gV) (a1 : Int32) (post : Int32 → gV → Prop) : Prop :=
  ln 8 = 400 ∧ (((¬ ((phs v a1) = 0)) → vp_in a1 (ln 9)) ∧ (post (if (phs v a1) = 0 then 0 else v 9 a1.toNatClampNeg) v))
set_option maxHeartbeats 4000000 in
set_option maxRecDepth 100000 in
theorem s_X2_lengthOf (l : Launch) (D : va_G) (cy : Nat → ClassId) (ad ln : Nat → Nat) (v : gV) (ou : Nat → Int64) (a1 : Int32) {post : Int32 → gV → Prop} (h : wp_X2_lengthOf ln v a1 post) : mM l D cy yX2_lengthOf wsX2_lengthOf 2 0 0 [.ref (ad 2), .int a1] (gW cy ad ln v ou) (fun r w1 => ∃ (x1 : Int32) (v1 : gV), r = some (.int x1) ∧ post x1 v1 ∧ w1 = gW cy ad ln v1 ou) := by
  unfold wp_X2_lengthOf at h
  refine mM.of (cc := cX2_lengthOf) (nL := 2) (ret0 := (some .int)) (by decide +kernel) rfl (Nat.le_of_ble_eq_true rfl) ?_
  intro p e s m args below meth c A C hini
  refine mW.sub (lv' := [(0, .ref (ad 2)), (1, .int a1)]) [0, 1] rfl ?_
  refine m_aload_n C dX2_lengthOf_0 rfl 0 rfl ?_
  refine m_iload_n C dX2_lengthOf_1 rfl 1 rfl ?_
  obtain ⟨b1, h⟩ := h
  refine m_callV C (p_X2_has l D cy ad ln v ou a1 b1) (cwV 1 C.2.2.2.2.1 gX2_lengthOf_X2_has rfl rfl rfl (by decide +kernel) ⟨Nat.le_of_ble_eq_true rfl, Nat.le_of_ble_eq_true rfl⟩) 2 gp_2 rfl rfl rfl (Nat.le_of_ble_eq_true rfl) dX2_lengthOf_2 ⟨by decide, by decide⟩ (fun r w1 h1 => ?_)
  obtain ⟨rfl, rfl⟩ := h1
  refine mW.eq (st' := [.int (phs v a1)]) rfl rfl rfl rfl ?_
  obtain ⟨b3, h⟩ := h
  refine m_join (P := 18) (wM := gW cy ad ln v ou) (lvM := [(0, .ref (ad 2)), (1, .int a1)]) (stM := [.int (if (phs v a1) = 0 then 0 else v 9 a1.toNatClampNeg)]) ?_ (fun hJ18_4 => ?_)
  · exact m_iret C dX2_lengthOf_18 (Nat.le_of_ble_eq_true rfl) (Nat.le_of_ble_eq_true rfl) ⟨_, _, rfl, h, rfl⟩
  · refine m_if_eq (tgt := 17) C dX2_lengthOf_5 (by decide) (fun c2 => ?_) (fun c2 => ?_)
    · refine m_iconst (v := 0) C dX2_lengthOf_17 (by decide) ?_
      refine mW.sub (lv' := [(0, .ref (ad 2)), (1, .int a1)]) [0, 1] rfl ?_
      exact mW.eq rfl rfl (by simp only [if_pos c2]) rfl hJ18_4
    · refine m_aload_n C dX2_lengthOf_8 rfl 0 rfl ?_
      refine m_get (T := TX2) (N := 9) C hiX2_lengthOf_X2 2 gp_2 rfl 1 (by decide) (by decide +kernel) rfl dX2_lengthOf_9 ?_
      refine m_iload_n C dX2_lengthOf_12 rfl 1 rfl ?_
      refine m_iald C 9 (gp_I (by decide)) (b3 c2) dX2_lengthOf_13 ?_
      refine m_goto (tgt := 18) C dX2_lengthOf_14 (by decide) ?_
      refine mW.sub (lv' := [(0, .ref (ad 2)), (1, .int a1)]) [0, 1] rfl ?_
      exact mW.eq rfl rfl (by simp only [if_neg c2]) rfl hJ18_4
def wp_X2_hashOf (ln : Nat → Nat) (v : gV) (r1 : Nat) (a2 : Int32) (a3 : Int32) (post : Int32 → gV → Prop) : Prop :=
  ∃ I5 : Nat → Int32 → Int32 → Prop, (∃ n, I5 n 0 a2) ∧ ∀ (n : Nat) (x1 : Int32) (x2 : Int32), I5 n x1 x2 → (((a3 ≤ x2) → (post (x1 ^^^ (ius x1 9)) v)) ∧ (¬ (a3 ≤ x2) → (vp_in x2 (ln r1) ∧ (∀ x5 : Int32, x5 = ((x1 * 31) + (v r1 x2.toNatClampNeg)) → (∃ n', n' < n ∧ I5 n' x5 (x2 + 1))))))
set_option maxHeartbeats 4000000 in
set_option maxRecDepth 100000 in
theorem s_X2_hashOf (l : Launch) (D : va_G) (cy : Nat → ClassId) (ad ln : Nat → Nat) (v : gV) (ou : Nat → Int64) (r1 : Nat) (a2 : Int32) (a3 : Int32) (hr1 : gBs r1 = true) {post : Int32 → gV → Prop} (h : wp_X2_hashOf ln v r1 a2 a3 post) : mM l D cy yX2_hashOf wsX2_hashOf 1 0 0 [.ref (ad r1), .int a2, .int a3] (gW cy ad ln v ou) (fun r w1 => ∃ (x1 : Int32) (v1 : gV), r = some (.int x1) ∧ post x1 v1 ∧ w1 = gW cy ad ln v1 ou) := by
  unfold wp_X2_hashOf at h
  refine mM.of (cc := cX2_hashOf) (nL := 5) (ret0 := (some .int)) (by decide +kernel) rfl (Nat.le_of_ble_eq_true rfl) ?_
  intro p e s m args below meth c A C hini
  refine mW.sub (lv' := [(0, .ref (ad r1)), (1, .int a2), (2, .int a3)]) [0, 1, 2] rfl ?_
  refine m_iconst (v := 0) C dX2_hashOf_0 (by decide) ?_
  refine m_istore_n (lv' := [(3, .int 0), (0, .ref (ad r1)), (1, .int a2), (2, .int a3)]) C dX2_hashOf_1 rfl (by decide) rfl ?_
  refine m_iload_n C dX2_hashOf_2 rfl 2 rfl ?_
  refine m_istore (lv' := [(4, .int a2), (3, .int 0), (0, .ref (ad r1)), (1, .int a2), (2, .int a3)]) C dX2_hashOf_3 (by decide) rfl ?_
  obtain ⟨I5, ⟨n0, h0⟩, hI⟩ := h
  refine mW.sub (lv' := [(0, .ref (ad r1)), (1, .int a2), (2, .int a3), (3, .int 0), (4, .int a2)]) [2, 3, 4, 1, 0] rfl ?_
  refine m_ind (σ := Int32 × Int32) (fun n z => I5 n z.1 z.2) (fun z => gW cy ad ln v ou) 5 (fun z => [(0, .ref (ad r1)), (1, .int a2), (2, .int a3), (3, .int z.1), (4, .int z.2)]) ?_ n0 (0, a2) h0
  intro n z hi ih
  obtain ⟨x1, x2⟩ := z
  have h := hI n x1 x2 hi
  show mW _ _ _ _ _ _ _ _ _ _ _ _ _ _ _ _ (gW cy ad ln v ou) 5 [(0, .ref (ad r1)), (1, .int a2), (2, .int a3), (3, .int x1), (4, .int x2)] []
  refine m_iload C dX2_hashOf_5 4 rfl ?_
  refine m_iload_n C dX2_hashOf_7 rfl 2 rfl ?_
  refine m_icmp_ge (tgt := 27) C dX2_hashOf_8 (by decide) (fun c3 => ?_) (fun c3 => ?_)
  · have h := h.1 c3
    refine m_iload_n C dX2_hashOf_27 rfl 3 rfl ?_
    refine m_iload_n C dX2_hashOf_28 rfl 3 rfl ?_
    refine m_bipush (v := 9) C dX2_hashOf_29 (by decide) ?_
    refine m_iushr (v := ius x1 9) C dX2_hashOf_31 rfl ?_
    refine m_ixor C dX2_hashOf_32 ?_
    exact m_iret C dX2_hashOf_33 (Nat.le_of_ble_eq_true rfl) (Nat.le_of_ble_eq_true rfl) ⟨_, _, rfl, h, rfl⟩
  · have h := h.2 c3
    refine m_iload_n C dX2_hashOf_11 rfl 3 rfl ?_
    refine m_bipush (v := 31) C dX2_hashOf_12 (by decide) ?_
    refine m_imul C dX2_hashOf_14 ?_
    refine m_aload_n C dX2_hashOf_15 rfl 0 rfl ?_
    refine m_iload C dX2_hashOf_16 4 rfl ?_
    obtain ⟨b4, h⟩ := h
    refine m_bald C r1 (gp_B hr1) b4 dX2_hashOf_18 ?_
    refine m_iadd C dX2_hashOf_19 ?_
    refine m_topi (fun x5 ex5 => ?_)
    have h := h x5 ex5
    refine m_istore_n (lv' := [(3, .int x5), (0, .ref (ad r1)), (1, .int a2), (2, .int a3), (4, .int x2)]) C dX2_hashOf_20 rfl (by decide) rfl ?_
    refine m_iinc (lv' := [(4, .int (x2 + 1)), (3, .int x5), (0, .ref (ad r1)), (1, .int a2), (2, .int a3)]) C dX2_hashOf_21 (k := 4) rfl rfl (by decide) rfl ?_
    refine m_goto (tgt := 5) C dX2_hashOf_24 (by decide) ?_
    obtain ⟨n6, hn, h⟩ := h
    exact mW.sub [2, 3, 4, 1, 0] rfl (ih n6 (x5, (x2 + 1)) hn h)
theorem hiX2_sameBytes_X2 : ∀ w ∈ wsX20, w ∈ wsX2_sameBytes := by decide +kernel
def wp_X2_sameBytes (ln : Nat → Nat) (v : gV) (a1 : Int32) (r2 : Nat) (a3 : Int32) (post : Int32 → gV → Prop) : Prop :=
  ∃ I9 : Nat → Int32 → Prop, (∃ n, I9 n 0) ∧ ∀ (n : Nat) (x1 : Int32), I9 n x1 → (vp_in a1 (ln 9) ∧ ((((v 9 a1.toNatClampNeg) ≤ x1) → (narrow .boolean (.int 1) = .int 1 ∧ post 1 v)) ∧ (¬ ((v 9 a1.toNatClampNeg) ≤ x1) → (vp_in ((a1 * 64) + x1) (ln 13) ∧ (vp_in (a3 + x1) (ln r2) ∧ ((((v 13 ((a1 * 64) + x1).toNatClampNeg) = (v r2 (a3 + x1).toNatClampNeg)) → (∃ n', n' < n ∧ I9 n' (x1 + 1))) ∧ (¬ ((v 13 ((a1 * 64) + x1).toNatClampNeg) = (v r2 (a3 + x1).toNatClampNeg)) → (narrow .boolean (.int 0) = .int 0 ∧ post 0 v))))))))
set_option maxHeartbeats 4000000 in
set_option maxRecDepth 100000 in
theorem s_X2_sameBytes (l : Launch) (D : va_G) (cy : Nat → ClassId) (ad ln : Nat → Nat) (v : gV) (ou : Nat → Int64) (a1 : Int32) (r2 : Nat) (a3 : Int32) (hr2 : gBs r2 = true) {post : Int32 → gV → Prop} (h : wp_X2_sameBytes ln v a1 r2 a3 post) : mM l D cy yX2_sameBytes wsX2_sameBytes 1 0 0 [.ref (ad 2), .int a1, .ref (ad r2), .int a3] (gW cy ad ln v ou) (fun r w1 => ∃ (x1 : Int32) (v1 : gV), r = some (.int x1) ∧ post x1 v1 ∧ w1 = gW cy ad ln v1 ou) := by
  unfold wp_X2_sameBytes at h
  refine mM.of (cc := cX2_sameBytes) (nL := 6) (ret0 := (some .boolean)) (by decide +kernel) rfl (Nat.le_of_ble_eq_true rfl) ?_
  intro p e s m args below meth c A C hini
  refine mW.sub (lv' := [(0, .ref (ad 2)), (1, .int a1), (2, .ref (ad r2)), (3, .int a3)]) [0, 1, 2, 3] rfl ?_
  refine m_iload_n C dX2_sameBytes_0 rfl 1 rfl ?_
  refine m_bipush (v := 64) C dX2_sameBytes_1 (by decide) ?_
  refine m_imul C dX2_sameBytes_3 ?_
  refine m_istore (lv' := [(4, .int (a1 * 64)), (0, .ref (ad 2)), (1, .int a1), (2, .ref (ad r2)), (3, .int a3)]) C dX2_sameBytes_4 (by decide) rfl ?_
  refine m_iconst (v := 0) C dX2_sameBytes_6 (by decide) ?_
  refine m_istore (lv' := [(5, .int 0), (4, .int (a1 * 64)), (0, .ref (ad 2)), (1, .int a1), (2, .ref (ad r2)), (3, .int a3)]) C dX2_sameBytes_7 (by decide) rfl ?_
  obtain ⟨I9, ⟨n0, h0⟩, hI⟩ := h
  refine mW.sub (lv' := [(0, .ref (ad 2)), (1, .int a1), (2, .ref (ad r2)), (3, .int a3), (4, .int (a1 * 64)), (5, .int 0)]) [2, 3, 4, 5, 1, 0] rfl ?_
  refine m_ind (σ := Int32) (fun n z => I9 n z) (fun z => gW cy ad ln v ou) 9 (fun z => [(0, .ref (ad 2)), (1, .int a1), (2, .ref (ad r2)), (3, .int a3), (4, .int (a1 * 64)), (5, .int z)]) ?_ n0 (0) h0
  intro n x1 hi ih
  have h := hI n x1 hi
  show mW _ _ _ _ _ _ _ _ _ _ _ _ _ _ _ _ (gW cy ad ln v ou) 9 [(0, .ref (ad 2)), (1, .int a1), (2, .ref (ad r2)), (3, .int a3), (4, .int (a1 * 64)), (5, .int x1)] []
  refine m_iload C dX2_sameBytes_9 5 rfl ?_
  refine m_aload_n C dX2_sameBytes_11 rfl 0 rfl ?_
  refine m_get (T := TX2) (N := 9) C hiX2_sameBytes_X2 2 gp_2 rfl 1 (by decide) (by decide +kernel) rfl dX2_sameBytes_12 ?_
  refine m_iload_n C dX2_sameBytes_15 rfl 1 rfl ?_
  obtain ⟨b2, h⟩ := h
  refine m_iald C 9 (gp_I (by decide)) b2 dX2_sameBytes_16 ?_
  refine m_icmp_ge (tgt := 47) C dX2_sameBytes_17 (by decide) (fun c3 => ?_) (fun c3 => ?_)
  · have h := h.1 c3
    refine m_iconst (v := 1) C dX2_sameBytes_47 (by decide) ?_
    obtain ⟨hz, h⟩ := h
    exact m_zret C dX2_sameBytes_48 (Nat.le_of_ble_eq_true rfl) (Nat.le_of_ble_eq_true rfl) hz ⟨_, _, rfl, h, rfl⟩
  · have h := h.2 c3
    refine m_aload_n C dX2_sameBytes_20 rfl 0 rfl ?_
    refine m_get (T := TX2) (N := 9) C hiX2_sameBytes_X2 2 gp_2 rfl 5 (by decide) (by decide +kernel) rfl dX2_sameBytes_21 ?_
    refine m_iload C dX2_sameBytes_24 4 rfl ?_
    refine m_iload C dX2_sameBytes_26 5 rfl ?_
    refine m_iadd C dX2_sameBytes_28 ?_
    obtain ⟨b4, h⟩ := h
    refine m_bald C 13 (gp_B (by decide)) b4 dX2_sameBytes_29 ?_
    refine m_aload_n C dX2_sameBytes_30 rfl 2 rfl ?_
    refine m_iload_n C dX2_sameBytes_31 rfl 3 rfl ?_
    refine m_iload C dX2_sameBytes_32 5 rfl ?_
    refine m_iadd C dX2_sameBytes_34 ?_
    obtain ⟨b5, h⟩ := h
    refine m_bald C r2 (gp_B hr2) b5 dX2_sameBytes_35 ?_
    refine m_icmp_eq (tgt := 41) C dX2_sameBytes_36 (by decide) (fun c6 => ?_) (fun c6 => ?_)
    · have h := h.1 c6
      refine m_iinc (lv' := [(5, .int (x1 + 1)), (0, .ref (ad 2)), (1, .int a1), (2, .ref (ad r2)), (3, .int a3), (4, .int (a1 * 64))]) C dX2_sameBytes_41 (k := 5) rfl rfl (by decide) rfl ?_
      refine m_goto (tgt := 9) C dX2_sameBytes_44 (by decide) ?_
      obtain ⟨n7, hn, h⟩ := h
      exact mW.sub [1, 2, 3, 4, 5, 0] rfl (ih n7 ((x1 + 1)) hn h)
    · have h := h.2 c6
      refine m_iconst (v := 0) C dX2_sameBytes_39 (by decide) ?_
      obtain ⟨hz, h⟩ := h
      exact m_zret C dX2_sameBytes_40 (Nat.le_of_ble_eq_true rfl) (Nat.le_of_ble_eq_true rfl) hz ⟨_, _, rfl, h, rfl⟩
theorem hiX2_leastFree_X2 : ∀ w ∈ wsX20, w ∈ wsX2_leastFree := by decide +kernel
def wp_X2_leastFree (ln : Nat → Nat) (v : gV) (post : Int32 → gV → Prop) : Prop :=
  ∃ I0 : Nat → gV → Prop, (∃ n, I0 n v) ∧ ∀ (n : Nat) (v1 : gV), I0 n v1 → (((400 ≤ (v1 2 6)) → ((post (if 400 ≤ (v1 2 6) then (-1) else v1 2 6) v1))) ∧ (¬ (400 ≤ (v1 2 6)) → (vp_in (v1 2 6) (ln 8) ∧ ((((v1 8 (v1 2 6).toNatClampNeg) ≤ 0) → ((post (if 400 ≤ (v1 2 6) then (-1) else v1 2 6) v1))) ∧ (¬ ((v1 8 (v1 2 6).toNatClampNeg) ≤ 0) → (∀ v9 : gV, v9 = va_up v1 2 (upd (v1 2) 6 ((v1 2 6) + 1)) → (∃ n', n' < n ∧ I0 n' v9)))))))
set_option maxHeartbeats 4000000 in
set_option maxRecDepth 100000 in
theorem s_X2_leastFree (l : Launch) (D : va_G) (cy : Nat → ClassId) (ad ln : Nat → Nat) (v : gV) (ou : Nat → Int64) {post : Int32 → gV → Prop} (h : wp_X2_leastFree ln v  post) : mM l D cy yX2_leastFree wsX2_leastFree 1 0 0 [.ref (ad 2)] (gW cy ad ln v ou) (fun r w1 => ∃ (x1 : Int32) (v1 : gV), r = some (.int x1) ∧ post x1 v1 ∧ w1 = gW cy ad ln v1 ou) := by
  unfold wp_X2_leastFree at h
  refine mM.of (cc := cX2_leastFree) (nL := 1) (ret0 := (some .int)) (by decide +kernel) rfl (Nat.le_of_ble_eq_true rfl) ?_
  intro p e s m args below meth c A C hini
  refine mW.sub (lv' := [(0, .ref (ad 2))]) [0] rfl ?_
  obtain ⟨I0, ⟨n0, h0⟩, hI⟩ := h
  refine mW.sub (lv' := [(0, .ref (ad 2))]) [0] rfl ?_
  refine m_ind (σ := gV) (fun n z => I0 n z) (fun z => gW cy ad ln z ou) 0 (fun z => [(0, .ref (ad 2))]) ?_ n0 (v) h0
  intro n v1 hi ih
  have h := hI n v1 hi
  show mW _ _ _ _ _ _ _ _ _ _ _ _ _ _ _ _ (gW cy ad ln v1 ou) 0 [(0, .ref (ad 2))] []
  refine m_aload_n C dX2_leastFree_0 rfl 0 rfl ?_
  refine m_get (T := TX2) (N := 9) C hiX2_leastFree_X2 2 gp_2 rfl 6 (by decide) (by decide +kernel) rfl dX2_leastFree_1 ?_
  refine m_sipush (v := 400) C dX2_leastFree_4 (by decide) ?_
  refine m_icmp_ge (tgt := 35) C dX2_leastFree_7 (by decide) (fun c2 => ?_) (fun c2 => ?_)
  · have h := h.1 c2
    refine m_aload_n C dX2_leastFree_35 rfl 0 rfl ?_
    refine m_get (T := TX2) (N := 9) C hiX2_leastFree_X2 2 gp_2 rfl 6 (by decide) (by decide +kernel) rfl dX2_leastFree_36 ?_
    refine m_sipush (v := 400) C dX2_leastFree_39 (by decide) ?_
    refine m_join (P := 53) (wM := gW cy ad ln v1 ou) (lvM := [(0, .ref (ad 2))]) (stM := [.int (if 400 ≤ (v1 2 6) then (-1) else v1 2 6)]) ?_ (fun hJ53_4 => ?_)
    · exact m_iret C dX2_leastFree_53 (Nat.le_of_ble_eq_true rfl) (Nat.le_of_ble_eq_true rfl) ⟨_, _, rfl, h, rfl⟩
    · refine m_icmp_ge (tgt := 52) C dX2_leastFree_42 (by decide) (fun c3 => ?_) (fun c3 => ?_)
      · refine m_iconst (v := (-1)) C dX2_leastFree_52 (by decide) ?_
        refine mW.sub (lv' := [(0, .ref (ad 2))]) [0] rfl ?_
        exact mW.eq rfl rfl (by simp only [if_pos c3]) rfl hJ53_4
      · refine m_aload_n C dX2_leastFree_45 rfl 0 rfl ?_
        refine m_get (T := TX2) (N := 9) C hiX2_leastFree_X2 2 gp_2 rfl 6 (by decide) (by decide +kernel) rfl dX2_leastFree_46 ?_
        refine m_goto (tgt := 53) C dX2_leastFree_49 (by decide) ?_
        refine mW.sub (lv' := [(0, .ref (ad 2))]) [0] rfl ?_
        exact mW.eq rfl rfl (by simp only [if_neg c3]) rfl hJ53_4
  · have h := h.2 c2
    refine m_aload_n C dX2_leastFree_10 rfl 0 rfl ?_
    refine m_get (T := TX2) (N := 9) C hiX2_leastFree_X2 2 gp_2 rfl 0 (by decide) (by decide +kernel) rfl dX2_leastFree_11 ?_
    refine m_aload_n C dX2_leastFree_14 rfl 0 rfl ?_
    refine m_get (T := TX2) (N := 9) C hiX2_leastFree_X2 2 gp_2 rfl 6 (by decide) (by decide +kernel) rfl dX2_leastFree_15 ?_
    obtain ⟨b5, h⟩ := h
    refine m_iald C 8 (gp_I (by decide)) b5 dX2_leastFree_18 ?_
    refine m_if_le (tgt := 35) C dX2_leastFree_19 (by decide) (fun c6 => ?_) (fun c6 => ?_)
    · have h := h.1 c6
      refine m_aload_n C dX2_leastFree_35 rfl 0 rfl ?_
      refine m_get (T := TX2) (N := 9) C hiX2_leastFree_X2 2 gp_2 rfl 6 (by decide) (by decide +kernel) rfl dX2_leastFree_36 ?_
      refine m_sipush (v := 400) C dX2_leastFree_39 (by decide) ?_
      refine m_join (P := 53) (wM := gW cy ad ln v1 ou) (lvM := [(0, .ref (ad 2))]) (stM := [.int (if 400 ≤ (v1 2 6) then (-1) else v1 2 6)]) ?_ (fun hJ53_8 => ?_)
      · exact m_iret C dX2_leastFree_53 (Nat.le_of_ble_eq_true rfl) (Nat.le_of_ble_eq_true rfl) ⟨_, _, rfl, h, rfl⟩
      · refine m_icmp_ge (tgt := 52) C dX2_leastFree_42 (by decide) (fun c7 => ?_) (fun c7 => ?_)
        · refine m_iconst (v := (-1)) C dX2_leastFree_52 (by decide) ?_
          refine mW.sub (lv' := [(0, .ref (ad 2))]) [0] rfl ?_
          exact mW.eq rfl rfl (by simp only [if_pos c7]) rfl hJ53_8
        · refine m_aload_n C dX2_leastFree_45 rfl 0 rfl ?_
          refine m_get (T := TX2) (N := 9) C hiX2_leastFree_X2 2 gp_2 rfl 6 (by decide) (by decide +kernel) rfl dX2_leastFree_46 ?_
          refine m_goto (tgt := 53) C dX2_leastFree_49 (by decide) ?_
          refine mW.sub (lv' := [(0, .ref (ad 2))]) [0] rfl ?_
          exact mW.eq rfl rfl (by simp only [if_neg c7]) rfl hJ53_8
    · have h := h.2 c6
      refine m_aload_n C dX2_leastFree_22 rfl 0 rfl ?_
      refine m_dup C dX2_leastFree_23 rfl ?_
      refine m_get (T := TX2) (N := 9) C hiX2_leastFree_X2 2 gp_2 rfl 6 (by decide) (by decide +kernel) rfl dX2_leastFree_24 ?_
      refine m_iconst (v := 1) C dX2_leastFree_27 (by decide) ?_
      refine m_iadd C dX2_leastFree_28 ?_
      obtain ⟨v9, ev9⟩ : ∃ z : gV, z = va_up v1 2 (upd (v1 2) 6 ((v1 2 6) + 1)) := ⟨_, rfl⟩
      have h := h v9 ev9
      refine m_put (w' := gW cy ad ln v9 ou) (T := TX2) (N := 9) C hiX2_leastFree_X2 tyX2 tyX2_ok nmX2 2 gp_2 rfl 6 (by decide) (by decide +kernel) rfl rfl rfl (Nat.le_of_ble_eq_true rfl) dX2_leastFree_29 (by rw [ev9]; exact gW_set (k := 2) (by decide) rfl) ?_
      refine m_goto (tgt := 0) C dX2_leastFree_32 (by decide) ?_
      obtain ⟨n10, hn, h⟩ := h
      exact mW.sub [0] rfl (ih n10 (v9) hn h)
theorem hiX2_useAgain_X2 : ∀ w ∈ wsX20, w ∈ wsX2_useAgain := by decide +kernel
def wp_X2_useAgain (ln : Nat → Nat) (v : gV) (a1 : Int32) (post : gV → Prop) : Prop :=
  ln 8 = 400 ∧ ((((phs v a1) = 0) → (post v)) ∧ (¬ ((phs v a1) = 0) → (vp_in a1 (ln 8) ∧ (vp_in a1 (ln 8) ∧ ∀ v5 : gV, v5 = va_up v 8 (upd (v 8) a1.toNatClampNeg ((v 8 a1.toNatClampNeg) + 1)) → (post v5)))))
set_option maxHeartbeats 4000000 in
set_option maxRecDepth 100000 in
theorem s_X2_useAgain (l : Launch) (D : va_G) (cy : Nat → ClassId) (ad ln : Nat → Nat) (v : gV) (ou : Nat → Int64) (a1 : Int32) {post : gV → Prop} (h : wp_X2_useAgain ln v a1 post) : mM l D cy yX2_useAgain wsX2_useAgain 2 0 0 [.ref (ad 2), .int a1] (gW cy ad ln v ou) (fun r w1 => ∃ v1 : gV, r = none ∧ post v1 ∧ w1 = gW cy ad ln v1 ou) := by
  unfold wp_X2_useAgain at h
  refine mM.of (cc := cX2_useAgain) (nL := 2) (ret0 := none) (by decide +kernel) rfl (Nat.le_of_ble_eq_true rfl) ?_
  intro p e s m args below meth c A C hini
  refine mW.sub (lv' := [(0, .ref (ad 2)), (1, .int a1)]) [0, 1] rfl ?_
  refine m_aload_n C dX2_useAgain_0 rfl 0 rfl ?_
  refine m_iload_n C dX2_useAgain_1 rfl 1 rfl ?_
  obtain ⟨b1, h⟩ := h
  refine m_callV C (p_X2_has l D cy ad ln v ou a1 b1) (cwV 1 C.2.2.2.2.1 gX2_useAgain_X2_has rfl rfl rfl (by decide +kernel) ⟨Nat.le_of_ble_eq_true rfl, Nat.le_of_ble_eq_true rfl⟩) 2 gp_2 rfl rfl rfl (Nat.le_of_ble_eq_true rfl) dX2_useAgain_2 ⟨by decide, by decide⟩ (fun r w1 h1 => ?_)
  obtain ⟨rfl, rfl⟩ := h1
  refine mW.eq (st' := [.int (phs v a1)]) rfl rfl rfl rfl ?_
  refine m_if_eq (tgt := 18) C dX2_useAgain_5 (by decide) (fun c2 => ?_) (fun c2 => ?_)
  · have h := h.1 c2
    exact m_vret C dX2_useAgain_18 (Nat.le_of_ble_eq_true rfl) (Nat.le_of_ble_eq_true rfl) ⟨_, rfl, h, rfl⟩
  · have h := h.2 c2
    refine m_aload_n C dX2_useAgain_8 rfl 0 rfl ?_
    refine m_get (T := TX2) (N := 9) C hiX2_useAgain_X2 2 gp_2 rfl 0 (by decide) (by decide +kernel) rfl dX2_useAgain_9 ?_
    refine m_iload_n C dX2_useAgain_12 rfl 1 rfl ?_
    refine m_dup2_11 C dX2_useAgain_13 rfl rfl ?_
    obtain ⟨b3, h⟩ := h
    refine m_iald C 8 (gp_I (by decide)) b3 dX2_useAgain_14 ?_
    refine m_iconst (v := 1) C dX2_useAgain_15 (by decide) ?_
    refine m_iadd C dX2_useAgain_16 ?_
    obtain ⟨b4, h⟩ := h
    obtain ⟨v5, ev5⟩ : ∃ z : gV, z = va_up v 8 (upd (v 8) a1.toNatClampNeg ((v 8 a1.toNatClampNeg) + 1)) := ⟨_, rfl⟩
    have h := h v5 ev5
    refine m_iast (w' := gW cy ad ln v5 ou) C 8 (gp_I (by decide)) b4 dX2_useAgain_17 (by rw [ev5]; exact gs_I (by decide)) ?_
    exact m_vret C dX2_useAgain_18 (Nat.le_of_ble_eq_true rfl) (Nat.le_of_ble_eq_true rfl) ⟨_, rfl, h, rfl⟩
theorem hiX4_beginOf_X4 : ∀ w ∈ wsX40, w ∈ wsX4_beginOf := by decide +kernel
def wp_X4_beginOf (ln : Nat → Nat) (v : gV) (a1 : Int32) (post : Int32 → gV → Prop) : Prop :=
  ((¬ (a1 = 0)) → vp_in (a1 - 1) (ln 49)) ∧ (post (if a1 = 0 then 0 else v 49 (a1 - 1).toNatClampNeg) v)
set_option maxHeartbeats 4000000 in
set_option maxRecDepth 100000 in
theorem s_X4_beginOf (l : Launch) (D : va_G) (cy : Nat → ClassId) (ad ln : Nat → Nat) (v : gV) (ou : Nat → Int64) (a1 : Int32) {post : Int32 → gV → Prop} (h : wp_X4_beginOf ln v a1 post) : mM l D cy yX4_beginOf wsX4_beginOf 1 0 0 [.ref (ad 46), .int a1] (gW cy ad ln v ou) (fun r w1 => ∃ (x1 : Int32) (v1 : gV), r = some (.int x1) ∧ post x1 v1 ∧ w1 = gW cy ad ln v1 ou) := by
  unfold wp_X4_beginOf at h
  refine mM.of (cc := cX4_beginOf) (nL := 2) (ret0 := (some .int)) (by decide +kernel) rfl (Nat.le_of_ble_eq_true rfl) ?_
  intro p e s m args below meth c A C hini
  refine mW.sub (lv' := [(0, .ref (ad 46)), (1, .int a1)]) [0, 1] rfl ?_
  refine m_iload_n C dX4_beginOf_0 rfl 1 rfl ?_
  obtain ⟨b2, h⟩ := h
  refine m_join (P := 16) (wM := gW cy ad ln v ou) (lvM := [(0, .ref (ad 46)), (1, .int a1)]) (stM := [.int (if a1 = 0 then 0 else v 49 (a1 - 1).toNatClampNeg)]) ?_ (fun hJ16_3 => ?_)
  · exact m_iret C dX4_beginOf_16 (Nat.le_of_ble_eq_true rfl) (Nat.le_of_ble_eq_true rfl) ⟨_, _, rfl, h, rfl⟩
  · refine m_if_ne (tgt := 8) C dX4_beginOf_1 (by decide) (fun c1 => ?_) (fun c1 => ?_)
    · refine m_aload_n C dX4_beginOf_8 rfl 0 rfl ?_
      refine m_get (T := TX4) (N := 19) C hiX4_beginOf_X4 46 gp_46 rfl 9 (by decide) (by decide +kernel) rfl dX4_beginOf_9 ?_
      refine m_iload_n C dX4_beginOf_12 rfl 1 rfl ?_
      refine m_iconst (v := 1) C dX4_beginOf_13 (by decide) ?_
      refine m_isub C dX4_beginOf_14 ?_
      refine m_iald C 49 (gp_I (by decide)) (b2 c1) dX4_beginOf_15 ?_
      refine mW.sub (lv' := [(0, .ref (ad 46)), (1, .int a1)]) [0, 1] rfl ?_
      exact mW.eq rfl rfl (by simp only [if_neg c1]) rfl hJ16_3
    · refine m_iconst (v := 0) C dX4_beginOf_4 (by decide) ?_
      refine m_goto (tgt := 16) C dX4_beginOf_5 (by decide) ?_
      refine mW.sub (lv' := [(0, .ref (ad 46)), (1, .int a1)]) [0, 1] rfl ?_
      exact mW.eq rfl rfl (by simp only [if_pos c1]) rfl hJ16_3
theorem hiX4_has_X4 : ∀ w ∈ wsX40, w ∈ wsX4_has := by decide +kernel
def wp_X4_has (ln : Nat → Nat) (v : gV) (a1 : Int32) (a2 : Int32) (post : Int32 → gV → Prop) : Prop :=
  ∃ I5 : Nat → Int32 → Int32 → Prop, (∃ n, I5 n 0 0) ∧ ∀ (n : Nat) (x1 : Int32) (x2 : Int32), I5 n x1 x2 → (vp_in a1 (ln 54) ∧ ((((v 54 a1.toNatClampNeg) ≤ x2) → (narrow .boolean (.int x1) = .int x1 ∧ post x1 v)) ∧ (¬ ((v 54 a1.toNatClampNeg) ≤ x2) → (((x1 = 0) → vp_in ((1500 * a1) + x2) (ln 55)) ∧ (∀ x9 : Int32, x9 = (if x1 = 0 then if (v 55 ((1500 * a1) + x2).toNatClampNeg) = a2 then 1 else 0 else 1) → (∃ n', n' < n ∧ I5 n' x9 (x2 + 1)))))))
set_option maxHeartbeats 4000000 in
set_option maxRecDepth 100000 in
theorem s_X4_has (l : Launch) (D : va_G) (cy : Nat → ClassId) (ad ln : Nat → Nat) (v : gV) (ou : Nat → Int64) (a1 : Int32) (a2 : Int32) {post : Int32 → gV → Prop} (h : wp_X4_has ln v a1 a2 post) : mM l D cy yX4_has wsX4_has 1 0 0 [.ref (ad 46), .int a1, .int a2] (gW cy ad ln v ou) (fun r w1 => ∃ (x1 : Int32) (v1 : gV), r = some (.int x1) ∧ post x1 v1 ∧ w1 = gW cy ad ln v1 ou) := by
  unfold wp_X4_has at h
  refine mM.of (cc := cX4_has) (nL := 5) (ret0 := (some .boolean)) (by decide +kernel) rfl (Nat.le_of_ble_eq_true rfl) ?_
  intro p e s m args below meth c A C hini
  refine mW.sub (lv' := [(0, .ref (ad 46)), (1, .int a1), (2, .int a2)]) [0, 1, 2] rfl ?_
  refine m_iconst (v := 0) C dX4_has_0 (by decide) ?_
  refine m_istore_n (lv' := [(3, .int 0), (0, .ref (ad 46)), (1, .int a1), (2, .int a2)]) C dX4_has_1 rfl (by decide) rfl ?_
  refine m_iconst (v := 0) C dX4_has_2 (by decide) ?_
  refine m_istore (lv' := [(4, .int 0), (3, .int 0), (0, .ref (ad 46)), (1, .int a1), (2, .int a2)]) C dX4_has_3 (by decide) rfl ?_
  obtain ⟨I5, ⟨n0, h0⟩, hI⟩ := h
  refine mW.sub (lv' := [(0, .ref (ad 46)), (1, .int a1), (2, .int a2), (3, .int 0), (4, .int 0)]) [2, 3, 4, 1, 0] rfl ?_
  refine m_ind (σ := Int32 × Int32) (fun n z => I5 n z.1 z.2) (fun z => gW cy ad ln v ou) 5 (fun z => [(0, .ref (ad 46)), (1, .int a1), (2, .int a2), (3, .int z.1), (4, .int z.2)]) ?_ n0 (0, 0) h0
  intro n z hi ih
  obtain ⟨x1, x2⟩ := z
  have h := hI n x1 x2 hi
  show mW _ _ _ _ _ _ _ _ _ _ _ _ _ _ _ _ (gW cy ad ln v ou) 5 [(0, .ref (ad 46)), (1, .int a1), (2, .int a2), (3, .int x1), (4, .int x2)] []
  refine m_iload C dX4_has_5 4 rfl ?_
  refine m_aload_n C dX4_has_7 rfl 0 rfl ?_
  refine m_get (T := TX4) (N := 19) C hiX4_has_X4 46 gp_46 rfl 14 (by decide) (by decide +kernel) rfl dX4_has_8 ?_
  refine m_iload_n C dX4_has_11 rfl 1 rfl ?_
  obtain ⟨b3, h⟩ := h
  refine m_iald C 54 (gp_I (by decide)) b3 dX4_has_12 ?_
  refine m_icmp_ge (tgt := 49) C dX4_has_13 (by decide) (fun c4 => ?_) (fun c4 => ?_)
  · have h := h.1 c4
    refine m_iload_n C dX4_has_49 rfl 3 rfl ?_
    obtain ⟨hz, h⟩ := h
    exact m_zret C dX4_has_50 (Nat.le_of_ble_eq_true rfl) (Nat.le_of_ble_eq_true rfl) hz ⟨_, _, rfl, h, rfl⟩
  · have h := h.2 c4
    refine m_iload_n C dX4_has_16 rfl 3 rfl ?_
    obtain ⟨b6, h⟩ := h
    refine m_join (P := 42) (wM := gW cy ad ln v ou) (lvM := [(0, .ref (ad 46)), (1, .int a1), (2, .int a2), (3, .int x1), (4, .int x2)]) (stM := [.int (if x1 = 0 then if (v 55 ((1500 * a1) + x2).toNatClampNeg) = a2 then 1 else 0 else 1)]) ?_ (fun hJ42_8 => ?_)
    · refine m_topi (fun x9 ex9 => ?_)
      have h := h x9 ex9
      refine m_istore_n (lv' := [(3, .int x9), (0, .ref (ad 46)), (1, .int a1), (2, .int a2), (4, .int x2)]) C dX4_has_42 rfl (by decide) rfl ?_
      refine m_iinc (lv' := [(4, .int (x2 + 1)), (3, .int x9), (0, .ref (ad 46)), (1, .int a1), (2, .int a2)]) C dX4_has_43 (k := 4) rfl rfl (by decide) rfl ?_
      refine m_goto (tgt := 5) C dX4_has_46 (by decide) ?_
      obtain ⟨n10, hn, h⟩ := h
      exact mW.sub [2, 3, 4, 1, 0] rfl (ih n10 (x9, (x2 + 1)) hn h)
    · refine m_if_ne (tgt := 37) C dX4_has_17 (by decide) (fun c5 => ?_) (fun c5 => ?_)
      · refine m_iconst (v := 1) C dX4_has_37 (by decide) ?_
        refine m_goto (tgt := 42) C dX4_has_38 (by decide) ?_
        refine mW.sub (lv' := [(0, .ref (ad 46)), (1, .int a1), (2, .int a2), (3, .int x1), (4, .int x2)]) [0, 1, 2, 3, 4] rfl ?_
        exact mW.eq rfl rfl (by simp only [if_neg c5]) rfl hJ42_8
      · refine m_aload_n C dX4_has_20 rfl 0 rfl ?_
        refine m_get (T := TX4) (N := 19) C hiX4_has_X4 46 gp_46 rfl 15 (by decide) (by decide +kernel) rfl dX4_has_21 ?_
        refine m_sipush (v := 1500) C dX4_has_24 (by decide) ?_
        refine m_iload_n C dX4_has_27 rfl 1 rfl ?_
        refine m_imul C dX4_has_28 ?_
        refine m_iload C dX4_has_29 4 rfl ?_
        refine m_iadd C dX4_has_31 ?_
        refine m_iald C 55 (gp_I (by decide)) (b6 c5) dX4_has_32 ?_
        refine m_iload_n C dX4_has_33 rfl 2 rfl ?_
        refine m_icmp_ne (tgt := 41) C dX4_has_34 (by decide) (fun c7 => ?_) (fun c7 => ?_)
        · refine m_iconst (v := 0) C dX4_has_41 (by decide) ?_
          refine mW.sub (lv' := [(0, .ref (ad 46)), (1, .int a1), (2, .int a2), (3, .int x1), (4, .int x2)]) [0, 1, 2, 3, 4] rfl ?_
          exact mW.eq rfl rfl (by simp only [if_pos c5, if_neg c7]) rfl hJ42_8
        · refine m_iconst (v := 1) C dX4_has_37 (by decide) ?_
          refine m_goto (tgt := 42) C dX4_has_38 (by decide) ?_
          refine mW.sub (lv' := [(0, .ref (ad 46)), (1, .int a1), (2, .int a2), (3, .int x1), (4, .int x2)]) [0, 1, 2, 3, 4] rfl ?_
          exact mW.eq rfl rfl (by simp only [if_pos c5, if_pos c7]) rfl hJ42_8
theorem hiX4_sum_X4 : ∀ w ∈ wsX40, w ∈ wsX4_sum := by decide +kernel
def wp_X4_sum (ln : Nat → Nat) (v : gV) (a1 : Int32) (a2 : Int32) (post : Int32 → gV → Prop) : Prop :=
  ∃ I5 : Nat → Int32 → Int32 → Prop, (∃ n, I5 n 0 0) ∧ ∀ (n : Nat) (x1 : Int32) (x2 : Int32), I5 n x1 x2 → (((8 ≤ x2) → (post x1 v)) ∧ (¬ (8 ≤ x2) → (((((a2 - 1) - x2) < a1) → (post x1 v)) ∧ (¬ (((a2 - 1) - x2) < a1) → (vp_in ((a2 - 1) - x2) (ln 48) ∧ (∀ x6 : Int32, x6 = (pmk (v 48 ((a2 - 1) - x2).toNatClampNeg)) → ((∀ x9 : Int32, x9 = (x1 ^^^ ((x6 <<< (x2 &&& 31)) ||| (if x2 = 0 then 0 else ius x6 (32 - x2)))) → (∃ n', n' < n ∧ I5 n' x9 (x2 + 1))))))))))
set_option maxHeartbeats 4000000 in
set_option maxRecDepth 100000 in
theorem s_X4_sum (l : Launch) (D : va_G) (cy : Nat → ClassId) (ad ln : Nat → Nat) (v : gV) (ou : Nat → Int64) (a1 : Int32) (a2 : Int32) {post : Int32 → gV → Prop} (h : wp_X4_sum ln v a1 a2 post) : mM l D cy yX4_sum wsX4_sum 2 0 0 [.ref (ad 46), .int a1, .int a2] (gW cy ad ln v ou) (fun r w1 => ∃ (x1 : Int32) (v1 : gV), r = some (.int x1) ∧ post x1 v1 ∧ w1 = gW cy ad ln v1 ou) := by
  unfold wp_X4_sum at h
  refine mM.of (cc := cX4_sum) (nL := 6) (ret0 := (some .int)) (by decide +kernel) rfl (Nat.le_of_ble_eq_true rfl) ?_
  intro p e s m args below meth c A C hini
  refine mW.sub (lv' := [(0, .ref (ad 46)), (1, .int a1), (2, .int a2)]) [0, 1, 2] rfl ?_
  refine m_iconst (v := 0) C dX4_sum_0 (by decide) ?_
  refine m_istore_n (lv' := [(3, .int 0), (0, .ref (ad 46)), (1, .int a1), (2, .int a2)]) C dX4_sum_1 rfl (by decide) rfl ?_
  refine m_iconst (v := 0) C dX4_sum_2 (by decide) ?_
  refine m_istore (lv' := [(4, .int 0), (3, .int 0), (0, .ref (ad 46)), (1, .int a1), (2, .int a2)]) C dX4_sum_3 (by decide) rfl ?_
  obtain ⟨I5, ⟨n0, h0⟩, hI⟩ := h
  refine mW.sub (lv' := [(0, .ref (ad 46)), (1, .int a1), (2, .int a2), (3, .int 0), (4, .int 0)]) [2, 3, 4, 1, 0] rfl ?_
  refine m_ind (σ := Int32 × Int32) (fun n z => I5 n z.1 z.2) (fun z => gW cy ad ln v ou) 5 (fun z => [(0, .ref (ad 46)), (1, .int a1), (2, .int a2), (3, .int z.1), (4, .int z.2)]) ?_ n0 (0, 0) h0
  intro n z hi ih
  obtain ⟨x1, x2⟩ := z
  have h := hI n x1 x2 hi
  show mW _ _ _ _ _ _ _ _ _ _ _ _ _ _ _ _ (gW cy ad ln v ou) 5 [(0, .ref (ad 46)), (1, .int a1), (2, .int a2), (3, .int x1), (4, .int x2)] []
  refine m_iload C dX4_sum_5 4 rfl ?_
  refine m_bipush (v := 8) C dX4_sum_7 (by decide) ?_
  refine m_icmp_ge (tgt := 70) C dX4_sum_9 (by decide) (fun c3 => ?_) (fun c3 => ?_)
  · have h := h.1 c3
    refine m_iload_n C dX4_sum_70 rfl 3 rfl ?_
    exact m_iret C dX4_sum_71 (Nat.le_of_ble_eq_true rfl) (Nat.le_of_ble_eq_true rfl) ⟨_, _, rfl, h, rfl⟩
  · have h := h.2 c3
    refine m_iload_n C dX4_sum_12 rfl 2 rfl ?_
    refine m_iconst (v := 1) C dX4_sum_13 (by decide) ?_
    refine m_isub C dX4_sum_14 ?_
    refine m_iload C dX4_sum_15 4 rfl ?_
    refine m_isub C dX4_sum_17 ?_
    refine m_iload_n C dX4_sum_18 rfl 1 rfl ?_
    refine m_icmp_lt (tgt := 70) C dX4_sum_19 (by decide) (fun c4 => ?_) (fun c4 => ?_)
    · have h := h.1 c4
      refine m_iload_n C dX4_sum_70 rfl 3 rfl ?_
      exact m_iret C dX4_sum_71 (Nat.le_of_ble_eq_true rfl) (Nat.le_of_ble_eq_true rfl) ⟨_, _, rfl, h, rfl⟩
    · have h := h.2 c4
      refine m_aload_n C dX4_sum_22 rfl 0 rfl ?_
      refine m_get (T := TX4) (N := 19) C hiX4_sum_X4 46 gp_46 rfl 7 (by decide) (by decide +kernel) rfl dX4_sum_23 ?_
      refine m_iload_n C dX4_sum_26 rfl 2 rfl ?_
      refine m_iconst (v := 1) C dX4_sum_27 (by decide) ?_
      refine m_isub C dX4_sum_28 ?_
      refine m_iload C dX4_sum_29 4 rfl ?_
      refine m_isub C dX4_sum_31 ?_
      obtain ⟨b5, h⟩ := h
      refine m_iald C 48 (gp_I (by decide)) b5 dX4_sum_32 ?_
      refine m_callS C (p_X4_mark l D cy ad ln v ou (v 48 ((a2 - 1) - x2).toNatClampNeg)) (va_cwS 1 C.2.2.2.2.1 gX4_sum_X4_mark rfl rfl rfl (by decide +kernel) ⟨Nat.le_of_ble_eq_true rfl, Nat.le_of_ble_eq_true rfl⟩) rfl rfl (Nat.le_of_ble_eq_true rfl) dX4_sum_33 ⟨by decide, by decide⟩ (fun r w1 h1 => ?_)
      obtain ⟨rfl, rfl⟩ := h1
      refine mW.eq (st' := [.int (pmk (v 48 ((a2 - 1) - x2).toNatClampNeg))]) rfl rfl rfl rfl ?_
      refine m_topi (fun x6 ex6 => ?_)
      have h := h x6 ex6
      refine m_istore (lv' := [(5, .int x6), (0, .ref (ad 46)), (1, .int a1), (2, .int a2), (3, .int x1), (4, .int x2)]) C dX4_sum_36 (by decide) rfl ?_
      refine m_iload_n C dX4_sum_38 rfl 4 rfl ?_
      refine m_iload C dX4_sum_39 0 rfl ?_
      refine m_iload C dX4_sum_41 5 rfl ?_
      refine m_ishl C dX4_sum_43 ?_
      refine m_iload C dX4_sum_44 5 rfl ?_
      refine m_join (P := 61) (wM := gW cy ad ln v ou) (lvM := [(5, .int x6), (0, .ref (ad 46)), (1, .int a1), (2, .int a2), (3, .int x1), (4, .int x2)]) (stM := [.int (if x2 = 0 then 0 else ius x6 (32 - x2)), .int (x6 <<< (x2 &&& 31)), .int x1]) ?_ (fun hJ61_8 => ?_)
      · refine m_ior C dX4_sum_61 ?_
        refine m_ixor C dX4_sum_62 ?_
        refine m_topi (fun x9 ex9 => ?_)
        have h := h x9 ex9
        refine m_istore_n (lv' := [(3, .int x9), (5, .int x6), (0, .ref (ad 46)), (1, .int a1), (2, .int a2), (4, .int x2)]) C dX4_sum_63 rfl (by decide) rfl ?_
        refine m_iinc (lv' := [(4, .int (x2 + 1)), (3, .int x9), (5, .int x6), (0, .ref (ad 46)), (1, .int a1), (2, .int a2)]) C dX4_sum_64 (k := 5) rfl rfl (by decide) rfl ?_
        refine m_goto (tgt := 5) C dX4_sum_67 (by decide) ?_
        obtain ⟨n10, hn, h⟩ := h
        exact mW.sub [3, 4, 5, 1, 0] rfl (ih n10 (x9, (x2 + 1)) hn h)
      · refine m_if_ne (tgt := 53) C dX4_sum_46 (by decide) (fun c7 => ?_) (fun c7 => ?_)
        · refine m_iload C dX4_sum_53 0 rfl ?_
          refine m_bipush (v := 32) C dX4_sum_55 (by decide) ?_
          refine m_iload C dX4_sum_57 5 rfl ?_
          refine m_isub C dX4_sum_59 ?_
          refine m_iushr (v := ius x6 (32 - x2)) C dX4_sum_60 rfl ?_
          refine mW.sub (lv' := [(5, .int x6), (0, .ref (ad 46)), (1, .int a1), (2, .int a2), (3, .int x1), (4, .int x2)]) [0, 1, 2, 3, 4, 5] rfl ?_
          exact mW.eq rfl rfl (by simp only [if_neg c7]) rfl hJ61_8
        · refine m_iconst (v := 0) C dX4_sum_49 (by decide) ?_
          refine m_goto (tgt := 61) C dX4_sum_50 (by decide) ?_
          refine mW.sub (lv' := [(5, .int x6), (0, .ref (ad 46)), (1, .int a1), (2, .int a2), (3, .int x1), (4, .int x2)]) [0, 1, 2, 3, 4, 5] rfl ?_
          exact mW.eq rfl rfl (by simp only [if_pos c7]) rfl hJ61_8
theorem hiX4_isPart_X4 : ∀ w ∈ wsX40, w ∈ wsX4_isPart := by decide +kernel
def wp_X4_isPart (ln : Nat → Nat) (v : gV) (a1 : Int32) (a2 : Int32) (a3 : Int32) (post : Int32 → gV → Prop) : Prop :=
  vp_in a1 (ln 56) ∧ (((0 < (v 56 a1.toNatClampNeg)) → vp_in a1 (ln 57)) ∧ ((¬ (0 < (v 56 a1.toNatClampNeg))) → vp_in a1 (ln 51)) ∧ ((¬ (0 < (v 56 a1.toNatClampNeg))) → (¬ ((v 51 a1.toNatClampNeg) = 0)) → vp_in a1 (ln 57)) ∧ (∀ x10 : Int32, x10 = (if 0 < (v 56 a1.toNatClampNeg) then if (v 57 a1.toNatClampNeg) = (a3 - a2) then 1 else 0 else if (v 51 a1.toNatClampNeg) = 0 then 0 else if (v 57 a1.toNatClampNeg) = (a3 - a2) then 1 else 0) → (∃ I40 : Nat → Int32 → Int32 → Prop, (∃ n, I40 n x10 0) ∧ ∀ (n : Nat) (x11 : Int32) (x12 : Int32), I40 n x11 x12 → ((((a3 - a2) ≤ x12) → (narrow .boolean (.int x11) = .int x11 ∧ post x11 v)) ∧ (¬ ((a3 - a2) ≤ x12) → (((x11 = 0) → (narrow .boolean (.int x11) = .int x11 ∧ post x11 v)) ∧ (¬ (x11 = 0) → (vp_in ((64 * a1) + x12) (ln 58) ∧ (vp_in (a2 + x12) (ln 48) ∧ ((∀ x19 : Int32, x19 = (if (v 58 ((64 * a1) + x12).toNatClampNeg) = (v 48 (a2 + x12).toNatClampNeg) then 1 else 0) → (∃ n', n' < n ∧ I40 n' x19 (x12 + 1)))))))))))))
set_option maxHeartbeats 4000000 in
set_option maxRecDepth 100000 in
theorem s_X4_isPart (l : Launch) (D : va_G) (cy : Nat → ClassId) (ad ln : Nat → Nat) (v : gV) (ou : Nat → Int64) (a1 : Int32) (a2 : Int32) (a3 : Int32) {post : Int32 → gV → Prop} (h : wp_X4_isPart ln v a1 a2 a3 post) : mM l D cy yX4_isPart wsX4_isPart 1 0 0 [.ref (ad 46), .int a1, .int a2, .int a3] (gW cy ad ln v ou) (fun r w1 => ∃ (x1 : Int32) (v1 : gV), r = some (.int x1) ∧ post x1 v1 ∧ w1 = gW cy ad ln v1 ou) := by
  unfold wp_X4_isPart at h
  refine mM.of (cc := cX4_isPart) (nL := 6) (ret0 := (some .boolean)) (by decide +kernel) rfl (Nat.le_of_ble_eq_true rfl) ?_
  intro p e s m args below meth c A C hini
  refine mW.sub (lv' := [(0, .ref (ad 46)), (1, .int a1), (2, .int a2), (3, .int a3)]) [0, 1, 2, 3] rfl ?_
  refine m_aload_n C dX4_isPart_0 rfl 0 rfl ?_
  refine m_get (T := TX4) (N := 19) C hiX4_isPart_X4 46 gp_46 rfl 16 (by decide) (by decide +kernel) rfl dX4_isPart_1 ?_
  refine m_iload_n C dX4_isPart_4 rfl 1 rfl ?_
  obtain ⟨b1, h⟩ := h
  refine m_iald C 56 (gp_I (by decide)) b1 dX4_isPart_5 ?_
  obtain ⟨b3, h⟩ := h
  obtain ⟨b5, h⟩ := h
  obtain ⟨b7, h⟩ := h
  refine m_join (P := 35) (wM := gW cy ad ln v ou) (lvM := [(0, .ref (ad 46)), (1, .int a1), (2, .int a2), (3, .int a3)]) (stM := [.int (if 0 < (v 56 a1.toNatClampNeg) then if (v 57 a1.toNatClampNeg) = (a3 - a2) then 1 else 0 else if (v 51 a1.toNatClampNeg) = 0 then 0 else if (v 57 a1.toNatClampNeg) = (a3 - a2) then 1 else 0)]) ?_ (fun hJ35_9 => ?_)
  · refine m_topi (fun x10 ex10 => ?_)
    have h := h x10 ex10
    refine m_istore (lv' := [(4, .int x10), (0, .ref (ad 46)), (1, .int a1), (2, .int a2), (3, .int a3)]) C dX4_isPart_35 (by decide) rfl ?_
    refine m_iconst (v := 0) C dX4_isPart_37 (by decide) ?_
    refine m_istore (lv' := [(5, .int 0), (4, .int x10), (0, .ref (ad 46)), (1, .int a1), (2, .int a2), (3, .int a3)]) C dX4_isPart_38 (by decide) rfl ?_
    obtain ⟨I40, ⟨n0, h0⟩, hI⟩ := h
    refine mW.sub (lv' := [(0, .ref (ad 46)), (1, .int a1), (2, .int a2), (3, .int a3), (4, .int x10), (5, .int 0)]) [2, 3, 4, 5, 1, 0] rfl ?_
    refine m_ind (σ := Int32 × Int32) (fun n z => I40 n z.1 z.2) (fun z => gW cy ad ln v ou) 40 (fun z => [(0, .ref (ad 46)), (1, .int a1), (2, .int a2), (3, .int a3), (4, .int z.1), (5, .int z.2)]) ?_ n0 (x10, 0) h0
    intro n z hi ih
    obtain ⟨x11, x12⟩ := z
    have h := hI n x11 x12 hi
    show mW _ _ _ _ _ _ _ _ _ _ _ _ _ _ _ _ (gW cy ad ln v ou) 40 [(0, .ref (ad 46)), (1, .int a1), (2, .int a2), (3, .int a3), (4, .int x11), (5, .int x12)] []
    refine m_iload C dX4_isPart_40 5 rfl ?_
    refine m_iload_n C dX4_isPart_42 rfl 3 rfl ?_
    refine m_iload_n C dX4_isPart_43 rfl 2 rfl ?_
    refine m_isub C dX4_isPart_44 ?_
    refine m_icmp_ge (tgt := 90) C dX4_isPart_45 (by decide) (fun c13 => ?_) (fun c13 => ?_)
    · have h := h.1 c13
      refine m_iload C dX4_isPart_90 4 rfl ?_
      obtain ⟨hz, h⟩ := h
      exact m_zret C dX4_isPart_92 (Nat.le_of_ble_eq_true rfl) (Nat.le_of_ble_eq_true rfl) hz ⟨_, _, rfl, h, rfl⟩
    · have h := h.2 c13
      refine m_iload C dX4_isPart_48 4 rfl ?_
      refine m_if_eq (tgt := 90) C dX4_isPart_50 (by decide) (fun c14 => ?_) (fun c14 => ?_)
      · have h := h.1 c14
        refine m_iload C dX4_isPart_90 4 rfl ?_
        obtain ⟨hz, h⟩ := h
        exact m_zret C dX4_isPart_92 (Nat.le_of_ble_eq_true rfl) (Nat.le_of_ble_eq_true rfl) hz ⟨_, _, rfl, h, rfl⟩
      · have h := h.2 c14
        refine m_aload_n C dX4_isPart_53 rfl 0 rfl ?_
        refine m_get (T := TX4) (N := 19) C hiX4_isPart_X4 46 gp_46 rfl 18 (by decide) (by decide +kernel) rfl dX4_isPart_54 ?_
        refine m_bipush (v := 64) C dX4_isPart_57 (by decide) ?_
        refine m_iload_n C dX4_isPart_59 rfl 1 rfl ?_
        refine m_imul C dX4_isPart_60 ?_
        refine m_iload C dX4_isPart_61 5 rfl ?_
        refine m_iadd C dX4_isPart_63 ?_
        obtain ⟨b15, h⟩ := h
        refine m_iald C 58 (gp_I (by decide)) b15 dX4_isPart_64 ?_
        refine m_aload_n C dX4_isPart_65 rfl 0 rfl ?_
        refine m_get (T := TX4) (N := 19) C hiX4_isPart_X4 46 gp_46 rfl 7 (by decide) (by decide +kernel) rfl dX4_isPart_66 ?_
        refine m_iload_n C dX4_isPart_69 rfl 2 rfl ?_
        refine m_iload C dX4_isPart_70 5 rfl ?_
        refine m_iadd C dX4_isPart_72 ?_
        obtain ⟨b16, h⟩ := h
        refine m_iald C 48 (gp_I (by decide)) b16 dX4_isPart_73 ?_
        refine m_join (P := 82) (wM := gW cy ad ln v ou) (lvM := [(0, .ref (ad 46)), (1, .int a1), (2, .int a2), (3, .int a3), (4, .int x11), (5, .int x12)]) (stM := [.int (if (v 58 ((64 * a1) + x12).toNatClampNeg) = (v 48 (a2 + x12).toNatClampNeg) then 1 else 0)]) ?_ (fun hJ82_18 => ?_)
        · refine m_topi (fun x19 ex19 => ?_)
          have h := h x19 ex19
          refine m_istore (lv' := [(4, .int x19), (0, .ref (ad 46)), (1, .int a1), (2, .int a2), (3, .int a3), (5, .int x12)]) C dX4_isPart_82 (by decide) rfl ?_
          refine m_iinc (lv' := [(5, .int (x12 + 1)), (4, .int x19), (0, .ref (ad 46)), (1, .int a1), (2, .int a2), (3, .int a3)]) C dX4_isPart_84 (k := 5) rfl rfl (by decide) rfl ?_
          refine m_goto (tgt := 40) C dX4_isPart_87 (by decide) ?_
          obtain ⟨n20, hn, h⟩ := h
          exact mW.sub [2, 3, 4, 5, 1, 0] rfl (ih n20 (x19, (x12 + 1)) hn h)
        · refine m_icmp_ne (tgt := 81) C dX4_isPart_74 (by decide) (fun c17 => ?_) (fun c17 => ?_)
          · refine m_iconst (v := 0) C dX4_isPart_81 (by decide) ?_
            refine mW.sub (lv' := [(0, .ref (ad 46)), (1, .int a1), (2, .int a2), (3, .int a3), (4, .int x11), (5, .int x12)]) [0, 1, 2, 3, 4, 5] rfl ?_
            exact mW.eq rfl rfl (by simp only [if_neg c17]) rfl hJ82_18
          · refine m_iconst (v := 1) C dX4_isPart_77 (by decide) ?_
            refine m_goto (tgt := 82) C dX4_isPart_78 (by decide) ?_
            refine mW.sub (lv' := [(0, .ref (ad 46)), (1, .int a1), (2, .int a2), (3, .int a3), (4, .int x11), (5, .int x12)]) [0, 1, 2, 3, 4, 5] rfl ?_
            exact mW.eq rfl rfl (by simp only [if_pos c17]) rfl hJ82_18
  · refine m_if_gt (tgt := 18) C dX4_isPart_6 (by decide) (fun c2 => ?_) (fun c2 => ?_)
    · refine m_aload_n C dX4_isPart_18 rfl 0 rfl ?_
      refine m_get (T := TX4) (N := 19) C hiX4_isPart_X4 46 gp_46 rfl 17 (by decide) (by decide +kernel) rfl dX4_isPart_19 ?_
      refine m_iload_n C dX4_isPart_22 rfl 1 rfl ?_
      refine m_iald C 57 (gp_I (by decide)) (b3 c2) dX4_isPart_23 ?_
      refine m_iload_n C dX4_isPart_24 rfl 3 rfl ?_
      refine m_iload_n C dX4_isPart_25 rfl 2 rfl ?_
      refine m_isub C dX4_isPart_26 ?_
      refine m_icmp_ne (tgt := 34) C dX4_isPart_27 (by decide) (fun c4 => ?_) (fun c4 => ?_)
      · refine m_iconst (v := 0) C dX4_isPart_34 (by decide) ?_
        refine mW.sub (lv' := [(0, .ref (ad 46)), (1, .int a1), (2, .int a2), (3, .int a3)]) [0, 1, 2, 3] rfl ?_
        exact mW.eq rfl rfl (by simp only [if_pos c2, if_neg c4]) rfl hJ35_9
      · refine m_iconst (v := 1) C dX4_isPart_30 (by decide) ?_
        refine m_goto (tgt := 35) C dX4_isPart_31 (by decide) ?_
        refine mW.sub (lv' := [(0, .ref (ad 46)), (1, .int a1), (2, .int a2), (3, .int a3)]) [0, 1, 2, 3] rfl ?_
        exact mW.eq rfl rfl (by simp only [if_pos c2, if_pos c4]) rfl hJ35_9
    · refine m_aload_n C dX4_isPart_9 rfl 0 rfl ?_
      refine m_get (T := TX4) (N := 19) C hiX4_isPart_X4 46 gp_46 rfl 11 (by decide) (by decide +kernel) rfl dX4_isPart_10 ?_
      refine m_iload_n C dX4_isPart_13 rfl 1 rfl ?_
      refine m_zald C 51 gp_Z (b5 c2) dX4_isPart_14 ?_
      refine m_if_eq (tgt := 34) C dX4_isPart_15 (by decide) (fun c6 => ?_) (fun c6 => ?_)
      · refine m_iconst (v := 0) C dX4_isPart_34 (by decide) ?_
        refine mW.sub (lv' := [(0, .ref (ad 46)), (1, .int a1), (2, .int a2), (3, .int a3)]) [0, 1, 2, 3] rfl ?_
        exact mW.eq rfl rfl (by simp only [if_neg c2, if_pos c6]) rfl hJ35_9
      · refine m_aload_n C dX4_isPart_18 rfl 0 rfl ?_
        refine m_get (T := TX4) (N := 19) C hiX4_isPart_X4 46 gp_46 rfl 17 (by decide) (by decide +kernel) rfl dX4_isPart_19 ?_
        refine m_iload_n C dX4_isPart_22 rfl 1 rfl ?_
        refine m_iald C 57 (gp_I (by decide)) (b7 c2 c6) dX4_isPart_23 ?_
        refine m_iload_n C dX4_isPart_24 rfl 3 rfl ?_
        refine m_iload_n C dX4_isPart_25 rfl 2 rfl ?_
        refine m_isub C dX4_isPart_26 ?_
        refine m_icmp_ne (tgt := 34) C dX4_isPart_27 (by decide) (fun c8 => ?_) (fun c8 => ?_)
        · refine m_iconst (v := 0) C dX4_isPart_34 (by decide) ?_
          refine mW.sub (lv' := [(0, .ref (ad 46)), (1, .int a1), (2, .int a2), (3, .int a3)]) [0, 1, 2, 3] rfl ?_
          exact mW.eq rfl rfl (by simp only [if_neg c2, if_neg c6, if_neg c8]) rfl hJ35_9
        · refine m_iconst (v := 1) C dX4_isPart_30 (by decide) ?_
          refine m_goto (tgt := 35) C dX4_isPart_31 (by decide) ?_
          refine mW.sub (lv' := [(0, .ref (ad 46)), (1, .int a1), (2, .int a2), (3, .int a3)]) [0, 1, 2, 3] rfl ?_
          exact mW.eq rfl rfl (by simp only [if_neg c2, if_neg c6, if_pos c8]) rfl hJ35_9
theorem hiX0_hasNumber_X0 : ∀ w ∈ wsX00, w ∈ wsX0_hasNumber := by decide +kernel
def wp_X0_hasNumber (ln : Nat → Nat) (v : gV) (P : Nat) (a1 : Int32) (post : Int32 → gV → Prop) : Prop :=
  ∃ I2 : Nat → Int32 → Prop, (∃ n, I2 n 0) ∧ ∀ (n : Nat) (x1 : Int32), I2 n x1 → ((((v P 1) ≤ x1) → (narrow .boolean (.int 0) = .int 0 ∧ post 0 v)) ∧ (¬ ((v P 1) ≤ x1) → (vp_in x1 (ln (P + 16)) ∧ ((((v (P + 16) x1.toNatClampNeg) = a1) → (narrow .boolean (.int 1) = .int 1 ∧ post 1 v)) ∧ (¬ ((v (P + 16) x1.toNatClampNeg) = a1) → (∃ n', n' < n ∧ I2 n' (x1 + 1)))))))
set_option maxHeartbeats 4000000 in
set_option maxRecDepth 100000 in
theorem s_X0_hasNumber (l : Launch) (D : va_G) (cy : Nat → ClassId) (ad ln : Nat → Nat) (v : gV) (ou : Nat → Int64) (P : Nat) (a1 : Int32) (hP1 : 14 ≤ P) (hP2 : P < 30) {post : Int32 → gV → Prop} (h : wp_X0_hasNumber ln v P a1 post) : mM l D cy yX0_hasNumber wsX0_hasNumber 1 0 0 [.ref (ad P), .int a1] (gW cy ad ln v ou) (fun r w1 => ∃ (x1 : Int32) (v1 : gV), r = some (.int x1) ∧ post x1 v1 ∧ w1 = gW cy ad ln v1 ou) := by
  unfold wp_X0_hasNumber at h
  refine mM.of (cc := cX0_hasNumber) (nL := 3) (ret0 := (some .boolean)) (by decide +kernel) rfl (Nat.le_of_ble_eq_true rfl) ?_
  intro p e s m args below meth c A C hini
  refine mW.sub (lv' := [(0, .ref (ad P)), (1, .int a1)]) [0, 1] rfl ?_
  refine m_iconst (v := 0) C dX0_hasNumber_0 (by decide) ?_
  refine m_istore_n (lv' := [(2, .int 0), (0, .ref (ad P)), (1, .int a1)]) C dX0_hasNumber_1 rfl (by decide) rfl ?_
  obtain ⟨I2, ⟨n0, h0⟩, hI⟩ := h
  refine mW.sub (lv' := [(0, .ref (ad P)), (1, .int a1), (2, .int 0)]) [1, 2, 0] rfl ?_
  refine m_ind (σ := Int32) (fun n z => I2 n z) (fun z => gW cy ad ln v ou) 2 (fun z => [(0, .ref (ad P)), (1, .int a1), (2, .int z)]) ?_ n0 (0) h0
  intro n x1 hi ih
  have h := hI n x1 hi
  show mW _ _ _ _ _ _ _ _ _ _ _ _ _ _ _ _ (gW cy ad ln v ou) 2 [(0, .ref (ad P)), (1, .int a1), (2, .int x1)] []
  refine m_iload_n C dX0_hasNumber_2 rfl 2 rfl ?_
  refine m_aload_n C dX0_hasNumber_3 rfl 0 rfl ?_
  refine m_get (T := TX0) (N := 3) C hiX0_hasNumber_X0 P (gp_C hP1 hP2) rfl 1 (by decide) (by decide +kernel) rfl dX0_hasNumber_4 ?_
  refine m_icmp_ge (tgt := 28) C dX0_hasNumber_7 (by decide) (fun c2 => ?_) (fun c2 => ?_)
  · have h := h.1 c2
    refine m_iconst (v := 0) C dX0_hasNumber_28 (by decide) ?_
    obtain ⟨hz, h⟩ := h
    exact m_zret C dX0_hasNumber_29 (Nat.le_of_ble_eq_true rfl) (Nat.le_of_ble_eq_true rfl) hz ⟨_, _, rfl, h, rfl⟩
  · have h := h.2 c2
    refine m_aload_n C dX0_hasNumber_10 rfl 0 rfl ?_
    refine m_get (T := TX0) (N := 3) C hiX0_hasNumber_X0 P (gp_C hP1 hP2) rfl 0 (by decide) (by decide +kernel) rfl dX0_hasNumber_11 ?_
    refine m_iload_n C dX0_hasNumber_14 rfl 2 rfl ?_
    obtain ⟨b3, h⟩ := h
    refine m_iald C (P + 16) (gp_I (gIs_N hP1 hP2)) b3 dX0_hasNumber_15 ?_
    refine m_iload_n C dX0_hasNumber_16 rfl 1 rfl ?_
    refine m_icmp_ne (tgt := 22) C dX0_hasNumber_17 (by decide) (fun c4 => ?_) (fun c4 => ?_)
    · have h := h.2 c4
      refine m_iinc (lv' := [(2, .int (x1 + 1)), (0, .ref (ad P)), (1, .int a1)]) C dX0_hasNumber_22 (k := 2) rfl rfl (by decide) rfl ?_
      refine m_goto (tgt := 2) C dX0_hasNumber_25 (by decide) ?_
      obtain ⟨n5, hn, h⟩ := h
      exact mW.sub [1, 2, 0] rfl (ih n5 ((x1 + 1)) hn h)
    · have h := h.1 c4
      refine m_iconst (v := 1) C dX0_hasNumber_20 (by decide) ?_
      obtain ⟨hz, h⟩ := h
      exact m_zret C dX0_hasNumber_21 (Nat.le_of_ble_eq_true rfl) (Nat.le_of_ble_eq_true rfl) hz ⟨_, _, rfl, h, rfl⟩
theorem hiX1_endOfPart_X1 : ∀ w ∈ wsX10, w ∈ wsX1_endOfPart := by decide +kernel
def wp_X1_endOfPart (ln : Nat → Nat) (v : gV) (r1 : Nat) (a2 : Int32) (a3 : Int32) (post : Int32 → gV → Prop) : Prop :=
  ∀ x1 : Int32, x1 = (if a2 + (v 1 2) < a3 then a2 + (v 1 2) else a3) → (∃ I18 : Nat → Int32 → Int32 → Prop, (∃ n, I18 n 0 a2) ∧ ∀ (n : Nat) (x2 : Int32) (x3 : Int32), I18 n x2 x3 → (((x1 ≤ x3) → (post x1 v)) ∧ (¬ (x1 ≤ x3) → (vp_in x3 (ln r1) ∧ (∀ x6 : Int32, x6 = ((ptn x2 1) ^^^ (pmk ((v r1 x3.toNatClampNeg) &&& 255))) → (((¬ ((x3 - a2) < 8)) → vp_in (x3 - 8) (ln r1)) ∧ (((((x3 - a2) + 1) < (v 1 1)) → (∃ n', n' < n ∧ I18 n' (if (x3 - a2) < 8 then x6 else x6 ^^^ (ptn (pmk ((v r1 (x3 - 8).toNatClampNeg) &&& 255)) 8)) (x3 + 1))) ∧ (¬ (((x3 - a2) + 1) < (v 1 1)) → (((((if (x3 - a2) < 8 then x6 else x6 ^^^ (ptn (pmk ((v r1 (x3 - 8).toNatClampNeg) &&& 255)) 8)) &&& (v 1 0)) = 0) → (post (x3 + 1) v)) ∧ (¬ (((if (x3 - a2) < 8 then x6 else x6 ^^^ (ptn (pmk ((v r1 (x3 - 8).toNatClampNeg) &&& 255)) 8)) &&& (v 1 0)) = 0) → (∃ n', n' < n ∧ I18 n' (if (x3 - a2) < 8 then x6 else x6 ^^^ (ptn (pmk ((v r1 (x3 - 8).toNatClampNeg) &&& 255)) 8)) (x3 + 1))))))))))))
set_option maxHeartbeats 4000000 in
set_option maxRecDepth 100000 in
theorem s_X1_endOfPart (l : Launch) (D : va_G) (cy : Nat → ClassId) (ad ln : Nat → Nat) (v : gV) (ou : Nat → Int64) (r1 : Nat) (a2 : Int32) (a3 : Int32) (hr1 : gBs r1 = true) {post : Int32 → gV → Prop} (h : wp_X1_endOfPart ln v r1 a2 a3 post) : mM l D cy yX1_endOfPart wsX1_endOfPart 2 0 0 [.ref (ad 1), .ref (ad r1), .int a2, .int a3] (gW cy ad ln v ou) (fun r w1 => ∃ (x1 : Int32) (v1 : gV), r = some (.int x1) ∧ post x1 v1 ∧ w1 = gW cy ad ln v1 ou) := by
  unfold wp_X1_endOfPart at h
  refine mM.of (cc := cX1_endOfPart) (nL := 7) (ret0 := (some .int)) (by decide +kernel) rfl (Nat.le_of_ble_eq_true rfl) ?_
  intro p e s m args below meth c A C hini
  refine mW.sub (lv' := [(0, .ref (ad 1)), (1, .ref (ad r1)), (2, .int a2), (3, .int a3)]) [0, 1, 2, 3] rfl ?_
  refine m_iload_n C dX1_endOfPart_0 rfl 3 rfl ?_
  refine m_iload_n C dX1_endOfPart_1 rfl 2 rfl ?_
  refine m_aload_n C dX1_endOfPart_2 rfl 0 rfl ?_
  refine m_get (T := TX1) (N := 3) C hiX1_endOfPart_X1 1 gp_1 rfl 2 (by decide) (by decide +kernel) rfl dX1_endOfPart_3 ?_
  refine m_iadd C dX1_endOfPart_6 ?_
  refine m_mmin (index := 19) C (by decide +kernel) (by decide +kernel) (by decide +kernel) (by decide +kernel) (by decide) (Nat.le_of_ble_eq_true rfl) (Nat.le_of_ble_eq_true rfl) (Nat.le_of_ble_eq_true rfl) dX1_endOfPart_7 ?_
  refine m_topi (fun x1 ex1 => ?_)
  have h := h x1 ex1
  refine m_istore (lv' := [(4, .int x1), (0, .ref (ad 1)), (1, .ref (ad r1)), (2, .int a2), (3, .int a3)]) C dX1_endOfPart_10 (by decide) rfl ?_
  refine m_iconst (v := 0) C dX1_endOfPart_12 (by decide) ?_
  refine m_istore (lv' := [(5, .int 0), (4, .int x1), (0, .ref (ad 1)), (1, .ref (ad r1)), (2, .int a2), (3, .int a3)]) C dX1_endOfPart_13 (by decide) rfl ?_
  refine m_iload_n C dX1_endOfPart_15 rfl 4 rfl ?_
  refine m_istore (lv' := [(6, .int a2), (5, .int 0), (4, .int x1), (0, .ref (ad 1)), (1, .ref (ad r1)), (2, .int a2), (3, .int a3)]) C dX1_endOfPart_16 (by decide) rfl ?_
  obtain ⟨I18, ⟨n0, h0⟩, hI⟩ := h
  refine mW.sub (lv' := [(0, .ref (ad 1)), (1, .ref (ad r1)), (2, .int a2), (3, .int a3), (4, .int x1), (5, .int 0), (6, .int a2)]) [3, 4, 5, 6, 2, 1, 0] rfl ?_
  refine m_ind (σ := Int32 × Int32) (fun n z => I18 n z.1 z.2) (fun z => gW cy ad ln v ou) 18 (fun z => [(0, .ref (ad 1)), (1, .ref (ad r1)), (2, .int a2), (3, .int a3), (4, .int x1), (5, .int z.1), (6, .int z.2)]) ?_ n0 (0, a2) h0
  intro n z hi ih
  obtain ⟨x2, x3⟩ := z
  have h := hI n x2 x3 hi
  show mW _ _ _ _ _ _ _ _ _ _ _ _ _ _ _ _ (gW cy ad ln v ou) 18 [(0, .ref (ad 1)), (1, .ref (ad r1)), (2, .int a2), (3, .int a3), (4, .int x1), (5, .int x2), (6, .int x3)] []
  refine m_iload C dX1_endOfPart_18 6 rfl ?_
  refine m_iload C dX1_endOfPart_20 4 rfl ?_
  refine m_icmp_ge (tgt := 104) C dX1_endOfPart_22 (by decide) (fun c4 => ?_) (fun c4 => ?_)
  · have h := h.1 c4
    refine m_iload C dX1_endOfPart_104 4 rfl ?_
    exact m_iret C dX1_endOfPart_106 (Nat.le_of_ble_eq_true rfl) (Nat.le_of_ble_eq_true rfl) ⟨_, _, rfl, h, rfl⟩
  · have h := h.2 c4
    refine m_iload C dX1_endOfPart_25 5 rfl ?_
    refine m_iconst (v := 1) C dX1_endOfPart_27 (by decide) ?_
    refine m_callS C (p_X1_turned l D cy ad ln v ou x2 1) (va_cwS 2 C.2.2.2.2.1 gX1_endOfPart_X1_turned rfl rfl rfl (by decide +kernel) ⟨Nat.le_of_ble_eq_true rfl, Nat.le_of_ble_eq_true rfl⟩) rfl rfl (Nat.le_of_ble_eq_true rfl) dX1_endOfPart_28 ⟨by decide, by decide⟩ (fun r w1 h1 => ?_)
    obtain ⟨rfl, rfl⟩ := h1
    refine mW.eq (st' := [.int (ptn x2 1)]) rfl rfl rfl rfl ?_
    refine m_aload_n C dX1_endOfPart_31 rfl 1 rfl ?_
    refine m_iload C dX1_endOfPart_32 6 rfl ?_
    obtain ⟨b5, h⟩ := h
    refine m_bald C r1 (gp_B hr1) b5 dX1_endOfPart_34 ?_
    refine m_callS C (p_X1_mark l D cy ad ln v ou (v r1 x3.toNatClampNeg)) (va_cwS 1 C.2.2.2.2.1 gX1_endOfPart_X1_mark rfl rfl rfl (by decide +kernel) ⟨Nat.le_of_ble_eq_true rfl, Nat.le_of_ble_eq_true rfl⟩) rfl rfl (Nat.le_of_ble_eq_true rfl) dX1_endOfPart_35 ⟨by decide, by decide⟩ (fun r w1 h1 => ?_)
    obtain ⟨rfl, rfl⟩ := h1
    refine mW.eq (st' := [.int (pmk ((v r1 x3.toNatClampNeg) &&& 255)), .int (ptn x2 1)]) rfl rfl rfl rfl ?_
    refine m_ixor C dX1_endOfPart_38 ?_
    refine m_topi (fun x6 ex6 => ?_)
    have h := h x6 ex6
    refine m_istore (lv' := [(5, .int x6), (0, .ref (ad 1)), (1, .ref (ad r1)), (2, .int a2), (3, .int a3), (4, .int x1), (6, .int x3)]) C dX1_endOfPart_39 (by decide) rfl ?_
    refine m_iload C dX1_endOfPart_41 6 rfl ?_
    refine m_iload_n C dX1_endOfPart_43 rfl 3 rfl ?_
    refine m_isub C dX1_endOfPart_44 ?_
    refine m_bipush (v := 8) C dX1_endOfPart_45 (by decide) ?_
    obtain ⟨b8, h⟩ := h
    refine m_join (P := 70) (wM := gW cy ad ln v ou) (lvM := [(5, .int (if (x3 - a2) < 8 then x6 else x6 ^^^ (ptn (pmk ((v r1 (x3 - 8).toNatClampNeg) &&& 255)) 8))), (0, .ref (ad 1)), (1, .ref (ad r1)), (2, .int a2), (3, .int a3), (4, .int x1), (6, .int x3)]) (stM := []) ?_ (fun hJ70_9 => ?_)
    · refine m_iload C dX1_endOfPart_70 6 rfl ?_
      refine m_iload_n C dX1_endOfPart_72 rfl 3 rfl ?_
      refine m_isub C dX1_endOfPart_73 ?_
      refine m_iconst (v := 1) C dX1_endOfPart_74 (by decide) ?_
      refine m_iadd C dX1_endOfPart_75 ?_
      refine m_aload_n C dX1_endOfPart_76 rfl 1 rfl ?_
      refine m_get (T := TX1) (N := 3) C hiX1_endOfPart_X1 1 gp_1 rfl 1 (by decide) (by decide +kernel) rfl dX1_endOfPart_77 ?_
      refine m_icmp_lt (tgt := 98) C dX1_endOfPart_80 (by decide) (fun c10 => ?_) (fun c10 => ?_)
      · have h := h.1 c10
        refine m_iinc (lv' := [(6, .int (x3 + 1)), (5, .int (if (x3 - a2) < 8 then x6 else x6 ^^^ (ptn (pmk ((v r1 (x3 - 8).toNatClampNeg) &&& 255)) 8))), (0, .ref (ad 1)), (1, .ref (ad r1)), (2, .int a2), (3, .int a3), (4, .int x1)]) C dX1_endOfPart_98 (k := 6) rfl rfl (by decide) rfl ?_
        refine m_goto (tgt := 18) C dX1_endOfPart_101 (by decide) ?_
        obtain ⟨n11, hn, h⟩ := h
        exact mW.sub [2, 3, 4, 5, 6, 1, 0] rfl (ih n11 ((if (x3 - a2) < 8 then x6 else x6 ^^^ (ptn (pmk ((v r1 (x3 - 8).toNatClampNeg) &&& 255)) 8)), (x3 + 1)) hn h)
      · have h := h.2 c10
        refine m_iload C dX1_endOfPart_83 0 rfl ?_
        refine m_aload_n C dX1_endOfPart_85 rfl 1 rfl ?_
        refine m_get (T := TX1) (N := 3) C hiX1_endOfPart_X1 1 gp_1 rfl 0 (by decide) (by decide +kernel) rfl dX1_endOfPart_86 ?_
        refine m_iand C dX1_endOfPart_89 ?_
        refine m_if_ne (tgt := 98) C dX1_endOfPart_90 (by decide) (fun c12 => ?_) (fun c12 => ?_)
        · have h := h.2 c12
          refine m_iinc (lv' := [(6, .int (x3 + 1)), (5, .int (if (x3 - a2) < 8 then x6 else x6 ^^^ (ptn (pmk ((v r1 (x3 - 8).toNatClampNeg) &&& 255)) 8))), (0, .ref (ad 1)), (1, .ref (ad r1)), (2, .int a2), (3, .int a3), (4, .int x1)]) C dX1_endOfPart_98 (k := 6) rfl rfl (by decide) rfl ?_
          refine m_goto (tgt := 18) C dX1_endOfPart_101 (by decide) ?_
          obtain ⟨n13, hn, h⟩ := h
          exact mW.sub [2, 3, 4, 5, 6, 1, 0] rfl (ih n13 ((if (x3 - a2) < 8 then x6 else x6 ^^^ (ptn (pmk ((v r1 (x3 - 8).toNatClampNeg) &&& 255)) 8)), (x3 + 1)) hn h)
        · have h := h.1 c12
          refine m_iload C dX1_endOfPart_93 6 rfl ?_
          refine m_iconst (v := 1) C dX1_endOfPart_95 (by decide) ?_
          refine m_iadd C dX1_endOfPart_96 ?_
          exact m_iret C dX1_endOfPart_97 (Nat.le_of_ble_eq_true rfl) (Nat.le_of_ble_eq_true rfl) ⟨_, _, rfl, h, rfl⟩
    · refine m_icmp_lt (tgt := 70) C dX1_endOfPart_47 (by decide) (fun c7 => ?_) (fun c7 => ?_)
      · refine mW.sub (lv' := [(5, .int x6), (0, .ref (ad 1)), (1, .ref (ad r1)), (2, .int a2), (3, .int a3), (4, .int x1), (6, .int x3)]) [0, 1, 2, 3, 4, 5, 6] rfl ?_
        exact mW.eq rfl (by simp only [if_pos c7]) rfl rfl hJ70_9
      · refine m_iload C dX1_endOfPart_50 0 rfl ?_
        refine m_aload_n C dX1_endOfPart_52 rfl 2 rfl ?_
        refine m_iload C dX1_endOfPart_53 6 rfl ?_
        refine m_bipush (v := 8) C dX1_endOfPart_55 (by decide) ?_
        refine m_isub C dX1_endOfPart_57 ?_
        refine m_bald C r1 (gp_B hr1) (b8 c7) dX1_endOfPart_58 ?_
        refine m_callS C (p_X1_mark l D cy ad ln v ou (v r1 (x3 - 8).toNatClampNeg)) (va_cwS 1 C.2.2.2.2.1 gX1_endOfPart_X1_mark rfl rfl rfl (by decide +kernel) ⟨Nat.le_of_ble_eq_true rfl, Nat.le_of_ble_eq_true rfl⟩) rfl rfl (Nat.le_of_ble_eq_true rfl) dX1_endOfPart_59 ⟨by decide, by decide⟩ (fun r w1 h1 => ?_)
        obtain ⟨rfl, rfl⟩ := h1
        refine mW.eq (st' := [.int (pmk ((v r1 (x3 - 8).toNatClampNeg) &&& 255)), .int x6]) rfl rfl rfl rfl ?_
        refine m_bipush (v := 8) C dX1_endOfPart_62 (by decide) ?_
        refine m_callS C (p_X1_turned l D cy ad ln v ou (pmk ((v r1 (x3 - 8).toNatClampNeg) &&& 255)) 8) (va_cwS 2 C.2.2.2.2.1 gX1_endOfPart_X1_turned rfl rfl rfl (by decide +kernel) ⟨Nat.le_of_ble_eq_true rfl, Nat.le_of_ble_eq_true rfl⟩) rfl rfl (Nat.le_of_ble_eq_true rfl) dX1_endOfPart_64 ⟨by decide, by decide⟩ (fun r w1 h1 => ?_)
        obtain ⟨rfl, rfl⟩ := h1
        refine mW.eq (st' := [.int (ptn (pmk ((v r1 (x3 - 8).toNatClampNeg) &&& 255)) 8), .int x6]) rfl rfl rfl rfl ?_
        refine m_ixor C dX1_endOfPart_67 ?_
        refine m_istore (lv' := [(5, .int (x6 ^^^ (ptn (pmk ((v r1 (x3 - 8).toNatClampNeg) &&& 255)) 8))), (0, .ref (ad 1)), (1, .ref (ad r1)), (2, .int a2), (3, .int a3), (4, .int x1), (6, .int x3)]) C dX1_endOfPart_68 (by decide) rfl ?_
        refine mW.sub (lv' := [(5, .int (x6 ^^^ (ptn (pmk ((v r1 (x3 - 8).toNatClampNeg) &&& 255)) 8))), (0, .ref (ad 1)), (1, .ref (ad r1)), (2, .int a2), (3, .int a3), (4, .int x1), (6, .int x3)]) [0, 1, 2, 3, 4, 5, 6] rfl ?_
        exact mW.eq rfl (by simp only [if_neg c7]) rfl rfl hJ70_9
