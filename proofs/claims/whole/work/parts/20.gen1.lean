theorem hiX2_has_X2 : ∀ w ∈ wsX20, w ∈ wsX2_has := by decide +kernel
def wp_X2_has (ln : Nat → Nat) (v : gV) (a1 : Int32) (post : Int32 → gV → Prop) : Prop :=
  ((¬ (a1 < 0)) → (¬ (400 ≤ a1)) → vp_in a1 (ln 8)) ∧ (narrow .boolean (.int (if a1 < 0 then 0 else if 400 ≤ a1 then 0 else if (v 8 a1.toNatClampNeg) ≤ 0 then 0 else 1)) = .int (if a1 < 0 then 0 else if 400 ≤ a1 then 0 else if (v 8 a1.toNatClampNeg) ≤ 0 then 0 else 1) ∧ post (if a1 < 0 then 0 else if 400 ≤ a1 then 0 else if (v 8 a1.toNatClampNeg) ≤ 0 then 0 else 1) v)
set_option maxHeartbeats 4000000 in
set_option maxRecDepth 100000 in
theorem s_X2_has (l : Launch) (D : va_G) (cy : Nat → ClassId) (ad ln : Nat → Nat) (v : gV) (ou : Nat → Int64) (a1 : Int32) {post : Int32 → gV → Prop} (h : wp_X2_has ln v a1 post) : mM l D cy yX2_has wsX2_has 1 0 0 [.ref (ad 2), .int a1] (gW cy ad ln v ou) (fun r w1 => ∃ (x1 : Int32) (v1 : gV), r = some (.int x1) ∧ post x1 v1 ∧ w1 = gW cy ad ln v1 ou) := by
  unfold wp_X2_has at h
  refine mM.of (cc := cX2_has) (nL := 2) (ret0 := (some .boolean)) (by decide +kernel) rfl (Nat.le_of_ble_eq_true rfl) ?_
  intro p e s m args below meth c A C hini
  refine mW.sub (lv' := [(0, .ref (ad 2)), (1, .int a1)]) [0, 1] rfl ?_
  refine m_iload_n C dX2_has_0 rfl 1 rfl ?_
  obtain ⟨b3, h⟩ := h
  refine m_join (P := 25) (wM := gW cy ad ln v ou) (lvM := [(0, .ref (ad 2)), (1, .int a1)]) (stM := [.int (if a1 < 0 then 0 else if 400 ≤ a1 then 0 else if (v 8 a1.toNatClampNeg) ≤ 0 then 0 else 1)]) ?_ (fun hJ25_5 => ?_)
  · obtain ⟨hz, h⟩ := h
    exact m_zret C dX2_has_25 (Nat.le_of_ble_eq_true rfl) (Nat.le_of_ble_eq_true rfl) hz ⟨_, _, rfl, h, rfl⟩
  · refine m_if_lt (tgt := 24) C dX2_has_1 (by decide) (fun c1 => ?_) (fun c1 => ?_)
    · refine m_iconst (v := 0) C dX2_has_24 (by decide) ?_
      refine mW.sub (lv' := [(0, .ref (ad 2)), (1, .int a1)]) [0, 1] rfl ?_
      exact mW.eq rfl rfl (by simp only [if_pos c1]) rfl hJ25_5
    · refine m_iload_n C dX2_has_4 rfl 1 rfl ?_
      refine m_sipush (v := 400) C dX2_has_5 (by decide) ?_
      refine m_icmp_ge (tgt := 24) C dX2_has_8 (by decide) (fun c2 => ?_) (fun c2 => ?_)
      · refine m_iconst (v := 0) C dX2_has_24 (by decide) ?_
        refine mW.sub (lv' := [(0, .ref (ad 2)), (1, .int a1)]) [0, 1] rfl ?_
        exact mW.eq rfl rfl (by simp only [if_neg c1, if_pos c2]) rfl hJ25_5
      · refine m_aload_n C dX2_has_11 rfl 0 rfl ?_
        refine m_get (T := TX2) (N := 9) C hiX2_has_X2 2 gp_2 rfl 0 (by decide) (by decide +kernel) rfl dX2_has_12 ?_
        refine m_iload_n C dX2_has_15 rfl 1 rfl ?_
        refine m_iald C 8 (gp_I (by decide)) (b3 c1 c2) dX2_has_16 ?_
        refine m_if_le (tgt := 24) C dX2_has_17 (by decide) (fun c4 => ?_) (fun c4 => ?_)
        · refine m_iconst (v := 0) C dX2_has_24 (by decide) ?_
          refine mW.sub (lv' := [(0, .ref (ad 2)), (1, .int a1)]) [0, 1] rfl ?_
          exact mW.eq rfl rfl (by simp only [if_neg c1, if_neg c2, if_pos c4]) rfl hJ25_5
        · refine m_iconst (v := 1) C dX2_has_20 (by decide) ?_
          refine m_goto (tgt := 25) C dX2_has_21 (by decide) ?_
          refine mW.sub (lv' := [(0, .ref (ad 2)), (1, .int a1)]) [0, 1] rfl ?_
          exact mW.eq rfl rfl (by simp only [if_neg c1, if_neg c2, if_neg c4]) rfl hJ25_5
def wp_X1_mark (ln : Nat → Nat) (v : gV) (a1 : Int32) (post : Int32 → gV → Prop) : Prop :=
  ∀ x1 : Int32, x1 = (((a1 &&& 255) + 1) * (-1640531527)) → (post (x1 ^^^ (ius x1 15)) v)
set_option maxHeartbeats 4000000 in
set_option maxRecDepth 100000 in
theorem s_X1_mark (l : Launch) (D : va_G) (cy : Nat → ClassId) (ad ln : Nat → Nat) (v : gV) (ou : Nat → Int64) (a1 : Int32) {post : Int32 → gV → Prop} (h : wp_X1_mark ln v a1 post) : mM l D cy yX1_mark wsX1_mark 1 0 0 [.int a1] (gW cy ad ln v ou) (fun r w1 => ∃ (x1 : Int32) (v1 : gV), r = some (.int x1) ∧ post x1 v1 ∧ w1 = gW cy ad ln v1 ou) := by
  unfold wp_X1_mark at h
  refine mM.of (cc := cX1_mark) (nL := 2) (ret0 := (some .int)) (by decide +kernel) rfl (Nat.le_of_ble_eq_true rfl) ?_
  intro p e s m args below meth c A C hini
  refine mW.sub (lv' := [(0, .int a1)]) [0] rfl ?_
  refine m_iload_n C dX1_mark_0 rfl 0 rfl ?_
  refine m_sipush (v := 255) C dX1_mark_1 (by decide) ?_
  refine m_iand C dX1_mark_4 ?_
  refine m_iconst (v := 1) C dX1_mark_5 (by decide) ?_
  refine m_iadd C dX1_mark_6 ?_
  refine m_ldc (v := (-1640531527)) C (C.2.2.2.2.1 (.constant RX1 32 (-1640531527)) (by decide +kernel)) dX1_mark_7 ?_
  refine m_imul C dX1_mark_9 ?_
  refine m_topi (fun x1 ex1 => ?_)
  have h := h x1 ex1
  refine m_istore_n (lv' := [(1, .int x1), (0, .int a1)]) C dX1_mark_10 rfl (by decide) rfl ?_
  refine m_iload_n C dX1_mark_11 rfl 0 rfl ?_
  refine m_iload_n C dX1_mark_12 rfl 0 rfl ?_
  refine m_bipush (v := 15) C dX1_mark_13 (by decide) ?_
  refine m_iushr (v := ius x1 15) C dX1_mark_15 rfl ?_
  refine m_ixor C dX1_mark_16 ?_
  exact m_iret C dX1_mark_17 (Nat.le_of_ble_eq_true rfl) (Nat.le_of_ble_eq_true rfl) ⟨_, _, rfl, h, rfl⟩
def wp_X1_turned (ln : Nat → Nat) (v : gV) (a1 : Int32) (a2 : Int32) (post : Int32 → gV → Prop) : Prop :=
  post ((a1 <<< (a2 &&& 31)) ||| (ius a1 (32 - a2))) v
set_option maxHeartbeats 4000000 in
set_option maxRecDepth 100000 in
theorem s_X1_turned (l : Launch) (D : va_G) (cy : Nat → ClassId) (ad ln : Nat → Nat) (v : gV) (ou : Nat → Int64) (a1 : Int32) (a2 : Int32) {post : Int32 → gV → Prop} (h : wp_X1_turned ln v a1 a2 post) : mM l D cy yX1_turned wsX1_turned 1 0 0 [.int a1, .int a2] (gW cy ad ln v ou) (fun r w1 => ∃ (x1 : Int32) (v1 : gV), r = some (.int x1) ∧ post x1 v1 ∧ w1 = gW cy ad ln v1 ou) := by
  unfold wp_X1_turned at h
  refine mM.of (cc := cX1_turned) (nL := 2) (ret0 := (some .int)) (by decide +kernel) rfl (Nat.le_of_ble_eq_true rfl) ?_
  intro p e s m args below meth c A C hini
  refine mW.sub (lv' := [(0, .int a1), (1, .int a2)]) [0, 1] rfl ?_
  refine m_iload_n C dX1_turned_0 rfl 0 rfl ?_
  refine m_iload_n C dX1_turned_1 rfl 1 rfl ?_
  refine m_ishl C dX1_turned_2 ?_
  refine m_iload_n C dX1_turned_3 rfl 0 rfl ?_
  refine m_bipush (v := 32) C dX1_turned_4 (by decide) ?_
  refine m_iload_n C dX1_turned_6 rfl 1 rfl ?_
  refine m_isub C dX1_turned_7 ?_
  refine m_iushr (v := ius a1 (32 - a2)) C dX1_turned_8 rfl ?_
  refine m_ior C dX1_turned_9 ?_
  exact m_iret C dX1_turned_10 (Nat.le_of_ble_eq_true rfl) (Nat.le_of_ble_eq_true rfl) ⟨_, _, rfl, h, rfl⟩
def wp_X4_in (ln : Nat → Nat) (v : gV) (a1 : Int32) (a2 : Int32) (a3 : Int32) (post : Int32 → gV → Prop) : Prop :=
  (narrow .boolean (.int (if a1 < a2 then 0 else if a3 < a1 then 0 else 1)) = .int (if a1 < a2 then 0 else if a3 < a1 then 0 else 1) ∧ post (if a1 < a2 then 0 else if a3 < a1 then 0 else 1) v)
set_option maxHeartbeats 4000000 in
set_option maxRecDepth 100000 in
theorem s_X4_in (l : Launch) (D : va_G) (cy : Nat → ClassId) (ad ln : Nat → Nat) (v : gV) (ou : Nat → Int64) (a1 : Int32) (a2 : Int32) (a3 : Int32) {post : Int32 → gV → Prop} (h : wp_X4_in ln v a1 a2 a3 post) : mM l D cy yX4_in wsX4_in 1 0 0 [.int a1, .int a2, .int a3] (gW cy ad ln v ou) (fun r w1 => ∃ (x1 : Int32) (v1 : gV), r = some (.int x1) ∧ post x1 v1 ∧ w1 = gW cy ad ln v1 ou) := by
  unfold wp_X4_in at h
  refine mM.of (cc := cX4_in) (nL := 3) (ret0 := (some .boolean)) (by decide +kernel) rfl (Nat.le_of_ble_eq_true rfl) ?_
  intro p e s m args below meth c A C hini
  refine mW.sub (lv' := [(0, .int a1), (1, .int a2), (2, .int a3)]) [0, 1, 2] rfl ?_
  refine m_iload_n C dX4_in_0 rfl 0 rfl ?_
  refine m_iload_n C dX4_in_1 rfl 1 rfl ?_
  refine m_join (P := 15) (wM := gW cy ad ln v ou) (lvM := [(0, .int a1), (1, .int a2), (2, .int a3)]) (stM := [.int (if a1 < a2 then 0 else if a3 < a1 then 0 else 1)]) ?_ (fun hJ15_3 => ?_)
  · obtain ⟨hz, h⟩ := h
    exact m_zret C dX4_in_15 (Nat.le_of_ble_eq_true rfl) (Nat.le_of_ble_eq_true rfl) hz ⟨_, _, rfl, h, rfl⟩
  · refine m_icmp_lt (tgt := 14) C dX4_in_2 (by decide) (fun c1 => ?_) (fun c1 => ?_)
    · refine m_iconst (v := 0) C dX4_in_14 (by decide) ?_
      refine mW.sub (lv' := [(0, .int a1), (1, .int a2), (2, .int a3)]) [0, 1, 2] rfl ?_
      exact mW.eq rfl rfl (by simp only [if_pos c1]) rfl hJ15_3
    · refine m_iload_n C dX4_in_5 rfl 0 rfl ?_
      refine m_iload_n C dX4_in_6 rfl 2 rfl ?_
      refine m_icmp_gt (tgt := 14) C dX4_in_7 (by decide) (fun c2 => ?_) (fun c2 => ?_)
      · refine m_iconst (v := 0) C dX4_in_14 (by decide) ?_
        refine mW.sub (lv' := [(0, .int a1), (1, .int a2), (2, .int a3)]) [0, 1, 2] rfl ?_
        exact mW.eq rfl rfl (by simp only [if_neg c1, if_pos c2]) rfl hJ15_3
      · refine m_iconst (v := 1) C dX4_in_10 (by decide) ?_
        refine m_goto (tgt := 15) C dX4_in_11 (by decide) ?_
        refine mW.sub (lv' := [(0, .int a1), (1, .int a2), (2, .int a3)]) [0, 1, 2] rfl ?_
        exact mW.eq rfl rfl (by simp only [if_neg c1, if_neg c2]) rfl hJ15_3
theorem hiX4_refuse_X4 : ∀ w ∈ wsX40, w ∈ wsX4_refuse := by decide +kernel
def wp_X4_refuse (ln : Nat → Nat) (v : gV) (a1 : Int32) (a2 : Int32) (a3 : Int32) (post : Int32 → gV → Prop) : Prop :=
  (∀ v5 : gV, v5 = va_up v 46 (upd (v 46) 0 (if a1 = 0 then if a2 = 0 then if a3 = 0 then 0 else 3 else 2 else 1)) → ((narrow .boolean (.int (if (v5 46 0) ≤ 0 then 0 else 1)) = .int (if (v5 46 0) ≤ 0 then 0 else 1) ∧ post (if (v5 46 0) ≤ 0 then 0 else 1) v5)))
set_option maxHeartbeats 4000000 in
set_option maxRecDepth 100000 in
theorem s_X4_refuse (l : Launch) (D : va_G) (cy : Nat → ClassId) (ad ln : Nat → Nat) (v : gV) (ou : Nat → Int64) (a1 : Int32) (a2 : Int32) (a3 : Int32) {post : Int32 → gV → Prop} (h : wp_X4_refuse ln v a1 a2 a3 post) : mM l D cy yX4_refuse wsX4_refuse 1 0 0 [.ref (ad 46), .int a1, .int a2, .int a3] (gW cy ad ln v ou) (fun r w1 => ∃ (x1 : Int32) (v1 : gV), r = some (.int x1) ∧ post x1 v1 ∧ w1 = gW cy ad ln v1 ou) := by
  unfold wp_X4_refuse at h
  refine mM.of (cc := cX4_refuse) (nL := 4) (ret0 := (some .boolean)) (by decide +kernel) rfl (Nat.le_of_ble_eq_true rfl) ?_
  intro p e s m args below meth c A C hini
  refine mW.sub (lv' := [(0, .ref (ad 46)), (1, .int a1), (2, .int a2), (3, .int a3)]) [0, 1, 2, 3] rfl ?_
  refine m_aload_n C dX4_refuse_0 rfl 0 rfl ?_
  refine m_iload_n C dX4_refuse_1 rfl 1 rfl ?_
  refine m_join (P := 26) (wM := gW cy ad ln v ou) (lvM := [(0, .ref (ad 46)), (1, .int a1), (2, .int a2), (3, .int a3)]) (stM := [.int (if a1 = 0 then if a2 = 0 then if a3 = 0 then 0 else 3 else 2 else 1), .ref (ad 46)]) ?_ (fun hJ26_4 => ?_)
  · obtain ⟨v5, ev5⟩ : ∃ z : gV, z = va_up v 46 (upd (v 46) 0 (if a1 = 0 then if a2 = 0 then if a3 = 0 then 0 else 3 else 2 else 1)) := ⟨_, rfl⟩
    have h := h v5 ev5
    refine m_put (w' := gW cy ad ln v5 ou) (T := TX4) (N := 19) C hiX4_refuse_X4 tyX4 tyX4_ok nmX4 46 gp_46 rfl 0 (by decide) (by decide +kernel) rfl rfl rfl (Nat.le_of_ble_eq_true rfl) dX4_refuse_26 (by rw [ev5]; exact gW_set (k := 46) (by decide) rfl) ?_
    refine m_aload_n C dX4_refuse_29 rfl 0 rfl ?_
    refine m_get (T := TX4) (N := 19) C hiX4_refuse_X4 46 gp_46 rfl 0 (by decide) (by decide +kernel) rfl dX4_refuse_30 ?_
    refine m_join (P := 41) (wM := gW cy ad ln v5 ou) (lvM := [(0, .ref (ad 46)), (1, .int a1), (2, .int a2), (3, .int a3)]) (stM := [.int (if (v5 46 0) ≤ 0 then 0 else 1)]) ?_ (fun hJ41_7 => ?_)
    · obtain ⟨hz, h⟩ := h
      exact m_zret C dX4_refuse_41 (Nat.le_of_ble_eq_true rfl) (Nat.le_of_ble_eq_true rfl) hz ⟨_, _, rfl, h, rfl⟩
    · refine m_if_le (tgt := 40) C dX4_refuse_33 (by decide) (fun c6 => ?_) (fun c6 => ?_)
      · refine m_iconst (v := 0) C dX4_refuse_40 (by decide) ?_
        refine mW.sub (lv' := [(0, .ref (ad 46)), (1, .int a1), (2, .int a2), (3, .int a3)]) [0, 1, 2, 3] rfl ?_
        exact mW.eq rfl rfl (by simp only [if_pos c6]) rfl hJ41_7
      · refine m_iconst (v := 1) C dX4_refuse_36 (by decide) ?_
        refine m_goto (tgt := 41) C dX4_refuse_37 (by decide) ?_
        refine mW.sub (lv' := [(0, .ref (ad 46)), (1, .int a1), (2, .int a2), (3, .int a3)]) [0, 1, 2, 3] rfl ?_
        exact mW.eq rfl rfl (by simp only [if_neg c6]) rfl hJ41_7
  · refine m_if_eq (tgt := 9) C dX4_refuse_2 (by decide) (fun c1 => ?_) (fun c1 => ?_)
    · refine m_iload_n C dX4_refuse_9 rfl 2 rfl ?_
      refine m_if_eq (tgt := 17) C dX4_refuse_10 (by decide) (fun c2 => ?_) (fun c2 => ?_)
      · refine m_iload_n C dX4_refuse_17 rfl 3 rfl ?_
        refine m_if_eq (tgt := 25) C dX4_refuse_18 (by decide) (fun c3 => ?_) (fun c3 => ?_)
        · refine m_iconst (v := 0) C dX4_refuse_25 (by decide) ?_
          refine mW.sub (lv' := [(0, .ref (ad 46)), (1, .int a1), (2, .int a2), (3, .int a3)]) [0, 1, 2, 3] rfl ?_
          exact mW.eq rfl rfl (by simp only [if_pos c1, if_pos c2, if_pos c3]) rfl hJ26_4
        · refine m_iconst (v := 3) C dX4_refuse_21 (by decide) ?_
          refine m_goto (tgt := 26) C dX4_refuse_22 (by decide) ?_
          refine mW.sub (lv' := [(0, .ref (ad 46)), (1, .int a1), (2, .int a2), (3, .int a3)]) [0, 1, 2, 3] rfl ?_
          exact mW.eq rfl rfl (by simp only [if_pos c1, if_pos c2, if_neg c3]) rfl hJ26_4
      · refine m_iconst (v := 2) C dX4_refuse_13 (by decide) ?_
        refine m_goto (tgt := 26) C dX4_refuse_14 (by decide) ?_
        refine mW.sub (lv' := [(0, .ref (ad 46)), (1, .int a1), (2, .int a2), (3, .int a3)]) [0, 1, 2, 3] rfl ?_
        exact mW.eq rfl rfl (by simp only [if_pos c1, if_neg c2]) rfl hJ26_4
    · refine m_iconst (v := 1) C dX4_refuse_5 (by decide) ?_
      refine m_goto (tgt := 26) C dX4_refuse_6 (by decide) ?_
      refine mW.sub (lv' := [(0, .ref (ad 46)), (1, .int a1), (2, .int a2), (3, .int a3)]) [0, 1, 2, 3] rfl ?_
      exact mW.eq rfl rfl (by simp only [if_neg c1]) rfl hJ26_4
theorem hiX4_thrown_X4 : ∀ w ∈ wsX40, w ∈ wsX4_thrown := by decide +kernel
def wp_X4_thrown (ln : Nat → Nat) (v : gV) (post : Int32 → gV → Prop) : Prop :=
  post (v 46 0) v
set_option maxHeartbeats 4000000 in
set_option maxRecDepth 100000 in
theorem s_X4_thrown (l : Launch) (D : va_G) (cy : Nat → ClassId) (ad ln : Nat → Nat) (v : gV) (ou : Nat → Int64) {post : Int32 → gV → Prop} (h : wp_X4_thrown ln v  post) : mM l D cy yX4_thrown wsX4_thrown 1 0 0 [.ref (ad 46)] (gW cy ad ln v ou) (fun r w1 => ∃ (x1 : Int32) (v1 : gV), r = some (.int x1) ∧ post x1 v1 ∧ w1 = gW cy ad ln v1 ou) := by
  unfold wp_X4_thrown at h
  refine mM.of (cc := cX4_thrown) (nL := 1) (ret0 := (some .int)) (by decide +kernel) rfl (Nat.le_of_ble_eq_true rfl) ?_
  intro p e s m args below meth c A C hini
  refine mW.sub (lv' := [(0, .ref (ad 46))]) [0] rfl ?_
  refine m_aload_n C dX4_thrown_0 rfl 0 rfl ?_
  refine m_get (T := TX4) (N := 19) C hiX4_thrown_X4 46 gp_46 rfl 0 (by decide) (by decide +kernel) rfl dX4_thrown_1 ?_
  exact m_iret C dX4_thrown_4 (Nat.le_of_ble_eq_true rfl) (Nat.le_of_ble_eq_true rfl) ⟨_, _, rfl, h, rfl⟩
def wp_X4_mark (ln : Nat → Nat) (v : gV) (a1 : Int32) (post : Int32 → gV → Prop) : Prop :=
  post (((a1 + 1) * (-1640531527)) ^^^ (ius ((a1 + 1) * (-1640531527)) 15)) v
set_option maxHeartbeats 4000000 in
set_option maxRecDepth 100000 in
theorem s_X4_mark (l : Launch) (D : va_G) (cy : Nat → ClassId) (ad ln : Nat → Nat) (v : gV) (ou : Nat → Int64) (a1 : Int32) {post : Int32 → gV → Prop} (h : wp_X4_mark ln v a1 post) : mM l D cy yX4_mark wsX4_mark 1 0 0 [.int a1] (gW cy ad ln v ou) (fun r w1 => ∃ (x1 : Int32) (v1 : gV), r = some (.int x1) ∧ post x1 v1 ∧ w1 = gW cy ad ln v1 ou) := by
  unfold wp_X4_mark at h
  refine mM.of (cc := cX4_mark) (nL := 2) (ret0 := (some .int)) (by decide +kernel) rfl (Nat.le_of_ble_eq_true rfl) ?_
  intro p e s m args below meth c A C hini
  refine mW.sub (lv' := [(0, .int a1)]) [0] rfl ?_
  refine m_iload_n C dX4_mark_0 rfl 0 rfl ?_
  refine m_iconst (v := 1) C dX4_mark_1 (by decide) ?_
  refine m_iadd C dX4_mark_2 ?_
  refine m_ldc (v := (-1640531527)) C (C.2.2.2.2.1 (.constant RX4 71 (-1640531527)) (by decide +kernel)) dX4_mark_3 ?_
  refine m_imul C dX4_mark_5 ?_
  refine m_istore_n (lv' := [(1, .int ((a1 + 1) * (-1640531527))), (0, .int a1)]) C dX4_mark_6 rfl (by decide) rfl ?_
  refine m_iload_n C dX4_mark_7 rfl 0 rfl ?_
  refine m_iload_n C dX4_mark_8 rfl 0 rfl ?_
  refine m_bipush (v := 15) C dX4_mark_9 (by decide) ?_
  refine m_iushr (v := ius ((a1 + 1) * (-1640531527)) 15) C dX4_mark_11 rfl ?_
  refine m_ixor C dX4_mark_12 ?_
  exact m_iret C dX4_mark_13 (Nat.le_of_ble_eq_true rfl) (Nat.le_of_ble_eq_true rfl) ⟨_, _, rfl, h, rfl⟩
theorem hiX0_empty_X0 : ∀ w ∈ wsX00, w ∈ wsX0_empty := by decide +kernel
def wp_X0_empty (ln : Nat → Nat) (v : gV) (P : Nat) (post : gV → Prop) : Prop :=
  ∀ v1 : gV, v1 = va_up v P (upd (v P) 1 0) → (∀ v2 : gV, v2 = va_up v1 P (upd (v1 P) 2 0) → (post v2))
set_option maxHeartbeats 4000000 in
set_option maxRecDepth 100000 in
theorem s_X0_empty (l : Launch) (D : va_G) (cy : Nat → ClassId) (ad ln : Nat → Nat) (v : gV) (ou : Nat → Int64) (P : Nat) (hP1 : 14 ≤ P) (hP2 : P < 30) {post : gV → Prop} (h : wp_X0_empty ln v P post) : mM l D cy yX0_empty wsX0_empty 1 0 0 [.ref (ad P)] (gW cy ad ln v ou) (fun r w1 => ∃ v1 : gV, r = none ∧ post v1 ∧ w1 = gW cy ad ln v1 ou) := by
  unfold wp_X0_empty at h
  refine mM.of (cc := cX0_empty) (nL := 1) (ret0 := none) (by decide +kernel) rfl (Nat.le_of_ble_eq_true rfl) ?_
  intro p e s m args below meth c A C hini
  refine mW.sub (lv' := [(0, .ref (ad P))]) [0] rfl ?_
  refine m_aload_n C dX0_empty_0 rfl 0 rfl ?_
  refine m_iconst (v := 0) C dX0_empty_1 (by decide) ?_
  obtain ⟨v1, ev1⟩ : ∃ z : gV, z = va_up v P (upd (v P) 1 0) := ⟨_, rfl⟩
  have h := h v1 ev1
  refine m_put (w' := gW cy ad ln v1 ou) (T := TX0) (N := 3) C hiX0_empty_X0 tyX0 tyX0_ok nmX0 P (gp_C hP1 hP2) rfl 1 (by decide) (by decide +kernel) rfl rfl rfl (Nat.le_of_ble_eq_true rfl) dX0_empty_2 (by rw [ev1]; exact gs_C1 hP1 hP2) ?_
  refine m_aload_n C dX0_empty_5 rfl 0 rfl ?_
  refine m_iconst (v := 0) C dX0_empty_6 (by decide) ?_
  obtain ⟨v2, ev2⟩ : ∃ z : gV, z = va_up v1 P (upd (v1 P) 2 0) := ⟨_, rfl⟩
  have h := h v2 ev2
  refine m_put (w' := gW cy ad ln v2 ou) (T := TX0) (N := 3) C hiX0_empty_X0 tyX0 tyX0_ok nmX0 P (gp_C hP1 hP2) rfl 2 (by decide) (by decide +kernel) rfl rfl rfl (Nat.le_of_ble_eq_true rfl) dX0_empty_7 (by rw [ev2]; exact gs_C2 hP1 hP2) ?_
  exact m_vret C dX0_empty_10 (Nat.le_of_ble_eq_true rfl) (Nat.le_of_ble_eq_true rfl) ⟨_, rfl, h, rfl⟩
theorem hiX1_setRule_X1 : ∀ w ∈ wsX10, w ∈ wsX1_setRule := by decide +kernel
def wp_X1_setRule (ln : Nat → Nat) (v : gV) (a1 : Int32) (a2 : Int32) (a3 : Int32) (post : gV → Prop) : Prop :=
  ∀ v1 : gV, v1 = va_up v 1 (upd (v 1) 0 ((1 <<< (a1 &&& 31)) - 1)) → (∀ v2 : gV, v2 = va_up v1 1 (upd (v1 1) 1 a2) → (∀ v3 : gV, v3 = va_up v2 1 (upd (v2 1) 2 a3) → (post v3)))
set_option maxHeartbeats 4000000 in
set_option maxRecDepth 100000 in
theorem s_X1_setRule (l : Launch) (D : va_G) (cy : Nat → ClassId) (ad ln : Nat → Nat) (v : gV) (ou : Nat → Int64) (a1 : Int32) (a2 : Int32) (a3 : Int32) {post : gV → Prop} (h : wp_X1_setRule ln v a1 a2 a3 post) : mM l D cy yX1_setRule wsX1_setRule 1 0 0 [.ref (ad 1), .int a1, .int a2, .int a3] (gW cy ad ln v ou) (fun r w1 => ∃ v1 : gV, r = none ∧ post v1 ∧ w1 = gW cy ad ln v1 ou) := by
  unfold wp_X1_setRule at h
  refine mM.of (cc := cX1_setRule) (nL := 4) (ret0 := none) (by decide +kernel) rfl (Nat.le_of_ble_eq_true rfl) ?_
  intro p e s m args below meth c A C hini
  refine mW.sub (lv' := [(0, .ref (ad 1)), (1, .int a1), (2, .int a2), (3, .int a3)]) [0, 1, 2, 3] rfl ?_
  refine m_aload_n C dX1_setRule_0 rfl 0 rfl ?_
  refine m_iconst (v := 1) C dX1_setRule_1 (by decide) ?_
  refine m_iload_n C dX1_setRule_2 rfl 1 rfl ?_
  refine m_ishl C dX1_setRule_3 ?_
  refine m_iconst (v := 1) C dX1_setRule_4 (by decide) ?_
  refine m_isub C dX1_setRule_5 ?_
  obtain ⟨v1, ev1⟩ : ∃ z : gV, z = va_up v 1 (upd (v 1) 0 ((1 <<< (a1 &&& 31)) - 1)) := ⟨_, rfl⟩
  have h := h v1 ev1
  refine m_put (w' := gW cy ad ln v1 ou) (T := TX1) (N := 3) C hiX1_setRule_X1 tyX1 tyX1_ok nmX1 1 gp_1 rfl 0 (by decide) (by decide +kernel) rfl rfl rfl (Nat.le_of_ble_eq_true rfl) dX1_setRule_6 (by rw [ev1]; exact gW_set (k := 1) (by decide) rfl) ?_
  refine m_aload_n C dX1_setRule_9 rfl 0 rfl ?_
  refine m_iload_n C dX1_setRule_10 rfl 2 rfl ?_
  obtain ⟨v2, ev2⟩ : ∃ z : gV, z = va_up v1 1 (upd (v1 1) 1 a2) := ⟨_, rfl⟩
  have h := h v2 ev2
  refine m_put (w' := gW cy ad ln v2 ou) (T := TX1) (N := 3) C hiX1_setRule_X1 tyX1 tyX1_ok nmX1 1 gp_1 rfl 1 (by decide) (by decide +kernel) rfl rfl rfl (Nat.le_of_ble_eq_true rfl) dX1_setRule_11 (by rw [ev2]; exact gW_set (k := 1) (by decide) rfl) ?_
  refine m_aload_n C dX1_setRule_14 rfl 0 rfl ?_
  refine m_iload_n C dX1_setRule_15 rfl 3 rfl ?_
  obtain ⟨v3, ev3⟩ : ∃ z : gV, z = va_up v2 1 (upd (v2 1) 2 a3) := ⟨_, rfl⟩
  have h := h v3 ev3
  refine m_put (w' := gW cy ad ln v3 ou) (T := TX1) (N := 3) C hiX1_setRule_X1 tyX1 tyX1_ok nmX1 1 gp_1 rfl 2 (by decide) (by decide +kernel) rfl rfl rfl (Nat.le_of_ble_eq_true rfl) dX1_setRule_16 (by rw [ev3]; exact gW_set (k := 1) (by decide) rfl) ?_
  exact m_vret C dX1_setRule_19 (Nat.le_of_ble_eq_true rfl) (Nat.le_of_ble_eq_true rfl) ⟨_, rfl, h, rfl⟩
