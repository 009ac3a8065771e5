def wp_J7_fill_53178 (ln : Nat → Nat) (v : gV) (r1 : Nat) (a2 : Int32) (post : gV → Prop) : Prop :=
  ∃ I5 : Nat → Int32 → gV → Prop, (∃ n, I5 n 0 v) ∧ ∀ (n : Nat) (x1 : Int32) (v2 : gV), I5 n x1 v2 → ((((Int32.ofNat (ln r1)) ≤ x1) → (post v2)) ∧ (¬ ((Int32.ofNat (ln r1)) ≤ x1) → (vp_in x1 (ln r1) ∧ ∀ v5 : gV, v5 = va_up v2 r1 (upd (v2 r1) x1.toNatClampNeg a2) → (∃ n', n' < n ∧ I5 n' (x1 + 1) v5))))
set_option maxHeartbeats 4000000 in
set_option maxRecDepth 100000 in
theorem s_J7_fill_53178 (l : Launch) (D : va_G) (cy : Nat → ClassId) (ad ln : Nat → Nat) (v : gV) (ou : Nat → Int64) (r1 : Nat) (a2 : Int32) (hr1 : gIs r1 = true) {post : gV → Prop} (h : wp_J7_fill_53178 ln v r1 a2 post) : mM l D cy yJ7_fill_53178 wsJ7_fill_53178 1 0 0 [.ref (ad r1), .int a2] (gW cy ad ln v ou) (fun r w1 => ∃ v1 : gV, r = none ∧ post v1 ∧ w1 = gW cy ad ln v1 ou) := by
  unfold wp_J7_fill_53178 at h
  refine mM.of (cc := cJ7_fill_53178) (nL := 4) (ret0 := none) (by decide +kernel) rfl (Nat.le_of_ble_eq_true rfl) ?_
  intro p e s m args below meth c A C hini
  refine mW.sub (lv' := [(0, .ref (ad r1)), (1, .int a2)]) [0, 1] rfl ?_
  refine m_iconst (v := 0) C dJ7_fill_53178_0 (by decide) ?_
  refine m_istore_n (lv' := [(2, .int 0), (0, .ref (ad r1)), (1, .int a2)]) C dJ7_fill_53178_1 rfl (by decide) rfl ?_
  refine m_aload_n C dJ7_fill_53178_2 rfl 1 rfl ?_
  refine m_alen C r1 0 (gp_I hr1) rfl rfl dJ7_fill_53178_3 ?_
  refine m_istore_n (lv' := [(3, .int (Int32.ofNat (ln r1))), (2, .int 0), (0, .ref (ad r1)), (1, .int a2)]) C dJ7_fill_53178_4 rfl (by decide) rfl ?_
  obtain ⟨I5, ⟨n0, h0⟩, hI⟩ := h
  refine mW.sub (lv' := [(0, .ref (ad r1)), (1, .int a2), (2, .int 0), (3, .int (Int32.ofNat (ln r1)))]) [2, 3, 1, 0] rfl ?_
  refine m_ind (σ := Int32 × gV) (fun n z => I5 n z.1 z.2) (fun z => gW cy ad ln z.2 ou) 5 (fun z => [(0, .ref (ad r1)), (1, .int a2), (2, .int z.1), (3, .int (Int32.ofNat (ln r1)))]) ?_ n0 (0, v) h0
  intro n z hi ih
  obtain ⟨x1, v2⟩ := z
  have h := hI n x1 v2 hi
  show mW _ _ _ _ _ _ _ _ _ _ _ _ _ _ _ _ (gW cy ad ln v2 ou) 5 [(0, .ref (ad r1)), (1, .int a2), (2, .int x1), (3, .int (Int32.ofNat (ln r1)))] []
  refine m_iload_n C dJ7_fill_53178_5 rfl 2 rfl ?_
  refine m_iload_n C dJ7_fill_53178_6 rfl 3 rfl ?_
  refine m_icmp_ge (tgt := 20) C dJ7_fill_53178_7 (by decide) (fun c3 => ?_) (fun c3 => ?_)
  · have h := h.1 c3
    exact m_vret C dJ7_fill_53178_20 (Nat.le_of_ble_eq_true rfl) (Nat.le_of_ble_eq_true rfl) ⟨_, rfl, h, rfl⟩
  · have h := h.2 c3
    refine m_aload_n C dJ7_fill_53178_10 rfl 0 rfl ?_
    refine m_iload_n C dJ7_fill_53178_11 rfl 2 rfl ?_
    refine m_iload_n C dJ7_fill_53178_12 rfl 1 rfl ?_
    obtain ⟨b4, h⟩ := h
    obtain ⟨v5, ev5⟩ : ∃ z : gV, z = va_up v2 r1 (upd (v2 r1) x1.toNatClampNeg a2) := ⟨_, rfl⟩
    have h := h v5 ev5
    refine m_iast (w' := gW cy ad ln v5 ou) C r1 (gp_I hr1) b4 dJ7_fill_53178_13 (by rw [ev5]; exact gs_I hr1) ?_
    refine m_iinc (lv' := [(2, .int (x1 + 1)), (0, .ref (ad r1)), (1, .int a2), (3, .int (Int32.ofNat (ln r1)))]) C dJ7_fill_53178_14 (k := 2) rfl rfl (by decide) rfl ?_
    refine m_goto (tgt := 5) C dJ7_fill_53178_17 (by decide) ?_
    obtain ⟨n6, hn, h⟩ := h
    exact mW.sub [1, 2, 0, 3] rfl (ih n6 ((x1 + 1), v5) hn h)
theorem hiX2_empty_X2 : ∀ w ∈ wsX20, w ∈ wsX2_empty := by decide +kernel
def wp_X2_empty (ln : Nat → Nat) (v : gV) (post : gV → Prop) : Prop :=
  wp_J7_fill_53178 ln v 8 0 (fun (v2 : gV) => (wp_J7_fill_53178 ln v2 12 (-1) (fun (v4 : gV) => (∀ v5 : gV, v5 = va_up v4 2 (upd (v4 2) 6 0) → (∀ v6 : gV, v6 = va_up v5 2 (upd (v5 2) 7 0) → (∀ v7 : gV, v7 = va_up v6 2 (upd (v6 2) 8 0) → (post v7)))))))
set_option maxHeartbeats 4000000 in
set_option maxRecDepth 100000 in
theorem s_X2_empty (l : Launch) (D : va_G) (cy : Nat → ClassId) (ad ln : Nat → Nat) (v : gV) (ou : Nat → Int64) {post : gV → Prop} (h : wp_X2_empty ln v  post) : mM l D cy yX2_empty wsX2_empty 2 0 0 [.ref (ad 2)] (gW cy ad ln v ou) (fun r w1 => ∃ v1 : gV, r = none ∧ post v1 ∧ w1 = gW cy ad ln v1 ou) := by
  unfold wp_X2_empty at h
  refine mM.of (cc := cX2_empty) (nL := 1) (ret0 := none) (by decide +kernel) rfl (Nat.le_of_ble_eq_true rfl) ?_
  intro p e s m args below meth c A C hini
  refine mW.sub (lv' := [(0, .ref (ad 2))]) [0] rfl ?_
  refine m_aload_n C dX2_empty_0 rfl 0 rfl ?_
  refine m_get (T := TX2) (N := 9) C hiX2_empty_X2 2 gp_2 rfl 0 (by decide) (by decide +kernel) rfl dX2_empty_1 ?_
  refine m_iconst (v := 0) C dX2_empty_4 (by decide) ?_
  refine m_callS C (s_J7_fill_53178 l D cy ad ln v ou 8 0 (by decide) h) (va_cwS 2 C.2.2.2.2.1 gX2_empty_J7_fill_53178 rfl rfl rfl (by decide +kernel) ⟨Nat.le_of_ble_eq_true rfl, Nat.le_of_ble_eq_true rfl⟩) rfl rfl (Nat.le_of_ble_eq_true rfl) dX2_empty_5 ⟨by decide, by decide⟩ (fun r w1 h1 => ?_)
  obtain ⟨v2, rfl, h, rfl⟩ := h1
  refine mW.eq (st' := []) rfl rfl rfl rfl ?_
  refine m_aload_n C dX2_empty_8 rfl 0 rfl ?_
  refine m_get (T := TX2) (N := 9) C hiX2_empty_X2 2 gp_2 rfl 4 (by decide) (by decide +kernel) rfl dX2_empty_9 ?_
  refine m_iconst (v := (-1)) C dX2_empty_12 (by decide) ?_
  refine m_callS C (s_J7_fill_53178 l D cy ad ln v2 ou 12 (-1) (by decide) h) (va_cwS 2 C.2.2.2.2.1 gX2_empty_J7_fill_53178 rfl rfl rfl (by decide +kernel) ⟨Nat.le_of_ble_eq_true rfl, Nat.le_of_ble_eq_true rfl⟩) rfl rfl (Nat.le_of_ble_eq_true rfl) dX2_empty_13 ⟨by decide, by decide⟩ (fun r w1 h1 => ?_)
  obtain ⟨v4, rfl, h, rfl⟩ := h1
  refine mW.eq (st' := []) rfl rfl rfl rfl ?_
  refine m_aload_n C dX2_empty_16 rfl 0 rfl ?_
  refine m_iconst (v := 0) C dX2_empty_17 (by decide) ?_
  obtain ⟨v5, ev5⟩ : ∃ z : gV, z = va_up v4 2 (upd (v4 2) 6 0) := ⟨_, rfl⟩
  have h := h v5 ev5
  refine m_put (w' := gW cy ad ln v5 ou) (T := TX2) (N := 9) C hiX2_empty_X2 tyX2 tyX2_ok nmX2 2 gp_2 rfl 6 (by decide) (by decide +kernel) rfl rfl rfl (Nat.le_of_ble_eq_true rfl) dX2_empty_18 (by rw [ev5]; exact gW_set (k := 2) (by decide) rfl) ?_
  refine m_aload_n C dX2_empty_21 rfl 0 rfl ?_
  refine m_iconst (v := 0) C dX2_empty_22 (by decide) ?_
  obtain ⟨v6, ev6⟩ : ∃ z : gV, z = va_up v5 2 (upd (v5 2) 7 0) := ⟨_, rfl⟩
  have h := h v6 ev6
  refine m_put (w' := gW cy ad ln v6 ou) (T := TX2) (N := 9) C hiX2_empty_X2 tyX2 tyX2_ok nmX2 2 gp_2 rfl 7 (by decide) (by decide +kernel) rfl rfl rfl (Nat.le_of_ble_eq_true rfl) dX2_empty_23 (by rw [ev6]; exact gW_set (k := 2) (by decide) rfl) ?_
  refine m_aload_n C dX2_empty_26 rfl 0 rfl ?_
  refine m_iconst (v := 0) C dX2_empty_27 (by decide) ?_
  obtain ⟨v7, ev7⟩ : ∃ z : gV, z = va_up v6 2 (upd (v6 2) 8 0) := ⟨_, rfl⟩
  have h := h v7 ev7
  refine m_put (w' := gW cy ad ln v7 ou) (T := TX2) (N := 9) C hiX2_empty_X2 tyX2 tyX2_ok nmX2 2 gp_2 rfl 8 (by decide) (by decide +kernel) rfl rfl rfl (Nat.le_of_ble_eq_true rfl) dX2_empty_28 (by rw [ev7]; exact gW_set (k := 2) (by decide) rfl) ?_
  exact m_vret C dX2_empty_31 (Nat.le_of_ble_eq_true rfl) (Nat.le_of_ble_eq_true rfl) ⟨_, rfl, h, rfl⟩
theorem hiX3_giveBack_X3 : ∀ w ∈ wsX30, w ∈ wsX3_giveBack := by decide +kernel
def wp_X3_giveBack (ln : Nat → Nat) (v : gV) (r1 : Nat) (a2 : Int32) (post : gV → Prop) : Prop :=
  ∃ I2 : Nat → Int32 → gV → Prop, (∃ n, I2 n 0 v) ∧ ∀ (n : Nat) (x1 : Int32) (v2 : gV), I2 n x1 v2 → (((a2 ≤ x1) → (post v2)) ∧ (¬ (a2 ≤ x1) → (vp_in x1 (ln r1) ∧ (wp_X2_giveBack ln v2 (v2 r1 x1.toNatClampNeg) (fun (v6 : gV) => (∃ n', n' < n ∧ I2 n' (x1 + 1) v6))))))
set_option maxHeartbeats 4000000 in
set_option maxRecDepth 100000 in
theorem s_X3_giveBack (l : Launch) (D : va_G) (cy : Nat → ClassId) (ad ln : Nat → Nat) (v : gV) (ou : Nat → Int64) (r1 : Nat) (a2 : Int32) (hr1 : gIs r1 = true) {post : gV → Prop} (h : wp_X3_giveBack ln v r1 a2 post) : mM l D cy yX3_giveBack wsX3_giveBack 4 0 0 [.ref (ad 0), .ref (ad r1), .int a2] (gW cy ad ln v ou) (fun r w1 => ∃ v1 : gV, r = none ∧ post v1 ∧ w1 = gW cy ad ln v1 ou) := by
  unfold wp_X3_giveBack at h
  refine mM.of (cc := cX3_giveBack) (nL := 4) (ret0 := none) (by decide +kernel) rfl (Nat.le_of_ble_eq_true rfl) ?_
  intro p e s m args below meth c A C hini
  refine mW.sub (lv' := [(0, .ref (ad 0)), (1, .ref (ad r1)), (2, .int a2)]) [0, 1, 2] rfl ?_
  refine m_iconst (v := 0) C dX3_giveBack_0 (by decide) ?_
  refine m_istore_n (lv' := [(3, .int 0), (0, .ref (ad 0)), (1, .ref (ad r1)), (2, .int a2)]) C dX3_giveBack_1 rfl (by decide) rfl ?_
  obtain ⟨I2, ⟨n0, h0⟩, hI⟩ := h
  refine mW.sub (lv' := [(0, .ref (ad 0)), (1, .ref (ad r1)), (2, .int a2), (3, .int 0)]) [1, 2, 3, 0] rfl ?_
  refine m_ind (σ := Int32 × gV) (fun n z => I2 n z.1 z.2) (fun z => gW cy ad ln z.2 ou) 2 (fun z => [(0, .ref (ad 0)), (1, .ref (ad r1)), (2, .int a2), (3, .int z.1)]) ?_ n0 (0, v) h0
  intro n z hi ih
  obtain ⟨x1, v2⟩ := z
  have h := hI n x1 v2 hi
  show mW _ _ _ _ _ _ _ _ _ _ _ _ _ _ _ _ (gW cy ad ln v2 ou) 2 [(0, .ref (ad 0)), (1, .ref (ad r1)), (2, .int a2), (3, .int x1)] []
  refine m_iload_n C dX3_giveBack_2 rfl 3 rfl ?_
  refine m_iload_n C dX3_giveBack_3 rfl 2 rfl ?_
  refine m_icmp_ge (tgt := 23) C dX3_giveBack_4 (by decide) (fun c3 => ?_) (fun c3 => ?_)
  · have h := h.1 c3
    exact m_vret C dX3_giveBack_23 (Nat.le_of_ble_eq_true rfl) (Nat.le_of_ble_eq_true rfl) ⟨_, rfl, h, rfl⟩
  · have h := h.2 c3
    refine m_aload_n C dX3_giveBack_7 rfl 0 rfl ?_
    refine m_get (T := TX3) (N := 8) C hiX3_giveBack_X3 0 gp_0 rfl 1 (by decide) (by decide +kernel) rfl dX3_giveBack_8 ?_
    refine m_aload_n C dX3_giveBack_11 rfl 1 rfl ?_
    refine m_iload_n C dX3_giveBack_12 rfl 3 rfl ?_
    obtain ⟨b4, h⟩ := h
    refine m_iald C r1 (gp_I hr1) b4 dX3_giveBack_13 ?_
    refine m_callV C (s_X2_giveBack l D cy ad ln v2 ou (v2 r1 x1.toNatClampNeg)  h) (cwV 1 C.2.2.2.2.1 gX3_giveBack_X2_giveBack rfl rfl rfl (by decide +kernel) ⟨Nat.le_of_ble_eq_true rfl, Nat.le_of_ble_eq_true rfl⟩) 2 gp_2 rfl rfl rfl (Nat.le_of_ble_eq_true rfl) dX3_giveBack_14 ⟨by decide, by decide⟩ (fun r w1 h1 => ?_)
    obtain ⟨v6, rfl, h, rfl⟩ := h1
    refine mW.eq (st' := []) rfl rfl rfl rfl ?_
    refine m_iinc (lv' := [(3, .int (x1 + 1)), (0, .ref (ad 0)), (1, .ref (ad r1)), (2, .int a2)]) C dX3_giveBack_17 (k := 3) rfl rfl (by decide) rfl ?_
    refine m_goto (tgt := 2) C dX3_giveBack_20 (by decide) ?_
    obtain ⟨n7, hn, h⟩ := h
    exact mW.sub [1, 2, 3, 0] rfl (ih n7 ((x1 + 1), v6) hn h)
theorem hiX3_layOut_X0 : ∀ w ∈ wsX00, w ∈ wsX3_layOut := by decide +kernel
theorem hiX3_layOut_X3 : ∀ w ∈ wsX30, w ∈ wsX3_layOut := by decide +kernel
def wp_X3_layOut (ln : Nat → Nat) (v : gV) (r1 : Nat) (post : gV → Prop) : Prop :=
  ∃ I4 : Nat → Int32 → Int32 → gV → Prop, (∃ n, I4 n 0 0 v) ∧ ∀ (n : Nat) (x1 : Int32) (x2 : Int32) (v3 : gV), I4 n x1 x2 v3 → ((((v3 r1 1) ≤ x2) → (post v3)) ∧ (¬ ((v3 r1 1) ≤ x2) → (vp_in x2 (ln (r1 + 16)) ∧ (wp_X2_writeOut ln v3 (v3 (r1 + 16) x2.toNatClampNeg) 5 x1 (fun (x6 : Int32) (v7 : gV) => (∃ n', n' < n ∧ I4 n' (x1 + x6) (x2 + 1) v7))))))
set_option maxHeartbeats 4000000 in
set_option maxRecDepth 100000 in
theorem s_X3_layOut (l : Launch) (D : va_G) (cy : Nat → ClassId) (ad ln : Nat → Nat) (v : gV) (ou : Nat → Int64) (r1 : Nat) (hr11 : 14 ≤ r1) (hr12 : r1 < 30) {post : gV → Prop} (h : wp_X3_layOut ln v r1 post) : mM l D cy yX3_layOut wsX3_layOut 4 0 0 [.ref (ad 0), .ref (ad r1)] (gW cy ad ln v ou) (fun r w1 => ∃ v1 : gV, r = none ∧ post v1 ∧ w1 = gW cy ad ln v1 ou) := by
  unfold wp_X3_layOut at h
  refine mM.of (cc := cX3_layOut) (nL := 4) (ret0 := none) (by decide +kernel) rfl (Nat.le_of_ble_eq_true rfl) ?_
  intro p e s m args below meth c A C hini
  refine mW.sub (lv' := [(0, .ref (ad 0)), (1, .ref (ad r1))]) [0, 1] rfl ?_
  refine m_iconst (v := 0) C dX3_layOut_0 (by decide) ?_
  refine m_istore_n (lv' := [(2, .int 0), (0, .ref (ad 0)), (1, .ref (ad r1))]) C dX3_layOut_1 rfl (by decide) rfl ?_
  refine m_iconst (v := 0) C dX3_layOut_2 (by decide) ?_
  refine m_istore_n (lv' := [(3, .int 0), (2, .int 0), (0, .ref (ad 0)), (1, .ref (ad r1))]) C dX3_layOut_3 rfl (by decide) rfl ?_
  obtain ⟨I4, ⟨n0, h0⟩, hI⟩ := h
  refine mW.sub (lv' := [(0, .ref (ad 0)), (1, .ref (ad r1)), (2, .int 0), (3, .int 0)]) [2, 3, 1, 0] rfl ?_
  refine m_ind (σ := Int32 × Int32 × gV) (fun n z => I4 n z.1 z.2.1 z.2.2) (fun z => gW cy ad ln z.2.2 ou) 4 (fun z => [(0, .ref (ad 0)), (1, .ref (ad r1)), (2, .int z.1), (3, .int z.2.1)]) ?_ n0 (0, 0, v) h0
  intro n z hi ih
  obtain ⟨x1, x2, v3⟩ := z
  have h := hI n x1 x2 v3 hi
  show mW _ _ _ _ _ _ _ _ _ _ _ _ _ _ _ _ (gW cy ad ln v3 ou) 4 [(0, .ref (ad 0)), (1, .ref (ad r1)), (2, .int x1), (3, .int x2)] []
  refine m_iload_n C dX3_layOut_4 rfl 3 rfl ?_
  refine m_aload_n C dX3_layOut_5 rfl 1 rfl ?_
  refine m_getN (host := "CutYard") (T := TX0) (N := 3) C hiX3_layOut_X0 r1 (gp_C hr11 hr12) rfl 1 (by decide) (by decide +kernel) rfl dX3_layOut_6 ?_
  refine m_icmp_ge (tgt := 39) C dX3_layOut_9 (by decide) (fun c4 => ?_) (fun c4 => ?_)
  · have h := h.1 c4
    exact m_vret C dX3_layOut_39 (Nat.le_of_ble_eq_true rfl) (Nat.le_of_ble_eq_true rfl) ⟨_, rfl, h, rfl⟩
  · have h := h.2 c4
    refine m_iload_n C dX3_layOut_12 rfl 2 rfl ?_
    refine m_aload_n C dX3_layOut_13 rfl 0 rfl ?_
    refine m_get (T := TX3) (N := 8) C hiX3_layOut_X3 0 gp_0 rfl 1 (by decide) (by decide +kernel) rfl dX3_layOut_14 ?_
    refine m_aload_n C dX3_layOut_17 rfl 1 rfl ?_
    refine m_getN (host := "CutYard") (T := TX0) (N := 3) C hiX3_layOut_X0 r1 (gp_C hr11 hr12) rfl 0 (by decide) (by decide +kernel) rfl dX3_layOut_18 ?_
    refine m_iload_n C dX3_layOut_21 rfl 3 rfl ?_
    obtain ⟨b5, h⟩ := h
    refine m_iald C (r1 + 16) (gp_I (gIs_N hr11 hr12)) b5 dX3_layOut_22 ?_
    refine m_aload_n C dX3_layOut_23 rfl 0 rfl ?_
    refine m_get (T := TX3) (N := 8) C hiX3_layOut_X3 0 gp_0 rfl 5 (by decide) (by decide +kernel) rfl dX3_layOut_24 ?_
    refine m_iload_n C dX3_layOut_27 rfl 2 rfl ?_
    refine m_callV C (s_X2_writeOut l D cy ad ln v3 ou (v3 (r1 + 16) x2.toNatClampNeg) 5 x1 (by decide) h) (cwV 3 C.2.2.2.2.1 gX3_layOut_X2_writeOut rfl rfl rfl (by decide +kernel) ⟨Nat.le_of_ble_eq_true rfl, Nat.le_of_ble_eq_true rfl⟩) 2 gp_2 rfl rfl rfl (Nat.le_of_ble_eq_true rfl) dX3_layOut_28 ⟨by decide, by decide⟩ (fun r w1 h1 => ?_)
    obtain ⟨x6, v7, rfl, h, rfl⟩ := h1
    refine mW.eq (st' := [.int x6, .int x1]) rfl rfl rfl rfl ?_
    refine m_iadd C dX3_layOut_31 ?_
    refine m_istore_n (lv' := [(2, .int (x1 + x6)), (0, .ref (ad 0)), (1, .ref (ad r1)), (3, .int x2)]) C dX3_layOut_32 rfl (by decide) rfl ?_
    refine m_iinc (lv' := [(3, .int (x2 + 1)), (2, .int (x1 + x6)), (0, .ref (ad 0)), (1, .ref (ad r1))]) C dX3_layOut_33 (k := 3) rfl rfl (by decide) rfl ?_
    refine m_goto (tgt := 4) C dX3_layOut_36 (by decide) ?_
    obtain ⟨n8, hn, h⟩ := h
    exact mW.sub [2, 3, 1, 0] rfl (ih n8 ((x1 + x6), (x2 + 1), v7) hn h)
theorem hiX3_filesWith_X3 : ∀ w ∈ wsX30, w ∈ wsX3_filesWith := by decide +kernel
def wp_X3_filesWith (ln : Nat → Nat) (v : gV) (a1 : Int32) (post : Int32 → gV → Prop) : Prop :=
  ∃ I4 : Nat → Int32 → Int32 → gV → Prop, (∃ n, I4 n 0 0 v) ∧ ∀ (n : Nat) (x1 : Int32) (x2 : Int32) (v3 : gV), I4 n x1 x2 v3 → (((16 ≤ x2) → (post x1 v3)) ∧ (¬ (16 ≤ x2) → (vp_in x2 16 ∧ (wp_X0_hasNumber ln v3 (14 + x2.toNatClampNeg % 16) a1 (fun (x6 : Int32) (v7 : gV) => ((∃ n', n' < n ∧ I4 n' (if x6 = 0 then x1 else x1 + 1) (x2 + 1) v7)))))))
set_option maxHeartbeats 4000000 in
set_option maxRecDepth 100000 in
theorem s_X3_filesWith (l : Launch) (D : va_G) (cy : Nat → ClassId) (ad ln : Nat → Nat) (v : gV) (ou : Nat → Int64) (a1 : Int32) {post : Int32 → gV → Prop} (h : wp_X3_filesWith ln v a1 post) : mM l D cy yX3_filesWith wsX3_filesWith 2 0 0 [.ref (ad 0), .int a1] (gW cy ad ln v ou) (fun r w1 => ∃ (x1 : Int32) (v1 : gV), r = some (.int x1) ∧ post x1 v1 ∧ w1 = gW cy ad ln v1 ou) := by
  unfold wp_X3_filesWith at h
  refine mM.of (cc := cX3_filesWith) (nL := 4) (ret0 := (some .int)) (by decide +kernel) rfl (Nat.le_of_ble_eq_true rfl) ?_
  intro p e s m args below meth c A C hini
  refine mW.sub (lv' := [(0, .ref (ad 0)), (1, .int a1)]) [0, 1] rfl ?_
  refine m_iconst (v := 0) C dX3_filesWith_0 (by decide) ?_
  refine m_istore_n (lv' := [(2, .int 0), (0, .ref (ad 0)), (1, .int a1)]) C dX3_filesWith_1 rfl (by decide) rfl ?_
  refine m_iconst (v := 0) C dX3_filesWith_2 (by decide) ?_
  refine m_istore_n (lv' := [(3, .int 0), (2, .int 0), (0, .ref (ad 0)), (1, .int a1)]) C dX3_filesWith_3 rfl (by decide) rfl ?_
  obtain ⟨I4, ⟨n0, h0⟩, hI⟩ := h
  refine mW.sub (lv' := [(0, .ref (ad 0)), (1, .int a1), (2, .int 0), (3, .int 0)]) [2, 3, 1, 0] rfl ?_
  refine m_ind (σ := Int32 × Int32 × gV) (fun n z => I4 n z.1 z.2.1 z.2.2) (fun z => gW cy ad ln z.2.2 ou) 4 (fun z => [(0, .ref (ad 0)), (1, .int a1), (2, .int z.1), (3, .int z.2.1)]) ?_ n0 (0, 0, v) h0
  intro n z hi ih
  obtain ⟨x1, x2, v3⟩ := z
  have h := hI n x1 x2 v3 hi
  show mW _ _ _ _ _ _ _ _ _ _ _ _ _ _ _ _ (gW cy ad ln v3 ou) 4 [(0, .ref (ad 0)), (1, .int a1), (2, .int x1), (3, .int x2)] []
  refine m_iload_n C dX3_filesWith_4 rfl 3 rfl ?_
  refine m_bipush (v := 16) C dX3_filesWith_5 (by decide) ?_
  refine m_icmp_ge (tgt := 32) C dX3_filesWith_7 (by decide) (fun c4 => ?_) (fun c4 => ?_)
  · have h := h.1 c4
    refine m_iload_n C dX3_filesWith_32 rfl 2 rfl ?_
    exact m_iret C dX3_filesWith_33 (Nat.le_of_ble_eq_true rfl) (Nat.le_of_ble_eq_true rfl) ⟨_, _, rfl, h, rfl⟩
  · have h := h.2 c4
    refine m_aload_n C dX3_filesWith_10 rfl 0 rfl ?_
    refine m_get (T := TX3) (N := 8) C hiX3_filesWith_X3 0 gp_0 rfl 2 (by decide) (by decide +kernel) rfl dX3_filesWith_11 ?_
    refine m_iload_n C dX3_filesWith_14 rfl 3 rfl ?_
    obtain ⟨b5, h⟩ := h
    refine m_aald C 3 gp_3 b5 dX3_filesWith_15 ?_
    refine m_iload_n C dX3_filesWith_16 rfl 1 rfl ?_
    refine m_callV C (s_X0_hasNumber l D cy ad ln v3 ou (14 + x2.toNatClampNeg % 16) a1 (gC_lo _) (gC_hi _) h) (cwV 1 C.2.2.2.2.1 gX3_filesWith_X0_hasNumber rfl rfl rfl (by decide +kernel) ⟨Nat.le_of_ble_eq_true rfl, Nat.le_of_ble_eq_true rfl⟩) (14 + x2.toNatClampNeg % 16) (gp_C (gC_lo _) (gC_hi _)) rfl rfl rfl (Nat.le_of_ble_eq_true rfl) dX3_filesWith_17 ⟨by decide, by decide⟩ (fun r w1 h1 => ?_)
    obtain ⟨x6, v7, rfl, h, rfl⟩ := h1
    refine mW.eq (st' := [.int x6]) rfl rfl rfl rfl ?_
    refine m_join (P := 26) (wM := gW cy ad ln v7 ou) (lvM := [(0, .ref (ad 0)), (1, .int a1), (2, .int (if x6 = 0 then x1 else x1 + 1)), (3, .int x2)]) (stM := []) ?_ (fun hJ26_9 => ?_)
    · refine m_iinc (lv' := [(3, .int (x2 + 1)), (0, .ref (ad 0)), (1, .int a1), (2, .int (if x6 = 0 then x1 else x1 + 1))]) C dX3_filesWith_26 (k := 3) rfl rfl (by decide) rfl ?_
      refine m_goto (tgt := 4) C dX3_filesWith_29 (by decide) ?_
      obtain ⟨n10, hn, h⟩ := h
      exact mW.sub [1, 2, 3, 0] rfl (ih n10 ((if x6 = 0 then x1 else x1 + 1), (x2 + 1), v7) hn h)
    · refine m_if_eq (tgt := 26) C dX3_filesWith_20 (by decide) (fun c8 => ?_) (fun c8 => ?_)
      · refine mW.sub (lv' := [(0, .ref (ad 0)), (1, .int a1), (2, .int x1), (3, .int x2)]) [0, 1, 2, 3] rfl ?_
        exact mW.eq rfl (by simp only [if_pos c8]) rfl rfl hJ26_9
      · refine m_iinc (lv' := [(2, .int (x1 + 1)), (0, .ref (ad 0)), (1, .int a1), (3, .int x2)]) C dX3_filesWith_23 (k := 2) rfl rfl (by decide) rfl ?_
        refine mW.sub (lv' := [(0, .ref (ad 0)), (1, .int a1), (2, .int (x1 + 1)), (3, .int x2)]) [1, 2, 0, 3] rfl ?_
        exact mW.eq rfl (by simp only [if_neg c8]) rfl rfl hJ26_9
