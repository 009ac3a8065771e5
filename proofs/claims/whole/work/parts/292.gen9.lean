def wp_L_begin (ln : Nat → Nat) (v : gV) (ou : Nat → Int64) (a1 : Int32) (a2 : Int32) (a3 : Int32) (post : Int32 → gV → (Nat → Int64) → Prop) : Prop :=
  wp_X3_begin ln v a1 a2 a3 (fun (v1 : gV) => post 0 v1 ou) (fun E v1 => (E = "java/lang/IllegalArgumentException" ∧ post 1 v1 ou))
set_option maxHeartbeats 4000000 in
set_option maxRecDepth 100000 in
theorem s_L_begin (l : Launch) (D : va_G) (cy : Nat → ClassId) (sA ad ln : Nat → Nat) (v : gV) (ou : Nat → Int64) (a1 : Int32) (a2 : Int32) (a3 : Int32) (hl : l.stackTraces = false) {post : Int32 → gV → (Nat → Int64) → Prop} (h : wp_L_begin ln v ou a1 a2 a3 post) : mL l D cy sA yL_begin wsL_begin 7 1 6 [.ref (ad 0), .int a1, .int a2, .int a3] (gW cy ad ln v ou) (fun r w1 => ∃ (x1 : Int32) (v1 : gV) (ou1 : Nat → Int64), r = some (.int x1) ∧ post x1 v1 ou1 ∧ w1 = gW cy ad ln v1 ou1) := by
  unfold wp_L_begin at h
  refine mL.of (cc := cL_begin) (nL := 5) (ret0 := some .int) (hh := [(0, 7, 10, 13)]) (by decide +kernel) rfl (Nat.le_of_ble_eq_true rfl) ?_
  intro p e s m args below meth c A C hT hX hC
  refine mW.sub (lv' := [(0, .ref (ad 0)), (1, .int a1), (2, .int a2), (3, .int a3)]) [0, 1, 2, 3] rfl ?_
  refine m_aload_n C dL_begin_0 rfl 0 rfl ?_
  refine m_iload_n C dL_begin_1 rfl 1 rfl ?_
  refine m_iload_n C dL_begin_2 rfl 2 rfl ?_
  refine m_iload_n C dL_begin_3 rfl 3 rfl ?_
  refine m_callVC C hX (s_X3_begin l D cy sA ad ln v ou a1 a2 a3 hl h) (cwV 3 C.2.2.2.2.1 gL_begin_X3_begin rfl rfl rfl (by decide +kernel) ⟨Nat.le_of_ble_eq_true rfl, Nat.le_of_ble_eq_true rfl⟩) 0 gp_0 rfl rfl rfl (Nat.le_of_ble_eq_true rfl) dL_begin_4 ⟨Nat.le_of_ble_eq_true rfl, Nat.le_of_ble_eq_true rfl⟩ (fun E w1 q h1 => ?_) (fun r w1 h1 => ?_)
  · obtain ⟨v1, h1, rfl⟩ := h1
    rcases h1 with ⟨rfl, h1⟩
    · refine ⟨[], ⟨0, 7, 10, 13⟩, [], "java/lang/IllegalArgumentException", by rw [hT]; rfl, (fun z hz => by cases hz), by decide, by decide, C.2.2.2.2.1 _ (by decide +kernel), va_any rfl (hX.2.2.2 _ (by decide)), ?_⟩
      refine m_astore (lv' := [(4, .ref q), (0, .ref (ad 0)), (1, .int a1), (2, .int a2), (3, .int a3)]) C dL_begin_10 (by decide) rfl ?_
      refine m_iconst (v := 1) C dL_begin_12 (by decide) ?_
      exact m_iret C dL_begin_13 (Nat.le_of_ble_eq_true rfl) (Nat.le_of_ble_eq_true rfl) ⟨_, _, _, rfl, h1, rfl⟩
  · obtain ⟨v1, rfl, h, rfl⟩ := h1
    refine mW.eq (st' := []) rfl rfl rfl rfl ?_
    refine m_goto (tgt := 14) C dL_begin_7 (by decide) ?_
    refine m_iconst (v := 0) C dL_begin_14 (by decide) ?_
    exact m_iret C dL_begin_15 (Nat.le_of_ble_eq_true rfl) (Nat.le_of_ble_eq_true rfl) ⟨_, _, _, rfl, h, rfl⟩
def wp_L_put (ln : Nat → Nat) (v : gV) (ou : Nat → Int64) (a1 : Int32) (a2 : Int32) (post : Int32 → gV → (Nat → Int64) → Prop) : Prop :=
  wp_X3_put ln v a1 a2 (fun (x : Int32) (v1 : gV) => post 0 v1 (vp_updL ou 0 x.toInt64)) (fun E v1 => (E = "java/lang/IllegalArgumentException" ∧ post 1 v1 ou) ∨ (E = "java/lang/UnsupportedOperationException" ∧ post 2 v1 ou))
set_option maxHeartbeats 4000000 in
set_option maxRecDepth 100000 in
theorem s_L_put (l : Launch) (D : va_G) (cy : Nat → ClassId) (sA ad ln : Nat → Nat) (v : gV) (ou : Nat → Int64) (a1 : Int32) (a2 : Int32) (hl : l.stackTraces = false) {post : Int32 → gV → (Nat → Int64) → Prop} (h : wp_L_put ln v ou a1 a2 post) : mL l D cy sA yL_put wsL_put 7 1 6 [.ref (ad 0), .int a1, .int a2, .ref (ad 59)] (gW cy ad ln v ou) (fun r w1 => ∃ (x1 : Int32) (v1 : gV) (ou1 : Nat → Int64), r = some (.int x1) ∧ post x1 v1 ou1 ∧ w1 = gW cy ad ln v1 ou1) := by
  unfold wp_L_put at h
  refine mL.of (cc := cL_put) (nL := 5) (ret0 := some .int) (hh := [(0, 10, 13, 13), (0, 10, 17, 19)]) (by decide +kernel) rfl (Nat.le_of_ble_eq_true rfl) ?_
  intro p e s m args below meth c A C hT hX hC
  refine mW.sub (lv' := [(0, .ref (ad 0)), (1, .int a1), (2, .int a2), (3, .ref (ad 59))]) [0, 1, 2, 3] rfl ?_
  refine m_aload_n C dL_put_0 rfl 3 rfl ?_
  refine m_iconst (v := 0) C dL_put_1 (by decide) ?_
  refine m_aload_n C dL_put_2 rfl 0 rfl ?_
  refine m_iload_n C dL_put_3 rfl 1 rfl ?_
  refine m_iload_n C dL_put_4 rfl 2 rfl ?_
  refine m_callVC C hX (s_X3_put l D cy sA ad ln v ou a1 a2 hl h) (cwV 2 C.2.2.2.2.1 gL_put_X3_put rfl rfl rfl (by decide +kernel) ⟨Nat.le_of_ble_eq_true rfl, Nat.le_of_ble_eq_true rfl⟩) 0 gp_0 rfl rfl rfl (Nat.le_of_ble_eq_true rfl) dL_put_5 ⟨Nat.le_of_ble_eq_true rfl, Nat.le_of_ble_eq_true rfl⟩ (fun E w1 q h1 => ?_) (fun r w1 h1 => ?_)
  · obtain ⟨v1, h1, rfl⟩ := h1
    rcases h1 with ⟨rfl, h1⟩ | ⟨rfl, h1⟩
    · refine ⟨[], ⟨0, 10, 13, 13⟩, [⟨0, 10, 17, 19⟩], "java/lang/IllegalArgumentException", by rw [hT]; rfl, (fun z hz => by cases hz), by decide, by decide, C.2.2.2.2.1 _ (by decide +kernel), va_any rfl (hX.2.2.2 _ (by decide)), ?_⟩
      refine m_astore (lv' := [(4, .ref q), (0, .ref (ad 0)), (1, .int a1), (2, .int a2), (3, .ref (ad 59))]) C dL_put_13 (by decide) rfl ?_
      refine m_iconst (v := 1) C dL_put_15 (by decide) ?_
      exact m_iret C dL_put_16 (Nat.le_of_ble_eq_true rfl) (Nat.le_of_ble_eq_true rfl) ⟨_, _, _, rfl, h1, rfl⟩
    · refine ⟨[⟨0, 10, 13, 13⟩], ⟨0, 10, 17, 19⟩, [], "java/lang/UnsupportedOperationException", by rw [hT]; rfl, (fun z hz => Or.inr (by
          simp only [List.mem_cons, List.not_mem_nil, or_false] at hz
          rcases hz with rfl
          · exact ⟨by decide, "java/lang/IllegalArgumentException", C.2.2.2.2.1 _ (by decide +kernel), hC (_, _) (by decide)⟩)), by decide, by decide, C.2.2.2.2.1 _ (by decide +kernel), va_any rfl (hX.2.2.2 _ (by decide)), ?_⟩
      refine m_astore (lv' := [(4, .ref q), (0, .ref (ad 0)), (1, .int a1), (2, .int a2), (3, .ref (ad 59))]) C dL_put_17 (by decide) rfl ?_
      refine m_iconst (v := 2) C dL_put_19 (by decide) ?_
      exact m_iret C dL_put_20 (Nat.le_of_ble_eq_true rfl) (Nat.le_of_ble_eq_true rfl) ⟨_, _, _, rfl, h1, rfl⟩
  · obtain ⟨x1, v1, rfl, h, rfl⟩ := h1
    refine mW.eq (st' := [.int x1, .int 0, .ref (ad 59)]) rfl rfl rfl rfl ?_
    refine m_i2l C dL_put_8 rfl ?_
    refine m_last (w' := gW cy ad ln v1 (vp_updL ou 0 x1.toInt64)) C 59 gp_59 (by unfold vp_in; decide) dL_put_9 gs_59 ?_
    refine m_goto (tgt := 21) C dL_put_10 (by decide) ?_
    refine m_iconst (v := 0) C dL_put_21 (by decide) ?_
    exact m_iret C dL_put_22 (Nat.le_of_ble_eq_true rfl) (Nat.le_of_ble_eq_true rfl) ⟨_, _, _, rfl, h, rfl⟩
def wp_L_store (mc ms : Nat) (ln : Nat → Nat) (v : gV) (ou : Nat → Int64) (a1 : Int32) (post : Int32 → (Nat → Nat) → gV → (Nat → Int64) → Prop) : Prop :=
  wp_X3_store mc ms ln v a1 (fun (x : Int32) (ln1 : Nat → Nat) (v1 : gV) => post 0 ln1 v1 (vp_updL ou 0 x.toInt64)) (fun E ln1 v1 => (E = "java/lang/IndexOutOfBoundsException" ∧ post 1 ln1 v1 ou) ∨ (E = "java/lang/UnsupportedOperationException" ∧ post 2 ln1 v1 ou))
set_option maxHeartbeats 4000000 in
set_option maxRecDepth 100000 in
theorem s_L_store (l : Launch) (D : va_G) (cy : Nat → ClassId) (sA ad ln : Nat → Nat) (v : gV) (ou : Nat → Int64) (mc ms : Nat) (a1 : Int32) (hl : l.stackTraces = false) {post : Int32 → (Nat → Nat) → gV → (Nat → Int64) → Prop} (h : wp_L_store mc ms ln v ou a1 post) : mL l D cy sA yL_store wsL_store 9 mc ms [.ref (ad 0), .int a1, .ref (ad 59)] (gW cy ad ln v ou) (fun r w1 => ∃ (x1 : Int32) (ad1 ln1 : Nat → Nat) (v1 : gV) (ou1 : Nat → Int64), r = some (.int x1) ∧ post x1 ln1 v1 ou1 ∧ w1 = gW cy ad1 ln1 v1 ou1 ∧ gA ad ad1) := by
  unfold wp_L_store at h
  refine mL.of (cc := cL_store) (nL := 4) (ret0 := some .int) (hh := [(0, 9, 12, 25), (0, 9, 15, 19)]) (by decide +kernel) rfl (Nat.le_of_ble_eq_true rfl) ?_
  intro p e s m args below meth c A C hT hX hC
  refine mW.sub (lv' := [(0, .ref (ad 0)), (1, .int a1), (2, .ref (ad 59))]) [0, 1, 2] rfl ?_
  refine m_aload_n C dL_store_0 rfl 2 rfl ?_
  refine m_iconst (v := 0) C dL_store_1 (by decide) ?_
  refine m_aload_n C dL_store_2 rfl 0 rfl ?_
  refine m_iload_n C dL_store_3 rfl 1 rfl ?_
  refine m_callVC C hX (s_X3_store l D cy sA ad ln v ou mc ms a1 hl h) (cwV 1 C.2.2.2.2.1 gL_store_X3_store rfl rfl rfl (by decide +kernel) ⟨Nat.le_of_ble_eq_true rfl, Nat.le_of_ble_eq_true rfl⟩) 0 gp_0 rfl rfl rfl (Nat.le_of_ble_eq_true rfl) dL_store_4 ⟨by show 0 + mc ≤ mc; omega, by show 0 + ms ≤ ms; omega⟩ (fun E w1 q h1 => ?_) (fun r w1 h1 => ?_)
  · obtain ⟨ad1, ln1, v1, h1, rfl, g1⟩ := h1
    rcases h1 with ⟨rfl, h1⟩ | ⟨rfl, h1⟩
    · refine ⟨[], ⟨0, 9, 12, 25⟩, [⟨0, 9, 15, 19⟩], "java/lang/IndexOutOfBoundsException", by rw [hT]; rfl, (fun z hz => by cases hz), by decide, by decide, C.2.2.2.2.1 _ (by decide +kernel), va_any rfl (hX.2.2.2 _ (by decide)), ?_⟩
      refine m_astore_n (lv' := [(3, .ref q), (0, .ref (ad 0)), (1, .int a1), (2, .ref (ad 59))]) C dL_store_12 rfl (by decide) rfl ?_
      refine m_iconst (v := 1) C dL_store_13 (by decide) ?_
      exact m_iret C dL_store_14 (by omega) (by omega) ⟨_, _, _, _, _, rfl, h1, rfl, g1⟩
    · refine ⟨[⟨0, 9, 12, 25⟩], ⟨0, 9, 15, 19⟩, [], "java/lang/UnsupportedOperationException", by rw [hT]; rfl, (fun z hz => Or.inr (by
          simp only [List.mem_cons, List.not_mem_nil, or_false] at hz
          rcases hz with rfl
          · exact ⟨by decide, "java/lang/IndexOutOfBoundsException", C.2.2.2.2.1 _ (by decide +kernel), hC (_, _) (by decide)⟩)), by decide, by decide, C.2.2.2.2.1 _ (by decide +kernel), va_any rfl (hX.2.2.2 _ (by decide)), ?_⟩
      refine m_astore_n (lv' := [(3, .ref q), (0, .ref (ad 0)), (1, .int a1), (2, .ref (ad 59))]) C dL_store_15 rfl (by decide) rfl ?_
      refine m_iconst (v := 2) C dL_store_16 (by decide) ?_
      exact m_iret C dL_store_17 (by omega) (by omega) ⟨_, _, _, _, _, rfl, h1, rfl, g1⟩
  · obtain ⟨x1, ad1, ln1, v1, rfl, h, rfl, g1⟩ := h1
    refine mW.eq (lv' := [(0, .ref (ad1 0)), (1, .int a1), (2, .ref (ad1 59))]) (st' := [.int x1, .int 0, .ref (ad1 59)]) rfl (by first | rfl | simp only [g1.n 0 (by decide), g1.n 59 (by decide)]) (by simp only [g1.n 59 (by decide)]; rfl) rfl ?_
    refine m_i2l C dL_store_7 rfl ?_
    refine m_last (w' := gW cy ad1 ln1 v1 (vp_updL ou 0 x1.toInt64)) C 59 gp_59 (by unfold vp_in; decide) dL_store_8 gs_59 ?_
    refine m_goto (tgt := 18) C dL_store_9 (by decide) ?_
    refine m_iconst (v := 0) C dL_store_18 (by decide) ?_
    exact m_iret C dL_store_19 (by omega) (by omega) ⟨_, _, _, _, _, rfl, h, rfl, g1⟩
def wp_L_edit (mc ms : Nat) (ln : Nat → Nat) (v : gV) (ou : Nat → Int64) (a1 : Int32) (a2 : Int32) (a3 : Int32) (post : Int32 → (Nat → Nat) → gV → (Nat → Int64) → Prop) : Prop :=
  wp_X3_edit mc ms ln v a1 a2 a3 (fun (x : Int32) (ln1 : Nat → Nat) (v1 : gV) => post 0 ln1 v1 (vp_updL ou 0 x.toInt64)) (fun E ln1 v1 => (E = "java/lang/IndexOutOfBoundsException" ∧ post 1 ln1 v1 ou) ∨ (E = "java/lang/IllegalArgumentException" ∧ post 2 ln1 v1 ou) ∨ (E = "java/lang/UnsupportedOperationException" ∧ post 3 ln1 v1 ou))
set_option maxHeartbeats 4000000 in
set_option maxRecDepth 100000 in
theorem s_L_edit (l : Launch) (D : va_G) (cy : Nat → ClassId) (sA ad ln : Nat → Nat) (v : gV) (ou : Nat → Int64) (mc ms : Nat) (a1 : Int32) (a2 : Int32) (a3 : Int32) (hl : l.stackTraces = false) {post : Int32 → (Nat → Nat) → gV → (Nat → Int64) → Prop} (h : wp_L_edit mc ms ln v ou a1 a2 a3 post) : mL l D cy sA yL_edit wsL_edit 9 mc ms [.ref (ad 0), .int a1, .int a2, .int a3, .ref (ad 59)] (gW cy ad ln v ou) (fun r w1 => ∃ (x1 : Int32) (ad1 ln1 : Nat → Nat) (v1 : gV) (ou1 : Nat → Int64), r = some (.int x1) ∧ post x1 ln1 v1 ou1 ∧ w1 = gW cy ad1 ln1 v1 ou1 ∧ gA ad ad1) := by
  unfold wp_L_edit at h
  refine mL.of (cc := cL_edit) (nL := 6) (ret0 := some .int) (hh := [(0, 12, 15, 25), (0, 12, 19, 13), (0, 12, 23, 19)]) (by decide +kernel) rfl (Nat.le_of_ble_eq_true rfl) ?_
  intro p e s m args below meth c A C hT hX hC
  refine mW.sub (lv' := [(0, .ref (ad 0)), (1, .int a1), (2, .int a2), (3, .int a3), (4, .ref (ad 59))]) [0, 1, 2, 3, 4] rfl ?_
  refine m_aload C dL_edit_0 4 rfl ?_
  refine m_iconst (v := 0) C dL_edit_2 (by decide) ?_
  refine m_aload_n C dL_edit_3 rfl 0 rfl ?_
  refine m_iload_n C dL_edit_4 rfl 1 rfl ?_
  refine m_iload_n C dL_edit_5 rfl 2 rfl ?_
  refine m_iload_n C dL_edit_6 rfl 3 rfl ?_
  refine m_callVC C hX (s_X3_edit l D cy sA ad ln v ou mc ms a1 a2 a3 hl h) (cwV 3 C.2.2.2.2.1 gL_edit_X3_edit rfl rfl rfl (by decide +kernel) ⟨Nat.le_of_ble_eq_true rfl, Nat.le_of_ble_eq_true rfl⟩) 0 gp_0 rfl rfl rfl (Nat.le_of_ble_eq_true rfl) dL_edit_7 ⟨by show 0 + mc ≤ mc; omega, by show 0 + ms ≤ ms; omega⟩ (fun E w1 q h1 => ?_) (fun r w1 h1 => ?_)
  · obtain ⟨ad1, ln1, v1, h1, rfl, g1⟩ := h1
    rcases h1 with ⟨rfl, h1⟩ | ⟨rfl, h1⟩ | ⟨rfl, h1⟩
    · refine ⟨[], ⟨0, 12, 15, 25⟩, [⟨0, 12, 19, 13⟩, ⟨0, 12, 23, 19⟩], "java/lang/IndexOutOfBoundsException", by rw [hT]; rfl, (fun z hz => by cases hz), by decide, by decide, C.2.2.2.2.1 _ (by decide +kernel), va_any rfl (hX.2.2.2 _ (by decide)), ?_⟩
      refine m_astore (lv' := [(5, .ref q), (0, .ref (ad 0)), (1, .int a1), (2, .int a2), (3, .int a3), (4, .ref (ad 59))]) C dL_edit_15 (by decide) rfl ?_
      refine m_iconst (v := 1) C dL_edit_17 (by decide) ?_
      exact m_iret C dL_edit_18 (by omega) (by omega) ⟨_, _, _, _, _, rfl, h1, rfl, g1⟩
    · refine ⟨[⟨0, 12, 15, 25⟩], ⟨0, 12, 19, 13⟩, [⟨0, 12, 23, 19⟩], "java/lang/IllegalArgumentException", by rw [hT]; rfl, (fun z hz => Or.inr (by
          simp only [List.mem_cons, List.not_mem_nil, or_false] at hz
          rcases hz with rfl
          · exact ⟨by decide, "java/lang/IndexOutOfBoundsException", C.2.2.2.2.1 _ (by decide +kernel), hC (_, _) (by decide)⟩)), by decide, by decide, C.2.2.2.2.1 _ (by decide +kernel), va_any rfl (hX.2.2.2 _ (by decide)), ?_⟩
      refine m_astore (lv' := [(5, .ref q), (0, .ref (ad 0)), (1, .int a1), (2, .int a2), (3, .int a3), (4, .ref (ad 59))]) C dL_edit_19 (by decide) rfl ?_
      refine m_iconst (v := 2) C dL_edit_21 (by decide) ?_
      exact m_iret C dL_edit_22 (by omega) (by omega) ⟨_, _, _, _, _, rfl, h1, rfl, g1⟩
    · refine ⟨[⟨0, 12, 15, 25⟩, ⟨0, 12, 19, 13⟩], ⟨0, 12, 23, 19⟩, [], "java/lang/UnsupportedOperationException", by rw [hT]; rfl, (fun z hz => Or.inr (by
          simp only [List.mem_cons, List.not_mem_nil, or_false] at hz
          rcases hz with rfl | rfl
          · exact ⟨by decide, "java/lang/IndexOutOfBoundsException", C.2.2.2.2.1 _ (by decide +kernel), hC (_, _) (by decide)⟩
          · exact ⟨by decide, "java/lang/IllegalArgumentException", C.2.2.2.2.1 _ (by decide +kernel), hC (_, _) (by decide)⟩)), by decide, by decide, C.2.2.2.2.1 _ (by decide +kernel), va_any rfl (hX.2.2.2 _ (by decide)), ?_⟩
      refine m_astore (lv' := [(5, .ref q), (0, .ref (ad 0)), (1, .int a1), (2, .int a2), (3, .int a3), (4, .ref (ad 59))]) C dL_edit_23 (by decide) rfl ?_
      refine m_iconst (v := 3) C dL_edit_25 (by decide) ?_
      exact m_iret C dL_edit_26 (by omega) (by omega) ⟨_, _, _, _, _, rfl, h1, rfl, g1⟩
  · obtain ⟨x1, ad1, ln1, v1, rfl, h, rfl, g1⟩ := h1
    refine mW.eq (lv' := [(0, .ref (ad1 0)), (1, .int a1), (2, .int a2), (3, .int a3), (4, .ref (ad1 59))]) (st' := [.int x1, .int 0, .ref (ad1 59)]) rfl (by first | rfl | simp only [g1.n 0 (by decide), g1.n 59 (by decide)]) (by simp only [g1.n 59 (by decide)]; rfl) rfl ?_
    refine m_i2l C dL_edit_10 rfl ?_
    refine m_last (w' := gW cy ad1 ln1 v1 (vp_updL ou 0 x1.toInt64)) C 59 gp_59 (by unfold vp_in; decide) dL_edit_11 gs_59 ?_
    refine m_goto (tgt := 27) C dL_edit_12 (by decide) ?_
    refine m_iconst (v := 0) C dL_edit_27 (by decide) ?_
    exact m_iret C dL_edit_28 (by omega) (by omega) ⟨_, _, _, _, _, rfl, h, rfl, g1⟩
def wp_L_copy (mc ms : Nat) (ln : Nat → Nat) (v : gV) (ou : Nat → Int64) (a1 : Int32) (a2 : Int32) (post : Int32 → (Nat → Nat) → gV → (Nat → Int64) → Prop) : Prop :=
  wp_X3_copy mc ms ln v a1 a2 (fun (ln1 : Nat → Nat) (v1 : gV) => post 0 ln1 v1 ou) (fun E ln1 v1 => (E = "java/lang/IndexOutOfBoundsException" ∧ post 1 ln1 v1 ou))
set_option maxHeartbeats 4000000 in
set_option maxRecDepth 100000 in
theorem s_L_copy (l : Launch) (D : va_G) (cy : Nat → ClassId) (sA ad ln : Nat → Nat) (v : gV) (ou : Nat → Int64) (mc ms : Nat) (a1 : Int32) (a2 : Int32) (hl : l.stackTraces = false) {post : Int32 → (Nat → Nat) → gV → (Nat → Int64) → Prop} (h : wp_L_copy mc ms ln v ou a1 a2 post) : mL l D cy sA yL_copy wsL_copy 8 mc ms [.ref (ad 0), .int a1, .int a2] (gW cy ad ln v ou) (fun r w1 => ∃ (x1 : Int32) (ad1 ln1 : Nat → Nat) (v1 : gV) (ou1 : Nat → Int64), r = some (.int x1) ∧ post x1 ln1 v1 ou1 ∧ w1 = gW cy ad1 ln1 v1 ou1 ∧ gA ad ad1) := by
  unfold wp_L_copy at h
  refine mL.of (cc := cL_copy) (nL := 4) (ret0 := some .int) (hh := [(0, 6, 9, 25), (0, 6, 12, 19)]) (by decide +kernel) rfl (Nat.le_of_ble_eq_true rfl) ?_
  intro p e s m args below meth c A C hT hX hC
  refine mW.sub (lv' := [(0, .ref (ad 0)), (1, .int a1), (2, .int a2)]) [0, 1, 2] rfl ?_
  refine m_aload_n C dL_copy_0 rfl 0 rfl ?_
  refine m_iload_n C dL_copy_1 rfl 1 rfl ?_
  refine m_iload_n C dL_copy_2 rfl 2 rfl ?_
  refine m_callVC C hX (s_X3_copy l D cy sA ad ln v ou mc ms a1 a2 hl h) (cwV 2 C.2.2.2.2.1 gL_copy_X3_copy rfl rfl rfl (by decide +kernel) ⟨Nat.le_of_ble_eq_true rfl, Nat.le_of_ble_eq_true rfl⟩) 0 gp_0 rfl rfl rfl (Nat.le_of_ble_eq_true rfl) dL_copy_3 ⟨by show 0 + mc ≤ mc; omega, by show 0 + ms ≤ ms; omega⟩ (fun E w1 q h1 => ?_) (fun r w1 h1 => ?_)
  · obtain ⟨ad1, ln1, v1, h1, rfl, g1⟩ := h1
    rcases h1 with ⟨rfl, h1⟩
    · refine ⟨[], ⟨0, 6, 9, 25⟩, [⟨0, 6, 12, 19⟩], "java/lang/IndexOutOfBoundsException", by rw [hT]; rfl, (fun z hz => by cases hz), by decide, by decide, C.2.2.2.2.1 _ (by decide +kernel), va_any rfl (hX.2.2.2 _ (by decide)), ?_⟩
      refine m_astore_n (lv' := [(3, .ref q), (0, .ref (ad 0)), (1, .int a1), (2, .int a2)]) C dL_copy_9 rfl (by decide) rfl ?_
      refine m_iconst (v := 1) C dL_copy_10 (by decide) ?_
      exact m_iret C dL_copy_11 (by omega) (by omega) ⟨_, _, _, _, _, rfl, h1, rfl, g1⟩
  · obtain ⟨ad1, ln1, v1, rfl, h, rfl, g1⟩ := h1
    refine mW.eq (st' := []) rfl rfl rfl rfl ?_
    refine m_goto (tgt := 15) C dL_copy_6 (by decide) ?_
    refine m_iconst (v := 0) C dL_copy_15 (by decide) ?_
    exact m_iret C dL_copy_16 (by omega) (by omega) ⟨_, _, _, _, _, rfl, h, rfl, g1⟩
def wp_L_size (ln : Nat → Nat) (v : gV) (ou : Nat → Int64) (a1 : Int32) (post : Int32 → gV → (Nat → Int64) → Prop) : Prop :=
  wp_X3_size ln v a1 (fun (x : Int32) (v1 : gV) => post 0 v1 (vp_updL ou 0 x.toInt64)) (fun E v1 => (E = "java/lang/IndexOutOfBoundsException" ∧ post 1 v1 ou))
set_option maxHeartbeats 4000000 in
set_option maxRecDepth 100000 in
theorem s_L_size (l : Launch) (D : va_G) (cy : Nat → ClassId) (sA ad ln : Nat → Nat) (v : gV) (ou : Nat → Int64) (a1 : Int32) (hl : l.stackTraces = false) {post : Int32 → gV → (Nat → Int64) → Prop} (h : wp_L_size ln v ou a1 post) : mL l D cy sA yL_size wsL_size 8 1 6 [.ref (ad 0), .int a1, .ref (ad 59)] (gW cy ad ln v ou) (fun r w1 => ∃ (x1 : Int32) (v1 : gV) (ou1 : Nat → Int64), r = some (.int x1) ∧ post x1 v1 ou1 ∧ w1 = gW cy ad ln v1 ou1) := by
  unfold wp_L_size at h
  refine mL.of (cc := cL_size) (nL := 4) (ret0 := some .int) (hh := [(0, 9, 12, 25)]) (by decide +kernel) rfl (Nat.le_of_ble_eq_true rfl) ?_
  intro p e s m args below meth c A C hT hX hC
  refine mW.sub (lv' := [(0, .ref (ad 0)), (1, .int a1), (2, .ref (ad 59))]) [0, 1, 2] rfl ?_
  refine m_aload_n C dL_size_0 rfl 2 rfl ?_
  refine m_iconst (v := 0) C dL_size_1 (by decide) ?_
  refine m_aload_n C dL_size_2 rfl 0 rfl ?_
  refine m_iload_n C dL_size_3 rfl 1 rfl ?_
  refine m_callVC C hX (s_X3_size l D cy sA ad ln v ou a1 hl h) (cwV 1 C.2.2.2.2.1 gL_size_X3_size rfl rfl rfl (by decide +kernel) ⟨Nat.le_of_ble_eq_true rfl, Nat.le_of_ble_eq_true rfl⟩) 0 gp_0 rfl rfl rfl (Nat.le_of_ble_eq_true rfl) dL_size_4 ⟨Nat.le_of_ble_eq_true rfl, Nat.le_of_ble_eq_true rfl⟩ (fun E w1 q h1 => ?_) (fun r w1 h1 => ?_)
  · obtain ⟨v1, h1, rfl⟩ := h1
    rcases h1 with ⟨rfl, h1⟩
    · refine ⟨[], ⟨0, 9, 12, 25⟩, [], "java/lang/IndexOutOfBoundsException", by rw [hT]; rfl, (fun z hz => by cases hz), by decide, by decide, C.2.2.2.2.1 _ (by decide +kernel), va_any rfl (hX.2.2.2 _ (by decide)), ?_⟩
      refine m_astore_n (lv' := [(3, .ref q), (0, .ref (ad 0)), (1, .int a1), (2, .ref (ad 59))]) C dL_size_12 rfl (by decide) rfl ?_
      refine m_iconst (v := 1) C dL_size_13 (by decide) ?_
      exact m_iret C dL_size_14 (Nat.le_of_ble_eq_true rfl) (Nat.le_of_ble_eq_true rfl) ⟨_, _, _, rfl, h1, rfl⟩
  · obtain ⟨x1, v1, rfl, h, rfl⟩ := h1
    refine mW.eq (st' := [.int x1, .int 0, .ref (ad 59)]) rfl rfl rfl rfl ?_
    refine m_i2l C dL_size_7 rfl ?_
    refine m_last (w' := gW cy ad ln v1 (vp_updL ou 0 x1.toInt64)) C 59 gp_59 (by unfold vp_in; decide) dL_size_8 gs_59 ?_
    refine m_goto (tgt := 15) C dL_size_9 (by decide) ?_
    refine m_iconst (v := 0) C dL_size_15 (by decide) ?_
    exact m_iret C dL_size_16 (Nat.le_of_ble_eq_true rfl) (Nat.le_of_ble_eq_true rfl) ⟨_, _, _, rfl, h, rfl⟩
def wp_L_get (ln : Nat → Nat) (v : gV) (ou : Nat → Int64) (a1 : Int32) (a2 : Int32) (post : Int32 → gV → (Nat → Int64) → Prop) : Prop :=
  wp_X3_get ln v a1 a2 (fun (x : Int32) (v1 : gV) => post 0 v1 (vp_updL ou 0 x.toInt64)) (fun E v1 => (E = "java/lang/IndexOutOfBoundsException" ∧ post 1 v1 ou))
set_option maxHeartbeats 4000000 in
set_option maxRecDepth 100000 in
theorem s_L_get (l : Launch) (D : va_G) (cy : Nat → ClassId) (sA ad ln : Nat → Nat) (v : gV) (ou : Nat → Int64) (a1 : Int32) (a2 : Int32) (hl : l.stackTraces = false) {post : Int32 → gV → (Nat → Int64) → Prop} (h : wp_L_get ln v ou a1 a2 post) : mL l D cy sA yL_get wsL_get 8 2 12 [.ref (ad 0), .int a1, .int a2, .ref (ad 59)] (gW cy ad ln v ou) (fun r w1 => ∃ (x1 : Int32) (v1 : gV) (ou1 : Nat → Int64), r = some (.int x1) ∧ post x1 v1 ou1 ∧ w1 = gW cy ad ln v1 ou1) := by
  unfold wp_L_get at h
  refine mL.of (cc := cL_get) (nL := 5) (ret0 := some .int) (hh := [(0, 10, 13, 25)]) (by decide +kernel) rfl (Nat.le_of_ble_eq_true rfl) ?_
  intro p e s m args below meth c A C hT hX hC
  refine mW.sub (lv' := [(0, .ref (ad 0)), (1, .int a1), (2, .int a2), (3, .ref (ad 59))]) [0, 1, 2, 3] rfl ?_
  refine m_aload_n C dL_get_0 rfl 3 rfl ?_
  refine m_iconst (v := 0) C dL_get_1 (by decide) ?_
  refine m_aload_n C dL_get_2 rfl 0 rfl ?_
  refine m_iload_n C dL_get_3 rfl 1 rfl ?_
  refine m_iload_n C dL_get_4 rfl 2 rfl ?_
  refine m_callVC C hX (s_X3_get l D cy sA ad ln v ou a1 a2 hl h) (cwV 2 C.2.2.2.2.1 gL_get_X3_get rfl rfl rfl (by decide +kernel) ⟨Nat.le_of_ble_eq_true rfl, Nat.le_of_ble_eq_true rfl⟩) 0 gp_0 rfl rfl rfl (Nat.le_of_ble_eq_true rfl) dL_get_5 ⟨Nat.le_of_ble_eq_true rfl, Nat.le_of_ble_eq_true rfl⟩ (fun E w1 q h1 => ?_) (fun r w1 h1 => ?_)
  · obtain ⟨v1, h1, rfl⟩ := h1
    rcases h1 with ⟨rfl, h1⟩
    · refine ⟨[], ⟨0, 10, 13, 25⟩, [], "java/lang/IndexOutOfBoundsException", by rw [hT]; rfl, (fun z hz => by cases hz), by decide, by decide, C.2.2.2.2.1 _ (by decide +kernel), va_any rfl (hX.2.2.2 _ (by decide)), ?_⟩
      refine m_astore (lv' := [(4, .ref q), (0, .ref (ad 0)), (1, .int a1), (2, .int a2), (3, .ref (ad 59))]) C dL_get_13 (by decide) rfl ?_
      refine m_iconst (v := 1) C dL_get_15 (by decide) ?_
      exact m_iret C dL_get_16 (Nat.le_of_ble_eq_true rfl) (Nat.le_of_ble_eq_true rfl) ⟨_, _, _, rfl, h1, rfl⟩
  · obtain ⟨x1, v1, rfl, h, rfl⟩ := h1
    refine mW.eq (st' := [.int x1, .int 0, .ref (ad 59)]) rfl rfl rfl rfl ?_
    refine m_i2l C dL_get_8 rfl ?_
    refine m_last (w' := gW cy ad ln v1 (vp_updL ou 0 x1.toInt64)) C 59 gp_59 (by unfold vp_in; decide) dL_get_9 gs_59 ?_
    refine m_goto (tgt := 17) C dL_get_10 (by decide) ?_
    refine m_iconst (v := 0) C dL_get_17 (by decide) ?_
    exact m_iret C dL_get_18 (Nat.le_of_ble_eq_true rfl) (Nat.le_of_ble_eq_true rfl) ⟨_, _, _, rfl, h, rfl⟩
def wp_L_parts (ln : Nat → Nat) (v : gV) (ou : Nat → Int64) (a1 : Int32) (post : Int32 → gV → (Nat → Int64) → Prop) : Prop :=
  wp_X3_parts ln v a1 (fun (x : Int32) (v1 : gV) => post 0 v1 (vp_updL ou 0 x.toInt64)) (fun E v1 => (E = "java/lang/IndexOutOfBoundsException" ∧ post 1 v1 ou))
set_option maxHeartbeats 4000000 in
set_option maxRecDepth 100000 in
theorem s_L_parts (l : Launch) (D : va_G) (cy : Nat → ClassId) (sA ad ln : Nat → Nat) (v : gV) (ou : Nat → Int64) (a1 : Int32) (hl : l.stackTraces = false) {post : Int32 → gV → (Nat → Int64) → Prop} (h : wp_L_parts ln v ou a1 post) : mL l D cy sA yL_parts wsL_parts 8 1 6 [.ref (ad 0), .int a1, .ref (ad 59)] (gW cy ad ln v ou) (fun r w1 => ∃ (x1 : Int32) (v1 : gV) (ou1 : Nat → Int64), r = some (.int x1) ∧ post x1 v1 ou1 ∧ w1 = gW cy ad ln v1 ou1) := by
  unfold wp_L_parts at h
  refine mL.of (cc := cL_parts) (nL := 4) (ret0 := some .int) (hh := [(0, 9, 12, 25)]) (by decide +kernel) rfl (Nat.le_of_ble_eq_true rfl) ?_
  intro p e s m args below meth c A C hT hX hC
  refine mW.sub (lv' := [(0, .ref (ad 0)), (1, .int a1), (2, .ref (ad 59))]) [0, 1, 2] rfl ?_
  refine m_aload_n C dL_parts_0 rfl 2 rfl ?_
  refine m_iconst (v := 0) C dL_parts_1 (by decide) ?_
  refine m_aload_n C dL_parts_2 rfl 0 rfl ?_
  refine m_iload_n C dL_parts_3 rfl 1 rfl ?_
  refine m_callVC C hX (s_X3_parts l D cy sA ad ln v ou a1 hl h) (cwV 1 C.2.2.2.2.1 gL_parts_X3_parts rfl rfl rfl (by decide +kernel) ⟨Nat.le_of_ble_eq_true rfl, Nat.le_of_ble_eq_true rfl⟩) 0 gp_0 rfl rfl rfl (Nat.le_of_ble_eq_true rfl) dL_parts_4 ⟨Nat.le_of_ble_eq_true rfl, Nat.le_of_ble_eq_true rfl⟩ (fun E w1 q h1 => ?_) (fun r w1 h1 => ?_)
  · obtain ⟨v1, h1, rfl⟩ := h1
    rcases h1 with ⟨rfl, h1⟩
    · refine ⟨[], ⟨0, 9, 12, 25⟩, [], "java/lang/IndexOutOfBoundsException", by rw [hT]; rfl, (fun z hz => by cases hz), by decide, by decide, C.2.2.2.2.1 _ (by decide +kernel), va_any rfl (hX.2.2.2 _ (by decide)), ?_⟩
      refine m_astore_n (lv' := [(3, .ref q), (0, .ref (ad 0)), (1, .int a1), (2, .ref (ad 59))]) C dL_parts_12 rfl (by decide) rfl ?_
      refine m_iconst (v := 1) C dL_parts_13 (by decide) ?_
      exact m_iret C dL_parts_14 (Nat.le_of_ble_eq_true rfl) (Nat.le_of_ble_eq_true rfl) ⟨_, _, _, rfl, h1, rfl⟩
  · obtain ⟨x1, v1, rfl, h, rfl⟩ := h1
    refine mW.eq (st' := [.int x1, .int 0, .ref (ad 59)]) rfl rfl rfl rfl ?_
    refine m_i2l C dL_parts_7 rfl ?_
    refine m_last (w' := gW cy ad ln v1 (vp_updL ou 0 x1.toInt64)) C 59 gp_59 (by unfold vp_in; decide) dL_parts_8 gs_59 ?_
    refine m_goto (tgt := 15) C dL_parts_9 (by decide) ?_
    refine m_iconst (v := 0) C dL_parts_15 (by decide) ?_
    exact m_iret C dL_parts_16 (Nat.le_of_ble_eq_true rfl) (Nat.le_of_ble_eq_true rfl) ⟨_, _, _, rfl, h, rfl⟩
def wp_L_part (ln : Nat → Nat) (v : gV) (ou : Nat → Int64) (a1 : Int32) (a2 : Int32) (post : Int32 → gV → (Nat → Int64) → Prop) : Prop :=
  wp_X3_part ln v a1 a2 (fun (x : Int32) (v1 : gV) => post 0 v1 (vp_updL ou 0 x.toInt64)) (fun E v1 => (E = "java/lang/IndexOutOfBoundsException" ∧ post 1 v1 ou))
set_option maxHeartbeats 4000000 in
set_option maxRecDepth 100000 in
theorem s_L_part (l : Launch) (D : va_G) (cy : Nat → ClassId) (sA ad ln : Nat → Nat) (v : gV) (ou : Nat → Int64) (a1 : Int32) (a2 : Int32) (hl : l.stackTraces = false) {post : Int32 → gV → (Nat → Int64) → Prop} (h : wp_L_part ln v ou a1 a2 post) : mL l D cy sA yL_part wsL_part 8 2 12 [.ref (ad 0), .int a1, .int a2, .ref (ad 59)] (gW cy ad ln v ou) (fun r w1 => ∃ (x1 : Int32) (v1 : gV) (ou1 : Nat → Int64), r = some (.int x1) ∧ post x1 v1 ou1 ∧ w1 = gW cy ad ln v1 ou1) := by
  unfold wp_L_part at h
  refine mL.of (cc := cL_part) (nL := 5) (ret0 := some .int) (hh := [(0, 10, 13, 25)]) (by decide +kernel) rfl (Nat.le_of_ble_eq_true rfl) ?_
  intro p e s m args below meth c A C hT hX hC
  refine mW.sub (lv' := [(0, .ref (ad 0)), (1, .int a1), (2, .int a2), (3, .ref (ad 59))]) [0, 1, 2, 3] rfl ?_
  refine m_aload_n C dL_part_0 rfl 3 rfl ?_
  refine m_iconst (v := 0) C dL_part_1 (by decide) ?_
  refine m_aload_n C dL_part_2 rfl 0 rfl ?_
  refine m_iload_n C dL_part_3 rfl 1 rfl ?_
  refine m_iload_n C dL_part_4 rfl 2 rfl ?_
  refine m_callVC C hX (s_X3_part l D cy sA ad ln v ou a1 a2 hl h) (cwV 2 C.2.2.2.2.1 gL_part_X3_part rfl rfl rfl (by decide +kernel) ⟨Nat.le_of_ble_eq_true rfl, Nat.le_of_ble_eq_true rfl⟩) 0 gp_0 rfl rfl rfl (Nat.le_of_ble_eq_true rfl) dL_part_5 ⟨Nat.le_of_ble_eq_true rfl, Nat.le_of_ble_eq_true rfl⟩ (fun E w1 q h1 => ?_) (fun r w1 h1 => ?_)
  · obtain ⟨v1, h1, rfl⟩ := h1
    rcases h1 with ⟨rfl, h1⟩
    · refine ⟨[], ⟨0, 10, 13, 25⟩, [], "java/lang/IndexOutOfBoundsException", by rw [hT]; rfl, (fun z hz => by cases hz), by decide, by decide, C.2.2.2.2.1 _ (by decide +kernel), va_any rfl (hX.2.2.2 _ (by decide)), ?_⟩
      refine m_astore (lv' := [(4, .ref q), (0, .ref (ad 0)), (1, .int a1), (2, .int a2), (3, .ref (ad 59))]) C dL_part_13 (by decide) rfl ?_
      refine m_iconst (v := 1) C dL_part_15 (by decide) ?_
      exact m_iret C dL_part_16 (Nat.le_of_ble_eq_true rfl) (Nat.le_of_ble_eq_true rfl) ⟨_, _, _, rfl, h1, rfl⟩
  · obtain ⟨x1, v1, rfl, h, rfl⟩ := h1
    refine mW.eq (st' := [.int x1, .int 0, .ref (ad 59)]) rfl rfl rfl rfl ?_
    refine m_i2l C dL_part_8 rfl ?_
    refine m_last (w' := gW cy ad ln v1 (vp_updL ou 0 x1.toInt64)) C 59 gp_59 (by unfold vp_in; decide) dL_part_9 gs_59 ?_
    refine m_goto (tgt := 17) C dL_part_10 (by decide) ?_
    refine m_iconst (v := 0) C dL_part_17 (by decide) ?_
    exact m_iret C dL_part_18 (Nat.le_of_ble_eq_true rfl) (Nat.le_of_ble_eq_true rfl) ⟨_, _, _, rfl, h, rfl⟩
def wp_L_about (ln : Nat → Nat) (v : gV) (ou : Nat → Int64) (a1 : Int32) (a2 : Int32) (post : Int32 → gV → (Nat → Int64) → Prop) : Prop :=
  wp_X3_about ln v a1 a2 (fun (x : Int32) (v1 : gV) => post 0 v1 (vp_updL ou 0 x.toInt64)) (fun E v1 => (E = "java/util/NoSuchElementException" ∧ post 1 v1 ou) ∨ (E = "java/lang/IllegalArgumentException" ∧ post 2 v1 ou))
set_option maxHeartbeats 4000000 in
set_option maxRecDepth 100000 in
theorem s_L_about (l : Launch) (D : va_G) (cy : Nat → ClassId) (sA ad ln : Nat → Nat) (v : gV) (ou : Nat → Int64) (a1 : Int32) (a2 : Int32) (hl : l.stackTraces = false) {post : Int32 → gV → (Nat → Int64) → Prop} (h : wp_L_about ln v ou a1 a2 post) : mL l D cy sA yL_about wsL_about 7 1 6 [.ref (ad 0), .int a1, .int a2, .ref (ad 59)] (gW cy ad ln v ou) (fun r w1 => ∃ (x1 : Int32) (v1 : gV) (ou1 : Nat → Int64), r = some (.int x1) ∧ post x1 v1 ou1 ∧ w1 = gW cy ad ln v1 ou1) := by
  unfold wp_L_about at h
  refine mL.of (cc := cL_about) (nL := 5) (ret0 := some .int) (hh := [(0, 10, 13, 50), (0, 10, 17, 13)]) (by decide +kernel) rfl (Nat.le_of_ble_eq_true rfl) ?_
  intro p e s m args below meth c A C hT hX hC
  refine mW.sub (lv' := [(0, .ref (ad 0)), (1, .int a1), (2, .int a2), (3, .ref (ad 59))]) [0, 1, 2, 3] rfl ?_
  refine m_aload_n C dL_about_0 rfl 3 rfl ?_
  refine m_iconst (v := 0) C dL_about_1 (by decide) ?_
  refine m_aload_n C dL_about_2 rfl 0 rfl ?_
  refine m_iload_n C dL_about_3 rfl 1 rfl ?_
  refine m_iload_n C dL_about_4 rfl 2 rfl ?_
  refine m_callVC C hX (s_X3_about l D cy sA ad ln v ou a1 a2 hl h) (cwV 2 C.2.2.2.2.1 gL_about_X3_about rfl rfl rfl (by decide +kernel) ⟨Nat.le_of_ble_eq_true rfl, Nat.le_of_ble_eq_true rfl⟩) 0 gp_0 rfl rfl rfl (Nat.le_of_ble_eq_true rfl) dL_about_5 ⟨Nat.le_of_ble_eq_true rfl, Nat.le_of_ble_eq_true rfl⟩ (fun E w1 q h1 => ?_) (fun r w1 h1 => ?_)
  · obtain ⟨v1, h1, rfl⟩ := h1
    rcases h1 with ⟨rfl, h1⟩ | ⟨rfl, h1⟩
    · refine ⟨[], ⟨0, 10, 13, 50⟩, [⟨0, 10, 17, 13⟩], "java/util/NoSuchElementException", by rw [hT]; rfl, (fun z hz => by cases hz), by decide, by decide, C.2.2.2.2.1 _ (by decide +kernel), va_any rfl (hX.2.2.2 _ (by decide)), ?_⟩
      refine m_astore (lv' := [(4, .ref q), (0, .ref (ad 0)), (1, .int a1), (2, .int a2), (3, .ref (ad 59))]) C dL_about_13 (by decide) rfl ?_
      refine m_iconst (v := 1) C dL_about_15 (by decide) ?_
      exact m_iret C dL_about_16 (Nat.le_of_ble_eq_true rfl) (Nat.le_of_ble_eq_true rfl) ⟨_, _, _, rfl, h1, rfl⟩
    · refine ⟨[⟨0, 10, 13, 50⟩], ⟨0, 10, 17, 13⟩, [], "java/lang/IllegalArgumentException", by rw [hT]; rfl, (fun z hz => Or.inr (by
          simp only [List.mem_cons, List.not_mem_nil, or_false] at hz
          rcases hz with rfl
          · exact ⟨by decide, "java/util/NoSuchElementException", C.2.2.2.2.1 _ (by decide +kernel), hC (_, _) (by decide)⟩)), by decide, by decide, C.2.2.2.2.1 _ (by decide +kernel), va_any rfl (hX.2.2.2 _ (by decide)), ?_⟩
      refine m_astore (lv' := [(4, .ref q), (0, .ref (ad 0)), (1, .int a1), (2, .int a2), (3, .ref (ad 59))]) C dL_about_17 (by decide) rfl ?_
      refine m_iconst (v := 2) C dL_about_19 (by decide) ?_
      exact m_iret C dL_about_20 (Nat.le_of_ble_eq_true rfl) (Nat.le_of_ble_eq_true rfl) ⟨_, _, _, rfl, h1, rfl⟩
  · obtain ⟨x1, v1, rfl, h, rfl⟩ := h1
    refine mW.eq (st' := [.int x1, .int 0, .ref (ad 59)]) rfl rfl rfl rfl ?_
    refine m_i2l C dL_about_8 rfl ?_
    refine m_last (w' := gW cy ad ln v1 (vp_updL ou 0 x1.toInt64)) C 59 gp_59 (by unfold vp_in; decide) dL_about_9 gs_59 ?_
    refine m_goto (tgt := 21) C dL_about_10 (by decide) ?_
    refine m_iconst (v := 0) C dL_about_21 (by decide) ?_
    exact m_iret C dL_about_22 (Nat.le_of_ble_eq_true rfl) (Nat.le_of_ble_eq_true rfl) ⟨_, _, _, rfl, h, rfl⟩
def wp_L_common (ln : Nat → Nat) (v : gV) (ou : Nat → Int64) (a1 : Int32) (a2 : Int32) (post : Int32 → gV → (Nat → Int64) → Prop) : Prop :=
  wp_X3_common ln v a1 a2 (fun (x : Int32) (v1 : gV) => post 0 v1 (vp_updL ou 0 x.toInt64)) (fun E v1 => (E = "java/lang/IndexOutOfBoundsException" ∧ post 1 v1 ou))
set_option maxHeartbeats 4000000 in
set_option maxRecDepth 100000 in
theorem s_L_common (l : Launch) (D : va_G) (cy : Nat → ClassId) (sA ad ln : Nat → Nat) (v : gV) (ou : Nat → Int64) (a1 : Int32) (a2 : Int32) (hl : l.stackTraces = false) {post : Int32 → gV → (Nat → Int64) → Prop} (h : wp_L_common ln v ou a1 a2 post) : mL l D cy sA yL_common wsL_common 8 2 12 [.ref (ad 0), .int a1, .int a2, .ref (ad 59)] (gW cy ad ln v ou) (fun r w1 => ∃ (x1 : Int32) (v1 : gV) (ou1 : Nat → Int64), r = some (.int x1) ∧ post x1 v1 ou1 ∧ w1 = gW cy ad ln v1 ou1) := by
  unfold wp_L_common at h
  refine mL.of (cc := cL_common) (nL := 5) (ret0 := some .int) (hh := [(0, 10, 13, 25)]) (by decide +kernel) rfl (Nat.le_of_ble_eq_true rfl) ?_
  intro p e s m args below meth c A C hT hX hC
  refine mW.sub (lv' := [(0, .ref (ad 0)), (1, .int a1), (2, .int a2), (3, .ref (ad 59))]) [0, 1, 2, 3] rfl ?_
  refine m_aload_n C dL_common_0 rfl 3 rfl ?_
  refine m_iconst (v := 0) C dL_common_1 (by decide) ?_
  refine m_aload_n C dL_common_2 rfl 0 rfl ?_
  refine m_iload_n C dL_common_3 rfl 1 rfl ?_
  refine m_iload_n C dL_common_4 rfl 2 rfl ?_
  refine m_callVC C hX (s_X3_common l D cy sA ad ln v ou a1 a2 hl h) (cwV 2 C.2.2.2.2.1 gL_common_X3_common rfl rfl rfl (by decide +kernel) ⟨Nat.le_of_ble_eq_true rfl, Nat.le_of_ble_eq_true rfl⟩) 0 gp_0 rfl rfl rfl (Nat.le_of_ble_eq_true rfl) dL_common_5 ⟨Nat.le_of_ble_eq_true rfl, Nat.le_of_ble_eq_true rfl⟩ (fun E w1 q h1 => ?_) (fun r w1 h1 => ?_)
  · obtain ⟨v1, h1, rfl⟩ := h1
    rcases h1 with ⟨rfl, h1⟩
    · refine ⟨[], ⟨0, 10, 13, 25⟩, [], "java/lang/IndexOutOfBoundsException", by rw [hT]; rfl, (fun z hz => by cases hz), by decide, by decide, C.2.2.2.2.1 _ (by decide +kernel), va_any rfl (hX.2.2.2 _ (by decide)), ?_⟩
      refine m_astore (lv' := [(4, .ref q), (0, .ref (ad 0)), (1, .int a1), (2, .int a2), (3, .ref (ad 59))]) C dL_common_13 (by decide) rfl ?_
      refine m_iconst (v := 1) C dL_common_15 (by decide) ?_
      exact m_iret C dL_common_16 (Nat.le_of_ble_eq_true rfl) (Nat.le_of_ble_eq_true rfl) ⟨_, _, _, rfl, h1, rfl⟩
  · obtain ⟨x1, v1, rfl, h, rfl⟩ := h1
    refine mW.eq (st' := [.int x1, .int 0, .ref (ad 59)]) rfl rfl rfl rfl ?_
    refine m_i2l C dL_common_8 rfl ?_
    refine m_last (w' := gW cy ad ln v1 (vp_updL ou 0 x1.toInt64)) C 59 gp_59 (by unfold vp_in; decide) dL_common_9 gs_59 ?_
    refine m_goto (tgt := 17) C dL_common_10 (by decide) ?_
    refine m_iconst (v := 0) C dL_common_17 (by decide) ?_
    exact m_iret C dL_common_18 (Nat.le_of_ble_eq_true rfl) (Nat.le_of_ble_eq_true rfl) ⟨_, _, _, rfl, h, rfl⟩
def wp_L_all (ln : Nat → Nat) (v : gV) (ou : Nat → Int64) (a1 : Int32) (post : Int32 → gV → (Nat → Int64) → Prop) : Prop :=
  wp_X3_all ln v a1 (fun (x : Int32) (v1 : gV) => post 0 v1 (vp_updL ou 0 x.toInt64)) (fun E v1 => (E = "java/lang/IllegalArgumentException" ∧ post 1 v1 ou))
set_option maxHeartbeats 4000000 in
set_option maxRecDepth 100000 in
theorem s_L_all (l : Launch) (D : va_G) (cy : Nat → ClassId) (sA ad ln : Nat → Nat) (v : gV) (ou : Nat → Int64) (a1 : Int32) (hl : l.stackTraces = false) {post : Int32 → gV → (Nat → Int64) → Prop} (h : wp_L_all ln v ou a1 post) : mL l D cy sA yL_all wsL_all 7 1 6 [.ref (ad 0), .int a1, .ref (ad 59)] (gW cy ad ln v ou) (fun r w1 => ∃ (x1 : Int32) (v1 : gV) (ou1 : Nat → Int64), r = some (.int x1) ∧ post x1 v1 ou1 ∧ w1 = gW cy ad ln v1 ou1) := by
  unfold wp_L_all at h
  refine mL.of (cc := cL_all) (nL := 4) (ret0 := some .int) (hh := [(0, 9, 12, 13)]) (by decide +kernel) rfl (Nat.le_of_ble_eq_true rfl) ?_
  intro p e s m args below meth c A C hT hX hC
  refine mW.sub (lv' := [(0, .ref (ad 0)), (1, .int a1), (2, .ref (ad 59))]) [0, 1, 2] rfl ?_
  refine m_aload_n C dL_all_0 rfl 2 rfl ?_
  refine m_iconst (v := 0) C dL_all_1 (by decide) ?_
  refine m_aload_n C dL_all_2 rfl 0 rfl ?_
  refine m_iload_n C dL_all_3 rfl 1 rfl ?_
  refine m_callVC C hX (s_X3_all l D cy sA ad ln v ou a1 hl h) (cwV 1 C.2.2.2.2.1 gL_all_X3_all rfl rfl rfl (by decide +kernel) ⟨Nat.le_of_ble_eq_true rfl, Nat.le_of_ble_eq_true rfl⟩) 0 gp_0 rfl rfl rfl (Nat.le_of_ble_eq_true rfl) dL_all_4 ⟨Nat.le_of_ble_eq_true rfl, Nat.le_of_ble_eq_true rfl⟩ (fun E w1 q h1 => ?_) (fun r w1 h1 => ?_)
  · obtain ⟨v1, h1, rfl⟩ := h1
    rcases h1 with ⟨rfl, h1⟩
    · refine ⟨[], ⟨0, 9, 12, 13⟩, [], "java/lang/IllegalArgumentException", by rw [hT]; rfl, (fun z hz => by cases hz), by decide, by decide, C.2.2.2.2.1 _ (by decide +kernel), va_any rfl (hX.2.2.2 _ (by decide)), ?_⟩
      refine m_astore_n (lv' := [(3, .ref q), (0, .ref (ad 0)), (1, .int a1), (2, .ref (ad 59))]) C dL_all_12 rfl (by decide) rfl ?_
      refine m_iconst (v := 1) C dL_all_13 (by decide) ?_
      exact m_iret C dL_all_14 (Nat.le_of_ble_eq_true rfl) (Nat.le_of_ble_eq_true rfl) ⟨_, _, _, rfl, h1, rfl⟩
  · obtain ⟨x1, v1, rfl, h, rfl⟩ := h1
    refine mW.eq (st' := [.int x1, .int 0, .ref (ad 59)]) rfl rfl rfl rfl ?_
    refine m_i2l C dL_all_7 rfl ?_
    refine m_last (w' := gW cy ad ln v1 (vp_updL ou 0 x1.toInt64)) C 59 gp_59 (by unfold vp_in; decide) dL_all_8 gs_59 ?_
    refine m_goto (tgt := 15) C dL_all_9 (by decide) ?_
    refine m_iconst (v := 0) C dL_all_15 (by decide) ?_
    exact m_iret C dL_all_16 (Nat.le_of_ble_eq_true rfl) (Nat.le_of_ble_eq_true rfl) ⟨_, _, _, rfl, h, rfl⟩
