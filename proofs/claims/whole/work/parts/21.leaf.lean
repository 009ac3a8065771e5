theorem p_X1_mark (l : Launch) (D : va_G) (cy : Nat → ClassId) (ad ln : Nat → Nat) (v : gV) (ou : Nat → Int64) (a1 : Int32) : mM l D cy yX1_mark wsX1_mark 1 0 0 [.int a1] (gW cy ad ln v ou) (fun r w1 => r = some (.int (pmk (a1 &&& 255))) ∧ w1 = gW cy ad ln v ou) := by
  refine pu_i (s_X1_mark l D cy ad ln v ou a1 ?_)
  unfold wp_X1_mark
  intro x1 e1
  subst e1
  exact ⟨rfl, rfl⟩

theorem p_X1_turned (l : Launch) (D : va_G) (cy : Nat → ClassId) (ad ln : Nat → Nat) (v : gV) (ou : Nat → Int64) (a1 : Int32) (a2 : Int32) : mM l D cy yX1_turned wsX1_turned 1 0 0 [.int a1, .int a2] (gW cy ad ln v ou) (fun r w1 => r = some (.int (ptn a1 a2)) ∧ w1 = gW cy ad ln v ou) := by
  refine pu_i (s_X1_turned l D cy ad ln v ou a1 a2 ?_)
  unfold wp_X1_turned
  exact ⟨rfl, rfl⟩

theorem p_X4_mark (l : Launch) (D : va_G) (cy : Nat → ClassId) (ad ln : Nat → Nat) (v : gV) (ou : Nat → Int64) (a1 : Int32) : mM l D cy yX4_mark wsX4_mark 1 0 0 [.int a1] (gW cy ad ln v ou) (fun r w1 => r = some (.int (pmk a1)) ∧ w1 = gW cy ad ln v ou) := by
  refine pu_i (s_X4_mark l D cy ad ln v ou a1 ?_)
  unfold wp_X4_mark
  exact ⟨rfl, rfl⟩

theorem p_X4_in (l : Launch) (D : va_G) (cy : Nat → ClassId) (ad ln : Nat → Nat) (v : gV) (ou : Nat → Int64) (a1 : Int32) (a2 : Int32) (a3 : Int32) : mM l D cy yX4_in wsX4_in 1 0 0 [.int a1, .int a2, .int a3] (gW cy ad ln v ou) (fun r w1 => r = some (.int (pin a1 a2 a3)) ∧ w1 = gW cy ad ln v ou) := by
  refine pu_i (s_X4_in l D cy ad ln v ou a1 a2 a3 ?_)
  unfold wp_X4_in
  exact ⟨pin_nz a1 a2 a3, rfl, rfl⟩

theorem p_X4_refuse (l : Launch) (D : va_G) (cy : Nat → ClassId) (ad ln : Nat → Nat) (v : gV) (ou : Nat → Int64) (a1 : Int32) (a2 : Int32) (a3 : Int32) : mM l D cy yX4_refuse wsX4_refuse 1 0 0 [.ref (ad 46), .int a1, .int a2, .int a3] (gW cy ad ln v ou) (fun r w1 => r = some (.int (prf a1 a2 a3)) ∧ w1 = gW cy ad ln (vrf v a1 a2 a3) ou) := by
  refine pu_i (s_X4_refuse l D cy ad ln v ou a1 a2 a3 ?_)
  unfold wp_X4_refuse
  intro v5 e5
  subst e5
  exact ⟨nz_if nz0 nz1, rfl, rfl⟩

theorem p_X4_thrown (l : Launch) (D : va_G) (cy : Nat → ClassId) (ad ln : Nat → Nat) (v : gV) (ou : Nat → Int64) : mM l D cy yX4_thrown wsX4_thrown 1 0 0 [.ref (ad 46)] (gW cy ad ln v ou) (fun r w1 => r = some (.int (v 46 0)) ∧ w1 = gW cy ad ln v ou) := by
  refine pu_i (s_X4_thrown l D cy ad ln v ou  ?_)
  unfold wp_X4_thrown
  exact ⟨rfl, rfl⟩

theorem p_X2_has (l : Launch) (D : va_G) (cy : Nat → ClassId) (ad ln : Nat → Nat) (v : gV) (ou : Nat → Int64) (a1 : Int32) (h8 : ln 8 = 400) : mM l D cy yX2_has wsX2_has 1 0 0 [.ref (ad 2), .int a1] (gW cy ad ln v ou) (fun r w1 => r = some (.int (phs v a1)) ∧ w1 = gW cy ad ln v ou) := by
  refine pu_i (s_X2_has l D cy ad ln v ou a1 ?_)
  unfold wp_X2_has
  refine ⟨fun q1 q2 => ?_, phs_nz v a1, rfl, rfl⟩
  rw [h8]
  exact ph_in q1 q2

