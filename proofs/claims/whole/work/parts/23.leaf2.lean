theorem p_X4_isFile (l : Launch) (D : va_G) (cy : Nat → ClassId) (ad ln : Nat → Nat) (v : gV) (ou : Nat → Int64) (a1 : Int32) : mM l D cy yX4_isFile wsX4_isFile 2 0 0 [.int a1] (gW cy ad ln v ou) (fun r w1 => r = some (.int (pin a1 0 15)) ∧ w1 = gW cy ad ln v ou) := by
  refine pu_i (s_X4_isFile l D cy ad ln v ou a1 ?_)
  unfold wp_X4_isFile
  exact ⟨pin_nz a1 0 15, rfl, rfl⟩

theorem p_X2_usesOf (l : Launch) (D : va_G) (cy : Nat → ClassId) (ad ln : Nat → Nat) (v : gV) (ou : Nat → Int64) (a1 : Int32) (h8 : ln 8 = 400) : mM l D cy yX2_usesOf wsX2_usesOf 2 0 0 [.ref (ad 2), .int a1] (gW cy ad ln v ou) (fun r w1 => r = some (.int (pus v a1)) ∧ w1 = gW cy ad ln v ou) := by
  refine pu_i (s_X2_usesOf l D cy ad ln v ou a1 ?_)
  unfold wp_X2_usesOf
  refine ⟨h8, ?_, rfl, rfl⟩
  intro q
  rw [h8]
  exact phs_in q

theorem p_X2_lengthOf (l : Launch) (D : va_G) (cy : Nat → ClassId) (ad ln : Nat → Nat) (v : gV) (ou : Nat → Int64) (a1 : Int32) (h8 : ln 8 = 400) (h9 : ln 9 = 400) : mM l D cy yX2_lengthOf wsX2_lengthOf 2 0 0 [.ref (ad 2), .int a1] (gW cy ad ln v ou) (fun r w1 => r = some (.int (plo v a1)) ∧ w1 = gW cy ad ln v ou) := by
  refine pu_i (s_X2_lengthOf l D cy ad ln v ou a1 ?_)
  unfold wp_X2_lengthOf
  refine ⟨h8, ?_, rfl, rfl⟩
  intro q
  rw [h9]
  exact phs_in q

