theorem p_X4_isFile (l : Launch) (D : va_G) (cy : Nat → ClassId) (ad ln : Nat → Nat) (v : gV) (ou : Nat → Int64) (a1 : Int32) : mM l D cy yX4_isFile wsX4_isFile 2 0 0 [.int a1] (gW cy ad ln v ou) (fun r w1 => r = some (.int (pin a1 0 15)) ∧ w1 = gW cy ad ln v ou) := by
  refine pu_i (s_X4_isFile l D cy ad ln v ou a1 ?_)
  unfold wp_X4_isFile
  exact ⟨pin_nz a1 0 15, rfl, rfl⟩

