set_option maxHeartbeats 4000000 in
set_option maxRecDepth 100000 in
theorem s_fillG (l : Launch) (D : va_G) (cy : Nat → ClassId) {w : va_W} (k n : Nat) {a : Nat} {f : Nat → Int32} (x : Int32) (hk : w[k]? = some (a, .inl (cy 0, n, .inl f))) (hn : n < 2 ^ 31) : mM l D cy yJ7_fill_53178 wsJ7_fill_53178 1 0 0 [.ref a, .int x] w (fun r w1 => r = none ∧ w1 = w.set k (a, .inl (cy 0, n, .inl (fun j => if j < n then x else f j)))) := by
  have hkl : k < w.length := by
    rcases Nat.lt_or_ge k w.length with h | h
    · exact h
    · rw [List.getElem?_eq_none h] at hk
      cases hk
  refine mM.of (cc := cJ7_fill_53178) (nL := 4) (ret0 := none) (by decide +kernel) rfl (Nat.le_of_ble_eq_true rfl) ?_
  intro p e s m args below meth c A C hini
  refine mW.sub (lv' := [(0, .ref a), (1, .int x)]) [0, 1] rfl ?_
  refine m_iconst (v := 0) C dJ7_fill_53178_0 (by decide) ?_
  refine m_istore_n (lv' := [(2, .int 0), (0, .ref a), (1, .int x)]) C dJ7_fill_53178_1 rfl (by decide) rfl ?_
  refine m_aload_n C dJ7_fill_53178_2 rfl 1 rfl ?_
  refine m_alen C k 0 hk rfl rfl dJ7_fill_53178_3 ?_
  refine m_istore_n (lv' := [(3, .int (nI n)), (2, .int 0), (0, .ref a), (1, .int x)]) C dJ7_fill_53178_4 rfl (by decide) rfl ?_
  refine mW.sub (lv' := [(0, .ref a), (1, .int x), (2, .int (nI 0)), (3, .int (nI n))]) [2, 3, 1, 0] rfl ?_
  refine mW.eq (w' := w.set k (a, .inl (cy 0, n, .inl (fun j => if j < 0 then x else f j)))) rfl rfl rfl ?_ ?_
  · apply List.ext_getElem?
    intro j
    by_cases hj : j = k
    · subst hj
      rw [List.getElem?_set_self hkl, hk]
      simp
    · rw [List.getElem?_set_ne (fun q => hj q.symm)]
  refine m_ind (σ := Nat) (fun r i => i ≤ n ∧ r = n - i) (fun i => w.set k (a, .inl (cy 0, n, .inl (fun j => if j < i then x else f j)))) 5 (fun i => [(0, .ref a), (1, .int x), (2, .int (nI i)), (3, .int (nI n))]) ?_ n 0 ⟨Nat.zero_le _, rfl⟩
  rintro r i ⟨hi, rfl⟩ ih
  show mW _ _ _ _ _ _ _ _ _ _ _ _ _ _ _ _ (w.set k (a, .inl (cy 0, n, .inl (fun j => if j < i then x else f j)))) 5 [(0, .ref a), (1, .int x), (2, .int (nI i)), (3, .int (nI n))] []
  refine m_iload_n C dJ7_fill_53178_5 rfl 2 rfl ?_
  refine m_iload_n C dJ7_fill_53178_6 rfl 3 rfl ?_
  refine m_icmp_ge (tgt := 20) C dJ7_fill_53178_7 (by decide) (fun c1 => ?_) (fun c1 => ?_)
  · have h1 := (nI_leI (by omega) (by omega)).mp c1
    have : i = n := by omega
    subst this
    exact m_vret C dJ7_fill_53178_20 (Nat.le_refl _) (Nat.le_refl _) ⟨rfl, rfl⟩
  · have h1 : ¬ n ≤ i := fun q => c1 ((nI_leI (by omega) (by omega)).mpr q)
    refine m_aload_n C dJ7_fill_53178_10 rfl 0 rfl ?_
    refine m_iload_n C dJ7_fill_53178_11 rfl 2 rfl ?_
    refine m_iload_n C dJ7_fill_53178_12 rfl 1 rfl ?_
    refine m_iast (w' := w.set k (a, .inl (cy 0, n, .inl (fun j => if j < i + 1 then x else f j)))) C k (List.getElem?_set_self hkl) (vp_in_nI (by omega) hn) dJ7_fill_53178_13 ?_ ?_
    · rw [List.set_set, nI_clamp (by omega)]
      congr 5
      congr 1
      funext j
      unfold upd
      by_cases hj : j = i
      · subst hj
        simp
      · by_cases hj2 : j < i
        · rw [if_neg hj, if_pos (by omega : j < i + 1)]
          exact if_pos hj2
        · rw [if_neg hj, if_neg (by omega : ¬ j < i + 1)]
          exact if_neg hj2
    refine m_iinc (lv' := [(2, .int (nI (i + 1))), (0, .ref a), (1, .int x), (3, .int (nI n))]) C dJ7_fill_53178_14 (k := 2) rfl (nI_1 i) (by decide) rfl ?_
    refine m_goto (tgt := 5) C dJ7_fill_53178_17 (by decide) ?_
    exact mW.sub [1, 2, 0, 3] rfl (ih (n - (i + 1)) (i + 1) (by omega) ⟨by omega, rfl⟩)
theorem hiX1_init_X1 : ∀ w ∈ wsX10, w ∈ wsX1_init := by decide +kernel
set_option maxHeartbeats 4000000 in
set_option maxRecDepth 100000 in
theorem c_X1_init (l : Launch) (D : va_G) (cy : Nat → ClassId) (w : va_W) (q : Nat) : mM l D cy yX1_init wsX1_init 2 0 0 [.ref q] (w ++ [(q, .inr (1, [.int 0, .int 0, .int 0]))]) (fun r w1 => r = none ∧ w1 = w ++ [(q, .inr (1, [.int 15, .int 4, .int 32]))]) := by
  refine mM.of (cc := cX1_init) (nL := 1) (ret0 := none) (by decide +kernel) rfl (Nat.le_of_ble_eq_true rfl) ?_
  intro p e s m args below meth c A C hini
  refine mW.sub (lv' := [(0, .ref q)]) [0] rfl ?_
  refine m_aload_n C dX1_init_0 rfl 0 rfl ?_
  refine m_objInit C (by decide +kernel) (by decide +kernel) (by decide +kernel) dX1_init_1 (Nat.le_of_ble_eq_true rfl) (Nat.le_of_ble_eq_true rfl) ?_
  refine m_aload_n C dX1_init_4 rfl 0 rfl ?_
  refine m_bipush (v := 15) C dX1_init_5 (by decide) ?_
  refine m_put (w' := w ++ [(q, .inr (1, [.int 15, .int 0, .int 0]))]) (T := TX1) (N := 3) C hiX1_init_X1 tyX1 tyX1_ok nmX1 (w.length + 0) (ga_at 0 rfl) rfl 0 (by decide) (by decide +kernel) rfl rfl rfl (Nat.le_of_ble_eq_true rfl) dX1_init_7 (ga_set 0) ?_
  refine m_aload_n C dX1_init_10 rfl 0 rfl ?_
  refine m_iconst (v := 4) C dX1_init_11 (by decide) ?_
  refine m_put (w' := w ++ [(q, .inr (1, [.int 15, .int 4, .int 0]))]) (T := TX1) (N := 3) C hiX1_init_X1 tyX1 tyX1_ok nmX1 (w.length + 0) (ga_at 0 rfl) rfl 1 (by decide) (by decide +kernel) rfl rfl rfl (Nat.le_of_ble_eq_true rfl) dX1_init_12 (ga_set 0) ?_
  refine m_aload_n C dX1_init_15 rfl 0 rfl ?_
  refine m_bipush (v := 32) C dX1_init_16 (by decide) ?_
  refine m_put (w' := w ++ [(q, .inr (1, [.int 15, .int 4, .int 32]))]) (T := TX1) (N := 3) C hiX1_init_X1 tyX1 tyX1_ok nmX1 (w.length + 0) (ga_at 0 rfl) rfl 2 (by decide) (by decide +kernel) rfl rfl rfl (Nat.le_of_ble_eq_true rfl) dX1_init_18 (ga_set 0) ?_
  exact m_vret C dX1_init_21 (Nat.le_of_ble_eq_true rfl) (Nat.le_of_ble_eq_true rfl) ⟨rfl, rfl⟩
theorem hiX0_init_X0 : ∀ w ∈ wsX00, w ∈ wsX0_init := by decide +kernel
set_option maxHeartbeats 4000000 in
set_option maxRecDepth 100000 in
theorem c_X0_init (l : Launch) (D : va_G) (cy : Nat → ClassId) (w : va_W) (q : Nat) : mM l D cy yX0_init wsX0_init 2 1 16 [.ref q] (w ++ [(q, .inr (0, [.null, .int 0, .int 0]))]) (fun r w1 => r = none ∧ ∃ q1 : Nat, w1 = w ++ [(q, .inr (0, [.ref q1, .int 0, .int 0])), (q1, .inl (cy 0, 16, .inl (fun _ => 0)))]) := by
  refine mM.of (cc := cX0_init) (nL := 1) (ret0 := none) (by decide +kernel) rfl (Nat.le_of_ble_eq_true rfl) ?_
  intro p e s m args below meth c A C hini
  refine mW.sub (lv' := [(0, .ref q)]) [0] rfl ?_
  refine m_aload_n C dX0_init_0 rfl 0 rfl ?_
  refine m_objInit C (by decide +kernel) (by decide +kernel) (by decide +kernel) dX0_init_1 (Nat.le_of_ble_eq_true rfl) (Nat.le_of_ble_eq_true rfl) ?_
  refine m_aload_n C dX0_init_4 rfl 0 rfl ?_
  refine m_bipush (v := 16) C dX0_init_5 (by decide) ?_
  refine m_newa (ty := .int) (a0 := (16, .inl (fun _ => 0))) (N' := 16) C 0 rfl rfl (fun U cA h => h) (by decide +kernel) (fun cA => rfl) (by decide) (by decide) (by decide) (Nat.le_of_ble_eq_true rfl) (Nat.le_of_ble_eq_true rfl) dX0_init_7 (fun q1 => ?_)
  refine mW.eq (w' := w ++ [(q, .inr (0, [.null, .int 0, .int 0])), (q1, .inl (cy 0, 16, .inl (fun _ => 0)))]) rfl rfl rfl (by simp) ?_
  refine m_put (w' := w ++ [(q, .inr (0, [.ref q1, .int 0, .int 0])), (q1, .inl (cy 0, 16, .inl (fun _ => 0)))]) (T := TX0) (N := 3) C hiX0_init_X0 tyX0 tyX0_ok nmX0 (w.length + 0) (ga_at 0 rfl) rfl 0 (by decide) (by decide +kernel) rfl rfl rfl (Nat.le_of_ble_eq_true rfl) dX0_init_9 (ga_set 0) ?_
  refine m_aload_n C dX0_init_12 rfl 0 rfl ?_
  refine m_iconst (v := 0) C dX0_init_13 (by decide) ?_
  refine m_put (w' := w ++ [(q, .inr (0, [.ref q1, .int 0, .int 0])), (q1, .inl (cy 0, 16, .inl (fun _ => 0)))]) (T := TX0) (N := 3) C hiX0_init_X0 tyX0 tyX0_ok nmX0 (w.length + 0) (ga_at 0 rfl) rfl 1 (by decide) (by decide +kernel) rfl rfl rfl (Nat.le_of_ble_eq_true rfl) dX0_init_14 (ga_set 0) ?_
  refine m_aload_n C dX0_init_17 rfl 0 rfl ?_
  refine m_iconst (v := 0) C dX0_init_18 (by decide) ?_
  refine m_put (w' := w ++ [(q, .inr (0, [.ref q1, .int 0, .int 0])), (q1, .inl (cy 0, 16, .inl (fun _ => 0)))]) (T := TX0) (N := 3) C hiX0_init_X0 tyX0 tyX0_ok nmX0 (w.length + 0) (ga_at 0 rfl) rfl 2 (by decide) (by decide +kernel) rfl rfl rfl (Nat.le_of_ble_eq_true rfl) dX0_init_19 (ga_set 0) ?_
  exact m_vret C dX0_init_22 (Nat.le_of_ble_eq_true rfl) (Nat.le_of_ble_eq_true rfl) ⟨rfl, q1, rfl⟩
theorem hiX2_init_X2 : ∀ w ∈ wsX20, w ∈ wsX2_init := by decide +kernel
set_option maxHeartbeats 4000000 in
set_option maxRecDepth 100000 in
theorem c_X2_init (l : Launch) (D : va_G) (cy : Nat → ClassId) (w : va_W) (q : Nat) : mM l D cy yX2_init wsX2_init 3 6 3136 [.ref q] (w ++ [(q, .inr (2, [.null, .null, .null, .null, .null, .null, .int 0, .int 0, .int 0]))]) (fun r w1 => r = none ∧ ∃ q1 q2 q3 q4 q5 q6 : Nat, w1 = w ++ [(q, .inr (2, [.ref q1, .ref q2, .ref q3, .ref q4, .ref q5, .ref q6, .int 0, .int 0, .int 0])), (q1, .inl (cy 0, 400, .inl (fun _ => 0))), (q2, .inl (cy 0, 400, .inl (fun _ => 0))), (q3, .inl (cy 0, 400, .inl (fun _ => 0))), (q4, .inl (cy 0, 400, .inl (fun _ => 0))), (q5, .inl (cy 0, 512, .inl (fun j => if j < 512 then (-1) else 0))), (q6, .inl (cy 1, 1024, .inl (fun _ => 0)))]) := by
  refine mM.of (cc := cX2_init) (nL := 1) (ret0 := none) (by decide +kernel) rfl (Nat.le_of_ble_eq_true rfl) ?_
  intro p e s m args below meth c A C hini
  refine mW.sub (lv' := [(0, .ref q)]) [0] rfl ?_
  refine m_aload_n C dX2_init_0 rfl 0 rfl ?_
  refine m_objInit C (by decide +kernel) (by decide +kernel) (by decide +kernel) dX2_init_1 (Nat.le_of_ble_eq_true rfl) (Nat.le_of_ble_eq_true rfl) ?_
  refine m_aload_n C dX2_init_4 rfl 0 rfl ?_
  refine m_sipush (v := 400) C dX2_init_5 (by decide) ?_
  refine m_newa (ty := .int) (a0 := (400, .inl (fun _ => 0))) (N' := 400) C 0 rfl rfl (fun U cA h => h) (by decide +kernel) (fun cA => rfl) (by decide) (by decide) (by decide) (Nat.le_of_ble_eq_true rfl) (Nat.le_of_ble_eq_true rfl) dX2_init_8 (fun q1 => ?_)
  refine mW.eq (w' := w ++ [(q, .inr (2, [.null, .null, .null, .null, .null, .null, .int 0, .int 0, .int 0])), (q1, .inl (cy 0, 400, .inl (fun _ => 0)))]) rfl rfl rfl (by simp) ?_
  refine m_putF (w' := w ++ [(q, .inr (2, [.ref q1, .null, .null, .null, .null, .null, .int 0, .int 0, .int 0])), (q1, .inl (cy 0, 400, .inl (fun _ => 0)))]) (T := TX2) (N := 9) C hiX2_init_X2 tyX2 tyX2_ok nmX2 (w.length + 0) (ga_at 0 rfl) rfl 0 (by decide) (by decide +kernel) rfl (hini rfl) rfl rfl rfl (Nat.le_of_ble_eq_true rfl) dX2_init_10 (ga_set 0) ?_
  refine m_aload_n C dX2_init_13 rfl 0 rfl ?_
  refine m_sipush (v := 400) C dX2_init_14 (by decide) ?_
  refine m_newa (ty := .int) (a0 := (400, .inl (fun _ => 0))) (N' := 400) C 0 rfl rfl (fun U cA h => h) (by decide +kernel) (fun cA => rfl) (by decide) (by decide) (by decide) (Nat.le_of_ble_eq_true rfl) (Nat.le_of_ble_eq_true rfl) dX2_init_17 (fun q2 => ?_)
  refine mW.eq (w' := w ++ [(q, .inr (2, [.ref q1, .null, .null, .null, .null, .null, .int 0, .int 0, .int 0])), (q1, .inl (cy 0, 400, .inl (fun _ => 0))), (q2, .inl (cy 0, 400, .inl (fun _ => 0)))]) rfl rfl rfl (by simp) ?_
  refine m_putF (w' := w ++ [(q, .inr (2, [.ref q1, .ref q2, .null, .null, .null, .null, .int 0, .int 0, .int 0])), (q1, .inl (cy 0, 400, .inl (fun _ => 0))), (q2, .inl (cy 0, 400, .inl (fun _ => 0)))]) (T := TX2) (N := 9) C hiX2_init_X2 tyX2 tyX2_ok nmX2 (w.length + 0) (ga_at 0 rfl) rfl 1 (by decide) (by decide +kernel) rfl (hini rfl) rfl rfl rfl (Nat.le_of_ble_eq_true rfl) dX2_init_19 (ga_set 0) ?_
  refine m_aload_n C dX2_init_22 rfl 0 rfl ?_
  refine m_sipush (v := 400) C dX2_init_23 (by decide) ?_
  refine m_newa (ty := .int) (a0 := (400, .inl (fun _ => 0))) (N' := 400) C 0 rfl rfl (fun U cA h => h) (by decide +kernel) (fun cA => rfl) (by decide) (by decide) (by decide) (Nat.le_of_ble_eq_true rfl) (Nat.le_of_ble_eq_true rfl) dX2_init_26 (fun q3 => ?_)
  refine mW.eq (w' := w ++ [(q, .inr (2, [.ref q1, .ref q2, .null, .null, .null, .null, .int 0, .int 0, .int 0])), (q1, .inl (cy 0, 400, .inl (fun _ => 0))), (q2, .inl (cy 0, 400, .inl (fun _ => 0))), (q3, .inl (cy 0, 400, .inl (fun _ => 0)))]) rfl rfl rfl (by simp) ?_
  refine m_putF (w' := w ++ [(q, .inr (2, [.ref q1, .ref q2, .ref q3, .null, .null, .null, .int 0, .int 0, .int 0])), (q1, .inl (cy 0, 400, .inl (fun _ => 0))), (q2, .inl (cy 0, 400, .inl (fun _ => 0))), (q3, .inl (cy 0, 400, .inl (fun _ => 0)))]) (T := TX2) (N := 9) C hiX2_init_X2 tyX2 tyX2_ok nmX2 (w.length + 0) (ga_at 0 rfl) rfl 2 (by decide) (by decide +kernel) rfl (hini rfl) rfl rfl rfl (Nat.le_of_ble_eq_true rfl) dX2_init_28 (ga_set 0) ?_
  refine m_aload_n C dX2_init_31 rfl 0 rfl ?_
  refine m_sipush (v := 400) C dX2_init_32 (by decide) ?_
  refine m_newa (ty := .int) (a0 := (400, .inl (fun _ => 0))) (N' := 400) C 0 rfl rfl (fun U cA h => h) (by decide +kernel) (fun cA => rfl) (by decide) (by decide) (by decide) (Nat.le_of_ble_eq_true rfl) (Nat.le_of_ble_eq_true rfl) dX2_init_35 (fun q4 => ?_)
  refine mW.eq (w' := w ++ [(q, .inr (2, [.ref q1, .ref q2, .ref q3, .null, .null, .null, .int 0, .int 0, .int 0])), (q1, .inl (cy 0, 400, .inl (fun _ => 0))), (q2, .inl (cy 0, 400, .inl (fun _ => 0))), (q3, .inl (cy 0, 400, .inl (fun _ => 0))), (q4, .inl (cy 0, 400, .inl (fun _ => 0)))]) rfl rfl rfl (by simp) ?_
  refine m_putF (w' := w ++ [(q, .inr (2, [.ref q1, .ref q2, .ref q3, .ref q4, .null, .null, .int 0, .int 0, .int 0])), (q1, .inl (cy 0, 400, .inl (fun _ => 0))), (q2, .inl (cy 0, 400, .inl (fun _ => 0))), (q3, .inl (cy 0, 400, .inl (fun _ => 0))), (q4, .inl (cy 0, 400, .inl (fun _ => 0)))]) (T := TX2) (N := 9) C hiX2_init_X2 tyX2 tyX2_ok nmX2 (w.length + 0) (ga_at 0 rfl) rfl 3 (by decide) (by decide +kernel) rfl (hini rfl) rfl rfl rfl (Nat.le_of_ble_eq_true rfl) dX2_init_37 (ga_set 0) ?_
  refine m_aload_n C dX2_init_40 rfl 0 rfl ?_
  refine m_sipush (v := 512) C dX2_init_41 (by decide) ?_
  refine m_newa (ty := .int) (a0 := (512, .inl (fun _ => 0))) (N' := 512) C 0 rfl rfl (fun U cA h => h) (by decide +kernel) (fun cA => rfl) (by decide) (by decide) (by decide) (Nat.le_of_ble_eq_true rfl) (Nat.le_of_ble_eq_true rfl) dX2_init_44 (fun q5 => ?_)
  refine mW.eq (w' := w ++ [(q, .inr (2, [.ref q1, .ref q2, .ref q3, .ref q4, .null, .null, .int 0, .int 0, .int 0])), (q1, .inl (cy 0, 400, .inl (fun _ => 0))), (q2, .inl (cy 0, 400, .inl (fun _ => 0))), (q3, .inl (cy 0, 400, .inl (fun _ => 0))), (q4, .inl (cy 0, 400, .inl (fun _ => 0))), (q5, .inl (cy 0, 512, .inl (fun _ => 0)))]) rfl rfl rfl (by simp) ?_
  refine m_putF (w' := w ++ [(q, .inr (2, [.ref q1, .ref q2, .ref q3, .ref q4, .ref q5, .null, .int 0, .int 0, .int 0])), (q1, .inl (cy 0, 400, .inl (fun _ => 0))), (q2, .inl (cy 0, 400, .inl (fun _ => 0))), (q3, .inl (cy 0, 400, .inl (fun _ => 0))), (q4, .inl (cy 0, 400, .inl (fun _ => 0))), (q5, .inl (cy 0, 512, .inl (fun _ => 0)))]) (T := TX2) (N := 9) C hiX2_init_X2 tyX2 tyX2_ok nmX2 (w.length + 0) (ga_at 0 rfl) rfl 4 (by decide) (by decide +kernel) rfl (hini rfl) rfl rfl rfl (Nat.le_of_ble_eq_true rfl) dX2_init_46 (ga_set 0) ?_
  refine m_aload_n C dX2_init_49 rfl 0 rfl ?_
  refine m_sipush (v := 1024) C dX2_init_50 (by decide) ?_
  refine m_newa (ty := .byte) (a0 := (1024, .inl (fun _ => 0))) (N' := 1024) C 1 rfl rfl (fun U cA h => h) (by decide +kernel) (fun cA => rfl) (by decide) (by decide) (by decide) (Nat.le_of_ble_eq_true rfl) (Nat.le_of_ble_eq_true rfl) dX2_init_53 (fun q6 => ?_)
  refine mW.eq (w' := w ++ [(q, .inr (2, [.ref q1, .ref q2, .ref q3, .ref q4, .ref q5, .null, .int 0, .int 0, .int 0])), (q1, .inl (cy 0, 400, .inl (fun _ => 0))), (q2, .inl (cy 0, 400, .inl (fun _ => 0))), (q3, .inl (cy 0, 400, .inl (fun _ => 0))), (q4, .inl (cy 0, 400, .inl (fun _ => 0))), (q5, .inl (cy 0, 512, .inl (fun _ => 0))), (q6, .inl (cy 1, 1024, .inl (fun _ => 0)))]) rfl rfl rfl (by simp) ?_
  refine m_put (w' := w ++ [(q, .inr (2, [.ref q1, .ref q2, .ref q3, .ref q4, .ref q5, .ref q6, .int 0, .int 0, .int 0])), (q1, .inl (cy 0, 400, .inl (fun _ => 0))), (q2, .inl (cy 0, 400, .inl (fun _ => 0))), (q3, .inl (cy 0, 400, .inl (fun _ => 0))), (q4, .inl (cy 0, 400, .inl (fun _ => 0))), (q5, .inl (cy 0, 512, .inl (fun _ => 0))), (q6, .inl (cy 1, 1024, .inl (fun _ => 0)))]) (T := TX2) (N := 9) C hiX2_init_X2 tyX2 tyX2_ok nmX2 (w.length + 0) (ga_at 0 rfl) rfl 5 (by decide) (by decide +kernel) rfl rfl rfl (Nat.le_of_ble_eq_true rfl) dX2_init_55 (ga_set 0) ?_
  refine m_aload_n C dX2_init_58 rfl 0 rfl ?_
  refine m_iconst (v := 0) C dX2_init_59 (by decide) ?_
  refine m_put (w' := w ++ [(q, .inr (2, [.ref q1, .ref q2, .ref q3, .ref q4, .ref q5, .ref q6, .int 0, .int 0, .int 0])), (q1, .inl (cy 0, 400, .inl (fun _ => 0))), (q2, .inl (cy 0, 400, .inl (fun _ => 0))), (q3, .inl (cy 0, 400, .inl (fun _ => 0))), (q4, .inl (cy 0, 400, .inl (fun _ => 0))), (q5, .inl (cy 0, 512, .inl (fun _ => 0))), (q6, .inl (cy 1, 1024, .inl (fun _ => 0)))]) (T := TX2) (N := 9) C hiX2_init_X2 tyX2 tyX2_ok nmX2 (w.length + 0) (ga_at 0 rfl) rfl 6 (by decide) (by decide +kernel) rfl rfl rfl (Nat.le_of_ble_eq_true rfl) dX2_init_60 (ga_set 0) ?_
  refine m_aload_n C dX2_init_63 rfl 0 rfl ?_
  refine m_iconst (v := 0) C dX2_init_64 (by decide) ?_
  refine m_put (w' := w ++ [(q, .inr (2, [.ref q1, .ref q2, .ref q3, .ref q4, .ref q5, .ref q6, .int 0, .int 0, .int 0])), (q1, .inl (cy 0, 400, .inl (fun _ => 0))), (q2, .inl (cy 0, 400, .inl (fun _ => 0))), (q3, .inl (cy 0, 400, .inl (fun _ => 0))), (q4, .inl (cy 0, 400, .inl (fun _ => 0))), (q5, .inl (cy 0, 512, .inl (fun _ => 0))), (q6, .inl (cy 1, 1024, .inl (fun _ => 0)))]) (T := TX2) (N := 9) C hiX2_init_X2 tyX2 tyX2_ok nmX2 (w.length + 0) (ga_at 0 rfl) rfl 7 (by decide) (by decide +kernel) rfl rfl rfl (Nat.le_of_ble_eq_true rfl) dX2_init_65 (ga_set 0) ?_
  refine m_aload_n C dX2_init_68 rfl 0 rfl ?_
  refine m_iconst (v := 0) C dX2_init_69 (by decide) ?_
  refine m_put (w' := w ++ [(q, .inr (2, [.ref q1, .ref q2, .ref q3, .ref q4, .ref q5, .ref q6, .int 0, .int 0, .int 0])), (q1, .inl (cy 0, 400, .inl (fun _ => 0))), (q2, .inl (cy 0, 400, .inl (fun _ => 0))), (q3, .inl (cy 0, 400, .inl (fun _ => 0))), (q4, .inl (cy 0, 400, .inl (fun _ => 0))), (q5, .inl (cy 0, 512, .inl (fun _ => 0))), (q6, .inl (cy 1, 1024, .inl (fun _ => 0)))]) (T := TX2) (N := 9) C hiX2_init_X2 tyX2 tyX2_ok nmX2 (w.length + 0) (ga_at 0 rfl) rfl 8 (by decide) (by decide +kernel) rfl rfl rfl (Nat.le_of_ble_eq_true rfl) dX2_init_70 (ga_set 0) ?_
  refine m_aload_n C dX2_init_73 rfl 0 rfl ?_
  refine m_get (T := TX2) (N := 9) C hiX2_init_X2 (w.length + 0) (ga_at 0 rfl) rfl 4 (by decide) (by decide +kernel) rfl dX2_init_74 ?_
  refine m_iconst (v := (-1)) C dX2_init_77 (by decide) ?_
  refine m_callS C (s_fillG l D cy (w.length + 5) 512 ((-1) : Int32) (ga_at 5 rfl) (by decide)) (va_cwS 2 C.2.2.2.2.1 gX2_init_J7_fill_53178 rfl rfl rfl (by decide +kernel) ⟨Nat.le_of_ble_eq_true rfl, Nat.le_of_ble_eq_true rfl⟩) rfl rfl (Nat.le_of_ble_eq_true rfl) dX2_init_78 ⟨Nat.le_of_ble_eq_true rfl, Nat.le_of_ble_eq_true rfl⟩ (fun r w1 h1 => ?_)
  obtain ⟨rfl, rfl⟩ := h1
  refine mW.eq (w' := w ++ [(q, .inr (2, [.ref q1, .ref q2, .ref q3, .ref q4, .ref q5, .ref q6, .int 0, .int 0, .int 0])), (q1, .inl (cy 0, 400, .inl (fun _ => 0))), (q2, .inl (cy 0, 400, .inl (fun _ => 0))), (q3, .inl (cy 0, 400, .inl (fun _ => 0))), (q4, .inl (cy 0, 400, .inl (fun _ => 0))), (q5, .inl (cy 0, 512, .inl (fun j => if j < 512 then (-1) else 0))), (q6, .inl (cy 1, 1024, .inl (fun _ => 0)))]) (st' := []) rfl rfl rfl (show _ = List.set (w ++ [(q, .inr (2, [.ref q1, .ref q2, .ref q3, .ref q4, .ref q5, .ref q6, .int 0, .int 0, .int 0])), (q1, .inl (cy 0, 400, .inl (fun _ => 0))), (q2, .inl (cy 0, 400, .inl (fun _ => 0))), (q3, .inl (cy 0, 400, .inl (fun _ => 0))), (q4, .inl (cy 0, 400, .inl (fun _ => 0))), (q5, .inl (cy 0, 512, .inl (fun _ => 0))), (q6, .inl (cy 1, 1024, .inl (fun _ => 0)))]) (w.length + 5) _ from by rw [ga_set]; rfl) ?_
  exact m_vret C dX2_init_81 (Nat.le_of_ble_eq_true rfl) (Nat.le_of_ble_eq_true rfl) ⟨rfl, q1, q2, q3, q4, q5, q6, rfl⟩
theorem hiX4_init_X4 : ∀ w ∈ wsX40, w ∈ wsX4_init := by decide +kernel
set_option maxHeartbeats 4000000 in
set_option maxRecDepth 100000 in
theorem c_X4_init (l : Launch) (D : va_G) (cy : Nat → ClassId) (w : va_W) (q : Nat) : mM l D cy yX4_init wsX4_init 2 12 80832 [.ref q] (w ++ [(q, .inr (4, [.int 0, .int 0, .int 0, .int 0, .int 0, .null, .int 0, .null, .int 0, .null, .null, .null, .null, .null, .null, .null, .null, .null, .null]))]) (fun r w1 => r = none ∧ ∃ q1 q2 q3 q4 q5 q6 q7 q8 q9 q10 q11 q12 : Nat, w1 = w ++ [(q, .inr (4, [.int 0, .int 4, .int 4, .int 32, .int 0, .ref q1, .int 0, .ref q2, .int 0, .ref q3, .ref q4, .ref q5, .ref q6, .ref q7, .ref q8, .ref q9, .ref q10, .ref q11, .ref q12])), (q1, .inl (cy 0, 1500, .inl (fun _ => 0))), (q2, .inl (cy 0, 1500, .inl (fun _ => 0))), (q3, .inl (cy 0, 1500, .inl (fun _ => 0))), (q4, .inl (cy 0, 1500, .inl (fun _ => 0))), (q5, .inl (cy 2, 400, .inl (fun _ => 0))), (q6, .inl (cy 0, 16, .inl (fun _ => 0))), (q7, .inl (cy 0, 24000, .inl (fun _ => 0))), (q8, .inl (cy 0, 16, .inl (fun _ => 0))), (q9, .inl (cy 0, 24000, .inl (fun _ => 0))), (q10, .inl (cy 0, 400, .inl (fun _ => 0))), (q11, .inl (cy 0, 400, .inl (fun _ => 0))), (q12, .inl (cy 0, 25600, .inl (fun _ => 0)))]) := by
  refine mM.of (cc := cX4_init) (nL := 1) (ret0 := none) (by decide +kernel) rfl (Nat.le_of_ble_eq_true rfl) ?_
  intro p e s m args below meth c A C hini
  refine mW.sub (lv' := [(0, .ref q)]) [0] rfl ?_
  refine m_aload_n C dX4_init_0 rfl 0 rfl ?_
  refine m_objInit C (by decide +kernel) (by decide +kernel) (by decide +kernel) dX4_init_1 (Nat.le_of_ble_eq_true rfl) (Nat.le_of_ble_eq_true rfl) ?_
  refine m_aload_n C dX4_init_4 rfl 0 rfl ?_
  refine m_iconst (v := 4) C dX4_init_5 (by decide) ?_
  refine m_put (w' := w ++ [(q, .inr (4, [.int 0, .int 4, .int 0, .int 0, .int 0, .null, .int 0, .null, .int 0, .null, .null, .null, .null, .null, .null, .null, .null, .null, .null]))]) (T := TX4) (N := 19) C hiX4_init_X4 tyX4 tyX4_ok nmX4 (w.length + 0) (ga_at 0 rfl) rfl 1 (by decide) (by decide +kernel) rfl rfl rfl (Nat.le_of_ble_eq_true rfl) dX4_init_6 (ga_set 0) ?_
  refine m_aload_n C dX4_init_9 rfl 0 rfl ?_
  refine m_iconst (v := 4) C dX4_init_10 (by decide) ?_
  refine m_put (w' := w ++ [(q, .inr (4, [.int 0, .int 4, .int 4, .int 0, .int 0, .null, .int 0, .null, .int 0, .null, .null, .null, .null, .null, .null, .null, .null, .null, .null]))]) (T := TX4) (N := 19) C hiX4_init_X4 tyX4 tyX4_ok nmX4 (w.length + 0) (ga_at 0 rfl) rfl 2 (by decide) (by decide +kernel) rfl rfl rfl (Nat.le_of_ble_eq_true rfl) dX4_init_11 (ga_set 0) ?_
  refine m_aload_n C dX4_init_14 rfl 0 rfl ?_
  refine m_bipush (v := 32) C dX4_init_15 (by decide) ?_
  refine m_put (w' := w ++ [(q, .inr (4, [.int 0, .int 4, .int 4, .int 32, .int 0, .null, .int 0, .null, .int 0, .null, .null, .null, .null, .null, .null, .null, .null, .null, .null]))]) (T := TX4) (N := 19) C hiX4_init_X4 tyX4 tyX4_ok nmX4 (w.length + 0) (ga_at 0 rfl) rfl 3 (by decide) (by decide +kernel) rfl rfl rfl (Nat.le_of_ble_eq_true rfl) dX4_init_17 (ga_set 0) ?_
  refine m_aload_n C dX4_init_20 rfl 0 rfl ?_
  refine m_sipush (v := 1500) C dX4_init_21 (by decide) ?_
  refine m_newa (ty := .int) (a0 := (1500, .inl (fun _ => 0))) (N' := 1500) C 0 rfl rfl (fun U cA h => h) (by decide +kernel) (fun cA => rfl) (by decide) (by decide) (by decide) (Nat.le_of_ble_eq_true rfl) (Nat.le_of_ble_eq_true rfl) dX4_init_24 (fun q1 => ?_)
  refine mW.eq (w' := w ++ [(q, .inr (4, [.int 0, .int 4, .int 4, .int 32, .int 0, .null, .int 0, .null, .int 0, .null, .null, .null, .null, .null, .null, .null, .null, .null, .null])), (q1, .inl (cy 0, 1500, .inl (fun _ => 0)))]) rfl rfl rfl (by simp) ?_
  refine m_putF (w' := w ++ [(q, .inr (4, [.int 0, .int 4, .int 4, .int 32, .int 0, .ref q1, .int 0, .null, .int 0, .null, .null, .null, .null, .null, .null, .null, .null, .null, .null])), (q1, .inl (cy 0, 1500, .inl (fun _ => 0)))]) (T := TX4) (N := 19) C hiX4_init_X4 tyX4 tyX4_ok nmX4 (w.length + 0) (ga_at 0 rfl) rfl 5 (by decide) (by decide +kernel) rfl (hini rfl) rfl rfl rfl (Nat.le_of_ble_eq_true rfl) dX4_init_26 (ga_set 0) ?_
  refine m_aload_n C dX4_init_29 rfl 0 rfl ?_
  refine m_sipush (v := 1500) C dX4_init_30 (by decide) ?_
  refine m_newa (ty := .int) (a0 := (1500, .inl (fun _ => 0))) (N' := 1500) C 0 rfl rfl (fun U cA h => h) (by decide +kernel) (fun cA => rfl) (by decide) (by decide) (by decide) (Nat.le_of_ble_eq_true rfl) (Nat.le_of_ble_eq_true rfl) dX4_init_33 (fun q2 => ?_)
  refine mW.eq (w' := w ++ [(q, .inr (4, [.int 0, .int 4, .int 4, .int 32, .int 0, .ref q1, .int 0, .null, .int 0, .null, .null, .null, .null, .null, .null, .null, .null, .null, .null])), (q1, .inl (cy 0, 1500, .inl (fun _ => 0))), (q2, .inl (cy 0, 1500, .inl (fun _ => 0)))]) rfl rfl rfl (by simp) ?_
  refine m_putF (w' := w ++ [(q, .inr (4, [.int 0, .int 4, .int 4, .int 32, .int 0, .ref q1, .int 0, .ref q2, .int 0, .null, .null, .null, .null, .null, .null, .null, .null, .null, .null])), (q1, .inl (cy 0, 1500, .inl (fun _ => 0))), (q2, .inl (cy 0, 1500, .inl (fun _ => 0)))]) (T := TX4) (N := 19) C hiX4_init_X4 tyX4 tyX4_ok nmX4 (w.length + 0) (ga_at 0 rfl) rfl 7 (by decide) (by decide +kernel) rfl (hini rfl) rfl rfl rfl (Nat.le_of_ble_eq_true rfl) dX4_init_35 (ga_set 0) ?_
  refine m_aload_n C dX4_init_38 rfl 0 rfl ?_
  refine m_sipush (v := 1500) C dX4_init_39 (by decide) ?_
  refine m_newa (ty := .int) (a0 := (1500, .inl (fun _ => 0))) (N' := 1500) C 0 rfl rfl (fun U cA h => h) (by decide +kernel) (fun cA => rfl) (by decide) (by decide) (by decide) (Nat.le_of_ble_eq_true rfl) (Nat.le_of_ble_eq_true rfl) dX4_init_42 (fun q3 => ?_)
  refine mW.eq (w' := w ++ [(q, .inr (4, [.int 0, .int 4, .int 4, .int 32, .int 0, .ref q1, .int 0, .ref q2, .int 0, .null, .null, .null, .null, .null, .null, .null, .null, .null, .null])), (q1, .inl (cy 0, 1500, .inl (fun _ => 0))), (q2, .inl (cy 0, 1500, .inl (fun _ => 0))), (q3, .inl (cy 0, 1500, .inl (fun _ => 0)))]) rfl rfl rfl (by simp) ?_
  refine m_putF (w' := w ++ [(q, .inr (4, [.int 0, .int 4, .int 4, .int 32, .int 0, .ref q1, .int 0, .ref q2, .int 0, .ref q3, .null, .null, .null, .null, .null, .null, .null, .null, .null])), (q1, .inl (cy 0, 1500, .inl (fun _ => 0))), (q2, .inl (cy 0, 1500, .inl (fun _ => 0))), (q3, .inl (cy 0, 1500, .inl (fun _ => 0)))]) (T := TX4) (N := 19) C hiX4_init_X4 tyX4 tyX4_ok nmX4 (w.length + 0) (ga_at 0 rfl) rfl 9 (by decide) (by decide +kernel) rfl (hini rfl) rfl rfl rfl (Nat.le_of_ble_eq_true rfl) dX4_init_44 (ga_set 0) ?_
  refine m_aload_n C dX4_init_47 rfl 0 rfl ?_
  refine m_sipush (v := 1500) C dX4_init_48 (by decide) ?_
  refine m_newa (ty := .int) (a0 := (1500, .inl (fun _ => 0))) (N' := 1500) C 0 rfl rfl (fun U cA h => h) (by decide +kernel) (fun cA => rfl) (by decide) (by decide) (by decide) (Nat.le_of_ble_eq_true rfl) (Nat.le_of_ble_eq_true rfl) dX4_init_51 (fun q4 => ?_)
  refine mW.eq (w' := w ++ [(q, .inr (4, [.int 0, .int 4, .int 4, .int 32, .int 0, .ref q1, .int 0, .ref q2, .int 0, .ref q3, .null, .null, .null, .null, .null, .null, .null, .null, .null])), (q1, .inl (cy 0, 1500, .inl (fun _ => 0))), (q2, .inl (cy 0, 1500, .inl (fun _ => 0))), (q3, .inl (cy 0, 1500, .inl (fun _ => 0))), (q4, .inl (cy 0, 1500, .inl (fun _ => 0)))]) rfl rfl rfl (by simp) ?_
  refine m_putF (w' := w ++ [(q, .inr (4, [.int 0, .int 4, .int 4, .int 32, .int 0, .ref q1, .int 0, .ref q2, .int 0, .ref q3, .ref q4, .null, .null, .null, .null, .null, .null, .null, .null])), (q1, .inl (cy 0, 1500, .inl (fun _ => 0))), (q2, .inl (cy 0, 1500, .inl (fun _ => 0))), (q3, .inl (cy 0, 1500, .inl (fun _ => 0))), (q4, .inl (cy 0, 1500, .inl (fun _ => 0)))]) (T := TX4) (N := 19) C hiX4_init_X4 tyX4 tyX4_ok nmX4 (w.length + 0) (ga_at 0 rfl) rfl 10 (by decide) (by decide +kernel) rfl (hini rfl) rfl rfl rfl (Nat.le_of_ble_eq_true rfl) dX4_init_53 (ga_set 0) ?_
  refine m_aload_n C dX4_init_56 rfl 0 rfl ?_
  refine m_sipush (v := 400) C dX4_init_57 (by decide) ?_
  refine m_newa (ty := .boolean) (a0 := (400, .inl (fun _ => 0))) (N' := 400) C 2 rfl rfl (fun U cA h => h) (by decide +kernel) (fun cA => rfl) (by decide) (by decide) (by decide) (Nat.le_of_ble_eq_true rfl) (Nat.le_of_ble_eq_true rfl) dX4_init_60 (fun q5 => ?_)
  refine mW.eq (w' := w ++ [(q, .inr (4, [.int 0, .int 4, .int 4, .int 32, .int 0, .ref q1, .int 0, .ref q2, .int 0, .ref q3, .ref q4, .null, .null, .null, .null, .null, .null, .null, .null])), (q1, .inl (cy 0, 1500, .inl (fun _ => 0))), (q2, .inl (cy 0, 1500, .inl (fun _ => 0))), (q3, .inl (cy 0, 1500, .inl (fun _ => 0))), (q4, .inl (cy 0, 1500, .inl (fun _ => 0))), (q5, .inl (cy 2, 400, .inl (fun _ => 0)))]) rfl rfl rfl (by simp) ?_
  refine m_putF (w' := w ++ [(q, .inr (4, [.int 0, .int 4, .int 4, .int 32, .int 0, .ref q1, .int 0, .ref q2, .int 0, .ref q3, .ref q4, .ref q5, .null, .null, .null, .null, .null, .null, .null])), (q1, .inl (cy 0, 1500, .inl (fun _ => 0))), (q2, .inl (cy 0, 1500, .inl (fun _ => 0))), (q3, .inl (cy 0, 1500, .inl (fun _ => 0))), (q4, .inl (cy 0, 1500, .inl (fun _ => 0))), (q5, .inl (cy 2, 400, .inl (fun _ => 0)))]) (T := TX4) (N := 19) C hiX4_init_X4 tyX4 tyX4_ok nmX4 (w.length + 0) (ga_at 0 rfl) rfl 11 (by decide) (by decide +kernel) rfl (hini rfl) rfl rfl rfl (Nat.le_of_ble_eq_true rfl) dX4_init_62 (ga_set 0) ?_
  refine m_aload_n C dX4_init_65 rfl 0 rfl ?_
  refine m_bipush (v := 16) C dX4_init_66 (by decide) ?_
  refine m_newa (ty := .int) (a0 := (16, .inl (fun _ => 0))) (N' := 16) C 0 rfl rfl (fun U cA h => h) (by decide +kernel) (fun cA => rfl) (by decide) (by decide) (by decide) (Nat.le_of_ble_eq_true rfl) (Nat.le_of_ble_eq_true rfl) dX4_init_68 (fun q6 => ?_)
  refine mW.eq (w' := w ++ [(q, .inr (4, [.int 0, .int 4, .int 4, .int 32, .int 0, .ref q1, .int 0, .ref q2, .int 0, .ref q3, .ref q4, .ref q5, .null, .null, .null, .null, .null, .null, .null])), (q1, .inl (cy 0, 1500, .inl (fun _ => 0))), (q2, .inl (cy 0, 1500, .inl (fun _ => 0))), (q3, .inl (cy 0, 1500, .inl (fun _ => 0))), (q4, .inl (cy 0, 1500, .inl (fun _ => 0))), (q5, .inl (cy 2, 400, .inl (fun _ => 0))), (q6, .inl (cy 0, 16, .inl (fun _ => 0)))]) rfl rfl rfl (by simp) ?_
  refine m_putF (w' := w ++ [(q, .inr (4, [.int 0, .int 4, .int 4, .int 32, .int 0, .ref q1, .int 0, .ref q2, .int 0, .ref q3, .ref q4, .ref q5, .ref q6, .null, .null, .null, .null, .null, .null])), (q1, .inl (cy 0, 1500, .inl (fun _ => 0))), (q2, .inl (cy 0, 1500, .inl (fun _ => 0))), (q3, .inl (cy 0, 1500, .inl (fun _ => 0))), (q4, .inl (cy 0, 1500, .inl (fun _ => 0))), (q5, .inl (cy 2, 400, .inl (fun _ => 0))), (q6, .inl (cy 0, 16, .inl (fun _ => 0)))]) (T := TX4) (N := 19) C hiX4_init_X4 tyX4 tyX4_ok nmX4 (w.length + 0) (ga_at 0 rfl) rfl 12 (by decide) (by decide +kernel) rfl (hini rfl) rfl rfl rfl (Nat.le_of_ble_eq_true rfl) dX4_init_70 (ga_set 0) ?_
  refine m_aload_n C dX4_init_73 rfl 0 rfl ?_
  refine m_sipush (v := 24000) C dX4_init_74 (by decide) ?_
  refine m_newa (ty := .int) (a0 := (24000, .inl (fun _ => 0))) (N' := 24000) C 0 rfl rfl (fun U cA h => h) (by decide +kernel) (fun cA => rfl) (by decide) (by decide) (by decide) (Nat.le_of_ble_eq_true rfl) (Nat.le_of_ble_eq_true rfl) dX4_init_77 (fun q7 => ?_)
  refine mW.eq (w' := w ++ [(q, .inr (4, [.int 0, .int 4, .int 4, .int 32, .int 0, .ref q1, .int 0, .ref q2, .int 0, .ref q3, .ref q4, .ref q5, .ref q6, .null, .null, .null, .null, .null, .null])), (q1, .inl (cy 0, 1500, .inl (fun _ => 0))), (q2, .inl (cy 0, 1500, .inl (fun _ => 0))), (q3, .inl (cy 0, 1500, .inl (fun _ => 0))), (q4, .inl (cy 0, 1500, .inl (fun _ => 0))), (q5, .inl (cy 2, 400, .inl (fun _ => 0))), (q6, .inl (cy 0, 16, .inl (fun _ => 0))), (q7, .inl (cy 0, 24000, .inl (fun _ => 0)))]) rfl rfl rfl (by simp) ?_
  refine m_putF (w' := w ++ [(q, .inr (4, [.int 0, .int 4, .int 4, .int 32, .int 0, .ref q1, .int 0, .ref q2, .int 0, .ref q3, .ref q4, .ref q5, .ref q6, .ref q7, .null, .null, .null, .null, .null])), (q1, .inl (cy 0, 1500, .inl (fun _ => 0))), (q2, .inl (cy 0, 1500, .inl (fun _ => 0))), (q3, .inl (cy 0, 1500, .inl (fun _ => 0))), (q4, .inl (cy 0, 1500, .inl (fun _ => 0))), (q5, .inl (cy 2, 400, .inl (fun _ => 0))), (q6, .inl (cy 0, 16, .inl (fun _ => 0))), (q7, .inl (cy 0, 24000, .inl (fun _ => 0)))]) (T := TX4) (N := 19) C hiX4_init_X4 tyX4 tyX4_ok nmX4 (w.length + 0) (ga_at 0 rfl) rfl 13 (by decide) (by decide +kernel) rfl (hini rfl) rfl rfl rfl (Nat.le_of_ble_eq_true rfl) dX4_init_79 (ga_set 0) ?_
  refine m_aload_n C dX4_init_82 rfl 0 rfl ?_
  refine m_bipush (v := 16) C dX4_init_83 (by decide) ?_
  refine m_newa (ty := .int) (a0 := (16, .inl (fun _ => 0))) (N' := 16) C 0 rfl rfl (fun U cA h => h) (by decide +kernel) (fun cA => rfl) (by decide) (by decide) (by decide) (Nat.le_of_ble_eq_true rfl) (Nat.le_of_ble_eq_true rfl) dX4_init_85 (fun q8 => ?_)
  refine mW.eq (w' := w ++ [(q, .inr (4, [.int 0, .int 4, .int 4, .int 32, .int 0, .ref q1, .int 0, .ref q2, .int 0, .ref q3, .ref q4, .ref q5, .ref q6, .ref q7, .null, .null, .null, .null, .null])), (q1, .inl (cy 0, 1500, .inl (fun _ => 0))), (q2, .inl (cy 0, 1500, .inl (fun _ => 0))), (q3, .inl (cy 0, 1500, .inl (fun _ => 0))), (q4, .inl (cy 0, 1500, .inl (fun _ => 0))), (q5, .inl (cy 2, 400, .inl (fun _ => 0))), (q6, .inl (cy 0, 16, .inl (fun _ => 0))), (q7, .inl (cy 0, 24000, .inl (fun _ => 0))), (q8, .inl (cy 0, 16, .inl (fun _ => 0)))]) rfl rfl rfl (by simp) ?_
  refine m_putF (w' := w ++ [(q, .inr (4, [.int 0, .int 4, .int 4, .int 32, .int 0, .ref q1, .int 0, .ref q2, .int 0, .ref q3, .ref q4, .ref q5, .ref q6, .ref q7, .ref q8, .null, .null, .null, .null])), (q1, .inl (cy 0, 1500, .inl (fun _ => 0))), (q2, .inl (cy 0, 1500, .inl (fun _ => 0))), (q3, .inl (cy 0, 1500, .inl (fun _ => 0))), (q4, .inl (cy 0, 1500, .inl (fun _ => 0))), (q5, .inl (cy 2, 400, .inl (fun _ => 0))), (q6, .inl (cy 0, 16, .inl (fun _ => 0))), (q7, .inl (cy 0, 24000, .inl (fun _ => 0))), (q8, .inl (cy 0, 16, .inl (fun _ => 0)))]) (T := TX4) (N := 19) C hiX4_init_X4 tyX4 tyX4_ok nmX4 (w.length + 0) (ga_at 0 rfl) rfl 14 (by decide) (by decide +kernel) rfl (hini rfl) rfl rfl rfl (Nat.le_of_ble_eq_true rfl) dX4_init_87 (ga_set 0) ?_
  refine m_aload_n C dX4_init_90 rfl 0 rfl ?_
  refine m_sipush (v := 24000) C dX4_init_91 (by decide) ?_
  refine m_newa (ty := .int) (a0 := (24000, .inl (fun _ => 0))) (N' := 24000) C 0 rfl rfl (fun U cA h => h) (by decide +kernel) (fun cA => rfl) (by decide) (by decide) (by decide) (Nat.le_of_ble_eq_true rfl) (Nat.le_of_ble_eq_true rfl) dX4_init_94 (fun q9 => ?_)
  refine mW.eq (w' := w ++ [(q, .inr (4, [.int 0, .int 4, .int 4, .int 32, .int 0, .ref q1, .int 0, .ref q2, .int 0, .ref q3, .ref q4, .ref q5, .ref q6, .ref q7, .ref q8, .null, .null, .null, .null])), (q1, .inl (cy 0, 1500, .inl (fun _ => 0))), (q2, .inl (cy 0, 1500, .inl (fun _ => 0))), (q3, .inl (cy 0, 1500, .inl (fun _ => 0))), (q4, .inl (cy 0, 1500, .inl (fun _ => 0))), (q5, .inl (cy 2, 400, .inl (fun _ => 0))), (q6, .inl (cy 0, 16, .inl (fun _ => 0))), (q7, .inl (cy 0, 24000, .inl (fun _ => 0))), (q8, .inl (cy 0, 16, .inl (fun _ => 0))), (q9, .inl (cy 0, 24000, .inl (fun _ => 0)))]) rfl rfl rfl (by simp) ?_
  refine m_putF (w' := w ++ [(q, .inr (4, [.int 0, .int 4, .int 4, .int 32, .int 0, .ref q1, .int 0, .ref q2, .int 0, .ref q3, .ref q4, .ref q5, .ref q6, .ref q7, .ref q8, .ref q9, .null, .null, .null])), (q1, .inl (cy 0, 1500, .inl (fun _ => 0))), (q2, .inl (cy 0, 1500, .inl (fun _ => 0))), (q3, .inl (cy 0, 1500, .inl (fun _ => 0))), (q4, .inl (cy 0, 1500, .inl (fun _ => 0))), (q5, .inl (cy 2, 400, .inl (fun _ => 0))), (q6, .inl (cy 0, 16, .inl (fun _ => 0))), (q7, .inl (cy 0, 24000, .inl (fun _ => 0))), (q8, .inl (cy 0, 16, .inl (fun _ => 0))), (q9, .inl (cy 0, 24000, .inl (fun _ => 0)))]) (T := TX4) (N := 19) C hiX4_init_X4 tyX4 tyX4_ok nmX4 (w.length + 0) (ga_at 0 rfl) rfl 15 (by decide) (by decide +kernel) rfl (hini rfl) rfl rfl rfl (Nat.le_of_ble_eq_true rfl) dX4_init_96 (ga_set 0) ?_
  refine m_aload_n C dX4_init_99 rfl 0 rfl ?_
  refine m_sipush (v := 400) C dX4_init_100 (by decide) ?_
  refine m_newa (ty := .int) (a0 := (400, .inl (fun _ => 0))) (N' := 400) C 0 rfl rfl (fun U cA h => h) (by decide +kernel) (fun cA => rfl) (by decide) (by decide) (by decide) (Nat.le_of_ble_eq_true rfl) (Nat.le_of_ble_eq_true rfl) dX4_init_103 (fun q10 => ?_)
  refine mW.eq (w' := w ++ [(q, .inr (4, [.int 0, .int 4, .int 4, .int 32, .int 0, .ref q1, .int 0, .ref q2, .int 0, .ref q3, .ref q4, .ref q5, .ref q6, .ref q7, .ref q8, .ref q9, .null, .null, .null])), (q1, .inl (cy 0, 1500, .inl (fun _ => 0))), (q2, .inl (cy 0, 1500, .inl (fun _ => 0))), (q3, .inl (cy 0, 1500, .inl (fun _ => 0))), (q4, .inl (cy 0, 1500, .inl (fun _ => 0))), (q5, .inl (cy 2, 400, .inl (fun _ => 0))), (q6, .inl (cy 0, 16, .inl (fun _ => 0))), (q7, .inl (cy 0, 24000, .inl (fun _ => 0))), (q8, .inl (cy 0, 16, .inl (fun _ => 0))), (q9, .inl (cy 0, 24000, .inl (fun _ => 0))), (q10, .inl (cy 0, 400, .inl (fun _ => 0)))]) rfl rfl rfl (by simp) ?_
  refine m_putF (w' := w ++ [(q, .inr (4, [.int 0, .int 4, .int 4, .int 32, .int 0, .ref q1, .int 0, .ref q2, .int 0, .ref q3, .ref q4, .ref q5, .ref q6, .ref q7, .ref q8, .ref q9, .ref q10, .null, .null])), (q1, .inl (cy 0, 1500, .inl (fun _ => 0))), (q2, .inl (cy 0, 1500, .inl (fun _ => 0))), (q3, .inl (cy 0, 1500, .inl (fun _ => 0))), (q4, .inl (cy 0, 1500, .inl (fun _ => 0))), (q5, .inl (cy 2, 400, .inl (fun _ => 0))), (q6, .inl (cy 0, 16, .inl (fun _ => 0))), (q7, .inl (cy 0, 24000, .inl (fun _ => 0))), (q8, .inl (cy 0, 16, .inl (fun _ => 0))), (q9, .inl (cy 0, 24000, .inl (fun _ => 0))), (q10, .inl (cy 0, 400, .inl (fun _ => 0)))]) (T := TX4) (N := 19) C hiX4_init_X4 tyX4 tyX4_ok nmX4 (w.length + 0) (ga_at 0 rfl) rfl 16 (by decide) (by decide +kernel) rfl (hini rfl) rfl rfl rfl (Nat.le_of_ble_eq_true rfl) dX4_init_105 (ga_set 0) ?_
  refine m_aload_n C dX4_init_108 rfl 0 rfl ?_
  refine m_sipush (v := 400) C dX4_init_109 (by decide) ?_
  refine m_newa (ty := .int) (a0 := (400, .inl (fun _ => 0))) (N' := 400) C 0 rfl rfl (fun U cA h => h) (by decide +kernel) (fun cA => rfl) (by decide) (by decide) (by decide) (Nat.le_of_ble_eq_true rfl) (Nat.le_of_ble_eq_true rfl) dX4_init_112 (fun q11 => ?_)
  refine mW.eq (w' := w ++ [(q, .inr (4, [.int 0, .int 4, .int 4, .int 32, .int 0, .ref q1, .int 0, .ref q2, .int 0, .ref q3, .ref q4, .ref q5, .ref q6, .ref q7, .ref q8, .ref q9, .ref q10, .null, .null])), (q1, .inl (cy 0, 1500, .inl (fun _ => 0))), (q2, .inl (cy 0, 1500, .inl (fun _ => 0))), (q3, .inl (cy 0, 1500, .inl (fun _ => 0))), (q4, .inl (cy 0, 1500, .inl (fun _ => 0))), (q5, .inl (cy 2, 400, .inl (fun _ => 0))), (q6, .inl (cy 0, 16, .inl (fun _ => 0))), (q7, .inl (cy 0, 24000, .inl (fun _ => 0))), (q8, .inl (cy 0, 16, .inl (fun _ => 0))), (q9, .inl (cy 0, 24000, .inl (fun _ => 0))), (q10, .inl (cy 0, 400, .inl (fun _ => 0))), (q11, .inl (cy 0, 400, .inl (fun _ => 0)))]) rfl rfl rfl (by simp) ?_
  refine m_putF (w' := w ++ [(q, .inr (4, [.int 0, .int 4, .int 4, .int 32, .int 0, .ref q1, .int 0, .ref q2, .int 0, .ref q3, .ref q4, .ref q5, .ref q6, .ref q7, .ref q8, .ref q9, .ref q10, .ref q11, .null])), (q1, .inl (cy 0, 1500, .inl (fun _ => 0))), (q2, .inl (cy 0, 1500, .inl (fun _ => 0))), (q3, .inl (cy 0, 1500, .inl (fun _ => 0))), (q4, .inl (cy 0, 1500, .inl (fun _ => 0))), (q5, .inl (cy 2, 400, .inl (fun _ => 0))), (q6, .inl (cy 0, 16, .inl (fun _ => 0))), (q7, .inl (cy 0, 24000, .inl (fun _ => 0))), (q8, .inl (cy 0, 16, .inl (fun _ => 0))), (q9, .inl (cy 0, 24000, .inl (fun _ => 0))), (q10, .inl (cy 0, 400, .inl (fun _ => 0))), (q11, .inl (cy 0, 400, .inl (fun _ => 0)))]) (T := TX4) (N := 19) C hiX4_init_X4 tyX4 tyX4_ok nmX4 (w.length + 0) (ga_at 0 rfl) rfl 17 (by decide) (by decide +kernel) rfl (hini rfl) rfl rfl rfl (Nat.le_of_ble_eq_true rfl) dX4_init_114 (ga_set 0) ?_
  refine m_aload_n C dX4_init_117 rfl 0 rfl ?_
  refine m_sipush (v := 25600) C dX4_init_118 (by decide) ?_
  refine m_newa (ty := .int) (a0 := (25600, .inl (fun _ => 0))) (N' := 25600) C 0 rfl rfl (fun U cA h => h) (by decide +kernel) (fun cA => rfl) (by decide) (by decide) (by decide) (Nat.le_of_ble_eq_true rfl) (Nat.le_of_ble_eq_true rfl) dX4_init_121 (fun q12 => ?_)
  refine mW.eq (w' := w ++ [(q, .inr (4, [.int 0, .int 4, .int 4, .int 32, .int 0, .ref q1, .int 0, .ref q2, .int 0, .ref q3, .ref q4, .ref q5, .ref q6, .ref q7, .ref q8, .ref q9, .ref q10, .ref q11, .null])), (q1, .inl (cy 0, 1500, .inl (fun _ => 0))), (q2, .inl (cy 0, 1500, .inl (fun _ => 0))), (q3, .inl (cy 0, 1500, .inl (fun _ => 0))), (q4, .inl (cy 0, 1500, .inl (fun _ => 0))), (q5, .inl (cy 2, 400, .inl (fun _ => 0))), (q6, .inl (cy 0, 16, .inl (fun _ => 0))), (q7, .inl (cy 0, 24000, .inl (fun _ => 0))), (q8, .inl (cy 0, 16, .inl (fun _ => 0))), (q9, .inl (cy 0, 24000, .inl (fun _ => 0))), (q10, .inl (cy 0, 400, .inl (fun _ => 0))), (q11, .inl (cy 0, 400, .inl (fun _ => 0))), (q12, .inl (cy 0, 25600, .inl (fun _ => 0)))]) rfl rfl rfl (by simp) ?_
  refine m_putF (w' := w ++ [(q, .inr (4, [.int 0, .int 4, .int 4, .int 32, .int 0, .ref q1, .int 0, .ref q2, .int 0, .ref q3, .ref q4, .ref q5, .ref q6, .ref q7, .ref q8, .ref q9, .ref q10, .ref q11, .ref q12])), (q1, .inl (cy 0, 1500, .inl (fun _ => 0))), (q2, .inl (cy 0, 1500, .inl (fun _ => 0))), (q3, .inl (cy 0, 1500, .inl (fun _ => 0))), (q4, .inl (cy 0, 1500, .inl (fun _ => 0))), (q5, .inl (cy 2, 400, .inl (fun _ => 0))), (q6, .inl (cy 0, 16, .inl (fun _ => 0))), (q7, .inl (cy 0, 24000, .inl (fun _ => 0))), (q8, .inl (cy 0, 16, .inl (fun _ => 0))), (q9, .inl (cy 0, 24000, .inl (fun _ => 0))), (q10, .inl (cy 0, 400, .inl (fun _ => 0))), (q11, .inl (cy 0, 400, .inl (fun _ => 0))), (q12, .inl (cy 0, 25600, .inl (fun _ => 0)))]) (T := TX4) (N := 19) C hiX4_init_X4 tyX4 tyX4_ok nmX4 (w.length + 0) (ga_at 0 rfl) rfl 18 (by decide) (by decide +kernel) rfl (hini rfl) rfl rfl rfl (Nat.le_of_ble_eq_true rfl) dX4_init_123 (ga_set 0) ?_
  exact m_vret C dX4_init_126 (Nat.le_of_ble_eq_true rfl) (Nat.le_of_ble_eq_true rfl) ⟨rfl, q1, q2, q3, q4, q5, q6, q7, q8, q9, q10, q11, q12, rfl⟩
