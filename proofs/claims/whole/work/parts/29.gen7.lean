theorem hg_48_52 : ∀ w ∈ Cond.classLink "CutYard" 48 "java/lang/IllegalArgumentException" :: Cond.initialized "java/lang/IllegalArgumentException" :: vx_atS "CutYard" 52 "java/lang/IllegalArgumentException" xN, vx_ot w = true := by decide +kernel
theorem hg_69_73 : ∀ w ∈ Cond.classLink "CutYard" 69 "java/lang/UnsupportedOperationException" :: Cond.initialized "java/lang/UnsupportedOperationException" :: vx_atS "CutYard" 73 "java/lang/UnsupportedOperationException" xN, vx_ot w = true := by decide +kernel
theorem hg_117_121 : ∀ w ∈ Cond.classLink "CutYard" 117 "java/lang/IndexOutOfBoundsException" :: Cond.initialized "java/lang/IndexOutOfBoundsException" :: vx_atS "CutYard" 121 "java/lang/IndexOutOfBoundsException" xN, vx_ot w = true := by decide +kernel
theorem hg_136_138 : ∀ w ∈ Cond.classLink "CutYard" 136 "java/util/NoSuchElementException" :: Cond.initialized "java/util/NoSuchElementException" :: vx_atS "CutYard" 138 "java/util/NoSuchElementException" xN, vx_ot w = true := by decide +kernel
theorem m_sw3 {p : Program} {l : Launch} {e : Env} {R : Room} {s : State} {m : MethodId} {args : Array Value} {below : List Frame} {meth : Method} {c : Code} {D : va_G} {cy : Nat → ClassId} {A : Nat → Prop} {cc : ByteArray} {nL kc ks : Nat} {own : String} {Ts : List Cond} {ret0 : Option FieldType} {Q : State → Prop} {w : va_W} {pc : Nat} {lv : List (Nat × Value)} {rest : List Value} (C : mC p s m args meth c D cy A cc nL own Ts ret0) {dflt o0 o1 o2 : Int} {offs : Array Int} {len t0 t1 t2 td : Nat} {x : Int32} (hdg : decode cc pc = .ok (.tableswitch dflt 0 2 offs, len)) (h0 : offs[0]? = some o0) (h1 : offs[1]? = some o1) (h2 : offs[2]? = some o2) (e0 : (pc : Int) + o0 = (t0 : Int)) (e1 : (pc : Int) + o1 = (t1 : Int)) (e2 : (pc : Int) + o2 = (t2 : Int)) (ed : (pc : Int) + dflt = (td : Int))
    (k0 : x = 0 → mW p l e R s m args below meth c D A nL kc ks Q w t0 lv rest) (k1 : x = 1 → mW p l e R s m args below meth c D A nL kc ks Q w t1 lv rest) (k2 : x = 2 → mW p l e R s m args below meth c D A nL kc ks Q w t2 lv rest) (kd : ¬ x = 0 → ¬ x = 1 → ¬ x = 2 → mW p l e R s m args below meth c D A nL kc ks Q w td lv rest) : mW p l e R s m args below meth c D A nL kc ks Q w pc lv (.int x :: rest) := by
  by_cases c0 : x = 0
  · subst c0
    exact m_tableIn C hdg (by decide) (by decide) h0 e0 (k0 rfl)
  by_cases c1 : x = 1
  · subst c1
    exact m_tableIn C hdg (by decide) (by decide) h1 e1 (k1 rfl)
  by_cases c2 : x = 2
  · subst c2
    exact m_tableIn C hdg (by decide) (by decide) h2 e2 (k2 rfl)
  refine m_tableOut C hdg ?_ ed (kd c0 c1 c2)
  have i0 : x.toInt ≠ 0 := fun q => c0 (Int32.toInt_inj.mp q)
  have i1 : x.toInt ≠ 1 := fun q => c1 (Int32.toInt_inj.mp q)
  have i2 : x.toInt ≠ 2 := fun q => c2 (Int32.toInt_inj.mp q)
  omega
theorem hiX3_fileAt_X3 : ∀ w ∈ wsX30, w ∈ wsX3_fileAt := by decide +kernel
theorem hxX3_fileAt_121 : ∀ w ∈ (vx_atS "CutYard" 121 "java/lang/IndexOutOfBoundsException" xN).filter goodWord, w ∈ wsX3_fileAt := by decide +kernel
def wp_X3_fileAt (ln : Nat → Nat) (v : gV) (a1 : Int32) (post : gV → Prop) (pex : String → gV → Prop) : Prop :=
  ((a1 < 0) → (pex "java/lang/IndexOutOfBoundsException" v)) ∧ (¬ (a1 < 0) → (((a1 < 16) → (vp_in a1 16 ∧ (post v))) ∧ (¬ (a1 < 16) → (pex "java/lang/IndexOutOfBoundsException" v))))
set_option maxHeartbeats 4000000 in
set_option maxRecDepth 100000 in
theorem s_X3_fileAt (l : Launch) (D : va_G) (cy : Nat → ClassId) (sA ad ln : Nat → Nat) (v : gV) (ou : Nat → Int64) (a1 : Int32) (hl : l.stackTraces = false) {post : gV → Prop} {pex : String → gV → Prop} (h : wp_X3_fileAt ln v a1 post pex) : mX l D cy sA yX3_fileAt wsX3_fileAt 6 1 6 [.ref (ad 0), .int a1] (gW cy ad ln v ou) (fun r w1 => ∃ v1 : gV, r = some (.ref (ad (14 + a1.toNatClampNeg % 16))) ∧ post v1 ∧ w1 = gW cy ad ln v1 ou) (fun E w1 => ∃ v1 : gV, pex E v1 ∧ w1 = gW cy ad ln v1 ou) := by
  unfold wp_X3_fileAt at h
  refine mX.of (cc := cX3_fileAt) (nL := 2) (ret0 := (some (.object "CutYard$Content"))) (by decide +kernel) rfl (Nat.le_of_ble_eq_true rfl) ?_
  intro p e s m args below meth c A C hT hX
  refine mW.sub (lv' := [(0, .ref (ad 0)), (1, .int a1)]) [0, 1] rfl ?_
  refine m_iload_n C dX3_fileAt_0 rfl 1 rfl ?_
  refine m_if_lt (tgt := 10) C dX3_fileAt_1 (by decide) (fun c1 => ?_) (fun c1 => ?_)
  · have h := h.1 c1
    exact m_throw (text := "no such file") C hl hT hX (by decide) (by decide +kernel) (by decide +kernel) (by decide) hxX3_fileAt_121 xB_2 hg_117_121 dX3_fileAt_10 dX3_fileAt_13 dX3_fileAt_14 dX3_fileAt_16 dX3_fileAt_19 (Nat.le_of_ble_eq_true rfl) (Nat.le_of_ble_eq_true rfl) (Nat.le_of_ble_eq_true rfl) (Nat.le_of_ble_eq_true rfl) (Nat.le_of_ble_eq_true rfl) (Nat.le_of_ble_eq_true rfl) ⟨_, h, rfl⟩
  · have h := h.2 c1
    refine m_iload_n C dX3_fileAt_4 rfl 1 rfl ?_
    refine m_bipush (v := 16) C dX3_fileAt_5 (by decide) ?_
    refine m_icmp_lt (tgt := 20) C dX3_fileAt_7 (by decide) (fun c2 => ?_) (fun c2 => ?_)
    · have h := h.1 c2
      refine m_aload_n C dX3_fileAt_20 rfl 0 rfl ?_
      refine m_get (T := TX3) (N := 8) C hiX3_fileAt_X3 0 gp_0 rfl 2 (by decide) (by decide +kernel) rfl dX3_fileAt_21 ?_
      refine m_iload_n C dX3_fileAt_24 rfl 1 rfl ?_
      obtain ⟨b3, h⟩ := h
      refine m_aald C 3 gp_3 b3 dX3_fileAt_25 ?_
      exact m_xr (m_aret C (Or.inl ⟨_, rfl⟩) dX3_fileAt_26 (Nat.le_of_ble_eq_true rfl) (Nat.le_of_ble_eq_true rfl) ⟨_, rfl, h, rfl⟩)
    · have h := h.2 c2
      exact m_throw (text := "no such file") C hl hT hX (by decide) (by decide +kernel) (by decide +kernel) (by decide) hxX3_fileAt_121 xB_2 hg_117_121 dX3_fileAt_10 dX3_fileAt_13 dX3_fileAt_14 dX3_fileAt_16 dX3_fileAt_19 (Nat.le_of_ble_eq_true rfl) (Nat.le_of_ble_eq_true rfl) (Nat.le_of_ble_eq_true rfl) (Nat.le_of_ble_eq_true rfl) (Nat.le_of_ble_eq_true rfl) (Nat.le_of_ble_eq_true rfl) ⟨_, h, rfl⟩
theorem hiX3_size_X0 : ∀ w ∈ wsX00, w ∈ wsX3_size := by decide +kernel
def wp_X3_size (ln : Nat → Nat) (v : gV) (a1 : Int32) (post : Int32 → gV → Prop) (pex : String → gV → Prop) : Prop :=
  wp_X3_fileAt ln v a1 (fun (v1 : gV) => (post (v1 (14 + a1.toNatClampNeg % 16) 2) v1)) pex
set_option maxHeartbeats 4000000 in
set_option maxRecDepth 100000 in
theorem s_X3_size (l : Launch) (D : va_G) (cy : Nat → ClassId) (sA ad ln : Nat → Nat) (v : gV) (ou : Nat → Int64) (a1 : Int32) (hl : l.stackTraces = false) {post : Int32 → gV → Prop} {pex : String → gV → Prop} (h : wp_X3_size ln v a1 post pex) : mX l D cy sA yX3_size wsX3_size 7 1 6 [.ref (ad 0), .int a1] (gW cy ad ln v ou) (fun r w1 => ∃ (x1 : Int32) (v1 : gV), r = some (.int x1) ∧ post x1 v1 ∧ w1 = gW cy ad ln v1 ou) (fun E w1 => ∃ v1 : gV, pex E v1 ∧ w1 = gW cy ad ln v1 ou) := by
  unfold wp_X3_size at h
  refine mX.of (cc := cX3_size) (nL := 2) (ret0 := (some .int)) (by decide +kernel) rfl (Nat.le_of_ble_eq_true rfl) ?_
  intro p e s m args below meth c A C hT hX
  refine mW.sub (lv' := [(0, .ref (ad 0)), (1, .int a1)]) [0, 1] rfl ?_
  refine m_aload_n C dX3_size_0 rfl 0 rfl ?_
  refine m_iload_n C dX3_size_1 rfl 1 rfl ?_
  refine m_callVX C hT hX (s_X3_fileAt l D cy sA ad ln v ou a1  hl h) (cwV 1 C.2.2.2.2.1 gX3_size_X3_fileAt rfl rfl rfl (by decide +kernel) ⟨Nat.le_of_ble_eq_true rfl, Nat.le_of_ble_eq_true rfl⟩) 0 gp_0 rfl rfl rfl (Nat.le_of_ble_eq_true rfl) dX3_size_2 ⟨Nat.le_of_ble_eq_true rfl, Nat.le_of_ble_eq_true rfl⟩ ⟨Nat.le_of_ble_eq_true rfl, Nat.le_of_ble_eq_true rfl⟩ (fun _ _ q => q) (fun r w1 h1 => ?_)
  obtain ⟨v1, rfl, h, rfl⟩ := h1
  refine mW.eq (st' := [.ref (ad (14 + a1.toNatClampNeg % 16))]) rfl rfl rfl rfl ?_
  refine m_getN (host := "CutYard") (T := TX0) (N := 3) C hiX3_size_X0 (14 + a1.toNatClampNeg % 16) (gp_C (gC_lo _) (gC_hi _)) rfl 2 (by decide) (by decide +kernel) rfl dX3_size_5 ?_
  exact m_xr (m_iret C dX3_size_8 (Nat.le_of_ble_eq_true rfl) (Nat.le_of_ble_eq_true rfl) ⟨_, _, rfl, h, rfl⟩)
theorem hiX3_parts_X0 : ∀ w ∈ wsX00, w ∈ wsX3_parts := by decide +kernel
def wp_X3_parts (ln : Nat → Nat) (v : gV) (a1 : Int32) (post : Int32 → gV → Prop) (pex : String → gV → Prop) : Prop :=
  wp_X3_fileAt ln v a1 (fun (v1 : gV) => (post (v1 (14 + a1.toNatClampNeg % 16) 1) v1)) pex
set_option maxHeartbeats 4000000 in
set_option maxRecDepth 100000 in
theorem s_X3_parts (l : Launch) (D : va_G) (cy : Nat → ClassId) (sA ad ln : Nat → Nat) (v : gV) (ou : Nat → Int64) (a1 : Int32) (hl : l.stackTraces = false) {post : Int32 → gV → Prop} {pex : String → gV → Prop} (h : wp_X3_parts ln v a1 post pex) : mX l D cy sA yX3_parts wsX3_parts 7 1 6 [.ref (ad 0), .int a1] (gW cy ad ln v ou) (fun r w1 => ∃ (x1 : Int32) (v1 : gV), r = some (.int x1) ∧ post x1 v1 ∧ w1 = gW cy ad ln v1 ou) (fun E w1 => ∃ v1 : gV, pex E v1 ∧ w1 = gW cy ad ln v1 ou) := by
  unfold wp_X3_parts at h
  refine mX.of (cc := cX3_parts) (nL := 2) (ret0 := (some .int)) (by decide +kernel) rfl (Nat.le_of_ble_eq_true rfl) ?_
  intro p e s m args below meth c A C hT hX
  refine mW.sub (lv' := [(0, .ref (ad 0)), (1, .int a1)]) [0, 1] rfl ?_
  refine m_aload_n C dX3_parts_0 rfl 0 rfl ?_
  refine m_iload_n C dX3_parts_1 rfl 1 rfl ?_
  refine m_callVX C hT hX (s_X3_fileAt l D cy sA ad ln v ou a1  hl h) (cwV 1 C.2.2.2.2.1 gX3_parts_X3_fileAt rfl rfl rfl (by decide +kernel) ⟨Nat.le_of_ble_eq_true rfl, Nat.le_of_ble_eq_true rfl⟩) 0 gp_0 rfl rfl rfl (Nat.le_of_ble_eq_true rfl) dX3_parts_2 ⟨Nat.le_of_ble_eq_true rfl, Nat.le_of_ble_eq_true rfl⟩ ⟨Nat.le_of_ble_eq_true rfl, Nat.le_of_ble_eq_true rfl⟩ (fun _ _ q => q) (fun r w1 h1 => ?_)
  obtain ⟨v1, rfl, h, rfl⟩ := h1
  refine mW.eq (st' := [.ref (ad (14 + a1.toNatClampNeg % 16))]) rfl rfl rfl rfl ?_
  refine m_getN (host := "CutYard") (T := TX0) (N := 3) C hiX3_parts_X0 (14 + a1.toNatClampNeg % 16) (gp_C (gC_lo _) (gC_hi _)) rfl 1 (by decide) (by decide +kernel) rfl dX3_parts_5 ?_
  exact m_xr (m_iret C dX3_parts_8 (Nat.le_of_ble_eq_true rfl) (Nat.le_of_ble_eq_true rfl) ⟨_, _, rfl, h, rfl⟩)
theorem hiX3_part_X0 : ∀ w ∈ wsX00, w ∈ wsX3_part := by decide +kernel
theorem hxX3_part_121 : ∀ w ∈ (vx_atS "CutYard" 121 "java/lang/IndexOutOfBoundsException" xN).filter goodWord, w ∈ wsX3_part := by decide +kernel
def wp_X3_part (ln : Nat → Nat) (v : gV) (a1 : Int32) (a2 : Int32) (post : Int32 → gV → Prop) (pex : String → gV → Prop) : Prop :=
  wp_X3_fileAt ln v a1 (fun (v1 : gV) => (((a2 < 0) → (pex "java/lang/IndexOutOfBoundsException" v1)) ∧ (¬ (a2 < 0) → (((a2 < (v1 (14 + a1.toNatClampNeg % 16) 1)) → (vp_in a2 (ln ((14 + a1.toNatClampNeg % 16) + 16)) ∧ (post (v1 ((14 + a1.toNatClampNeg % 16) + 16) a2.toNatClampNeg) v1))) ∧ (¬ (a2 < (v1 (14 + a1.toNatClampNeg % 16) 1)) → (pex "java/lang/IndexOutOfBoundsException" v1)))))) pex
set_option maxHeartbeats 4000000 in
set_option maxRecDepth 100000 in
theorem s_X3_part (l : Launch) (D : va_G) (cy : Nat → ClassId) (sA ad ln : Nat → Nat) (v : gV) (ou : Nat → Int64) (a1 : Int32) (a2 : Int32) (hl : l.stackTraces = false) {post : Int32 → gV → Prop} {pex : String → gV → Prop} (h : wp_X3_part ln v a1 a2 post pex) : mX l D cy sA yX3_part wsX3_part 7 2 12 [.ref (ad 0), .int a1, .int a2] (gW cy ad ln v ou) (fun r w1 => ∃ (x1 : Int32) (v1 : gV), r = some (.int x1) ∧ post x1 v1 ∧ w1 = gW cy ad ln v1 ou) (fun E w1 => ∃ v1 : gV, pex E v1 ∧ w1 = gW cy ad ln v1 ou) := by
  unfold wp_X3_part at h
  refine mX.of (cc := cX3_part) (nL := 4) (ret0 := (some .int)) (by decide +kernel) rfl (Nat.le_of_ble_eq_true rfl) ?_
  intro p e s m args below meth c A C hT hX
  refine mW.sub (lv' := [(0, .ref (ad 0)), (1, .int a1), (2, .int a2)]) [0, 1, 2] rfl ?_
  refine m_aload_n C dX3_part_0 rfl 0 rfl ?_
  refine m_iload_n C dX3_part_1 rfl 1 rfl ?_
  refine m_callVX C hT hX (s_X3_fileAt l D cy sA ad ln v ou a1  hl h) (cwV 1 C.2.2.2.2.1 gX3_part_X3_fileAt rfl rfl rfl (by decide +kernel) ⟨Nat.le_of_ble_eq_true rfl, Nat.le_of_ble_eq_true rfl⟩) 0 gp_0 rfl rfl rfl (Nat.le_of_ble_eq_true rfl) dX3_part_2 ⟨Nat.le_of_ble_eq_true rfl, Nat.le_of_ble_eq_true rfl⟩ ⟨Nat.le_of_ble_eq_true rfl, Nat.le_of_ble_eq_true rfl⟩ (fun _ _ q => q) (fun r w1 h1 => ?_)
  obtain ⟨v1, rfl, h, rfl⟩ := h1
  refine mW.eq (st' := [.ref (ad (14 + a1.toNatClampNeg % 16))]) rfl rfl rfl rfl ?_
  refine m_astore_n (lv' := [(3, .ref (ad (14 + a1.toNatClampNeg % 16))), (0, .ref (ad 0)), (1, .int a1), (2, .int a2)]) C dX3_part_5 rfl (by decide) rfl ?_
  refine m_iload_n C dX3_part_6 rfl 3 rfl ?_
  refine m_if_lt (tgt := 18) C dX3_part_7 (by decide) (fun c3 => ?_) (fun c3 => ?_)
  · have h := h.1 c3
    exact m_throw (text := "no such part") C hl hT hX (by decide) (by decide +kernel) (by decide +kernel) (by decide) hxX3_part_121 xB_2 hg_117_121 dX3_part_18 dX3_part_21 dX3_part_22 dX3_part_24 dX3_part_27 (Nat.le_of_ble_eq_true rfl) (Nat.le_of_ble_eq_true rfl) (Nat.le_of_ble_eq_true rfl) (Nat.le_of_ble_eq_true rfl) (Nat.le_of_ble_eq_true rfl) (Nat.le_of_ble_eq_true rfl) ⟨_, h, rfl⟩
  · have h := h.2 c3
    refine m_iload_n C dX3_part_10 rfl 3 rfl ?_
    refine m_aload_n C dX3_part_11 rfl 0 rfl ?_
    refine m_getN (host := "CutYard") (T := TX0) (N := 3) C hiX3_part_X0 (14 + a1.toNatClampNeg % 16) (gp_C (gC_lo _) (gC_hi _)) rfl 1 (by decide) (by decide +kernel) rfl dX3_part_12 ?_
    refine m_icmp_lt (tgt := 28) C dX3_part_15 (by decide) (fun c4 => ?_) (fun c4 => ?_)
    · have h := h.1 c4
      refine m_aload_n C dX3_part_28 rfl 0 rfl ?_
      refine m_getN (host := "CutYard") (T := TX0) (N := 3) C hiX3_part_X0 (14 + a1.toNatClampNeg % 16) (gp_C (gC_lo _) (gC_hi _)) rfl 0 (by decide) (by decide +kernel) rfl dX3_part_29 ?_
      refine m_iload_n C dX3_part_32 rfl 3 rfl ?_
      obtain ⟨b5, h⟩ := h
      refine m_iald C ((14 + a1.toNatClampNeg % 16) + 16) (gp_I (gIs_N (gC_lo _) (gC_hi _))) b5 dX3_part_33 ?_
      exact m_xr (m_iret C dX3_part_34 (Nat.le_of_ble_eq_true rfl) (Nat.le_of_ble_eq_true rfl) ⟨_, _, rfl, h, rfl⟩)
    · have h := h.2 c4
      exact m_throw (text := "no such part") C hl hT hX (by decide) (by decide +kernel) (by decide +kernel) (by decide) hxX3_part_121 xB_2 hg_117_121 dX3_part_18 dX3_part_21 dX3_part_22 dX3_part_24 dX3_part_27 (Nat.le_of_ble_eq_true rfl) (Nat.le_of_ble_eq_true rfl) (Nat.le_of_ble_eq_true rfl) (Nat.le_of_ble_eq_true rfl) (Nat.le_of_ble_eq_true rfl) (Nat.le_of_ble_eq_true rfl) ⟨_, h, rfl⟩
theorem hiX3_get_X0 : ∀ w ∈ wsX00, w ∈ wsX3_get := by decide +kernel
theorem hiX3_get_X3 : ∀ w ∈ wsX30, w ∈ wsX3_get := by decide +kernel
theorem hxX3_get_121 : ∀ w ∈ (vx_atS "CutYard" 121 "java/lang/IndexOutOfBoundsException" xN).filter goodWord, w ∈ wsX3_get := by decide +kernel
def wp_X3_get (ln : Nat → Nat) (v : gV) (a1 : Int32) (a2 : Int32) (post : Int32 → gV → Prop) (pex : String → gV → Prop) : Prop :=
  wp_X3_fileAt ln v a1 (fun (v1 : gV) => (((a2 < 0) → (pex "java/lang/IndexOutOfBoundsException" v1)) ∧ (¬ (a2 < 0) → (((a2 < (v1 (14 + a1.toNatClampNeg % 16) 2)) → (∃ I34 : Nat → Int32 → Int32 → Prop, (∃ n, I34 n a2 0) ∧ ∀ (n : Nat) (x5 : Int32) (x6 : Int32), I34 n x5 x6 → (((((v1 (14 + a1.toNatClampNeg % 16) 1) - 1) ≤ x6) → (vp_in x6 (ln ((14 + a1.toNatClampNeg % 16) + 16)) ∧ (wp_X2_byteOf ln v1 (v1 ((14 + a1.toNatClampNeg % 16) + 16) x6.toNatClampNeg) x5 (fun (x9 : Int32) (v10 : gV) => (post x9 v10))))) ∧ (¬ (((v1 (14 + a1.toNatClampNeg % 16) 1) - 1) ≤ x6) → (vp_in x6 (ln ((14 + a1.toNatClampNeg % 16) + 16)) ∧ (ln 8 = 400 ∧ (ln 9 = 400 ∧ (((x5 < (plo v1 (v1 ((14 + a1.toNatClampNeg % 16) + 16) x6.toNatClampNeg))) → (vp_in x6 (ln ((14 + a1.toNatClampNeg % 16) + 16)) ∧ (wp_X2_byteOf ln v1 (v1 ((14 + a1.toNatClampNeg % 16) + 16) x6.toNatClampNeg) x5 (fun (x16 : Int32) (v17 : gV) => (post x16 v17))))) ∧ (¬ (x5 < (plo v1 (v1 ((14 + a1.toNatClampNeg % 16) + 16) x6.toNatClampNeg))) → (vp_in x6 (ln ((14 + a1.toNatClampNeg % 16) + 16)) ∧ (ln 8 = 400 ∧ (ln 9 = 400 ∧ (∀ x21 : Int32, x21 = (x5 - (plo v1 (v1 ((14 + a1.toNatClampNeg % 16) + 16) x6.toNatClampNeg))) → (∃ n', n' < n ∧ I34 n' x21 (x6 + 1))))))))))))))) ∧ (¬ (a2 < (v1 (14 + a1.toNatClampNeg % 16) 2)) → (pex "java/lang/IndexOutOfBoundsException" v1)))))) pex
set_option maxHeartbeats 4000000 in
set_option maxRecDepth 100000 in
theorem s_X3_get (l : Launch) (D : va_G) (cy : Nat → ClassId) (sA ad ln : Nat → Nat) (v : gV) (ou : Nat → Int64) (a1 : Int32) (a2 : Int32) (hl : l.stackTraces = false) {post : Int32 → gV → Prop} {pex : String → gV → Prop} (h : wp_X3_get ln v a1 a2 post pex) : mX l D cy sA yX3_get wsX3_get 7 2 12 [.ref (ad 0), .int a1, .int a2] (gW cy ad ln v ou) (fun r w1 => ∃ (x1 : Int32) (v1 : gV), r = some (.int x1) ∧ post x1 v1 ∧ w1 = gW cy ad ln v1 ou) (fun E w1 => ∃ v1 : gV, pex E v1 ∧ w1 = gW cy ad ln v1 ou) := by
  unfold wp_X3_get at h
  refine mX.of (cc := cX3_get) (nL := 6) (ret0 := (some .int)) (by decide +kernel) rfl (Nat.le_of_ble_eq_true rfl) ?_
  intro p e s m args below meth c A C hT hX
  refine mW.sub (lv' := [(0, .ref (ad 0)), (1, .int a1), (2, .int a2)]) [0, 1, 2] rfl ?_
  refine m_aload_n C dX3_get_0 rfl 0 rfl ?_
  refine m_iload_n C dX3_get_1 rfl 1 rfl ?_
  refine m_callVX C hT hX (s_X3_fileAt l D cy sA ad ln v ou a1  hl h) (cwV 1 C.2.2.2.2.1 gX3_get_X3_fileAt rfl rfl rfl (by decide +kernel) ⟨Nat.le_of_ble_eq_true rfl, Nat.le_of_ble_eq_true rfl⟩) 0 gp_0 rfl rfl rfl (Nat.le_of_ble_eq_true rfl) dX3_get_2 ⟨Nat.le_of_ble_eq_true rfl, Nat.le_of_ble_eq_true rfl⟩ ⟨Nat.le_of_ble_eq_true rfl, Nat.le_of_ble_eq_true rfl⟩ (fun _ _ q => q) (fun r w1 h1 => ?_)
  obtain ⟨v1, rfl, h, rfl⟩ := h1
  refine mW.eq (st' := [.ref (ad (14 + a1.toNatClampNeg % 16))]) rfl rfl rfl rfl ?_
  refine m_astore_n (lv' := [(3, .ref (ad (14 + a1.toNatClampNeg % 16))), (0, .ref (ad 0)), (1, .int a1), (2, .int a2)]) C dX3_get_5 rfl (by decide) rfl ?_
  refine m_iload_n C dX3_get_6 rfl 3 rfl ?_
  refine m_if_lt (tgt := 18) C dX3_get_7 (by decide) (fun c3 => ?_) (fun c3 => ?_)
  · have h := h.1 c3
    exact m_throw (text := "no such byte") C hl hT hX (by decide) (by decide +kernel) (by decide +kernel) (by decide) hxX3_get_121 xB_2 hg_117_121 dX3_get_18 dX3_get_21 dX3_get_22 dX3_get_24 dX3_get_27 (Nat.le_of_ble_eq_true rfl) (Nat.le_of_ble_eq_true rfl) (Nat.le_of_ble_eq_true rfl) (Nat.le_of_ble_eq_true rfl) (Nat.le_of_ble_eq_true rfl) (Nat.le_of_ble_eq_true rfl) ⟨_, h, rfl⟩
  · have h := h.2 c3
    refine m_iload_n C dX3_get_10 rfl 3 rfl ?_
    refine m_aload_n C dX3_get_11 rfl 0 rfl ?_
    refine m_getN (host := "CutYard") (T := TX0) (N := 3) C hiX3_get_X0 (14 + a1.toNatClampNeg % 16) (gp_C (gC_lo _) (gC_hi _)) rfl 2 (by decide) (by decide +kernel) rfl dX3_get_12 ?_
    refine m_icmp_lt (tgt := 28) C dX3_get_15 (by decide) (fun c4 => ?_) (fun c4 => ?_)
    · have h := h.1 c4
      refine m_iload_n C dX3_get_28 rfl 3 rfl ?_
      refine m_istore (lv' := [(4, .int a2), (3, .ref (ad (14 + a1.toNatClampNeg % 16))), (0, .ref (ad 0)), (1, .int a1), (2, .int a2)]) C dX3_get_29 (by decide) rfl ?_
      refine m_iconst (v := 0) C dX3_get_31 (by decide) ?_
      refine m_istore (lv' := [(5, .int 0), (4, .int a2), (3, .ref (ad (14 + a1.toNatClampNeg % 16))), (0, .ref (ad 0)), (1, .int a1), (2, .int a2)]) C dX3_get_32 (by decide) rfl ?_
      obtain ⟨I34, ⟨n0, h0⟩, hI⟩ := h
      refine mW.sub (lv' := [(0, .ref (ad 0)), (1, .int a1), (2, .int a2), (3, .ref (ad (14 + a1.toNatClampNeg % 16))), (4, .int a2), (5, .int 0)]) [3, 4, 5, 2, 1, 0] rfl ?_
      refine m_ind (σ := Int32 × Int32) (fun n z => I34 n z.1 z.2) (fun z => gW cy ad ln v1 ou) 34 (fun z => [(0, .ref (ad 0)), (1, .int a1), (2, .int a2), (3, .ref (ad (14 + a1.toNatClampNeg % 16))), (4, .int z.1), (5, .int z.2)]) ?_ n0 (a2, 0) h0
      intro n z hi ih
      obtain ⟨x5, x6⟩ := z
      have h := hI n x5 x6 hi
      show mW _ _ _ _ _ _ _ _ _ _ _ _ _ _ _ _ (gW cy ad ln v1 ou) 34 [(0, .ref (ad 0)), (1, .int a1), (2, .int a2), (3, .ref (ad (14 + a1.toNatClampNeg % 16))), (4, .int x5), (5, .int x6)] []
      refine m_iload C dX3_get_34 5 rfl ?_
      refine m_aload_n C dX3_get_36 rfl 3 rfl ?_
      refine m_getN (host := "CutYard") (T := TX0) (N := 3) C hiX3_get_X0 (14 + a1.toNatClampNeg % 16) (gp_C (gC_lo _) (gC_hi _)) rfl 1 (by decide) (by decide +kernel) rfl dX3_get_37 ?_
      refine m_iconst (v := 1) C dX3_get_40 (by decide) ?_
      refine m_isub C dX3_get_41 ?_
      refine m_icmp_ge (tgt := 89) C dX3_get_42 (by decide) (fun c7 => ?_) (fun c7 => ?_)
      · have h := h.1 c7
        refine m_aload_n C dX3_get_89 rfl 0 rfl ?_
        refine m_get (T := TX3) (N := 8) C hiX3_get_X3 0 gp_0 rfl 1 (by decide) (by decide +kernel) rfl dX3_get_90 ?_
        refine m_aload_n C dX3_get_93 rfl 3 rfl ?_
        refine m_getN (host := "CutYard") (T := TX0) (N := 3) C hiX3_get_X0 (14 + a1.toNatClampNeg % 16) (gp_C (gC_lo _) (gC_hi _)) rfl 0 (by decide) (by decide +kernel) rfl dX3_get_94 ?_
        refine m_iload C dX3_get_97 5 rfl ?_
        obtain ⟨b8, h⟩ := h
        refine m_iald C ((14 + a1.toNatClampNeg % 16) + 16) (gp_I (gIs_N (gC_lo _) (gC_hi _))) b8 dX3_get_99 ?_
        refine m_iload C dX3_get_100 4 rfl ?_
        refine m_callV C (s_X2_byteOf l D cy ad ln v1 ou (v1 ((14 + a1.toNatClampNeg % 16) + 16) x6.toNatClampNeg) x5  h) (cwV 2 C.2.2.2.2.1 gX3_get_X2_byteOf rfl rfl rfl (by decide +kernel) ⟨Nat.le_of_ble_eq_true rfl, Nat.le_of_ble_eq_true rfl⟩) 2 gp_2 rfl rfl rfl (Nat.le_of_ble_eq_true rfl) dX3_get_102 ⟨Nat.le_of_ble_eq_true rfl, Nat.le_of_ble_eq_true rfl⟩ (fun r w1 h1 => ?_)
        obtain ⟨x9, v10, rfl, h, rfl⟩ := h1
        refine mW.eq (st' := [.int x9]) rfl rfl rfl rfl ?_
        exact m_xr (m_iret C dX3_get_105 (Nat.le_of_ble_eq_true rfl) (Nat.le_of_ble_eq_true rfl) ⟨_, _, rfl, h, rfl⟩)
      · have h := h.2 c7
        refine m_iload C dX3_get_45 4 rfl ?_
        refine m_aload_n C dX3_get_47 rfl 0 rfl ?_
        refine m_get (T := TX3) (N := 8) C hiX3_get_X3 0 gp_0 rfl 1 (by decide) (by decide +kernel) rfl dX3_get_48 ?_
        refine m_aload_n C dX3_get_51 rfl 3 rfl ?_
        refine m_getN (host := "CutYard") (T := TX0) (N := 3) C hiX3_get_X0 (14 + a1.toNatClampNeg % 16) (gp_C (gC_lo _) (gC_hi _)) rfl 0 (by decide) (by decide +kernel) rfl dX3_get_52 ?_
        refine m_iload C dX3_get_55 5 rfl ?_
        obtain ⟨b11, h⟩ := h
        refine m_iald C ((14 + a1.toNatClampNeg % 16) + 16) (gp_I (gIs_N (gC_lo _) (gC_hi _))) b11 dX3_get_57 ?_
        obtain ⟨b12, h⟩ := h
        obtain ⟨b13, h⟩ := h
        refine m_callV C (p_X2_lengthOf l D cy ad ln v1 ou (v1 ((14 + a1.toNatClampNeg % 16) + 16) x6.toNatClampNeg) b12 b13) (cwV 1 C.2.2.2.2.1 gX3_get_X2_lengthOf rfl rfl rfl (by decide +kernel) ⟨Nat.le_of_ble_eq_true rfl, Nat.le_of_ble_eq_true rfl⟩) 2 gp_2 rfl rfl rfl (Nat.le_of_ble_eq_true rfl) dX3_get_58 ⟨Nat.le_of_ble_eq_true rfl, Nat.le_of_ble_eq_true rfl⟩ (fun r w1 h1 => ?_)
        obtain ⟨rfl, rfl⟩ := h1
        refine mW.eq (st' := [.int (plo v1 (v1 ((14 + a1.toNatClampNeg % 16) + 16) x6.toNatClampNeg)), .int x5]) rfl rfl rfl rfl ?_
        refine m_icmp_lt (tgt := 89) C dX3_get_61 (by decide) (fun c14 => ?_) (fun c14 => ?_)
        · have h := h.1 c14
          refine m_aload_n C dX3_get_89 rfl 0 rfl ?_
          refine m_get (T := TX3) (N := 8) C hiX3_get_X3 0 gp_0 rfl 1 (by decide) (by decide +kernel) rfl dX3_get_90 ?_
          refine m_aload_n C dX3_get_93 rfl 3 rfl ?_
          refine m_getN (host := "CutYard") (T := TX0) (N := 3) C hiX3_get_X0 (14 + a1.toNatClampNeg % 16) (gp_C (gC_lo _) (gC_hi _)) rfl 0 (by decide) (by decide +kernel) rfl dX3_get_94 ?_
          refine m_iload C dX3_get_97 5 rfl ?_
          obtain ⟨b15, h⟩ := h
          refine m_iald C ((14 + a1.toNatClampNeg % 16) + 16) (gp_I (gIs_N (gC_lo _) (gC_hi _))) b15 dX3_get_99 ?_
          refine m_iload C dX3_get_100 4 rfl ?_
          refine m_callV C (s_X2_byteOf l D cy ad ln v1 ou (v1 ((14 + a1.toNatClampNeg % 16) + 16) x6.toNatClampNeg) x5  h) (cwV 2 C.2.2.2.2.1 gX3_get_X2_byteOf rfl rfl rfl (by decide +kernel) ⟨Nat.le_of_ble_eq_true rfl, Nat.le_of_ble_eq_true rfl⟩) 2 gp_2 rfl rfl rfl (Nat.le_of_ble_eq_true rfl) dX3_get_102 ⟨Nat.le_of_ble_eq_true rfl, Nat.le_of_ble_eq_true rfl⟩ (fun r w1 h1 => ?_)
          obtain ⟨x16, v17, rfl, h, rfl⟩ := h1
          refine mW.eq (st' := [.int x16]) rfl rfl rfl rfl ?_
          exact m_xr (m_iret C dX3_get_105 (Nat.le_of_ble_eq_true rfl) (Nat.le_of_ble_eq_true rfl) ⟨_, _, rfl, h, rfl⟩)
        · have h := h.2 c14
          refine m_iload C dX3_get_64 4 rfl ?_
          refine m_aload_n C dX3_get_66 rfl 0 rfl ?_
          refine m_get (T := TX3) (N := 8) C hiX3_get_X3 0 gp_0 rfl 1 (by decide) (by decide +kernel) rfl dX3_get_67 ?_
          refine m_aload_n C dX3_get_70 rfl 3 rfl ?_
          refine m_getN (host := "CutYard") (T := TX0) (N := 3) C hiX3_get_X0 (14 + a1.toNatClampNeg % 16) (gp_C (gC_lo _) (gC_hi _)) rfl 0 (by decide) (by decide +kernel) rfl dX3_get_71 ?_
          refine m_iload C dX3_get_74 5 rfl ?_
          obtain ⟨b18, h⟩ := h
          refine m_iald C ((14 + a1.toNatClampNeg % 16) + 16) (gp_I (gIs_N (gC_lo _) (gC_hi _))) b18 dX3_get_76 ?_
          obtain ⟨b19, h⟩ := h
          obtain ⟨b20, h⟩ := h
          refine m_callV C (p_X2_lengthOf l D cy ad ln v1 ou (v1 ((14 + a1.toNatClampNeg % 16) + 16) x6.toNatClampNeg) b19 b20) (cwV 1 C.2.2.2.2.1 gX3_get_X2_lengthOf rfl rfl rfl (by decide +kernel) ⟨Nat.le_of_ble_eq_true rfl, Nat.le_of_ble_eq_true rfl⟩) 2 gp_2 rfl rfl rfl (Nat.le_of_ble_eq_true rfl) dX3_get_77 ⟨Nat.le_of_ble_eq_true rfl, Nat.le_of_ble_eq_true rfl⟩ (fun r w1 h1 => ?_)
          obtain ⟨rfl, rfl⟩ := h1
          refine mW.eq (st' := [.int (plo v1 (v1 ((14 + a1.toNatClampNeg % 16) + 16) x6.toNatClampNeg)), .int x5]) rfl rfl rfl rfl ?_
          refine m_isub C dX3_get_80 ?_
          refine m_topi (fun x21 ex21 => ?_)
          have h := h x21 ex21
          refine m_istore (lv' := [(4, .int x21), (0, .ref (ad 0)), (1, .int a1), (2, .int a2), (3, .ref (ad (14 + a1.toNatClampNeg % 16))), (5, .int x6)]) C dX3_get_81 (by decide) rfl ?_
          refine m_iinc (lv' := [(5, .int (x6 + 1)), (4, .int x21), (0, .ref (ad 0)), (1, .int a1), (2, .int a2), (3, .ref (ad (14 + a1.toNatClampNeg % 16)))]) C dX3_get_83 (k := 5) rfl rfl (by decide) rfl ?_
          refine m_goto (tgt := 34) C dX3_get_86 (by decide) ?_
          obtain ⟨n22, hn, h⟩ := h
          exact mW.sub [2, 3, 4, 5, 1, 0] rfl (ih n22 (x21, (x6 + 1)) hn h)
    · have h := h.2 c4
      exact m_throw (text := "no such byte") C hl hT hX (by decide) (by decide +kernel) (by decide +kernel) (by decide) hxX3_get_121 xB_2 hg_117_121 dX3_get_18 dX3_get_21 dX3_get_22 dX3_get_24 dX3_get_27 (Nat.le_of_ble_eq_true rfl) (Nat.le_of_ble_eq_true rfl) (Nat.le_of_ble_eq_true rfl) (Nat.le_of_ble_eq_true rfl) (Nat.le_of_ble_eq_true rfl) (Nat.le_of_ble_eq_true rfl) ⟨_, h, rfl⟩
theorem hiX3_begin_X3 : ∀ w ∈ wsX30, w ∈ wsX3_begin := by decide +kernel
theorem hxX3_begin_52 : ∀ w ∈ (vx_atS "CutYard" 52 "java/lang/IllegalArgumentException" xN).filter goodWord, w ∈ wsX3_begin := by decide +kernel
def wp_X3_begin (ln : Nat → Nat) (v : gV) (a1 : Int32) (a2 : Int32) (a3 : Int32) (post : gV → Prop) (pex : String → gV → Prop) : Prop :=
  ((a1 < 1) → (pex "java/lang/IllegalArgumentException" v)) ∧ (¬ (a1 < 1) → (((a1 ≤ 8) → (((a2 < 1) → (pex "java/lang/IllegalArgumentException" v)) ∧ (¬ (a2 < 1) → (((a2 ≤ 32) → (((a3 < a2) → (pex "java/lang/IllegalArgumentException" v)) ∧ (¬ (a3 < a2) → (((a3 ≤ 64) → (wp_X1_setRule ln v a1 a2 a3 (fun (v8 : gV) => (wp_X2_empty ln v8  (fun (v10 : gV) => (∃ I83 : Nat → Int32 → gV → Prop, (∃ n, I83 n 0 v10) ∧ ∀ (n : Nat) (x11 : Int32) (v12 : gV), I83 n x11 v12 → (((16 ≤ x11) → (post v12)) ∧ (¬ (16 ≤ x11) → (vp_in x11 16 ∧ (wp_X0_empty ln v12 (14 + x11.toNatClampNeg % 16) (fun (v16 : gV) => (∃ n', n' < n ∧ I83 n' (x11 + 1) v16)))))))))))) ∧ (¬ (a3 ≤ 64) → (pex "java/lang/IllegalArgumentException" v)))))) ∧ (¬ (a2 ≤ 32) → (pex "java/lang/IllegalArgumentException" v)))))) ∧ (¬ (a1 ≤ 8) → (pex "java/lang/IllegalArgumentException" v))))
set_option maxHeartbeats 4000000 in
set_option maxRecDepth 100000 in
theorem s_X3_begin (l : Launch) (D : va_G) (cy : Nat → ClassId) (sA ad ln : Nat → Nat) (v : gV) (ou : Nat → Int64) (a1 : Int32) (a2 : Int32) (a3 : Int32) (hl : l.stackTraces = false) {post : gV → Prop} {pex : String → gV → Prop} (h : wp_X3_begin ln v a1 a2 a3 post pex) : mX l D cy sA yX3_begin wsX3_begin 6 1 6 [.ref (ad 0), .int a1, .int a2, .int a3] (gW cy ad ln v ou) (fun r w1 => ∃ v1 : gV, r = none ∧ post v1 ∧ w1 = gW cy ad ln v1 ou) (fun E w1 => ∃ v1 : gV, pex E v1 ∧ w1 = gW cy ad ln v1 ou) := by
  unfold wp_X3_begin at h
  refine mX.of (cc := cX3_begin) (nL := 5) (ret0 := none) (by decide +kernel) rfl (Nat.le_of_ble_eq_true rfl) ?_
  intro p e s m args below meth c A C hT hX
  refine mW.sub (lv' := [(0, .ref (ad 0)), (1, .int a1), (2, .int a2), (3, .int a3)]) [0, 1, 2, 3] rfl ?_
  refine m_iload_n C dX3_begin_0 rfl 1 rfl ?_
  refine m_iconst (v := 1) C dX3_begin_1 (by decide) ?_
  refine m_icmp_lt (tgt := 11) C dX3_begin_2 (by decide) (fun c1 => ?_) (fun c1 => ?_)
  · have h := h.1 c1
    exact m_throw (text := "bits must be 1 .. 8") C hl hT hX (by decide) (by decide +kernel) (by decide +kernel) (by decide) hxX3_begin_52 xB_1 hg_48_52 dX3_begin_11 dX3_begin_14 dX3_begin_15 dX3_begin_17 dX3_begin_20 (Nat.le_of_ble_eq_true rfl) (Nat.le_of_ble_eq_true rfl) (Nat.le_of_ble_eq_true rfl) (Nat.le_of_ble_eq_true rfl) (Nat.le_of_ble_eq_true rfl) (Nat.le_of_ble_eq_true rfl) ⟨_, h, rfl⟩
  · have h := h.2 c1
    refine m_iload_n C dX3_begin_5 rfl 1 rfl ?_
    refine m_bipush (v := 8) C dX3_begin_6 (by decide) ?_
    refine m_icmp_le (tgt := 21) C dX3_begin_8 (by decide) (fun c2 => ?_) (fun c2 => ?_)
    · have h := h.1 c2
      refine m_iload_n C dX3_begin_21 rfl 2 rfl ?_
      refine m_iconst (v := 1) C dX3_begin_22 (by decide) ?_
      refine m_icmp_lt (tgt := 32) C dX3_begin_23 (by decide) (fun c3 => ?_) (fun c3 => ?_)
      · have h := h.1 c3
        exact m_throw (text := "least must be 1 .. 32") C hl hT hX (by decide) (by decide +kernel) (by decide +kernel) (by decide) hxX3_begin_52 xB_1 hg_48_52 dX3_begin_32 dX3_begin_35 dX3_begin_36 dX3_begin_38 dX3_begin_41 (Nat.le_of_ble_eq_true rfl) (Nat.le_of_ble_eq_true rfl) (Nat.le_of_ble_eq_true rfl) (Nat.le_of_ble_eq_true rfl) (Nat.le_of_ble_eq_true rfl) (Nat.le_of_ble_eq_true rfl) ⟨_, h, rfl⟩
      · have h := h.2 c3
        refine m_iload_n C dX3_begin_26 rfl 2 rfl ?_
        refine m_bipush (v := 32) C dX3_begin_27 (by decide) ?_
        refine m_icmp_le (tgt := 42) C dX3_begin_29 (by decide) (fun c4 => ?_) (fun c4 => ?_)
        · have h := h.1 c4
          refine m_iload_n C dX3_begin_42 rfl 3 rfl ?_
          refine m_iload_n C dX3_begin_43 rfl 2 rfl ?_
          refine m_icmp_lt (tgt := 53) C dX3_begin_44 (by decide) (fun c5 => ?_) (fun c5 => ?_)
          · have h := h.1 c5
            exact m_throw (text := "most must be least .. 64") C hl hT hX (by decide) (by decide +kernel) (by decide +kernel) (by decide) hxX3_begin_52 xB_1 hg_48_52 dX3_begin_53 dX3_begin_56 dX3_begin_57 dX3_begin_59 dX3_begin_62 (Nat.le_of_ble_eq_true rfl) (Nat.le_of_ble_eq_true rfl) (Nat.le_of_ble_eq_true rfl) (Nat.le_of_ble_eq_true rfl) (Nat.le_of_ble_eq_true rfl) (Nat.le_of_ble_eq_true rfl) ⟨_, h, rfl⟩
          · have h := h.2 c5
            refine m_iload_n C dX3_begin_47 rfl 3 rfl ?_
            refine m_bipush (v := 64) C dX3_begin_48 (by decide) ?_
            refine m_icmp_le (tgt := 63) C dX3_begin_50 (by decide) (fun c6 => ?_) (fun c6 => ?_)
            · have h := h.1 c6
              refine m_aload_n C dX3_begin_63 rfl 0 rfl ?_
              refine m_get (T := TX3) (N := 8) C hiX3_begin_X3 0 gp_0 rfl 0 (by decide) (by decide +kernel) rfl dX3_begin_64 ?_
              refine m_iload_n C dX3_begin_67 rfl 1 rfl ?_
              refine m_iload_n C dX3_begin_68 rfl 2 rfl ?_
              refine m_iload_n C dX3_begin_69 rfl 3 rfl ?_
              refine m_callV C (s_X1_setRule l D cy ad ln v ou a1 a2 a3  h) (cwV 3 C.2.2.2.2.1 gX3_begin_X1_setRule rfl rfl rfl (by decide +kernel) ⟨Nat.le_of_ble_eq_true rfl, Nat.le_of_ble_eq_true rfl⟩) 1 gp_1 rfl rfl rfl (Nat.le_of_ble_eq_true rfl) dX3_begin_70 ⟨Nat.le_of_ble_eq_true rfl, Nat.le_of_ble_eq_true rfl⟩ (fun r w1 h1 => ?_)
              obtain ⟨v8, rfl, h, rfl⟩ := h1
              refine mW.eq (st' := []) rfl rfl rfl rfl ?_
              refine m_aload_n C dX3_begin_73 rfl 0 rfl ?_
              refine m_get (T := TX3) (N := 8) C hiX3_begin_X3 0 gp_0 rfl 1 (by decide) (by decide +kernel) rfl dX3_begin_74 ?_
              refine m_callV C (s_X2_empty l D cy ad ln v8 ou   h) (cwV 0 C.2.2.2.2.1 gX3_begin_X2_empty rfl rfl rfl (by decide +kernel) ⟨Nat.le_of_ble_eq_true rfl, Nat.le_of_ble_eq_true rfl⟩) 2 gp_2 rfl rfl rfl (Nat.le_of_ble_eq_true rfl) dX3_begin_77 ⟨Nat.le_of_ble_eq_true rfl, Nat.le_of_ble_eq_true rfl⟩ (fun r w1 h1 => ?_)
              obtain ⟨v10, rfl, h, rfl⟩ := h1
              refine mW.eq (st' := []) rfl rfl rfl rfl ?_
              refine m_iconst (v := 0) C dX3_begin_80 (by decide) ?_
              refine m_istore (lv' := [(4, .int 0), (0, .ref (ad 0)), (1, .int a1), (2, .int a2), (3, .int a3)]) C dX3_begin_81 (by decide) rfl ?_
              obtain ⟨I83, ⟨n0, h0⟩, hI⟩ := h
              refine mW.sub (lv' := [(0, .ref (ad 0)), (1, .int a1), (2, .int a2), (3, .int a3), (4, .int 0)]) [1, 2, 3, 4, 0] rfl ?_
              refine m_ind (σ := Int32 × gV) (fun n z => I83 n z.1 z.2) (fun z => gW cy ad ln z.2 ou) 83 (fun z => [(0, .ref (ad 0)), (1, .int a1), (2, .int a2), (3, .int a3), (4, .int z.1)]) ?_ n0 (0, v10) h0
              intro n z hi ih
              obtain ⟨x11, v12⟩ := z
              have h := hI n x11 v12 hi
              show mW _ _ _ _ _ _ _ _ _ _ _ _ _ _ _ _ (gW cy ad ln v12 ou) 83 [(0, .ref (ad 0)), (1, .int a1), (2, .int a2), (3, .int a3), (4, .int x11)] []
              refine m_iload C dX3_begin_83 4 rfl ?_
              refine m_bipush (v := 16) C dX3_begin_85 (by decide) ?_
              refine m_icmp_ge (tgt := 106) C dX3_begin_87 (by decide) (fun c13 => ?_) (fun c13 => ?_)
              · have h := h.1 c13
                exact m_xr (m_vret C dX3_begin_106 (Nat.le_of_ble_eq_true rfl) (Nat.le_of_ble_eq_true rfl) ⟨_, rfl, h, rfl⟩)
              · have h := h.2 c13
                refine m_aload_n C dX3_begin_90 rfl 0 rfl ?_
                refine m_get (T := TX3) (N := 8) C hiX3_begin_X3 0 gp_0 rfl 2 (by decide) (by decide +kernel) rfl dX3_begin_91 ?_
                refine m_iload C dX3_begin_94 4 rfl ?_
                obtain ⟨b14, h⟩ := h
                refine m_aald C 3 gp_3 b14 dX3_begin_96 ?_
                refine m_callV C (s_X0_empty l D cy ad ln v12 ou (14 + x11.toNatClampNeg % 16) (gC_lo _) (gC_hi _) h) (cwV 0 C.2.2.2.2.1 gX3_begin_X0_empty rfl rfl rfl (by decide +kernel) ⟨Nat.le_of_ble_eq_true rfl, Nat.le_of_ble_eq_true rfl⟩) (14 + x11.toNatClampNeg % 16) (gp_C (gC_lo _) (gC_hi _)) rfl rfl rfl (Nat.le_of_ble_eq_true rfl) dX3_begin_97 ⟨Nat.le_of_ble_eq_true rfl, Nat.le_of_ble_eq_true rfl⟩ (fun r w1 h1 => ?_)
                obtain ⟨v16, rfl, h, rfl⟩ := h1
                refine mW.eq (st' := []) rfl rfl rfl rfl ?_
                refine m_iinc (lv' := [(4, .int (x11 + 1)), (0, .ref (ad 0)), (1, .int a1), (2, .int a2), (3, .int a3)]) C dX3_begin_100 (k := 4) rfl rfl (by decide) rfl ?_
                refine m_goto (tgt := 83) C dX3_begin_103 (by decide) ?_
                obtain ⟨n17, hn, h⟩ := h
                exact mW.sub [1, 2, 3, 4, 0] rfl (ih n17 ((x11 + 1), v16) hn h)
            · have h := h.2 c6
              exact m_throw (text := "most must be least .. 64") C hl hT hX (by decide) (by decide +kernel) (by decide +kernel) (by decide) hxX3_begin_52 xB_1 hg_48_52 dX3_begin_53 dX3_begin_56 dX3_begin_57 dX3_begin_59 dX3_begin_62 (Nat.le_of_ble_eq_true rfl) (Nat.le_of_ble_eq_true rfl) (Nat.le_of_ble_eq_true rfl) (Nat.le_of_ble_eq_true rfl) (Nat.le_of_ble_eq_true rfl) (Nat.le_of_ble_eq_true rfl) ⟨_, h, rfl⟩
        · have h := h.2 c4
          exact m_throw (text := "least must be 1 .. 32") C hl hT hX (by decide) (by decide +kernel) (by decide +kernel) (by decide) hxX3_begin_52 xB_1 hg_48_52 dX3_begin_32 dX3_begin_35 dX3_begin_36 dX3_begin_38 dX3_begin_41 (Nat.le_of_ble_eq_true rfl) (Nat.le_of_ble_eq_true rfl) (Nat.le_of_ble_eq_true rfl) (Nat.le_of_ble_eq_true rfl) (Nat.le_of_ble_eq_true rfl) (Nat.le_of_ble_eq_true rfl) ⟨_, h, rfl⟩
    · have h := h.2 c2
      exact m_throw (text := "bits must be 1 .. 8") C hl hT hX (by decide) (by decide +kernel) (by decide +kernel) (by decide) hxX3_begin_52 xB_1 hg_48_52 dX3_begin_11 dX3_begin_14 dX3_begin_15 dX3_begin_17 dX3_begin_20 (Nat.le_of_ble_eq_true rfl) (Nat.le_of_ble_eq_true rfl) (Nat.le_of_ble_eq_true rfl) (Nat.le_of_ble_eq_true rfl) (Nat.le_of_ble_eq_true rfl) (Nat.le_of_ble_eq_true rfl) ⟨_, h, rfl⟩
theorem hiX3_put_X3 : ∀ w ∈ wsX30, w ∈ wsX3_put := by decide +kernel
theorem hxX3_put_52 : ∀ w ∈ (vx_atS "CutYard" 52 "java/lang/IllegalArgumentException" xN).filter goodWord, w ∈ wsX3_put := by decide +kernel
theorem hxX3_put_73 : ∀ w ∈ (vx_atS "CutYard" 73 "java/lang/UnsupportedOperationException" xN).filter goodWord, w ∈ wsX3_put := by decide +kernel
def wp_X3_put (ln : Nat → Nat) (v : gV) (a1 : Int32) (a2 : Int32) (post : Int32 → gV → Prop) (pex : String → gV → Prop) : Prop :=
  ((a1 < 1) → (pex "java/lang/IllegalArgumentException" v)) ∧ (¬ (a1 < 1) → (((a1 ≤ 4) → (((((v 0 4) + a1) ≤ 1500) → (∃ I44 : Nat → Int32 → gV → Prop, (∃ n, I44 n 0 v) ∧ ∀ (n : Nat) (x4 : Int32) (v5 : gV), I44 n x4 v5 → (((a1 ≤ x4) → (∀ v7 : gV, v7 = va_up v5 0 (upd (v5 0) 4 ((v5 0 4) + a1)) → (post (v7 0 4) v7))) ∧ (¬ (a1 ≤ x4) → (vp_in ((v5 0 4) + x4) (ln 4) ∧ ∀ v9 : gV, v9 = va_up v5 4 (upd (v5 4) ((v5 0 4) + x4).toNatClampNeg (vp_nar .byte ((ius a2 (8 * x4)).toInt8.toInt32))) → (∃ n', n' < n ∧ I44 n' (x4 + 1) v9)))))) ∧ (¬ (((v 0 4) + a1) ≤ 1500) → (pex "java/lang/UnsupportedOperationException" v)))) ∧ (¬ (a1 ≤ 4) → (pex "java/lang/IllegalArgumentException" v))))
set_option maxHeartbeats 4000000 in
set_option maxRecDepth 100000 in
theorem s_X3_put (l : Launch) (D : va_G) (cy : Nat → ClassId) (sA ad ln : Nat → Nat) (v : gV) (ou : Nat → Int64) (a1 : Int32) (a2 : Int32) (hl : l.stackTraces = false) {post : Int32 → gV → Prop} {pex : String → gV → Prop} (h : wp_X3_put ln v a1 a2 post pex) : mX l D cy sA yX3_put wsX3_put 6 1 6 [.ref (ad 0), .int a1, .int a2] (gW cy ad ln v ou) (fun r w1 => ∃ (x1 : Int32) (v1 : gV), r = some (.int x1) ∧ post x1 v1 ∧ w1 = gW cy ad ln v1 ou) (fun E w1 => ∃ v1 : gV, pex E v1 ∧ w1 = gW cy ad ln v1 ou) := by
  unfold wp_X3_put at h
  refine mX.of (cc := cX3_put) (nL := 4) (ret0 := (some .int)) (by decide +kernel) rfl (Nat.le_of_ble_eq_true rfl) ?_
  intro p e s m args below meth c A C hT hX
  refine mW.sub (lv' := [(0, .ref (ad 0)), (1, .int a1), (2, .int a2)]) [0, 1, 2] rfl ?_
  refine m_iload_n C dX3_put_0 rfl 1 rfl ?_
  refine m_iconst (v := 1) C dX3_put_1 (by decide) ?_
  refine m_icmp_lt (tgt := 10) C dX3_put_2 (by decide) (fun c1 => ?_) (fun c1 => ?_)
  · have h := h.1 c1
    exact m_throw (text := "many must be 1 .. 4") C hl hT hX (by decide) (by decide +kernel) (by decide +kernel) (by decide) hxX3_put_52 xB_1 hg_48_52 dX3_put_10 dX3_put_13 dX3_put_14 dX3_put_16 dX3_put_19 (Nat.le_of_ble_eq_true rfl) (Nat.le_of_ble_eq_true rfl) (Nat.le_of_ble_eq_true rfl) (Nat.le_of_ble_eq_true rfl) (Nat.le_of_ble_eq_true rfl) (Nat.le_of_ble_eq_true rfl) ⟨_, h, rfl⟩
  · have h := h.2 c1
    refine m_iload_n C dX3_put_5 rfl 1 rfl ?_
    refine m_iconst (v := 4) C dX3_put_6 (by decide) ?_
    refine m_icmp_le (tgt := 20) C dX3_put_7 (by decide) (fun c2 => ?_) (fun c2 => ?_)
    · have h := h.1 c2
      refine m_aload_n C dX3_put_20 rfl 0 rfl ?_
      refine m_get (T := TX3) (N := 8) C hiX3_put_X3 0 gp_0 rfl 4 (by decide) (by decide +kernel) rfl dX3_put_21 ?_
      refine m_iload_n C dX3_put_24 rfl 1 rfl ?_
      refine m_iadd C dX3_put_25 ?_
      refine m_sipush (v := 1500) C dX3_put_26 (by decide) ?_
      refine m_icmp_le (tgt := 42) C dX3_put_29 (by decide) (fun c3 => ?_) (fun c3 => ?_)
      · have h := h.1 c3
        refine m_iconst (v := 0) C dX3_put_42 (by decide) ?_
        refine m_istore_n (lv' := [(3, .int 0), (0, .ref (ad 0)), (1, .int a1), (2, .int a2)]) C dX3_put_43 rfl (by decide) rfl ?_
        obtain ⟨I44, ⟨n0, h0⟩, hI⟩ := h
        refine mW.sub (lv' := [(0, .ref (ad 0)), (1, .int a1), (2, .int a2), (3, .int 0)]) [1, 2, 3, 0] rfl ?_
        refine m_ind (σ := Int32 × gV) (fun n z => I44 n z.1 z.2) (fun z => gW cy ad ln z.2 ou) 44 (fun z => [(0, .ref (ad 0)), (1, .int a1), (2, .int a2), (3, .int z.1)]) ?_ n0 (0, v) h0
        intro n z hi ih
        obtain ⟨x4, v5⟩ := z
        have h := hI n x4 v5 hi
        show mW _ _ _ _ _ _ _ _ _ _ _ _ _ _ _ _ (gW cy ad ln v5 ou) 44 [(0, .ref (ad 0)), (1, .int a1), (2, .int a2), (3, .int x4)] []
        refine m_iload_n C dX3_put_44 rfl 3 rfl ?_
        refine m_iload_n C dX3_put_45 rfl 1 rfl ?_
        refine m_icmp_ge (tgt := 73) C dX3_put_46 (by decide) (fun c6 => ?_) (fun c6 => ?_)
        · have h := h.1 c6
          refine m_aload_n C dX3_put_73 rfl 0 rfl ?_
          refine m_dup C dX3_put_74 rfl ?_
          refine m_get (T := TX3) (N := 8) C hiX3_put_X3 0 gp_0 rfl 4 (by decide) (by decide +kernel) rfl dX3_put_75 ?_
          refine m_iload_n C dX3_put_78 rfl 1 rfl ?_
          refine m_iadd C dX3_put_79 ?_
          obtain ⟨v7, ev7⟩ : ∃ z : gV, z = va_up v5 0 (upd (v5 0) 4 ((v5 0 4) + a1)) := ⟨_, rfl⟩
          have h := h v7 ev7
          refine m_put (w' := gW cy ad ln v7 ou) (T := TX3) (N := 8) C hiX3_put_X3 tyX3 tyX3_ok nmX3 0 gp_0 rfl 4 (by decide) (by decide +kernel) rfl rfl rfl (Nat.le_of_ble_eq_true rfl) dX3_put_80 (by rw [ev7]; exact gW_set (k := 0) (by decide) rfl) ?_
          refine m_aload_n C dX3_put_83 rfl 0 rfl ?_
          refine m_get (T := TX3) (N := 8) C hiX3_put_X3 0 gp_0 rfl 4 (by decide) (by decide +kernel) rfl dX3_put_84 ?_
          exact m_xr (m_iret C dX3_put_87 (Nat.le_of_ble_eq_true rfl) (Nat.le_of_ble_eq_true rfl) ⟨_, _, rfl, h, rfl⟩)
        · have h := h.2 c6
          refine m_aload_n C dX3_put_49 rfl 0 rfl ?_
          refine m_get (T := TX3) (N := 8) C hiX3_put_X3 0 gp_0 rfl 3 (by decide) (by decide +kernel) rfl dX3_put_50 ?_
          refine m_aload_n C dX3_put_53 rfl 0 rfl ?_
          refine m_get (T := TX3) (N := 8) C hiX3_put_X3 0 gp_0 rfl 4 (by decide) (by decide +kernel) rfl dX3_put_54 ?_
          refine m_iload_n C dX3_put_57 rfl 3 rfl ?_
          refine m_iadd C dX3_put_58 ?_
          refine m_iload_n C dX3_put_59 rfl 2 rfl ?_
          refine m_bipush (v := 8) C dX3_put_60 (by decide) ?_
          refine m_iload_n C dX3_put_62 rfl 3 rfl ?_
          refine m_imul C dX3_put_63 ?_
          refine m_iushr (v := ius a2 (8 * x4)) C dX3_put_64 rfl ?_
          refine m_i2b C dX3_put_65 rfl ?_
          obtain ⟨b8, h⟩ := h
          obtain ⟨v9, ev9⟩ : ∃ z : gV, z = va_up v5 4 (upd (v5 4) ((v5 0 4) + x4).toNatClampNeg (vp_nar .byte ((ius a2 (8 * x4)).toInt8.toInt32))) := ⟨_, rfl⟩
          have h := h v9 ev9
          refine m_bast (w' := gW cy ad ln v9 ou) C 4 (gp_B (by decide)) b8 dX3_put_66 (by rw [ev9]; exact gs_B (by decide)) ?_
          refine m_iinc (lv' := [(3, .int (x4 + 1)), (0, .ref (ad 0)), (1, .int a1), (2, .int a2)]) C dX3_put_67 (k := 3) rfl rfl (by decide) rfl ?_
          refine m_goto (tgt := 44) C dX3_put_70 (by decide) ?_
          obtain ⟨n10, hn, h⟩ := h
          exact mW.sub [1, 2, 3, 0] rfl (ih n10 ((x4 + 1), v9) hn h)
      · have h := h.2 c3
        exact m_throw (text := "more than 1500 bytes at hand") C hl hT hX (by decide) (by decide +kernel) (by decide +kernel) (by decide) hxX3_put_73 xB_3 hg_69_73 dX3_put_32 dX3_put_35 dX3_put_36 dX3_put_38 dX3_put_41 (Nat.le_of_ble_eq_true rfl) (Nat.le_of_ble_eq_true rfl) (Nat.le_of_ble_eq_true rfl) (Nat.le_of_ble_eq_true rfl) (Nat.le_of_ble_eq_true rfl) (Nat.le_of_ble_eq_true rfl) ⟨_, h, rfl⟩
    · have h := h.2 c2
      exact m_throw (text := "many must be 1 .. 4") C hl hT hX (by decide) (by decide +kernel) (by decide +kernel) (by decide) hxX3_put_52 xB_1 hg_48_52 dX3_put_10 dX3_put_13 dX3_put_14 dX3_put_16 dX3_put_19 (Nat.le_of_ble_eq_true rfl) (Nat.le_of_ble_eq_true rfl) (Nat.le_of_ble_eq_true rfl) (Nat.le_of_ble_eq_true rfl) (Nat.le_of_ble_eq_true rfl) (Nat.le_of_ble_eq_true rfl) ⟨_, h, rfl⟩
theorem hiX3_about_X3 : ∀ w ∈ wsX30, w ∈ wsX3_about := by decide +kernel
theorem hxX3_about_52 : ∀ w ∈ (vx_atS "CutYard" 52 "java/lang/IllegalArgumentException" xN).filter goodWord, w ∈ wsX3_about := by decide +kernel
theorem hxX3_about_138 : ∀ w ∈ vz_at.filter goodWord, w ∈ wsX3_about := by decide +kernel
def wp_X3_about (ln : Nat → Nat) (v : gV) (a1 : Int32) (a2 : Int32) (post : Int32 → gV → Prop) (pex : String → gV → Prop) : Prop :=
  ln 8 = 400 ∧ ((((phs v a1) = 0) → (pex "java/util/NoSuchElementException" v)) ∧ (¬ ((phs v a1) = 0) → ((a2 = 0 → (ln 8 = 400 ∧ (ln 9 = 400 ∧ (post (plo v a1) v)))) ∧ (a2 = 1 → (ln 8 = 400 ∧ (post (pus v a1) v))) ∧ (a2 = 2 → (wp_X3_filesWith ln v a1 (fun (x6 : Int32) (v7 : gV) => (post x6 v7)))) ∧ (¬ a2 = 0 → ¬ a2 = 1 → ¬ a2 = 2 → (pex "java/lang/IllegalArgumentException" v)))))
set_option maxHeartbeats 4000000 in
set_option maxRecDepth 100000 in
theorem s_X3_about (l : Launch) (D : va_G) (cy : Nat → ClassId) (sA ad ln : Nat → Nat) (v : gV) (ou : Nat → Int64) (a1 : Int32) (a2 : Int32) (hl : l.stackTraces = false) {post : Int32 → gV → Prop} {pex : String → gV → Prop} (h : wp_X3_about ln v a1 a2 post pex) : mX l D cy sA yX3_about wsX3_about 6 1 6 [.ref (ad 0), .int a1, .int a2] (gW cy ad ln v ou) (fun r w1 => ∃ (x1 : Int32) (v1 : gV), r = some (.int x1) ∧ post x1 v1 ∧ w1 = gW cy ad ln v1 ou) (fun E w1 => ∃ v1 : gV, pex E v1 ∧ w1 = gW cy ad ln v1 ou) := by
  unfold wp_X3_about at h
  refine mX.of (cc := cX3_about) (nL := 3) (ret0 := (some .int)) (by decide +kernel) rfl (Nat.le_of_ble_eq_true rfl) ?_
  intro p e s m args below meth c A C hT hX
  refine mW.sub (lv' := [(0, .ref (ad 0)), (1, .int a1), (2, .int a2)]) [0, 1, 2] rfl ?_
  refine m_aload_n C dX3_about_0 rfl 0 rfl ?_
  refine m_get (T := TX3) (N := 8) C hiX3_about_X3 0 gp_0 rfl 1 (by decide) (by decide +kernel) rfl dX3_about_1 ?_
  refine m_iload_n C dX3_about_4 rfl 1 rfl ?_
  obtain ⟨b1, h⟩ := h
  refine m_callV C (p_X2_has l D cy ad ln v ou a1 b1) (cwV 1 C.2.2.2.2.1 gX3_about_X2_has rfl rfl rfl (by decide +kernel) ⟨Nat.le_of_ble_eq_true rfl, Nat.le_of_ble_eq_true rfl⟩) 2 gp_2 rfl rfl rfl (Nat.le_of_ble_eq_true rfl) dX3_about_5 ⟨Nat.le_of_ble_eq_true rfl, Nat.le_of_ble_eq_true rfl⟩ (fun r w1 h1 => ?_)
  obtain ⟨rfl, rfl⟩ := h1
  refine mW.eq (st' := [.int (phs v a1)]) rfl rfl rfl rfl ?_
  refine m_if_ne (tgt := 21) C dX3_about_8 (by decide) (fun c2 => ?_) (fun c2 => ?_)
  · have h := h.2 c2
    refine m_iload_n C dX3_about_21 rfl 2 rfl ?_
    refine m_sw3 (t0 := 48) (t1 := 57) (t2 := 66) (td := 72) C dX3_about_22 rfl rfl rfl (by decide) (by decide) (by decide) (by decide) (fun c0 => ?_) (fun c0 => ?_) (fun c0 => ?_) (fun c0 c1 c2 => ?_)
    · have h := h.1 c0
      refine m_aload_n C dX3_about_48 rfl 0 rfl ?_
      refine m_get (T := TX3) (N := 8) C hiX3_about_X3 0 gp_0 rfl 1 (by decide) (by decide +kernel) rfl dX3_about_49 ?_
      refine m_iload_n C dX3_about_52 rfl 1 rfl ?_
      obtain ⟨b3, h⟩ := h
      obtain ⟨b4, h⟩ := h
      refine m_callV C (p_X2_lengthOf l D cy ad ln v ou a1 b3 b4) (cwV 1 C.2.2.2.2.1 gX3_about_X2_lengthOf rfl rfl rfl (by decide +kernel) ⟨Nat.le_of_ble_eq_true rfl, Nat.le_of_ble_eq_true rfl⟩) 2 gp_2 rfl rfl rfl (Nat.le_of_ble_eq_true rfl) dX3_about_53 ⟨Nat.le_of_ble_eq_true rfl, Nat.le_of_ble_eq_true rfl⟩ (fun r w1 h1 => ?_)
      obtain ⟨rfl, rfl⟩ := h1
      refine mW.eq (st' := [.int (plo v a1)]) rfl rfl rfl rfl ?_
      exact m_xr (m_iret C dX3_about_56 (Nat.le_of_ble_eq_true rfl) (Nat.le_of_ble_eq_true rfl) ⟨_, _, rfl, h, rfl⟩)
    · have h := h.2.1 c0
      refine m_aload_n C dX3_about_57 rfl 0 rfl ?_
      refine m_get (T := TX3) (N := 8) C hiX3_about_X3 0 gp_0 rfl 1 (by decide) (by decide +kernel) rfl dX3_about_58 ?_
      refine m_iload_n C dX3_about_61 rfl 1 rfl ?_
      obtain ⟨b5, h⟩ := h
      refine m_callV C (p_X2_usesOf l D cy ad ln v ou a1 b5) (cwV 1 C.2.2.2.2.1 gX3_about_X2_usesOf rfl rfl rfl (by decide +kernel) ⟨Nat.le_of_ble_eq_true rfl, Nat.le_of_ble_eq_true rfl⟩) 2 gp_2 rfl rfl rfl (Nat.le_of_ble_eq_true rfl) dX3_about_62 ⟨Nat.le_of_ble_eq_true rfl, Nat.le_of_ble_eq_true rfl⟩ (fun r w1 h1 => ?_)
      obtain ⟨rfl, rfl⟩ := h1
      refine mW.eq (st' := [.int (pus v a1)]) rfl rfl rfl rfl ?_
      exact m_xr (m_iret C dX3_about_65 (Nat.le_of_ble_eq_true rfl) (Nat.le_of_ble_eq_true rfl) ⟨_, _, rfl, h, rfl⟩)
    · have h := h.2.2.1 c0
      refine m_aload_n C dX3_about_66 rfl 0 rfl ?_
      refine m_iload_n C dX3_about_67 rfl 1 rfl ?_
      refine m_callV C (s_X3_filesWith l D cy ad ln v ou a1  h) (cwV 1 C.2.2.2.2.1 gX3_about_X3_filesWith rfl rfl rfl (by decide +kernel) ⟨Nat.le_of_ble_eq_true rfl, Nat.le_of_ble_eq_true rfl⟩) 0 gp_0 rfl rfl rfl (Nat.le_of_ble_eq_true rfl) dX3_about_68 ⟨Nat.le_of_ble_eq_true rfl, Nat.le_of_ble_eq_true rfl⟩ (fun r w1 h1 => ?_)
      obtain ⟨x6, v7, rfl, h, rfl⟩ := h1
      refine mW.eq (st' := [.int x6]) rfl rfl rfl rfl ?_
      exact m_xr (m_iret C dX3_about_71 (Nat.le_of_ble_eq_true rfl) (Nat.le_of_ble_eq_true rfl) ⟨_, _, rfl, h, rfl⟩)
    · have h := h.2.2.2 c0 c1 c2
      exact m_throw (text := "what must be 0 .. 2") C hl hT hX (by decide) (by decide +kernel) (by decide +kernel) (by decide) hxX3_about_52 xB_1 hg_48_52 dX3_about_72 dX3_about_75 dX3_about_76 dX3_about_78 dX3_about_81 (Nat.le_of_ble_eq_true rfl) (Nat.le_of_ble_eq_true rfl) (Nat.le_of_ble_eq_true rfl) (Nat.le_of_ble_eq_true rfl) (Nat.le_of_ble_eq_true rfl) (Nat.le_of_ble_eq_true rfl) ⟨_, h, rfl⟩
  · have h := h.1 c2
    exact m_throwN (text := "no such part") C hl hT hX (by decide +kernel) (by decide +kernel) (by decide) hxX3_about_138 dX3_about_11 dX3_about_14 dX3_about_15 dX3_about_17 dX3_about_20 (Nat.le_of_ble_eq_true rfl) (Nat.le_of_ble_eq_true rfl) (Nat.le_of_ble_eq_true rfl) (Nat.le_of_ble_eq_true rfl) (Nat.le_of_ble_eq_true rfl) (Nat.le_of_ble_eq_true rfl) ⟨_, h, rfl⟩
theorem hiX3_common_X0 : ∀ w ∈ wsX00, w ∈ wsX3_common := by decide +kernel
theorem hiX3_common_X3 : ∀ w ∈ wsX30, w ∈ wsX3_common := by decide +kernel
def wp_X3_common (ln : Nat → Nat) (v : gV) (a1 : Int32) (a2 : Int32) (post : Int32 → gV → Prop) (pex : String → gV → Prop) : Prop :=
  wp_X3_fileAt ln v a1 (fun (v1 : gV) => (wp_X3_fileAt ln v1 a2 (fun (v3 : gV) => (wp_J7_fill_53178 ln v3 7 0 (fun (v6 : gV) => (∃ I24 : Nat → Int32 → gV → Prop, (∃ n, I24 n 0 v6) ∧ ∀ (n : Nat) (x7 : Int32) (v8 : gV), I24 n x7 v8 → ((((v8 (14 + a2.toNatClampNeg % 16) 1) ≤ x7) → (∃ I76 : Nat → Int32 → Int32 → Prop, (∃ n, I76 n 0 0) ∧ ∀ (n : Nat) (x10 : Int32) (x11 : Int32), I76 n x10 x11 → ((((v8 (14 + a1.toNatClampNeg % 16) 1) ≤ x11) → (post x10 v8)) ∧ (¬ ((v8 (14 + a1.toNatClampNeg % 16) 1) ≤ x11) → (vp_in x11 (ln ((14 + a1.toNatClampNeg % 16) + 16)) ∧ (∀ x14 : Int32, x14 = (v8 ((14 + a1.toNatClampNeg % 16) + 16) x11.toNatClampNeg) → (ln 8 = 400 ∧ (((¬ ((phs v8 x14) = 0)) → vp_in x14 (ln 7)) ∧ ((¬ ((phs v8 x14) = 0)) → ((v8 7 x14.toNatClampNeg) = 1) → ln 8 = 400) ∧ ((¬ ((phs v8 x14) = 0)) → ((v8 7 x14.toNatClampNeg) = 1) → ln 9 = 400) ∧ (∃ n', n' < n ∧ I76 n' (if (phs v8 x14) = 0 then x10 else if (v8 7 x14.toNatClampNeg) = 1 then x10 + (plo v8 x14) else x10) (x11 + 1)))))))))) ∧ (¬ ((v8 (14 + a2.toNatClampNeg % 16) 1) ≤ x7) → (vp_in x7 (ln ((14 + a2.toNatClampNeg % 16) + 16)) ∧ (∀ x24 : Int32, x24 = (v8 ((14 + a2.toNatClampNeg % 16) + 16) x7.toNatClampNeg) → (ln 8 = 400 ∧ ((((phs v8 x24) = 0) → (∃ n', n' < n ∧ I24 n' (x7 + 1) v8)) ∧ (¬ ((phs v8 x24) = 0) → (vp_in x24 (ln 7) ∧ ∀ v29 : gV, v29 = va_up v8 7 (upd (v8 7) x24.toNatClampNeg 1) → (∃ n', n' < n ∧ I24 n' (x7 + 1) v29))))))))))))) pex)) pex
set_option maxHeartbeats 4000000 in
set_option maxRecDepth 100000 in
theorem s_X3_common (l : Launch) (D : va_G) (cy : Nat → ClassId) (sA ad ln : Nat → Nat) (v : gV) (ou : Nat → Int64) (a1 : Int32) (a2 : Int32) (hl : l.stackTraces = false) {post : Int32 → gV → Prop} {pex : String → gV → Prop} (h : wp_X3_common ln v a1 a2 post pex) : mX l D cy sA yX3_common wsX3_common 7 2 12 [.ref (ad 0), .int a1, .int a2] (gW cy ad ln v ou) (fun r w1 => ∃ (x1 : Int32) (v1 : gV), r = some (.int x1) ∧ post x1 v1 ∧ w1 = gW cy ad ln v1 ou) (fun E w1 => ∃ v1 : gV, pex E v1 ∧ w1 = gW cy ad ln v1 ou) := by
  unfold wp_X3_common at h
  refine mX.of (cc := cX3_common) (nL := 8) (ret0 := (some .int)) (by decide +kernel) rfl (Nat.le_of_ble_eq_true rfl) ?_
  intro p e s m args below meth c A C hT hX
  refine mW.sub (lv' := [(0, .ref (ad 0)), (1, .int a1), (2, .int a2)]) [0, 1, 2] rfl ?_
  refine m_aload_n C dX3_common_0 rfl 0 rfl ?_
  refine m_iload_n C dX3_common_1 rfl 1 rfl ?_
  refine m_callVX C hT hX (s_X3_fileAt l D cy sA ad ln v ou a1  hl h) (cwV 1 C.2.2.2.2.1 gX3_common_X3_fileAt rfl rfl rfl (by decide +kernel) ⟨Nat.le_of_ble_eq_true rfl, Nat.le_of_ble_eq_true rfl⟩) 0 gp_0 rfl rfl rfl (Nat.le_of_ble_eq_true rfl) dX3_common_2 ⟨Nat.le_of_ble_eq_true rfl, Nat.le_of_ble_eq_true rfl⟩ ⟨Nat.le_of_ble_eq_true rfl, Nat.le_of_ble_eq_true rfl⟩ (fun _ _ q => q) (fun r w1 h1 => ?_)
  obtain ⟨v1, rfl, h, rfl⟩ := h1
  refine mW.eq (st' := [.ref (ad (14 + a1.toNatClampNeg % 16))]) rfl rfl rfl rfl ?_
  refine m_astore_n (lv' := [(3, .ref (ad (14 + a1.toNatClampNeg % 16))), (0, .ref (ad 0)), (1, .int a1), (2, .int a2)]) C dX3_common_5 rfl (by decide) rfl ?_
  refine m_aload_n C dX3_common_6 rfl 1 rfl ?_
  refine m_iload_n C dX3_common_7 rfl 3 rfl ?_
  refine m_callVX C hT hX (s_X3_fileAt l D cy sA ad ln v1 ou a2  hl h) (cwV 1 C.2.2.2.2.1 gX3_common_X3_fileAt rfl rfl rfl (by decide +kernel) ⟨Nat.le_of_ble_eq_true rfl, Nat.le_of_ble_eq_true rfl⟩) 0 gp_0 rfl rfl rfl (Nat.le_of_ble_eq_true rfl) dX3_common_8 ⟨Nat.le_of_ble_eq_true rfl, Nat.le_of_ble_eq_true rfl⟩ ⟨Nat.le_of_ble_eq_true rfl, Nat.le_of_ble_eq_true rfl⟩ (fun _ _ q => q) (fun r w1 h1 => ?_)
  obtain ⟨v3, rfl, h, rfl⟩ := h1
  refine mW.eq (st' := [.ref (ad (14 + a2.toNatClampNeg % 16))]) rfl rfl rfl rfl ?_
  refine m_astore (lv' := [(4, .ref (ad (14 + a2.toNatClampNeg % 16))), (3, .ref (ad (14 + a1.toNatClampNeg % 16))), (0, .ref (ad 0)), (1, .int a1), (2, .int a2)]) C dX3_common_11 (by decide) rfl ?_
  refine m_aload_n C dX3_common_13 rfl 2 rfl ?_
  refine m_get (T := TX3) (N := 8) C hiX3_common_X3 0 gp_0 rfl 7 (by decide) (by decide +kernel) rfl dX3_common_14 ?_
  refine m_iconst (v := 0) C dX3_common_17 (by decide) ?_
  refine m_callS C (s_J7_fill_53178 l D cy ad ln v3 ou 7 0 (by decide) h) (va_cwS 2 C.2.2.2.2.1 gX3_common_J7_fill_53178 rfl rfl rfl (by decide +kernel) ⟨Nat.le_of_ble_eq_true rfl, Nat.le_of_ble_eq_true rfl⟩) rfl rfl (Nat.le_of_ble_eq_true rfl) dX3_common_18 ⟨Nat.le_of_ble_eq_true rfl, Nat.le_of_ble_eq_true rfl⟩ (fun r w1 h1 => ?_)
  obtain ⟨v6, rfl, h, rfl⟩ := h1
  refine mW.eq (st' := []) rfl rfl rfl rfl ?_
  refine m_iconst (v := 0) C dX3_common_21 (by decide) ?_
  refine m_istore (lv' := [(5, .int 0), (4, .ref (ad (14 + a2.toNatClampNeg % 16))), (3, .ref (ad (14 + a1.toNatClampNeg % 16))), (0, .ref (ad 0)), (1, .int a1), (2, .int a2)]) C dX3_common_22 (by decide) rfl ?_
  obtain ⟨I24, ⟨n0, h0⟩, hI⟩ := h
  refine mW.sub (lv' := [(0, .ref (ad 0)), (1, .int a1), (2, .int a2), (3, .ref (ad (14 + a1.toNatClampNeg % 16))), (4, .ref (ad (14 + a2.toNatClampNeg % 16))), (5, .int 0)]) [3, 4, 5, 2, 1, 0] rfl ?_
  refine m_ind (σ := Int32 × gV) (fun n z => I24 n z.1 z.2) (fun z => gW cy ad ln z.2 ou) 24 (fun z => [(0, .ref (ad 0)), (1, .int a1), (2, .int a2), (3, .ref (ad (14 + a1.toNatClampNeg % 16))), (4, .ref (ad (14 + a2.toNatClampNeg % 16))), (5, .int z.1)]) ?_ n0 (0, v6) h0
  intro n z hi ih
  obtain ⟨x7, v8⟩ := z
  have h := hI n x7 v8 hi
  show mW _ _ _ _ _ _ _ _ _ _ _ _ _ _ _ _ (gW cy ad ln v8 ou) 24 [(0, .ref (ad 0)), (1, .int a1), (2, .int a2), (3, .ref (ad (14 + a1.toNatClampNeg % 16))), (4, .ref (ad (14 + a2.toNatClampNeg % 16))), (5, .int x7)] []
  refine m_iload C dX3_common_24 5 rfl ?_
  refine m_aload C dX3_common_26 4 rfl ?_
  refine m_getN (host := "CutYard") (T := TX0) (N := 3) C hiX3_common_X0 (14 + a2.toNatClampNeg % 16) (gp_C (gC_lo _) (gC_hi _)) rfl 1 (by decide) (by decide +kernel) rfl dX3_common_28 ?_
  refine m_icmp_ge (tgt := 70) C dX3_common_31 (by decide) (fun c9 => ?_) (fun c9 => ?_)
  · have h := h.1 c9
    refine m_iconst (v := 0) C dX3_common_70 (by decide) ?_
    refine m_istore (lv' := [(5, .int 0), (0, .ref (ad 0)), (1, .int a1), (2, .int a2), (3, .ref (ad (14 + a1.toNatClampNeg % 16))), (4, .ref (ad (14 + a2.toNatClampNeg % 16)))]) C dX3_common_71 (by decide) rfl ?_
    refine m_iconst (v := 0) C dX3_common_73 (by decide) ?_
    refine m_istore (lv' := [(6, .int 0), (5, .int 0), (0, .ref (ad 0)), (1, .int a1), (2, .int a2), (3, .ref (ad (14 + a1.toNatClampNeg % 16))), (4, .ref (ad (14 + a2.toNatClampNeg % 16)))]) C dX3_common_74 (by decide) rfl ?_
    obtain ⟨I76, ⟨n0, h0⟩, hI⟩ := h
    refine mW.sub (lv' := [(0, .ref (ad 0)), (1, .int a1), (2, .int a2), (3, .ref (ad (14 + a1.toNatClampNeg % 16))), (4, .ref (ad (14 + a2.toNatClampNeg % 16))), (5, .int 0), (6, .int 0)]) [2, 3, 4, 5, 6, 1, 0] rfl ?_
    refine m_ind (σ := Int32 × Int32) (fun n z => I76 n z.1 z.2) (fun z => gW cy ad ln v8 ou) 76 (fun z => [(0, .ref (ad 0)), (1, .int a1), (2, .int a2), (3, .ref (ad (14 + a1.toNatClampNeg % 16))), (4, .ref (ad (14 + a2.toNatClampNeg % 16))), (5, .int z.1), (6, .int z.2)]) ?_ n0 (0, 0) h0
    intro n z hi ih
    obtain ⟨x10, x11⟩ := z
    have h := hI n x10 x11 hi
    show mW _ _ _ _ _ _ _ _ _ _ _ _ _ _ _ _ (gW cy ad ln v8 ou) 76 [(0, .ref (ad 0)), (1, .int a1), (2, .int a2), (3, .ref (ad (14 + a1.toNatClampNeg % 16))), (4, .ref (ad (14 + a2.toNatClampNeg % 16))), (5, .int x10), (6, .int x11)] []
    refine m_iload C dX3_common_76 6 rfl ?_
    refine m_aload_n C dX3_common_78 rfl 3 rfl ?_
    refine m_getN (host := "CutYard") (T := TX0) (N := 3) C hiX3_common_X0 (14 + a1.toNatClampNeg % 16) (gp_C (gC_lo _) (gC_hi _)) rfl 1 (by decide) (by decide +kernel) rfl dX3_common_79 ?_
    refine m_icmp_ge (tgt := 137) C dX3_common_82 (by decide) (fun c12 => ?_) (fun c12 => ?_)
    · have h := h.1 c12
      refine m_iload C dX3_common_137 5 rfl ?_
      exact m_xr (m_iret C dX3_common_139 (Nat.le_of_ble_eq_true rfl) (Nat.le_of_ble_eq_true rfl) ⟨_, _, rfl, h, rfl⟩)
    · have h := h.2 c12
      refine m_aload_n C dX3_common_85 rfl 3 rfl ?_
      refine m_getN (host := "CutYard") (T := TX0) (N := 3) C hiX3_common_X0 (14 + a1.toNatClampNeg % 16) (gp_C (gC_lo _) (gC_hi _)) rfl 0 (by decide) (by decide +kernel) rfl dX3_common_86 ?_
      refine m_iload C dX3_common_89 6 rfl ?_
      obtain ⟨b13, h⟩ := h
      refine m_iald C ((14 + a1.toNatClampNeg % 16) + 16) (gp_I (gIs_N (gC_lo _) (gC_hi _))) b13 dX3_common_91 ?_
      refine m_topi (fun x14 ex14 => ?_)
      have h := h x14 ex14
      refine m_istore (lv' := [(7, .int x14), (0, .ref (ad 0)), (1, .int a1), (2, .int a2), (3, .ref (ad (14 + a1.toNatClampNeg % 16))), (4, .ref (ad (14 + a2.toNatClampNeg % 16))), (5, .int x10), (6, .int x11)]) C dX3_common_92 (by decide) rfl ?_
      refine m_aload_n C dX3_common_94 rfl 1 rfl ?_
      refine m_get (T := TX3) (N := 8) C hiX3_common_X3 0 gp_0 rfl 1 (by decide) (by decide +kernel) rfl dX3_common_95 ?_
      refine m_iload C dX3_common_98 0 rfl ?_
      obtain ⟨b15, h⟩ := h
      refine m_callV C (p_X2_has l D cy ad ln v8 ou x14 b15) (cwV 1 C.2.2.2.2.1 gX3_common_X2_has rfl rfl rfl (by decide +kernel) ⟨Nat.le_of_ble_eq_true rfl, Nat.le_of_ble_eq_true rfl⟩) 2 gp_2 rfl rfl rfl (Nat.le_of_ble_eq_true rfl) dX3_common_100 ⟨Nat.le_of_ble_eq_true rfl, Nat.le_of_ble_eq_true rfl⟩ (fun r w1 h1 => ?_)
      obtain ⟨rfl, rfl⟩ := h1
      refine mW.eq (st' := [.int (phs v8 x14)]) rfl rfl rfl rfl ?_
      obtain ⟨b17, h⟩ := h
      obtain ⟨b19, h⟩ := h
      obtain ⟨b20, h⟩ := h
      refine m_join (P := 131) (wM := gW cy ad ln v8 ou) (lvM := [(7, .int x14), (0, .ref (ad 0)), (1, .int a1), (2, .int a2), (3, .ref (ad (14 + a1.toNatClampNeg % 16))), (4, .ref (ad (14 + a2.toNatClampNeg % 16))), (5, .int (if (phs v8 x14) = 0 then x10 else if (v8 7 x14.toNatClampNeg) = 1 then x10 + (plo v8 x14) else x10)), (6, .int x11)]) (stM := []) ?_ (fun hJ131_21 => ?_)
      · refine m_iinc (lv' := [(6, .int (x11 + 1)), (7, .int x14), (0, .ref (ad 0)), (1, .int a1), (2, .int a2), (3, .ref (ad (14 + a1.toNatClampNeg % 16))), (4, .ref (ad (14 + a2.toNatClampNeg % 16))), (5, .int (if (phs v8 x14) = 0 then x10 else if (v8 7 x14.toNatClampNeg) = 1 then x10 + (plo v8 x14) else x10))]) C dX3_common_131 (k := 7) rfl rfl (by decide) rfl ?_
        refine m_goto (tgt := 76) C dX3_common_134 (by decide) ?_
        obtain ⟨n22, hn, h⟩ := h
        exact mW.sub [2, 3, 4, 5, 6, 7, 0] rfl (ih n22 ((if (phs v8 x14) = 0 then x10 else if (v8 7 x14.toNatClampNeg) = 1 then x10 + (plo v8 x14) else x10), (x11 + 1)) hn h)
      · refine m_if_eq (tgt := 131) C dX3_common_103 (by decide) (fun c16 => ?_) (fun c16 => ?_)
        · refine mW.sub (lv' := [(7, .int x14), (0, .ref (ad 0)), (1, .int a1), (2, .int a2), (3, .ref (ad (14 + a1.toNatClampNeg % 16))), (4, .ref (ad (14 + a2.toNatClampNeg % 16))), (5, .int x10), (6, .int x11)]) [0, 1, 2, 3, 4, 5, 6, 7] rfl ?_
          exact mW.eq rfl (by simp only [if_pos c16]) rfl rfl hJ131_21
        · refine m_aload_n C dX3_common_106 rfl 1 rfl ?_
          refine m_get (T := TX3) (N := 8) C hiX3_common_X3 0 gp_0 rfl 7 (by decide) (by decide +kernel) rfl dX3_common_107 ?_
          refine m_iload C dX3_common_110 0 rfl ?_
          refine m_iald C 7 (gp_I (by decide)) (b17 c16) dX3_common_112 ?_
          refine m_iconst (v := 1) C dX3_common_113 (by decide) ?_
          refine m_icmp_ne (tgt := 131) C dX3_common_114 (by decide) (fun c18 => ?_) (fun c18 => ?_)
          · refine mW.sub (lv' := [(7, .int x14), (0, .ref (ad 0)), (1, .int a1), (2, .int a2), (3, .ref (ad (14 + a1.toNatClampNeg % 16))), (4, .ref (ad (14 + a2.toNatClampNeg % 16))), (5, .int x10), (6, .int x11)]) [0, 1, 2, 3, 4, 5, 6, 7] rfl ?_
            exact mW.eq rfl (by simp only [if_neg c16, if_neg c18]) rfl rfl hJ131_21
          · refine m_iload C dX3_common_117 6 rfl ?_
            refine m_aload_n C dX3_common_119 rfl 1 rfl ?_
            refine m_get (T := TX3) (N := 8) C hiX3_common_X3 0 gp_0 rfl 1 (by decide) (by decide +kernel) rfl dX3_common_120 ?_
            refine m_iload C dX3_common_123 0 rfl ?_
            refine m_callV C (p_X2_lengthOf l D cy ad ln v8 ou x14 (b19 c16 c18) (b20 c16 c18)) (cwV 1 C.2.2.2.2.1 gX3_common_X2_lengthOf rfl rfl rfl (by decide +kernel) ⟨Nat.le_of_ble_eq_true rfl, Nat.le_of_ble_eq_true rfl⟩) 2 gp_2 rfl rfl rfl (Nat.le_of_ble_eq_true rfl) dX3_common_125 ⟨Nat.le_of_ble_eq_true rfl, Nat.le_of_ble_eq_true rfl⟩ (fun r w1 h1 => ?_)
            obtain ⟨rfl, rfl⟩ := h1
            refine mW.eq (st' := [.int (plo v8 x14), .int x10]) rfl rfl rfl rfl ?_
            refine m_iadd C dX3_common_128 ?_
            refine m_istore (lv' := [(5, .int (x10 + (plo v8 x14))), (7, .int x14), (0, .ref (ad 0)), (1, .int a1), (2, .int a2), (3, .ref (ad (14 + a1.toNatClampNeg % 16))), (4, .ref (ad (14 + a2.toNatClampNeg % 16))), (6, .int x11)]) C dX3_common_129 (by decide) rfl ?_
            refine mW.sub (lv' := [(7, .int x14), (0, .ref (ad 0)), (1, .int a1), (2, .int a2), (3, .ref (ad (14 + a1.toNatClampNeg % 16))), (4, .ref (ad (14 + a2.toNatClampNeg % 16))), (5, .int (x10 + (plo v8 x14))), (6, .int x11)]) [1, 2, 3, 4, 5, 6, 0, 7] rfl ?_
            exact mW.eq rfl (by simp only [if_neg c16, if_pos c18]) rfl rfl hJ131_21
  · have h := h.2 c9
    refine m_aload C dX3_common_34 4 rfl ?_
    refine m_getN (host := "CutYard") (T := TX0) (N := 3) C hiX3_common_X0 (14 + a2.toNatClampNeg % 16) (gp_C (gC_lo _) (gC_hi _)) rfl 0 (by decide) (by decide +kernel) rfl dX3_common_36 ?_
    refine m_iload C dX3_common_39 5 rfl ?_
    obtain ⟨b23, h⟩ := h
    refine m_iald C ((14 + a2.toNatClampNeg % 16) + 16) (gp_I (gIs_N (gC_lo _) (gC_hi _))) b23 dX3_common_41 ?_
    refine m_topi (fun x24 ex24 => ?_)
    have h := h x24 ex24
    refine m_istore (lv' := [(6, .int x24), (0, .ref (ad 0)), (1, .int a1), (2, .int a2), (3, .ref (ad (14 + a1.toNatClampNeg % 16))), (4, .ref (ad (14 + a2.toNatClampNeg % 16))), (5, .int x7)]) C dX3_common_42 (by decide) rfl ?_
    refine m_aload_n C dX3_common_44 rfl 1 rfl ?_
    refine m_get (T := TX3) (N := 8) C hiX3_common_X3 0 gp_0 rfl 1 (by decide) (by decide +kernel) rfl dX3_common_45 ?_
    refine m_iload C dX3_common_48 0 rfl ?_
    obtain ⟨b25, h⟩ := h
    refine m_callV C (p_X2_has l D cy ad ln v8 ou x24 b25) (cwV 1 C.2.2.2.2.1 gX3_common_X2_has rfl rfl rfl (by decide +kernel) ⟨Nat.le_of_ble_eq_true rfl, Nat.le_of_ble_eq_true rfl⟩) 2 gp_2 rfl rfl rfl (Nat.le_of_ble_eq_true rfl) dX3_common_50 ⟨Nat.le_of_ble_eq_true rfl, Nat.le_of_ble_eq_true rfl⟩ (fun r w1 h1 => ?_)
    obtain ⟨rfl, rfl⟩ := h1
    refine mW.eq (st' := [.int (phs v8 x24)]) rfl rfl rfl rfl ?_
    refine m_if_eq (tgt := 64) C dX3_common_53 (by decide) (fun c26 => ?_) (fun c26 => ?_)
    · have h := h.1 c26
      refine m_iinc (lv' := [(5, .int (x7 + 1)), (6, .int x24), (0, .ref (ad 0)), (1, .int a1), (2, .int a2), (3, .ref (ad (14 + a1.toNatClampNeg % 16))), (4, .ref (ad (14 + a2.toNatClampNeg % 16)))]) C dX3_common_64 (k := 6) rfl rfl (by decide) rfl ?_
      refine m_goto (tgt := 24) C dX3_common_67 (by decide) ?_
      obtain ⟨n27, hn, h⟩ := h
      exact mW.sub [2, 3, 4, 5, 6, 0] rfl (ih n27 ((x7 + 1), v8) hn h)
    · have h := h.2 c26
      refine m_aload_n C dX3_common_56 rfl 1 rfl ?_
      refine m_get (T := TX3) (N := 8) C hiX3_common_X3 0 gp_0 rfl 7 (by decide) (by decide +kernel) rfl dX3_common_57 ?_
      refine m_iload C dX3_common_60 0 rfl ?_
      refine m_iconst (v := 1) C dX3_common_62 (by decide) ?_
      obtain ⟨b28, h⟩ := h
      obtain ⟨v29, ev29⟩ : ∃ z : gV, z = va_up v8 7 (upd (v8 7) x24.toNatClampNeg 1) := ⟨_, rfl⟩
      have h := h v29 ev29
      refine m_iast (w' := gW cy ad ln v29 ou) C 7 (gp_I (by decide)) b28 dX3_common_63 (by rw [ev29]; exact gs_I (by decide)) ?_
      refine m_iinc (lv' := [(5, .int (x7 + 1)), (6, .int x24), (0, .ref (ad 0)), (1, .int a1), (2, .int a2), (3, .ref (ad (14 + a1.toNatClampNeg % 16))), (4, .ref (ad (14 + a2.toNatClampNeg % 16)))]) C dX3_common_64 (k := 6) rfl rfl (by decide) rfl ?_
      refine m_goto (tgt := 24) C dX3_common_67 (by decide) ?_
      obtain ⟨n30, hn, h⟩ := h
      exact mW.sub [2, 3, 4, 5, 6, 0] rfl (ih n30 ((x7 + 1), v29) hn h)
theorem hiX3_all_X2 : ∀ w ∈ wsX20, w ∈ wsX3_all := by decide +kernel
theorem hiX3_all_X3 : ∀ w ∈ wsX30, w ∈ wsX3_all := by decide +kernel
theorem hxX3_all_52 : ∀ w ∈ (vx_atS "CutYard" 52 "java/lang/IllegalArgumentException" xN).filter goodWord, w ∈ wsX3_all := by decide +kernel
def wp_X3_all (ln : Nat → Nat) (v : gV) (a1 : Int32) (post : Int32 → gV → Prop) (pex : String → gV → Prop) : Prop :=
  (a1 = 0 → (post (v 2 7) v)) ∧ (a1 = 1 → (post (v 2 8) v)) ∧ (a1 = 2 → (post (v 0 4) v)) ∧ (¬ a1 = 0 → ¬ a1 = 1 → ¬ a1 = 2 → (pex "java/lang/IllegalArgumentException" v))
set_option maxHeartbeats 4000000 in
set_option maxRecDepth 100000 in
theorem s_X3_all (l : Launch) (D : va_G) (cy : Nat → ClassId) (sA ad ln : Nat → Nat) (v : gV) (ou : Nat → Int64) (a1 : Int32) (hl : l.stackTraces = false) {post : Int32 → gV → Prop} {pex : String → gV → Prop} (h : wp_X3_all ln v a1 post pex) : mX l D cy sA yX3_all wsX3_all 6 1 6 [.ref (ad 0), .int a1] (gW cy ad ln v ou) (fun r w1 => ∃ (x1 : Int32) (v1 : gV), r = some (.int x1) ∧ post x1 v1 ∧ w1 = gW cy ad ln v1 ou) (fun E w1 => ∃ v1 : gV, pex E v1 ∧ w1 = gW cy ad ln v1 ou) := by
  unfold wp_X3_all at h
  refine mX.of (cc := cX3_all) (nL := 2) (ret0 := (some .int)) (by decide +kernel) rfl (Nat.le_of_ble_eq_true rfl) ?_
  intro p e s m args below meth c A C hT hX
  refine mW.sub (lv' := [(0, .ref (ad 0)), (1, .int a1)]) [0, 1] rfl ?_
  refine m_iload_n C dX3_all_0 rfl 1 rfl ?_
  refine m_sw3 (t0 := 28) (t1 := 36) (t2 := 44) (td := 49) C dX3_all_1 rfl rfl rfl (by decide) (by decide) (by decide) (by decide) (fun c0 => ?_) (fun c0 => ?_) (fun c0 => ?_) (fun c0 c1 c2 => ?_)
  · have h := h.1 c0
    refine m_aload_n C dX3_all_28 rfl 0 rfl ?_
    refine m_get (T := TX3) (N := 8) C hiX3_all_X3 0 gp_0 rfl 1 (by decide) (by decide +kernel) rfl dX3_all_29 ?_
    refine m_getN (host := "CutYard") (T := TX2) (N := 9) C hiX3_all_X2 2 gp_2 rfl 7 (by decide) (by decide +kernel) rfl dX3_all_32 ?_
    exact m_xr (m_iret C dX3_all_35 (Nat.le_of_ble_eq_true rfl) (Nat.le_of_ble_eq_true rfl) ⟨_, _, rfl, h, rfl⟩)
  · have h := h.2.1 c0
    refine m_aload_n C dX3_all_36 rfl 0 rfl ?_
    refine m_get (T := TX3) (N := 8) C hiX3_all_X3 0 gp_0 rfl 1 (by decide) (by decide +kernel) rfl dX3_all_37 ?_
    refine m_getN (host := "CutYard") (T := TX2) (N := 9) C hiX3_all_X2 2 gp_2 rfl 8 (by decide) (by decide +kernel) rfl dX3_all_40 ?_
    exact m_xr (m_iret C dX3_all_43 (Nat.le_of_ble_eq_true rfl) (Nat.le_of_ble_eq_true rfl) ⟨_, _, rfl, h, rfl⟩)
  · have h := h.2.2.1 c0
    refine m_aload_n C dX3_all_44 rfl 0 rfl ?_
    refine m_get (T := TX3) (N := 8) C hiX3_all_X3 0 gp_0 rfl 4 (by decide) (by decide +kernel) rfl dX3_all_45 ?_
    exact m_xr (m_iret C dX3_all_48 (Nat.le_of_ble_eq_true rfl) (Nat.le_of_ble_eq_true rfl) ⟨_, _, rfl, h, rfl⟩)
  · have h := h.2.2.2 c0 c1 c2
    exact m_throw (text := "what must be 0 .. 2") C hl hT hX (by decide) (by decide +kernel) (by decide +kernel) (by decide) hxX3_all_52 xB_1 hg_48_52 dX3_all_49 dX3_all_52 dX3_all_53 dX3_all_55 dX3_all_58 (Nat.le_of_ble_eq_true rfl) (Nat.le_of_ble_eq_true rfl) (Nat.le_of_ble_eq_true rfl) (Nat.le_of_ble_eq_true rfl) (Nat.le_of_ble_eq_true rfl) (Nat.le_of_ble_eq_true rfl) ⟨_, h, rfl⟩
