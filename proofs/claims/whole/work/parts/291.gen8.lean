/-- the addresses are the same but for the room and the numbers' rows -/
def gA (ad ad1 : Nat → Nat) : Prop := ∀ k : Nat, k ≠ 13 → (k < 30 ∨ 46 ≤ k) → ad1 k = ad k
theorem gA.rf {ad : Nat → Nat} : gA ad ad := fun _ _ _ => rfl
theorem gA.tr {a b c : Nat → Nat} (h1 : gA a b) (h2 : gA b c) : gA a c := fun k p q => (h2 k p q).trans (h1 k p q)
theorem gA.re13 {ad : Nat → Nat} {q : Nat} : gA ad (va_up ad 13 q) := fun k p _ => va_up_ne ad q p
theorem gA.reN {ad : Nat → Nat} {P q : Nat} (h1 : 14 ≤ P) (h2 : P < 30) : gA ad (va_up ad (P + 16) q) := fun k _ p => va_up_ne ad q (by omega)
theorem gA.n {ad ad1 : Nat → Nat} (h : gA ad ad1) (k : Nat) (hk : (k != 13 && (decide (k < 30) || decide (46 ≤ k))) = true) : ad1 k = ad k := by
  simp at hk
  exact h k hk.1 hk.2
theorem gA.p {ad ad1 : Nat → Nat} (h : gA ad ad1) {P : Nat} (h1 : 14 ≤ P) (h2 : P < 30) : ad1 P = ad P := h P (by omega) (by omega)
theorem gA.b {ad ad1 : Nat → Nat} (h : gA ad ad1) {r : Nat} (h1 : gBs r = true) (h2 : r ≠ 13) : ad1 r = ad r := h r h2 (by simp [gBs] at h1; omega)
theorem hiX3_takeParts_X3 : ∀ w ∈ wsX30, w ∈ wsX3_takeParts := by decide +kernel
def wp_X3_takeParts (mc ms : Nat) (ln : Nat → Nat) (v : gV) (r1 : Nat) (a2 : Int32) (post : Int32 → (Nat → Nat) → gV → Prop) : Prop :=
  ∃ I5 : Nat → Int32 → Int32 → (Nat → Nat) → gV → Nat → Nat → Prop, (∃ n, I5 n 0 0 ln v 0 0) ∧ ∀ (n : Nat) (x1 : Int32) (x2 : Int32) (ln4 : Nat → Nat) (v3 : gV) (kc6 ks7 : Nat), I5 n x1 x2 ln4 v3 kc6 ks7 → (kc6 ≤ mc ∧ ks7 ≤ ms ∧ (((a2 ≤ x2) → (post x1 ln4 v3)) ∧ (¬ (a2 ≤ x2) → (((1500 ≤ x1) → (post x1 ln4 v3)) ∧ (¬ (1500 ≤ x1) → (wp_X1_endOfPart ln4 v3 r1 x2 a2 (fun (x13 : Int32) (v14 : gV) => (∃ (mc23 ms24 : Nat), kc6 + mc23 ≤ mc ∧ ks7 + ms24 ≤ ms ∧ wp_X2_take mc23 ms24 ln4 v14 r1 x2 x13 (fun (x25 : Int32) (ln15 : Nat → Nat) (v16 : gV) => (((x25 = (-1)) → (wp_X3_giveBack ln15 v16 6 x1 (fun (v31 : gV) => (post (-1) ln15 v31)))) ∧ (¬ (x25 = (-1)) → (vp_in x1 (ln15 6) ∧ ∀ v28 : gV, v28 = va_up v16 6 (upd (v16 6) x1.toNatClampNeg x25) → (∃ n', n' < n ∧ I5 n' (x1 + 1) x13 ln15 v28 (kc6 + mc23) (ks7 + ms24))))))))))))))
set_option maxHeartbeats 4000000 in
set_option maxRecDepth 100000 in
theorem s_X3_takeParts (l : Launch) (D : va_G) (cy : Nat → ClassId) (ad ln : Nat → Nat) (v : gV) (ou : Nat → Int64) (mc ms : Nat) (r1 : Nat) (a2 : Int32) (hr1 : gBs r1 = true) (hr1n : r1 ≠ 13) {post : Int32 → (Nat → Nat) → gV → Prop} (h : wp_X3_takeParts mc ms ln v r1 a2 post) : mM l D cy yX3_takeParts wsX3_takeParts 6 mc ms [.ref (ad 0), .ref (ad r1), .int a2] (gW cy ad ln v ou) (fun r w1 => ∃ (x1 : Int32) (ad1 ln1 : Nat → Nat) (v1 : gV), r = some (.int x1) ∧ post x1 ln1 v1 ∧ w1 = gW cy ad1 ln1 v1 ou ∧ gA ad ad1) := by
  unfold wp_X3_takeParts at h
  refine mM.of (cc := cX3_takeParts) (nL := 7) (ret0 := (some .int)) (by decide +kernel) rfl (Nat.le_of_ble_eq_true rfl) ?_
  intro p e s m args below meth c A C hini
  refine mW.sub (lv' := [(0, .ref (ad 0)), (1, .ref (ad r1)), (2, .int a2)]) [0, 1, 2] rfl ?_
  refine m_iconst (v := 0) C dX3_takeParts_0 (by decide) ?_
  refine m_istore_n (lv' := [(3, .int 0), (0, .ref (ad 0)), (1, .ref (ad r1)), (2, .int a2)]) C dX3_takeParts_1 rfl (by decide) rfl ?_
  refine m_iconst (v := 0) C dX3_takeParts_2 (by decide) ?_
  refine m_istore (lv' := [(4, .int 0), (3, .int 0), (0, .ref (ad 0)), (1, .ref (ad r1)), (2, .int a2)]) C dX3_takeParts_3 (by decide) rfl ?_
  obtain ⟨I5, ⟨n0, h0⟩, hI⟩ := h
  refine mW.sub (lv' := [(0, .ref (ad 0)), (1, .ref (ad r1)), (2, .int a2), (3, .int 0), (4, .int 0)]) [2, 3, 4, 1, 0] rfl ?_
  refine m_indK (σ := Int32 × Int32 × (Nat → Nat) × gV × Nat × Nat × (Nat → Nat)) (fun n z => I5 n z.1 z.2.1 z.2.2.1 z.2.2.2.1 z.2.2.2.2.1 z.2.2.2.2.2.1 ∧ gA ad z.2.2.2.2.2.2) (fun z => gW cy z.2.2.2.2.2.2 z.2.2.1 z.2.2.2.1 ou) 5 (fun z => [(0, .ref (z.2.2.2.2.2.2 0)), (1, .ref (z.2.2.2.2.2.2 r1)), (2, .int a2), (3, .int z.1), (4, .int z.2.1)]) (fun z => z.2.2.2.2.1) (fun z => z.2.2.2.2.2.1) ?_ n0 (0, 0, ln, v, 0, 0, ad) ⟨h0, gA.rf⟩
  intro n z hi ih
  obtain ⟨x1, x2, ln4, v3, kc6, ks7, ad5⟩ := z
  obtain ⟨hi, g8⟩ := hi
  have h := hI n x1 x2 ln4 v3 kc6 ks7 hi
  obtain ⟨k9, k10, h⟩ := h
  show mW _ _ _ _ _ _ _ _ _ _ _ _ _ _ _ _ (gW cy ad5 ln4 v3 ou) 5 [(0, .ref (ad5 0)), (1, .ref (ad5 r1)), (2, .int a2), (3, .int x1), (4, .int x2)] []
  refine m_iload C dX3_takeParts_5 4 rfl ?_
  refine m_iload_n C dX3_takeParts_7 rfl 2 rfl ?_
  refine m_icmp_ge (tgt := 80) C dX3_takeParts_8 (by decide) (fun c11 => ?_) (fun c11 => ?_)
  · have h := h.1 c11
    refine m_iload_n C dX3_takeParts_80 rfl 3 rfl ?_
    exact m_iret C dX3_takeParts_81 k9 k10 ⟨_, _, _, _, rfl, h, rfl, g8⟩
  · have h := h.2 c11
    refine m_iload_n C dX3_takeParts_11 rfl 3 rfl ?_
    refine m_sipush (v := 1500) C dX3_takeParts_12 (by decide) ?_
    refine m_icmp_ge (tgt := 80) C dX3_takeParts_15 (by decide) (fun c12 => ?_) (fun c12 => ?_)
    · have h := h.1 c12
      refine m_iload_n C dX3_takeParts_80 rfl 3 rfl ?_
      exact m_iret C dX3_takeParts_81 k9 k10 ⟨_, _, _, _, rfl, h, rfl, g8⟩
    · have h := h.2 c12
      refine m_aload_n C dX3_takeParts_18 rfl 0 rfl ?_
      refine m_get (T := TX3) (N := 8) C hiX3_takeParts_X3 0 gp_0 rfl 0 (by decide) (by decide +kernel) rfl dX3_takeParts_19 ?_
      refine m_aload_n C dX3_takeParts_22 rfl 1 rfl ?_
      refine m_iload C dX3_takeParts_23 4 rfl ?_
      refine m_iload_n C dX3_takeParts_25 rfl 2 rfl ?_
      refine m_callV C (s_X1_endOfPart l D cy ad5 ln4 v3 ou r1 x2 a2 hr1 h) (cwV 3 C.2.2.2.2.1 gX3_takeParts_X1_endOfPart rfl rfl rfl (by decide +kernel) ⟨Nat.le_of_ble_eq_true rfl, Nat.le_of_ble_eq_true rfl⟩) 1 gp_1 rfl rfl rfl (Nat.le_of_ble_eq_true rfl) dX3_takeParts_26 ⟨k9, k10⟩ (fun r w1 h1 => ?_)
      obtain ⟨x13, v14, rfl, h, rfl⟩ := h1
      refine mW.eq (st' := [.int x13]) rfl rfl rfl rfl ?_
      refine m_istore (lv' := [(5, .int x13), (0, .ref (ad5 0)), (1, .ref (ad5 r1)), (2, .int a2), (3, .int x1), (4, .int x2)]) C dX3_takeParts_29 (by decide) rfl ?_
      refine m_aload_n C dX3_takeParts_31 rfl 1 rfl ?_
      refine m_get (T := TX3) (N := 8) C hiX3_takeParts_X3 0 gp_0 rfl 1 (by decide) (by decide +kernel) rfl dX3_takeParts_32 ?_
      refine m_aload_n C dX3_takeParts_35 rfl 2 rfl ?_
      refine m_iload C dX3_takeParts_36 5 rfl ?_
      refine m_iload C dX3_takeParts_38 0 rfl ?_
      obtain ⟨mc23, ms24, k19, k20, h⟩ := h
      refine m_callV C (s_X2_take l D cy ad5 ln4 v14 ou mc23 ms24 r1 x2 x13 hr1 hr1n h) (cwV 3 C.2.2.2.2.1 gX3_takeParts_X2_take rfl rfl rfl (by decide +kernel) ⟨Nat.le_of_ble_eq_true rfl, Nat.le_of_ble_eq_true rfl⟩) 2 gp_2 rfl rfl rfl (Nat.le_of_ble_eq_true rfl) dX3_takeParts_40 ⟨k19, k20⟩ (fun r w1 h1 => ?_)
      obtain ⟨x25, q18, ln15, v16, rfl, h, rfl⟩ := h1
      obtain ⟨ad17, ead17⟩ : ∃ z : Nat → Nat, z = va_up ad5 13 q18 := ⟨_, rfl⟩
      rw [← ead17]
      have g21 : gA ad5 ad17 := by rw [ead17]; exact gA.re13
      have g22 : gA ad ad17 := gA.tr g8 g21
      refine mW.eq (lv' := [(5, .int x13), (0, .ref (ad17 0)), (1, .ref (ad17 r1)), (2, .int a2), (3, .int x1), (4, .int x2)]) (st' := [.int x25]) rfl (by first | rfl | simp only [g21.n 0 (by decide), g21.b hr1 hr1n] | (simp only [g21.n 0 (by decide), g21.b hr1 hr1n]; rfl)) (by first | rfl | simp only [g21.n 0 (by decide), g21.b hr1 hr1n] | (simp only [g21.n 0 (by decide), g21.b hr1 hr1n]; rfl)) rfl ?_
      refine m_istore (lv' := [(6, .int x25), (5, .int x13), (0, .ref (ad17 0)), (1, .ref (ad17 r1)), (2, .int a2), (3, .int x1), (4, .int x2)]) C dX3_takeParts_43 (by decide) rfl ?_
      refine m_iload C dX3_takeParts_45 0 rfl ?_
      refine m_iconst (v := (-1)) C dX3_takeParts_47 (by decide) ?_
      refine m_icmp_ne (tgt := 62) C dX3_takeParts_48 (by decide) (fun c26 => ?_) (fun c26 => ?_)
      · have h := h.2 c26
        refine m_aload_n C dX3_takeParts_62 rfl 2 rfl ?_
        refine m_get (T := TX3) (N := 8) C hiX3_takeParts_X3 0 gp_0 rfl 6 (by decide) (by decide +kernel) rfl dX3_takeParts_63 ?_
        refine m_iload_n C dX3_takeParts_66 rfl 5 rfl ?_
        refine m_iload C dX3_takeParts_67 0 rfl ?_
        obtain ⟨b27, h⟩ := h
        obtain ⟨v28, ev28⟩ : ∃ z : gV, z = va_up v16 6 (upd (v16 6) x1.toNatClampNeg x25) := ⟨_, rfl⟩
        have h := h v28 ev28
        refine m_iast (w' := gW cy ad17 ln15 v28 ou) C 6 (gp_I (by decide)) b27 dX3_takeParts_69 (by rw [ev28]; exact gs_I (by decide)) ?_
        refine m_iinc (lv' := [(3, .int (x1 + 1)), (6, .int x25), (5, .int x13), (0, .ref (ad17 0)), (1, .ref (ad17 r1)), (2, .int a2), (4, .int x2)]) C dX3_takeParts_70 (k := 5) rfl rfl (by decide) rfl ?_
        refine m_iload C dX3_takeParts_73 2 rfl ?_
        refine m_istore (lv' := [(4, .int x13), (3, .int (x1 + 1)), (6, .int x25), (5, .int x13), (0, .ref (ad17 0)), (1, .ref (ad17 r1)), (2, .int a2)]) C dX3_takeParts_75 (by decide) rfl ?_
        refine m_goto (tgt := 5) C dX3_takeParts_77 (by decide) ?_
        obtain ⟨n29, hn, h⟩ := h
        exact mW.sub [4, 5, 6, 1, 0] rfl (ih n29 ((x1 + 1), x13, ln15, v28, (kc6 + mc23), (ks7 + ms24), ad17) hn ⟨h, g22⟩)
      · have h := h.1 c26
        refine m_aload_n C dX3_takeParts_51 rfl 2 rfl ?_
        refine m_aload_n C dX3_takeParts_52 rfl 2 rfl ?_
        refine m_get (T := TX3) (N := 8) C hiX3_takeParts_X3 0 gp_0 rfl 6 (by decide) (by decide +kernel) rfl dX3_takeParts_53 ?_
        refine m_iload_n C dX3_takeParts_56 rfl 5 rfl ?_
        refine m_callV C (s_X3_giveBack l D cy ad17 ln15 v16 ou 6 x1 (by decide) h) (cwV 2 C.2.2.2.2.1 gX3_takeParts_X3_giveBack rfl rfl rfl (by decide +kernel) ⟨Nat.le_of_ble_eq_true rfl, Nat.le_of_ble_eq_true rfl⟩) 0 gp_0 rfl rfl rfl (Nat.le_of_ble_eq_true rfl) dX3_takeParts_57 ⟨k19, k20⟩ (fun r w1 h1 => ?_)
        obtain ⟨v31, rfl, h, rfl⟩ := h1
        refine mW.eq (st' := []) rfl rfl rfl rfl ?_
        refine m_iconst (v := (-1)) C dX3_takeParts_60 (by decide) ?_
        exact m_iret C dX3_takeParts_61 k19 k20 ⟨_, _, _, _, rfl, h, rfl, g22⟩
theorem hiX3_fillFile_X0 : ∀ w ∈ wsX00, w ∈ wsX3_fillFile := by decide +kernel
theorem hiX3_fillFile_X2 : ∀ w ∈ wsX20, w ∈ wsX3_fillFile := by decide +kernel
theorem hiX3_fillFile_X3 : ∀ w ∈ wsX30, w ∈ wsX3_fillFile := by decide +kernel
theorem hxX3_fillFile_73 : ∀ w ∈ (vx_atS "CutYard" 73 "java/lang/UnsupportedOperationException" xN).filter goodWord, w ∈ wsX3_fillFile := by decide +kernel
def wp_X3_fillFile (mc ms : Nat) (ln : Nat → Nat) (v : gV) (r1 : Nat) (r2 : Nat) (a3 : Int32) (post : Int32 → (Nat → Nat) → gV → Prop) (pex : String → (Nat → Nat) → gV → Prop) : Prop :=
  ∃ (mc9 ms10 : Nat), 0 + mc9 ≤ mc ∧ 0 + ms10 ≤ ms ∧ wp_X3_takeParts mc9 ms10 ln v r2 a3 (fun (x11 : Int32) (ln1 : Nat → Nat) (v2 : gV) => (((x11 = (-1)) → ((0 + mc9) + 1 ≤ mc ∧ (0 + ms10) + 6 ≤ ms ∧ pex "java/lang/UnsupportedOperationException" ln1 v2)) ∧ (¬ (x11 = (-1)) → (wp_X3_giveBack ln1 v2 (r1 + 16) (v2 r1 1) (fun (v14 : gV) => (∃ n23 : Nat, x11 = nI n23 ∧ n23 ≤ ln1 6 ∧ n23 ≤ 1500 ∧ 16 ≤ ln1 (r1 + 16) ∧ ln1 (r1 + 16) ≤ 1500 ∧ (0 + mc9) + bcC ln1 r1 n23 ≤ mc ∧ (0 + ms10) + bcS ln1 r1 n23 ≤ ms ∧ ∀ (ln15 : Nat → Nat) (v16 : gV), ln15 = va_up ln1 (r1 + 16) (bcL ln1 r1 n23) → v16 = bcV ln1 v14 r1 6 n23 a3 → (∀ v24 : gV, v24 = va_up v16 0 (upd (v16 0) 4 0) → (post ((v2 2 7) - (v 2 7)) ln15 v24))))))))
set_option maxHeartbeats 4000000 in
set_option maxRecDepth 100000 in
theorem s_X3_fillFile (l : Launch) (D : va_G) (cy : Nat → ClassId) (sA ad ln : Nat → Nat) (v : gV) (ou : Nat → Int64) (mc ms : Nat) (r1 : Nat) (r2 : Nat) (a3 : Int32) (hr11 : 14 ≤ r1) (hr12 : r1 < 30) (hr2 : gBs r2 = true) (hr2n : r2 ≠ 13) (hl : l.stackTraces = false) {post : Int32 → (Nat → Nat) → gV → Prop} {pex : String → (Nat → Nat) → gV → Prop} (h : wp_X3_fillFile mc ms ln v r1 r2 a3 post pex) : mX l D cy sA yX3_fillFile wsX3_fillFile 7 mc ms [.ref (ad 0), .ref (ad r1), .ref (ad r2), .int a3] (gW cy ad ln v ou) (fun r w1 => ∃ (x1 : Int32) (ad1 ln1 : Nat → Nat) (v1 : gV), r = some (.int x1) ∧ post x1 ln1 v1 ∧ w1 = gW cy ad1 ln1 v1 ou ∧ gA ad ad1) (fun E w1 => ∃ (ad1 ln1 : Nat → Nat) (v1 : gV), pex E ln1 v1 ∧ w1 = gW cy ad1 ln1 v1 ou ∧ gA ad ad1) := by
  unfold wp_X3_fillFile at h
  refine mX.of (cc := cX3_fillFile) (nL := 7) (ret0 := (some .int)) (by decide +kernel) rfl (Nat.le_of_ble_eq_true rfl) ?_
  intro p e s m args below meth c A C hT hX
  refine mW.sub (lv' := [(0, .ref (ad 0)), (1, .ref (ad r1)), (2, .ref (ad r2)), (3, .int a3)]) [0, 1, 2, 3] rfl ?_
  refine m_aload_n C dX3_fillFile_0 rfl 0 rfl ?_
  refine m_get (T := TX3) (N := 8) C hiX3_fillFile_X3 0 gp_0 rfl 1 (by decide) (by decide +kernel) rfl dX3_fillFile_1 ?_
  refine m_getN (host := "CutYard") (T := TX2) (N := 9) C hiX3_fillFile_X2 2 gp_2 rfl 7 (by decide) (by decide +kernel) rfl dX3_fillFile_4 ?_
  refine m_istore (lv' := [(4, .int (v 2 7)), (0, .ref (ad 0)), (1, .ref (ad r1)), (2, .ref (ad r2)), (3, .int a3)]) C dX3_fillFile_7 (by decide) rfl ?_
  refine m_aload_n C dX3_fillFile_9 rfl 1 rfl ?_
  refine m_aload_n C dX3_fillFile_10 rfl 3 rfl ?_
  refine m_iload_n C dX3_fillFile_11 rfl 4 rfl ?_
  obtain ⟨mc9, ms10, k5, k6, h⟩ := h
  refine m_callV C (s_X3_takeParts l D cy ad ln v ou mc9 ms10 r2 a3 hr2 hr2n h) (cwV 2 C.2.2.2.2.1 gX3_fillFile_X3_takeParts rfl rfl rfl (by decide +kernel) ⟨Nat.le_of_ble_eq_true rfl, Nat.le_of_ble_eq_true rfl⟩) 0 gp_0 rfl rfl rfl (Nat.le_of_ble_eq_true rfl) dX3_fillFile_12 ⟨k5, k6⟩ (fun r w1 h1 => ?_)
  obtain ⟨x11, ad3, ln1, v2, rfl, h, rfl, g7⟩ := h1
  have g8 : gA ad ad3 := gA.tr gA.rf g7
  refine mW.eq (lv' := [(4, .int (v 2 7)), (0, .ref (ad3 0)), (1, .ref (ad3 r1)), (2, .ref (ad3 r2)), (3, .int a3)]) (st' := [.int x11]) rfl (by first | rfl | simp only [g7.n 0 (by decide), g7.p hr11 hr12, g7.b hr2 hr2n] | (simp only [g7.n 0 (by decide), g7.p hr11 hr12, g7.b hr2 hr2n]; rfl)) (by first | rfl | simp only [g7.n 0 (by decide), g7.p hr11 hr12, g7.b hr2 hr2n] | (simp only [g7.n 0 (by decide), g7.p hr11 hr12, g7.b hr2 hr2n]; rfl)) rfl ?_
  refine m_istore (lv' := [(5, .int x11), (4, .int (v 2 7)), (0, .ref (ad3 0)), (1, .ref (ad3 r1)), (2, .ref (ad3 r2)), (3, .int a3)]) C dX3_fillFile_15 (by decide) rfl ?_
  refine m_iload C dX3_fillFile_17 0 rfl ?_
  refine m_iconst (v := (-1)) C dX3_fillFile_19 (by decide) ?_
  refine m_icmp_ne (tgt := 33) C dX3_fillFile_20 (by decide) (fun c12 => ?_) (fun c12 => ?_)
  · have h := h.2 c12
    refine m_aload_n C dX3_fillFile_33 rfl 2 rfl ?_
    refine m_get (T := TX3) (N := 8) C hiX3_fillFile_X3 0 gp_0 rfl 1 (by decide) (by decide +kernel) rfl dX3_fillFile_34 ?_
    refine m_getN (host := "CutYard") (T := TX2) (N := 9) C hiX3_fillFile_X2 2 gp_2 rfl 7 (by decide) (by decide +kernel) rfl dX3_fillFile_37 ?_
    refine m_iload C dX3_fillFile_40 1 rfl ?_
    refine m_isub C dX3_fillFile_42 ?_
    refine m_istore (lv' := [(6, .int ((v2 2 7) - (v 2 7))), (5, .int x11), (4, .int (v 2 7)), (0, .ref (ad3 0)), (1, .ref (ad3 r1)), (2, .ref (ad3 r2)), (3, .int a3)]) C dX3_fillFile_43 (by decide) rfl ?_
    refine m_aload_n C dX3_fillFile_45 rfl 3 rfl ?_
    refine m_aload_n C dX3_fillFile_46 rfl 4 rfl ?_
    refine m_getN (host := "CutYard") (T := TX0) (N := 3) C hiX3_fillFile_X0 r1 (gp_C hr11 hr12) rfl 0 (by decide) (by decide +kernel) rfl dX3_fillFile_47 ?_
    refine m_aload_n C dX3_fillFile_50 rfl 4 rfl ?_
    refine m_getN (host := "CutYard") (T := TX0) (N := 3) C hiX3_fillFile_X0 r1 (gp_C hr11 hr12) rfl 1 (by decide) (by decide +kernel) rfl dX3_fillFile_51 ?_
    refine m_callV C (s_X3_giveBack l D cy ad3 ln1 v2 ou (r1 + 16) (v2 r1 1) (gIs_N hr11 hr12) h) (cwV 2 C.2.2.2.2.1 gX3_fillFile_X3_giveBack rfl rfl rfl (by decide +kernel) ⟨Nat.le_of_ble_eq_true rfl, Nat.le_of_ble_eq_true rfl⟩) 0 gp_0 rfl rfl rfl (Nat.le_of_ble_eq_true rfl) dX3_fillFile_54 ⟨k5, k6⟩ (fun r w1 h1 => ?_)
    obtain ⟨v14, rfl, h, rfl⟩ := h1
    refine mW.eq (st' := []) rfl rfl rfl rfl ?_
    refine m_aload_n C dX3_fillFile_57 rfl 4 rfl ?_
    refine m_aload_n C dX3_fillFile_58 rfl 3 rfl ?_
    refine m_get (T := TX3) (N := 8) C hiX3_fillFile_X3 0 gp_0 rfl 6 (by decide) (by decide +kernel) rfl dX3_fillFile_59 ?_
    refine m_iload C dX3_fillFile_62 1 rfl ?_
    refine m_iload_n C dX3_fillFile_64 rfl 6 rfl ?_
    obtain ⟨n23, en23, u1, u2, u3, u4, k19, k20, h⟩ := h
    have hM := s_become l D cy ad3 ln1 v14 ou r1 6 n23 a3 hr11 hr12 (by decide) u1 u2 u3 u4
    rw [← en23] at hM
    refine m_callV C hM (cwV 3 C.2.2.2.2.1 gX3_fillFile_X0_become rfl rfl rfl (by decide +kernel) ⟨Nat.le_of_ble_eq_true rfl, Nat.le_of_ble_eq_true rfl⟩) r1 (gp_C hr11 hr12) rfl rfl rfl (Nat.le_of_ble_eq_true rfl) dX3_fillFile_65 ⟨k19, k20⟩ (fun r w1 h1 => ?_)
    obtain ⟨rfl, q18, rfl⟩ := h1
    obtain ⟨ad17, ead17⟩ : ∃ z : Nat → Nat, z = va_up ad3 (r1 + 16) q18 := ⟨_, rfl⟩
    obtain ⟨ln15, eln15⟩ : ∃ z : Nat → Nat, z = va_up ln1 (r1 + 16) (bcL ln1 r1 n23) := ⟨_, rfl⟩
    obtain ⟨v16, ev16⟩ : ∃ z : gV, z = bcV ln1 v14 r1 6 n23 a3 := ⟨_, rfl⟩
    rw [← ead17, ← eln15, ← ev16]
    have h := h ln15 v16 eln15 ev16
    have g21 : gA ad3 ad17 := by rw [ead17]; exact gA.reN hr11 hr12
    have g22 : gA ad ad17 := gA.tr g8 g21
    refine mW.eq (lv' := [(6, .int ((v2 2 7) - (v 2 7))), (5, .int x11), (4, .int (v 2 7)), (0, .ref (ad17 0)), (1, .ref (ad17 r1)), (2, .ref (ad17 r2)), (3, .int a3)]) (st' := []) rfl (by first | rfl | simp only [g21.n 0 (by decide), g21.p hr11 hr12, g21.b hr2 hr2n] | (simp only [g21.n 0 (by decide), g21.p hr11 hr12, g21.b hr2 hr2n]; rfl)) (by first | rfl | simp only [g21.n 0 (by decide), g21.p hr11 hr12, g21.b hr2 hr2n] | (simp only [g21.n 0 (by decide), g21.p hr11 hr12, g21.b hr2 hr2n]; rfl)) rfl ?_
    refine m_aload_n C dX3_fillFile_68 rfl 3 rfl ?_
    refine m_iconst (v := 0) C dX3_fillFile_69 (by decide) ?_
    obtain ⟨v24, ev24⟩ : ∃ z : gV, z = va_up v16 0 (upd (v16 0) 4 0) := ⟨_, rfl⟩
    have h := h v24 ev24
    refine m_put (w' := gW cy ad17 ln15 v24 ou) (T := TX3) (N := 8) C hiX3_fillFile_X3 tyX3 tyX3_ok nmX3 0 gp_0 rfl 4 (by decide) (by decide +kernel) rfl rfl rfl (Nat.le_of_ble_eq_true rfl) dX3_fillFile_70 (by rw [ev24]; exact gW_set (k := 0) (by decide) rfl) ?_
    refine m_iload C dX3_fillFile_73 0 rfl ?_
    exact m_xr (m_iret C dX3_fillFile_75 k19 k20 ⟨_, _, _, _, rfl, h, rfl, g22⟩)
  · have h := h.1 c12
    obtain ⟨k25, k26, h⟩ := h
    exact m_throw (text := "more than 400 parts") C hl hT hX (by decide) (by decide +kernel) (by decide +kernel) (by decide) hxX3_fillFile_73 xB_3 hg_69_73 dX3_fillFile_23 dX3_fillFile_26 dX3_fillFile_27 dX3_fillFile_29 dX3_fillFile_32 (Nat.le_of_ble_eq_true rfl) (Nat.le_of_ble_eq_true rfl) k25 k26 k25 k26 ⟨_, _, _, h, rfl, g8⟩
theorem hiX3_store_X3 : ∀ w ∈ wsX30, w ∈ wsX3_store := by decide +kernel
def wp_X3_store (mc ms : Nat) (ln : Nat → Nat) (v : gV) (a1 : Int32) (post : Int32 → (Nat → Nat) → gV → Prop) (pex : String → (Nat → Nat) → gV → Prop) : Prop :=
  0 + 1 ≤ mc ∧ 0 + 6 ≤ ms ∧ wp_X3_fileAt ln v a1 (fun (v2 : gV) => (∃ (mc17 ms18 : Nat), (0 + 1) + mc17 ≤ mc ∧ (0 + 6) + ms18 ≤ ms ∧ wp_X3_fillFile mc17 ms18 ln v2 (14 + a1.toNatClampNeg % 16) 4 (v2 0 4) (fun (x19 : Int32) (ln9 : Nat → Nat) (v10 : gV) => (post x19 ln9 v10)) (fun E ln9 v9 => pex E ln9 v9))) (fun E v9 => pex E ln v9)
set_option maxHeartbeats 4000000 in
set_option maxRecDepth 100000 in
theorem s_X3_store (l : Launch) (D : va_G) (cy : Nat → ClassId) (sA ad ln : Nat → Nat) (v : gV) (ou : Nat → Int64) (mc ms : Nat) (a1 : Int32) (hl : l.stackTraces = false) {post : Int32 → (Nat → Nat) → gV → Prop} {pex : String → (Nat → Nat) → gV → Prop} (h : wp_X3_store mc ms ln v a1 post pex) : mX l D cy sA yX3_store wsX3_store 8 mc ms [.ref (ad 0), .int a1] (gW cy ad ln v ou) (fun r w1 => ∃ (x1 : Int32) (ad1 ln1 : Nat → Nat) (v1 : gV), r = some (.int x1) ∧ post x1 ln1 v1 ∧ w1 = gW cy ad1 ln1 v1 ou ∧ gA ad ad1) (fun E w1 => ∃ (ad1 ln1 : Nat → Nat) (v1 : gV), pex E ln1 v1 ∧ w1 = gW cy ad1 ln1 v1 ou ∧ gA ad ad1) := by
  unfold wp_X3_store at h
  refine mX.of (cc := cX3_store) (nL := 2) (ret0 := (some .int)) (by decide +kernel) rfl (Nat.le_of_ble_eq_true rfl) ?_
  intro p e s m args below meth c A C hT hX
  refine mW.sub (lv' := [(0, .ref (ad 0)), (1, .int a1)]) [0, 1] rfl ?_
  refine m_aload_n C dX3_store_0 rfl 0 rfl ?_
  refine m_aload_n C dX3_store_1 rfl 0 rfl ?_
  refine m_iload_n C dX3_store_2 rfl 1 rfl ?_
  obtain ⟨k5, k6, h⟩ := h
  refine m_callVX C hT hX (s_X3_fileAt l D cy sA ad ln v ou a1 hl h) (cwV 1 C.2.2.2.2.1 gX3_store_X3_fileAt rfl rfl rfl (by decide +kernel) ⟨Nat.le_of_ble_eq_true rfl, Nat.le_of_ble_eq_true rfl⟩) 0 gp_0 rfl rfl rfl (Nat.le_of_ble_eq_true rfl) dX3_store_3 ⟨k5, k6⟩ ⟨k5, k6⟩ (fun E w1 q => by obtain ⟨v9, h9, e9⟩ := q; exact ⟨_, _, v9, h9, e9, gA.rf⟩) (fun r w1 h1 => ?_)
  obtain ⟨v2, rfl, h, rfl⟩ := h1
  refine mW.eq (st' := [.ref (ad (14 + a1.toNatClampNeg % 16)), .ref (ad 0)]) rfl rfl rfl rfl ?_
  refine m_aload_n C dX3_store_6 rfl 0 rfl ?_
  refine m_get (T := TX3) (N := 8) C hiX3_store_X3 0 gp_0 rfl 3 (by decide) (by decide +kernel) rfl dX3_store_7 ?_
  refine m_aload_n C dX3_store_10 rfl 0 rfl ?_
  refine m_get (T := TX3) (N := 8) C hiX3_store_X3 0 gp_0 rfl 4 (by decide) (by decide +kernel) rfl dX3_store_11 ?_
  obtain ⟨mc17, ms18, k13, k14, h⟩ := h
  refine m_callVX C hT hX (s_X3_fillFile l D cy sA ad ln v2 ou mc17 ms18 (14 + a1.toNatClampNeg % 16) 4 (v2 0 4) (gC_lo _) (gC_hi _) (by decide) (by decide) hl h) (cwV 3 C.2.2.2.2.1 gX3_store_X3_fillFile rfl rfl rfl (by decide +kernel) ⟨Nat.le_of_ble_eq_true rfl, Nat.le_of_ble_eq_true rfl⟩) 0 gp_0 rfl rfl rfl (Nat.le_of_ble_eq_true rfl) dX3_store_14 ⟨k13, k14⟩ ⟨k13, k14⟩ (fun E w1 q => by obtain ⟨ad9, ln9, v9, h9, e9, g9⟩ := q; exact ⟨ad9, ln9, v9, h9, e9, gA.tr gA.rf g9⟩) (fun r w1 h1 => ?_)
  obtain ⟨x19, ad11, ln9, v10, rfl, h, rfl, g15⟩ := h1
  have g16 : gA ad ad11 := gA.tr gA.rf g15
  refine mW.eq (lv' := [(0, .ref (ad11 0)), (1, .int a1)]) (st' := [.int x19]) rfl (by first | rfl | simp only [g15.n 0 (by decide)] | (simp only [g15.n 0 (by decide)]; rfl)) (by first | rfl | simp only [g15.n 0 (by decide)] | (simp only [g15.n 0 (by decide)]; rfl)) rfl ?_
  exact m_xr (m_iret C dX3_store_17 k13 k14 ⟨_, _, _, _, rfl, h, rfl, g16⟩)
theorem hiX3_edit_X0 : ∀ w ∈ wsX00, w ∈ wsX3_edit := by decide +kernel
theorem hiX3_edit_X3 : ∀ w ∈ wsX30, w ∈ wsX3_edit := by decide +kernel
theorem hxX3_edit_52 : ∀ w ∈ (vx_atS "CutYard" 52 "java/lang/IllegalArgumentException" xN).filter goodWord, w ∈ wsX3_edit := by decide +kernel
theorem hxX3_edit_73 : ∀ w ∈ (vx_atS "CutYard" 73 "java/lang/UnsupportedOperationException" xN).filter goodWord, w ∈ wsX3_edit := by decide +kernel
def wp_X3_edit (mc ms : Nat) (ln : Nat → Nat) (v : gV) (a1 : Int32) (a2 : Int32) (a3 : Int32) (post : Int32 → (Nat → Nat) → gV → Prop) (pex : String → (Nat → Nat) → gV → Prop) : Prop :=
  0 + 1 ≤ mc ∧ 0 + 6 ≤ ms ∧ wp_X3_fileAt ln v a1 (fun (v2 : gV) => (((a2 < 0) → ((0 + 1) + 1 ≤ mc ∧ (0 + 6) + 6 ≤ ms ∧ pex "java/lang/IllegalArgumentException" ln v2)) ∧ (¬ (a2 < 0) → ((((v2 (14 + a1.toNatClampNeg % 16) 2) < a2) → ((0 + 1) + 1 ≤ mc ∧ (0 + 6) + 6 ≤ ms ∧ pex "java/lang/IllegalArgumentException" ln v2)) ∧ (¬ ((v2 (14 + a1.toNatClampNeg % 16) 2) < a2) → (((a3 < 0) → ((0 + 1) + 1 ≤ mc ∧ (0 + 6) + 6 ≤ ms ∧ pex "java/lang/IllegalArgumentException" ln v2)) ∧ (¬ (a3 < 0) → (((a3 ≤ ((v2 (14 + a1.toNatClampNeg % 16) 2) - a2)) → (∀ x19 : Int32, x19 = (((v2 (14 + a1.toNatClampNeg % 16) 2) - a3) + (v2 0 4)) → (((x19 ≤ 1500) → (wp_X3_layOut ln v2 (14 + a1.toNatClampNeg % 16) (fun (v22 : gV) => ((¬ (a2 + a3) < 0) ∧ ((¬ (a2 + (v22 0 4)) < 0) ∧ ((¬ (((v22 (14 + a1.toNatClampNeg % 16) 2) - a2) - a3) < 0) ∧ (((a2 + a3).toNatClampNeg + (((v22 (14 + a1.toNatClampNeg % 16) 2) - a2) - a3).toNatClampNeg ≤ ln 5) ∧ (((a2 + (v22 0 4)).toNatClampNeg + (((v22 (14 + a1.toNatClampNeg % 16) 2) - a2) - a3).toNatClampNeg ≤ ln 5) ∧ ((∀ i, i < (((v22 (14 + a1.toNatClampNeg % 16) 2) - a2) - a3).toNatClampNeg → fits .byte (.int (v22 5 ((a2 + a3).toNatClampNeg + i))) = true) ∧ (∀ v23 : gV, v23 = va_up v22 5 (va_cpy (v22 5) (v22 5) (a2 + a3).toNatClampNeg (a2 + (v22 0 4)).toNatClampNeg (((v22 (14 + a1.toNatClampNeg % 16) 2) - a2) - a3).toNatClampNeg) → ((¬ (0 : Int32) < 0) ∧ ((¬ a2 < 0) ∧ ((¬ (v23 0 4) < 0) ∧ (((0 : Int32).toNatClampNeg + (v23 0 4).toNatClampNeg ≤ ln 4) ∧ ((a2.toNatClampNeg + (v23 0 4).toNatClampNeg ≤ ln 5) ∧ ((∀ i, i < (v23 0 4).toNatClampNeg → fits .byte (.int (v23 4 ((0 : Int32).toNatClampNeg + i))) = true) ∧ (∀ v30 : gV, v30 = va_up v23 5 (va_cpy (v23 4) (v23 5) (0 : Int32).toNatClampNeg a2.toNatClampNeg (v23 0 4).toNatClampNeg) → (∃ (mc45 ms46 : Nat), (0 + 1) + mc45 ≤ mc ∧ (0 + 6) + ms46 ≤ ms ∧ wp_X3_fillFile mc45 ms46 ln v30 (14 + a1.toNatClampNeg % 16) 5 x19 (fun (x47 : Int32) (ln37 : Nat → Nat) (v38 : gV) => (post x47 ln37 v38)) (fun E ln9 v9 => pex E ln9 v9))))))))))))))))))) ∧ (¬ (x19 ≤ 1500) → ((0 + 1) + 1 ≤ mc ∧ (0 + 6) + 6 ≤ ms ∧ pex "java/lang/UnsupportedOperationException" ln v2))))) ∧ (¬ (a3 ≤ ((v2 (14 + a1.toNatClampNeg % 16) 2) - a2)) → ((0 + 1) + 1 ≤ mc ∧ (0 + 6) + 6 ≤ ms ∧ pex "java/lang/IllegalArgumentException" ln v2)))))))))) (fun E v9 => pex E ln v9)
set_option maxHeartbeats 4000000 in
set_option maxRecDepth 100000 in
theorem s_X3_edit (l : Launch) (D : va_G) (cy : Nat → ClassId) (sA ad ln : Nat → Nat) (v : gV) (ou : Nat → Int64) (mc ms : Nat) (a1 : Int32) (a2 : Int32) (a3 : Int32) (hl : l.stackTraces = false) {post : Int32 → (Nat → Nat) → gV → Prop} {pex : String → (Nat → Nat) → gV → Prop} (h : wp_X3_edit mc ms ln v a1 a2 a3 post pex) : mX l D cy sA yX3_edit wsX3_edit 8 mc ms [.ref (ad 0), .int a1, .int a2, .int a3] (gW cy ad ln v ou) (fun r w1 => ∃ (x1 : Int32) (ad1 ln1 : Nat → Nat) (v1 : gV), r = some (.int x1) ∧ post x1 ln1 v1 ∧ w1 = gW cy ad1 ln1 v1 ou ∧ gA ad ad1) (fun E w1 => ∃ (ad1 ln1 : Nat → Nat) (v1 : gV), pex E ln1 v1 ∧ w1 = gW cy ad1 ln1 v1 ou ∧ gA ad ad1) := by
  unfold wp_X3_edit at h
  refine mX.of (cc := cX3_edit) (nL := 6) (ret0 := (some .int)) (by decide +kernel) rfl (Nat.le_of_ble_eq_true rfl) ?_
  intro p e s m args below meth c A C hT hX
  refine mW.sub (lv' := [(0, .ref (ad 0)), (1, .int a1), (2, .int a2), (3, .int a3)]) [0, 1, 2, 3] rfl ?_
  refine m_aload_n C dX3_edit_0 rfl 0 rfl ?_
  refine m_iload_n C dX3_edit_1 rfl 1 rfl ?_
  obtain ⟨k5, k6, h⟩ := h
  refine m_callVX C hT hX (s_X3_fileAt l D cy sA ad ln v ou a1 hl h) (cwV 1 C.2.2.2.2.1 gX3_edit_X3_fileAt rfl rfl rfl (by decide +kernel) ⟨Nat.le_of_ble_eq_true rfl, Nat.le_of_ble_eq_true rfl⟩) 0 gp_0 rfl rfl rfl (Nat.le_of_ble_eq_true rfl) dX3_edit_2 ⟨k5, k6⟩ ⟨k5, k6⟩ (fun E w1 q => by obtain ⟨v9, h9, e9⟩ := q; exact ⟨_, _, v9, h9, e9, gA.rf⟩) (fun r w1 h1 => ?_)
  obtain ⟨v2, rfl, h, rfl⟩ := h1
  refine mW.eq (st' := [.ref (ad (14 + a1.toNatClampNeg % 16))]) rfl rfl rfl rfl ?_
  refine m_astore (lv' := [(4, .ref (ad (14 + a1.toNatClampNeg % 16))), (0, .ref (ad 0)), (1, .int a1), (2, .int a2), (3, .int a3)]) C dX3_edit_5 (by decide) rfl ?_
  refine m_iload_n C dX3_edit_7 rfl 3 rfl ?_
  refine m_if_lt (tgt := 35) C dX3_edit_8 (by decide) (fun c9 => ?_) (fun c9 => ?_)
  · have h := h.1 c9
    obtain ⟨k10, k11, h⟩ := h
    exact m_throw (text := "the file has no such bytes") C hl hT hX (by decide) (by decide +kernel) (by decide +kernel) (by decide) hxX3_edit_52 xB_1 hg_48_52 dX3_edit_35 dX3_edit_38 dX3_edit_39 dX3_edit_41 dX3_edit_44 (Nat.le_of_ble_eq_true rfl) (Nat.le_of_ble_eq_true rfl) k10 k11 k10 k11 ⟨_, _, _, h, rfl, gA.rf⟩
  · have h := h.2 c9
    refine m_iload_n C dX3_edit_11 rfl 3 rfl ?_
    refine m_aload C dX3_edit_12 0 rfl ?_
    refine m_getN (host := "CutYard") (T := TX0) (N := 3) C hiX3_edit_X0 (14 + a1.toNatClampNeg % 16) (gp_C (gC_lo _) (gC_hi _)) rfl 2 (by decide) (by decide +kernel) rfl dX3_edit_14 ?_
    refine m_icmp_gt (tgt := 35) C dX3_edit_17 (by decide) (fun c12 => ?_) (fun c12 => ?_)
    · have h := h.1 c12
      obtain ⟨k13, k14, h⟩ := h
      exact m_throw (text := "the file has no such bytes") C hl hT hX (by decide) (by decide +kernel) (by decide +kernel) (by decide) hxX3_edit_52 xB_1 hg_48_52 dX3_edit_35 dX3_edit_38 dX3_edit_39 dX3_edit_41 dX3_edit_44 (Nat.le_of_ble_eq_true rfl) (Nat.le_of_ble_eq_true rfl) k13 k14 k13 k14 ⟨_, _, _, h, rfl, gA.rf⟩
    · have h := h.2 c12
      refine m_iload_n C dX3_edit_20 rfl 4 rfl ?_
      refine m_if_lt (tgt := 35) C dX3_edit_21 (by decide) (fun c15 => ?_) (fun c15 => ?_)
      · have h := h.1 c15
        obtain ⟨k16, k17, h⟩ := h
        exact m_throw (text := "the file has no such bytes") C hl hT hX (by decide) (by decide +kernel) (by decide +kernel) (by decide) hxX3_edit_52 xB_1 hg_48_52 dX3_edit_35 dX3_edit_38 dX3_edit_39 dX3_edit_41 dX3_edit_44 (Nat.le_of_ble_eq_true rfl) (Nat.le_of_ble_eq_true rfl) k16 k17 k16 k17 ⟨_, _, _, h, rfl, gA.rf⟩
      · have h := h.2 c15
        refine m_iload_n C dX3_edit_24 rfl 4 rfl ?_
        refine m_aload C dX3_edit_25 0 rfl ?_
        refine m_getN (host := "CutYard") (T := TX0) (N := 3) C hiX3_edit_X0 (14 + a1.toNatClampNeg % 16) (gp_C (gC_lo _) (gC_hi _)) rfl 2 (by decide) (by decide +kernel) rfl dX3_edit_27 ?_
        refine m_iload_n C dX3_edit_30 rfl 3 rfl ?_
        refine m_isub C dX3_edit_31 ?_
        refine m_icmp_le (tgt := 45) C dX3_edit_32 (by decide) (fun c18 => ?_) (fun c18 => ?_)
        · have h := h.1 c18
          refine m_aload C dX3_edit_45 0 rfl ?_
          refine m_getN (host := "CutYard") (T := TX0) (N := 3) C hiX3_edit_X0 (14 + a1.toNatClampNeg % 16) (gp_C (gC_lo _) (gC_hi _)) rfl 2 (by decide) (by decide +kernel) rfl dX3_edit_47 ?_
          refine m_iload_n C dX3_edit_50 rfl 4 rfl ?_
          refine m_isub C dX3_edit_51 ?_
          refine m_aload_n C dX3_edit_52 rfl 1 rfl ?_
          refine m_get (T := TX3) (N := 8) C hiX3_edit_X3 0 gp_0 rfl 4 (by decide) (by decide +kernel) rfl dX3_edit_53 ?_
          refine m_iadd C dX3_edit_56 ?_
          refine m_topi (fun x19 ex19 => ?_)
          have h := h x19 ex19
          refine m_istore (lv' := [(5, .int x19), (4, .ref (ad (14 + a1.toNatClampNeg % 16))), (0, .ref (ad 0)), (1, .int a1), (2, .int a2), (3, .int a3)]) C dX3_edit_57 (by decide) rfl ?_
          refine m_iload C dX3_edit_59 0 rfl ?_
          refine m_sipush (v := 1500) C dX3_edit_61 (by decide) ?_
          refine m_icmp_le (tgt := 77) C dX3_edit_64 (by decide) (fun c20 => ?_) (fun c20 => ?_)
          · have h := h.1 c20
            refine m_aload_n C dX3_edit_77 rfl 2 rfl ?_
            refine m_aload C dX3_edit_78 1 rfl ?_
            refine m_callV C (s_X3_layOut l D cy ad ln v2 ou (14 + a1.toNatClampNeg % 16) (gC_lo _) (gC_hi _) h) (cwV 1 C.2.2.2.2.1 gX3_edit_X3_layOut rfl rfl rfl (by decide +kernel) ⟨Nat.le_of_ble_eq_true rfl, Nat.le_of_ble_eq_true rfl⟩) 0 gp_0 rfl rfl rfl (Nat.le_of_ble_eq_true rfl) dX3_edit_80 ⟨k5, k6⟩ (fun r w1 h1 => ?_)
            obtain ⟨v22, rfl, h, rfl⟩ := h1
            refine mW.eq (st' := []) rfl rfl rfl rfl ?_
            refine m_aload_n C dX3_edit_83 rfl 2 rfl ?_
            refine m_get (T := TX3) (N := 8) C hiX3_edit_X3 0 gp_0 rfl 5 (by decide) (by decide +kernel) rfl dX3_edit_84 ?_
            refine m_iload_n C dX3_edit_87 rfl 4 rfl ?_
            refine m_iload_n C dX3_edit_88 rfl 5 rfl ?_
            refine m_iadd C dX3_edit_89 ?_
            refine m_aload_n C dX3_edit_90 rfl 2 rfl ?_
            refine m_get (T := TX3) (N := 8) C hiX3_edit_X3 0 gp_0 rfl 5 (by decide) (by decide +kernel) rfl dX3_edit_91 ?_
            refine m_iload_n C dX3_edit_94 rfl 4 rfl ?_
            refine m_aload_n C dX3_edit_95 rfl 2 rfl ?_
            refine m_get (T := TX3) (N := 8) C hiX3_edit_X3 0 gp_0 rfl 4 (by decide) (by decide +kernel) rfl dX3_edit_96 ?_
            refine m_iadd C dX3_edit_99 ?_
            refine m_aload C dX3_edit_100 1 rfl ?_
            refine m_getN (host := "CutYard") (T := TX0) (N := 3) C hiX3_edit_X0 (14 + a1.toNatClampNeg % 16) (gp_C (gC_lo _) (gC_hi _)) rfl 2 (by decide) (by decide +kernel) rfl dX3_edit_102 ?_
            refine m_iload_n C dX3_edit_105 rfl 4 rfl ?_
            refine m_isub C dX3_edit_106 ?_
            refine m_iload_n C dX3_edit_107 rfl 5 rfl ?_
            refine m_isub C dX3_edit_108 ?_
            obtain ⟨b24, h⟩ := h
            obtain ⟨b25, h⟩ := h
            obtain ⟨b26, h⟩ := h
            obtain ⟨b27, h⟩ := h
            obtain ⟨b28, h⟩ := h
            obtain ⟨b29, h⟩ := h
            obtain ⟨v23, ev23⟩ : ∃ z : gV, z = va_up v22 5 (va_cpy (v22 5) (v22 5) (a2 + a3).toNatClampNeg (a2 + (v22 0 4)).toNatClampNeg (((v22 (14 + a1.toNatClampNeg % 16) 2) - a2) - a3).toNatClampNeg) := ⟨_, rfl⟩
            have h := h v23 ev23
            refine m_copy (w' := gW cy ad ln v23 ou) C (by decide +kernel) (by decide +kernel) (by decide +kernel) (by decide +kernel) 5 5 1 1 (gp_B (by decide)) (gp_B (by decide)) rfl rfl rfl b24 b25 b26 b27 b28 b29 (Nat.le_of_ble_eq_true rfl) (Nat.le_of_ble_eq_true rfl) dX3_edit_109 (by rw [ev23]; exact gs_B (by decide)) ?_
            refine m_aload_n C dX3_edit_112 rfl 2 rfl ?_
            refine m_get (T := TX3) (N := 8) C hiX3_edit_X3 0 gp_0 rfl 3 (by decide) (by decide +kernel) rfl dX3_edit_113 ?_
            refine m_iconst (v := 0) C dX3_edit_116 (by decide) ?_
            refine m_aload_n C dX3_edit_117 rfl 2 rfl ?_
            refine m_get (T := TX3) (N := 8) C hiX3_edit_X3 0 gp_0 rfl 5 (by decide) (by decide +kernel) rfl dX3_edit_118 ?_
            refine m_iload_n C dX3_edit_121 rfl 4 rfl ?_
            refine m_aload_n C dX3_edit_122 rfl 2 rfl ?_
            refine m_get (T := TX3) (N := 8) C hiX3_edit_X3 0 gp_0 rfl 4 (by decide) (by decide +kernel) rfl dX3_edit_123 ?_
            obtain ⟨b31, h⟩ := h
            obtain ⟨b32, h⟩ := h
            obtain ⟨b33, h⟩ := h
            obtain ⟨b34, h⟩ := h
            obtain ⟨b35, h⟩ := h
            obtain ⟨b36, h⟩ := h
            obtain ⟨v30, ev30⟩ : ∃ z : gV, z = va_up v23 5 (va_cpy (v23 4) (v23 5) (0 : Int32).toNatClampNeg a2.toNatClampNeg (v23 0 4).toNatClampNeg) := ⟨_, rfl⟩
            have h := h v30 ev30
            refine m_copy (w' := gW cy ad ln v30 ou) C (by decide +kernel) (by decide +kernel) (by decide +kernel) (by decide +kernel) 4 5 1 1 (gp_B (by decide)) (gp_B (by decide)) rfl rfl rfl b31 b32 b33 b34 b35 b36 (Nat.le_of_ble_eq_true rfl) (Nat.le_of_ble_eq_true rfl) dX3_edit_126 (by rw [ev30]; exact gs_B (by decide)) ?_
            refine m_aload_n C dX3_edit_129 rfl 2 rfl ?_
            refine m_aload C dX3_edit_130 1 rfl ?_
            refine m_aload_n C dX3_edit_132 rfl 2 rfl ?_
            refine m_get (T := TX3) (N := 8) C hiX3_edit_X3 0 gp_0 rfl 5 (by decide) (by decide +kernel) rfl dX3_edit_133 ?_
            refine m_iload C dX3_edit_136 0 rfl ?_
            obtain ⟨mc45, ms46, k41, k42, h⟩ := h
            refine m_callVX C hT hX (s_X3_fillFile l D cy sA ad ln v30 ou mc45 ms46 (14 + a1.toNatClampNeg % 16) 5 x19 (gC_lo _) (gC_hi _) (by decide) (by decide) hl h) (cwV 3 C.2.2.2.2.1 gX3_edit_X3_fillFile rfl rfl rfl (by decide +kernel) ⟨Nat.le_of_ble_eq_true rfl, Nat.le_of_ble_eq_true rfl⟩) 0 gp_0 rfl rfl rfl (Nat.le_of_ble_eq_true rfl) dX3_edit_138 ⟨k41, k42⟩ ⟨k41, k42⟩ (fun E w1 q => by obtain ⟨ad9, ln9, v9, h9, e9, g9⟩ := q; exact ⟨ad9, ln9, v9, h9, e9, gA.tr gA.rf g9⟩) (fun r w1 h1 => ?_)
            obtain ⟨x47, ad39, ln37, v38, rfl, h, rfl, g43⟩ := h1
            have g44 : gA ad ad39 := gA.tr gA.rf g43
            refine mW.eq (lv' := [(5, .int x19), (4, .ref (ad39 (14 + a1.toNatClampNeg % 16))), (0, .ref (ad39 0)), (1, .int a1), (2, .int a2), (3, .int a3)]) (st' := [.int x47]) rfl (by first | rfl | simp only [g43.p (gC_lo _) (gC_hi _), g43.n 0 (by decide)] | (simp only [g43.p (gC_lo _) (gC_hi _), g43.n 0 (by decide)]; rfl)) (by first | rfl | simp only [g43.p (gC_lo _) (gC_hi _), g43.n 0 (by decide)] | (simp only [g43.p (gC_lo _) (gC_hi _), g43.n 0 (by decide)]; rfl)) rfl ?_
            exact m_xr (m_iret C dX3_edit_141 k41 k42 ⟨_, _, _, _, rfl, h, rfl, g44⟩)
          · have h := h.2 c20
            obtain ⟨k48, k49, h⟩ := h
            exact m_throw (text := "more than 1500 bytes in a file") C hl hT hX (by decide) (by decide +kernel) (by decide +kernel) (by decide) hxX3_edit_73 xB_3 hg_69_73 dX3_edit_67 dX3_edit_70 dX3_edit_71 dX3_edit_73 dX3_edit_76 (Nat.le_of_ble_eq_true rfl) (Nat.le_of_ble_eq_true rfl) k48 k49 k48 k49 ⟨_, _, _, h, rfl, gA.rf⟩
        · have h := h.2 c18
          obtain ⟨k50, k51, h⟩ := h
          exact m_throw (text := "the file has no such bytes") C hl hT hX (by decide) (by decide +kernel) (by decide +kernel) (by decide) hxX3_edit_52 xB_1 hg_48_52 dX3_edit_35 dX3_edit_38 dX3_edit_39 dX3_edit_41 dX3_edit_44 (Nat.le_of_ble_eq_true rfl) (Nat.le_of_ble_eq_true rfl) k50 k51 k50 k51 ⟨_, _, _, h, rfl, gA.rf⟩
theorem hiX3_copy_X0 : ∀ w ∈ wsX00, w ∈ wsX3_copy := by decide +kernel
theorem hiX3_copy_X3 : ∀ w ∈ wsX30, w ∈ wsX3_copy := by decide +kernel
def wp_X3_copy (mc ms : Nat) (ln : Nat → Nat) (v : gV) (a1 : Int32) (a2 : Int32) (post : (Nat → Nat) → gV → Prop) (pex : String → (Nat → Nat) → gV → Prop) : Prop :=
  0 + 1 ≤ mc ∧ 0 + 6 ≤ ms ∧ wp_X3_fileAt ln v a1 (fun (v2 : gV) => ((0 + 1) + 1 ≤ mc ∧ (0 + 6) + 6 ≤ ms ∧ wp_X3_fileAt ln v2 a2 (fun (v10 : gV) => (∃ I16 : Nat → Int32 → gV → Prop, (∃ n, I16 n 0 v10) ∧ ∀ (n : Nat) (x17 : Int32) (v18 : gV), I16 n x17 v18 → ((((v18 (14 + a1.toNatClampNeg % 16) 1) ≤ x17) → (wp_X3_giveBack ln v18 ((14 + a2.toNatClampNeg % 16) + 16) (v18 (14 + a2.toNatClampNeg % 16) 1) (fun (v21 : gV) => (∃ n30 : Nat, (v21 (14 + a1.toNatClampNeg % 16) 1) = nI n30 ∧ n30 ≤ ln ((14 + a1.toNatClampNeg % 16) + 16) ∧ n30 ≤ 1500 ∧ 16 ≤ ln ((14 + a2.toNatClampNeg % 16) + 16) ∧ ln ((14 + a2.toNatClampNeg % 16) + 16) ≤ 1500 ∧ ((0 + 1) + 1) + bcC ln (14 + a2.toNatClampNeg % 16) n30 ≤ mc ∧ ((0 + 6) + 6) + bcS ln (14 + a2.toNatClampNeg % 16) n30 ≤ ms ∧ ∀ (ln22 : Nat → Nat) (v23 : gV), ln22 = va_up ln ((14 + a2.toNatClampNeg % 16) + 16) (bcL ln (14 + a2.toNatClampNeg % 16) n30) → v23 = bcV ln v21 (14 + a2.toNatClampNeg % 16) ((14 + a1.toNatClampNeg % 16) + 16) n30 (v21 (14 + a1.toNatClampNeg % 16) 2) → (post ln22 v23))))) ∧ (¬ ((v18 (14 + a1.toNatClampNeg % 16) 1) ≤ x17) → (vp_in x17 (ln ((14 + a1.toNatClampNeg % 16) + 16)) ∧ (wp_X2_useAgain ln v18 (v18 ((14 + a1.toNatClampNeg % 16) + 16) x17.toNatClampNeg) (fun (v33 : gV) => (∃ n', n' < n ∧ I16 n' (x17 + 1) v33)))))))) (fun E v9 => pex E ln v9))) (fun E v9 => pex E ln v9)
set_option maxHeartbeats 4000000 in
set_option maxRecDepth 100000 in
theorem s_X3_copy (l : Launch) (D : va_G) (cy : Nat → ClassId) (sA ad ln : Nat → Nat) (v : gV) (ou : Nat → Int64) (mc ms : Nat) (a1 : Int32) (a2 : Int32) (hl : l.stackTraces = false) {post : (Nat → Nat) → gV → Prop} {pex : String → (Nat → Nat) → gV → Prop} (h : wp_X3_copy mc ms ln v a1 a2 post pex) : mX l D cy sA yX3_copy wsX3_copy 7 mc ms [.ref (ad 0), .int a1, .int a2] (gW cy ad ln v ou) (fun r w1 => ∃ (ad1 ln1 : Nat → Nat) (v1 : gV), r = none ∧ post ln1 v1 ∧ w1 = gW cy ad1 ln1 v1 ou ∧ gA ad ad1) (fun E w1 => ∃ (ad1 ln1 : Nat → Nat) (v1 : gV), pex E ln1 v1 ∧ w1 = gW cy ad1 ln1 v1 ou ∧ gA ad ad1) := by
  unfold wp_X3_copy at h
  refine mX.of (cc := cX3_copy) (nL := 6) (ret0 := none) (by decide +kernel) rfl (Nat.le_of_ble_eq_true rfl) ?_
  intro p e s m args below meth c A C hT hX
  refine mW.sub (lv' := [(0, .ref (ad 0)), (1, .int a1), (2, .int a2)]) [0, 1, 2] rfl ?_
  refine m_aload_n C dX3_copy_0 rfl 0 rfl ?_
  refine m_iload_n C dX3_copy_1 rfl 1 rfl ?_
  obtain ⟨k5, k6, h⟩ := h
  refine m_callVX C hT hX (s_X3_fileAt l D cy sA ad ln v ou a1 hl h) (cwV 1 C.2.2.2.2.1 gX3_copy_X3_fileAt rfl rfl rfl (by decide +kernel) ⟨Nat.le_of_ble_eq_true rfl, Nat.le_of_ble_eq_true rfl⟩) 0 gp_0 rfl rfl rfl (Nat.le_of_ble_eq_true rfl) dX3_copy_2 ⟨k5, k6⟩ ⟨k5, k6⟩ (fun E w1 q => by obtain ⟨v9, h9, e9⟩ := q; exact ⟨_, _, v9, h9, e9, gA.rf⟩) (fun r w1 h1 => ?_)
  obtain ⟨v2, rfl, h, rfl⟩ := h1
  refine mW.eq (st' := [.ref (ad (14 + a1.toNatClampNeg % 16))]) rfl rfl rfl rfl ?_
  refine m_astore_n (lv' := [(3, .ref (ad (14 + a1.toNatClampNeg % 16))), (0, .ref (ad 0)), (1, .int a1), (2, .int a2)]) C dX3_copy_5 rfl (by decide) rfl ?_
  refine m_aload_n C dX3_copy_6 rfl 1 rfl ?_
  refine m_iload_n C dX3_copy_7 rfl 3 rfl ?_
  obtain ⟨k13, k14, h⟩ := h
  refine m_callVX C hT hX (s_X3_fileAt l D cy sA ad ln v2 ou a2 hl h) (cwV 1 C.2.2.2.2.1 gX3_copy_X3_fileAt rfl rfl rfl (by decide +kernel) ⟨Nat.le_of_ble_eq_true rfl, Nat.le_of_ble_eq_true rfl⟩) 0 gp_0 rfl rfl rfl (Nat.le_of_ble_eq_true rfl) dX3_copy_8 ⟨k13, k14⟩ ⟨k13, k14⟩ (fun E w1 q => by obtain ⟨v9, h9, e9⟩ := q; exact ⟨_, _, v9, h9, e9, gA.rf⟩) (fun r w1 h1 => ?_)
  obtain ⟨v10, rfl, h, rfl⟩ := h1
  refine mW.eq (st' := [.ref (ad (14 + a2.toNatClampNeg % 16))]) rfl rfl rfl rfl ?_
  refine m_astore (lv' := [(4, .ref (ad (14 + a2.toNatClampNeg % 16))), (3, .ref (ad (14 + a1.toNatClampNeg % 16))), (0, .ref (ad 0)), (1, .int a1), (2, .int a2)]) C dX3_copy_11 (by decide) rfl ?_
  refine m_iconst (v := 0) C dX3_copy_13 (by decide) ?_
  refine m_istore (lv' := [(5, .int 0), (4, .ref (ad (14 + a2.toNatClampNeg % 16))), (3, .ref (ad (14 + a1.toNatClampNeg % 16))), (0, .ref (ad 0)), (1, .int a1), (2, .int a2)]) C dX3_copy_14 (by decide) rfl ?_
  obtain ⟨I16, ⟨n0, h0⟩, hI⟩ := h
  refine mW.sub (lv' := [(0, .ref (ad 0)), (1, .int a1), (2, .int a2), (3, .ref (ad (14 + a1.toNatClampNeg % 16))), (4, .ref (ad (14 + a2.toNatClampNeg % 16))), (5, .int 0)]) [3, 4, 5, 2, 1, 0] rfl ?_
  refine m_ind (σ := Int32 × gV) (fun n z => I16 n z.1 z.2) (fun z => gW cy ad ln z.2 ou) 16 (fun z => [(0, .ref (ad 0)), (1, .int a1), (2, .int a2), (3, .ref (ad (14 + a1.toNatClampNeg % 16))), (4, .ref (ad (14 + a2.toNatClampNeg % 16))), (5, .int z.1)]) ?_ n0 (0, v10) h0
  intro n z hi ih
  obtain ⟨x17, v18⟩ := z
  have h := hI n x17 v18 hi
  show mW _ _ _ _ _ _ _ _ _ _ _ _ _ _ _ _ (gW cy ad ln v18 ou) 16 [(0, .ref (ad 0)), (1, .int a1), (2, .int a2), (3, .ref (ad (14 + a1.toNatClampNeg % 16))), (4, .ref (ad (14 + a2.toNatClampNeg % 16))), (5, .int x17)] []
  refine m_iload C dX3_copy_16 5 rfl ?_
  refine m_aload_n C dX3_copy_18 rfl 3 rfl ?_
  refine m_getN (host := "CutYard") (T := TX0) (N := 3) C hiX3_copy_X0 (14 + a1.toNatClampNeg % 16) (gp_C (gC_lo _) (gC_hi _)) rfl 1 (by decide) (by decide +kernel) rfl dX3_copy_19 ?_
  refine m_icmp_ge (tgt := 45) C dX3_copy_22 (by decide) (fun c19 => ?_) (fun c19 => ?_)
  · have h := h.1 c19
    refine m_aload_n C dX3_copy_45 rfl 0 rfl ?_
    refine m_aload C dX3_copy_46 4 rfl ?_
    refine m_getN (host := "CutYard") (T := TX0) (N := 3) C hiX3_copy_X0 (14 + a2.toNatClampNeg % 16) (gp_C (gC_lo _) (gC_hi _)) rfl 0 (by decide) (by decide +kernel) rfl dX3_copy_48 ?_
    refine m_aload C dX3_copy_51 4 rfl ?_
    refine m_getN (host := "CutYard") (T := TX0) (N := 3) C hiX3_copy_X0 (14 + a2.toNatClampNeg % 16) (gp_C (gC_lo _) (gC_hi _)) rfl 1 (by decide) (by decide +kernel) rfl dX3_copy_53 ?_
    refine m_callV C (s_X3_giveBack l D cy ad ln v18 ou ((14 + a2.toNatClampNeg % 16) + 16) (v18 (14 + a2.toNatClampNeg % 16) 1) (gIs_N (gC_lo _) (gC_hi _)) h) (cwV 2 C.2.2.2.2.1 gX3_copy_X3_giveBack rfl rfl rfl (by decide +kernel) ⟨Nat.le_of_ble_eq_true rfl, Nat.le_of_ble_eq_true rfl⟩) 0 gp_0 rfl rfl rfl (Nat.le_of_ble_eq_true rfl) dX3_copy_56 ⟨k13, k14⟩ (fun r w1 h1 => ?_)
    obtain ⟨v21, rfl, h, rfl⟩ := h1
    refine mW.eq (st' := []) rfl rfl rfl rfl ?_
    refine m_aload C dX3_copy_59 4 rfl ?_
    refine m_aload_n C dX3_copy_61 rfl 3 rfl ?_
    refine m_getN (host := "CutYard") (T := TX0) (N := 3) C hiX3_copy_X0 (14 + a1.toNatClampNeg % 16) (gp_C (gC_lo _) (gC_hi _)) rfl 0 (by decide) (by decide +kernel) rfl dX3_copy_62 ?_
    refine m_aload_n C dX3_copy_65 rfl 3 rfl ?_
    refine m_getN (host := "CutYard") (T := TX0) (N := 3) C hiX3_copy_X0 (14 + a1.toNatClampNeg % 16) (gp_C (gC_lo _) (gC_hi _)) rfl 1 (by decide) (by decide +kernel) rfl dX3_copy_66 ?_
    refine m_aload_n C dX3_copy_69 rfl 3 rfl ?_
    refine m_getN (host := "CutYard") (T := TX0) (N := 3) C hiX3_copy_X0 (14 + a1.toNatClampNeg % 16) (gp_C (gC_lo _) (gC_hi _)) rfl 2 (by decide) (by decide +kernel) rfl dX3_copy_70 ?_
    obtain ⟨n30, en30, u1, u2, u3, u4, k26, k27, h⟩ := h
    have hM := s_become l D cy ad ln v21 ou (14 + a2.toNatClampNeg % 16) ((14 + a1.toNatClampNeg % 16) + 16) n30 (v21 (14 + a1.toNatClampNeg % 16) 2) (gC_lo _) (gC_hi _) (gIs_N (gC_lo _) (gC_hi _)) u1 u2 u3 u4
    rw [← en30] at hM
    refine m_callV C hM (cwV 3 C.2.2.2.2.1 gX3_copy_X0_become rfl rfl rfl (by decide +kernel) ⟨Nat.le_of_ble_eq_true rfl, Nat.le_of_ble_eq_true rfl⟩) (14 + a2.toNatClampNeg % 16) (gp_C (gC_lo _) (gC_hi _)) rfl rfl rfl (Nat.le_of_ble_eq_true rfl) dX3_copy_73 ⟨k26, k27⟩ (fun r w1 h1 => ?_)
    obtain ⟨rfl, q25, rfl⟩ := h1
    obtain ⟨ad24, ead24⟩ : ∃ z : Nat → Nat, z = va_up ad ((14 + a2.toNatClampNeg % 16) + 16) q25 := ⟨_, rfl⟩
    obtain ⟨ln22, eln22⟩ : ∃ z : Nat → Nat, z = va_up ln ((14 + a2.toNatClampNeg % 16) + 16) (bcL ln (14 + a2.toNatClampNeg % 16) n30) := ⟨_, rfl⟩
    obtain ⟨v23, ev23⟩ : ∃ z : gV, z = bcV ln v21 (14 + a2.toNatClampNeg % 16) ((14 + a1.toNatClampNeg % 16) + 16) n30 (v21 (14 + a1.toNatClampNeg % 16) 2) := ⟨_, rfl⟩
    rw [← ead24, ← eln22, ← ev23]
    have h := h ln22 v23 eln22 ev23
    have g28 : gA ad ad24 := by rw [ead24]; exact gA.reN (gC_lo _) (gC_hi _)
    have g29 : gA ad ad24 := gA.tr gA.rf g28
    refine mW.eq (lv' := [(0, .ref (ad24 0)), (1, .int a1), (2, .int a2), (3, .ref (ad24 (14 + a1.toNatClampNeg % 16))), (4, .ref (ad24 (14 + a2.toNatClampNeg % 16))), (5, .int x17)]) (st' := []) rfl (by first | rfl | simp only [g28.n 0 (by decide), g28.p (gC_lo _) (gC_hi _)] | (simp only [g28.n 0 (by decide), g28.p (gC_lo _) (gC_hi _)]; rfl)) (by first | rfl | simp only [g28.n 0 (by decide), g28.p (gC_lo _) (gC_hi _)] | (simp only [g28.n 0 (by decide), g28.p (gC_lo _) (gC_hi _)]; rfl)) rfl ?_
    exact m_xr (m_vret C dX3_copy_76 k26 k27 ⟨_, _, _, rfl, h, rfl, g29⟩)
  · have h := h.2 c19
    refine m_aload_n C dX3_copy_25 rfl 0 rfl ?_
    refine m_get (T := TX3) (N := 8) C hiX3_copy_X3 0 gp_0 rfl 1 (by decide) (by decide +kernel) rfl dX3_copy_26 ?_
    refine m_aload_n C dX3_copy_29 rfl 3 rfl ?_
    refine m_getN (host := "CutYard") (T := TX0) (N := 3) C hiX3_copy_X0 (14 + a1.toNatClampNeg % 16) (gp_C (gC_lo _) (gC_hi _)) rfl 0 (by decide) (by decide +kernel) rfl dX3_copy_30 ?_
    refine m_iload C dX3_copy_33 5 rfl ?_
    obtain ⟨b31, h⟩ := h
    refine m_iald C ((14 + a1.toNatClampNeg % 16) + 16) (gp_I (gIs_N (gC_lo _) (gC_hi _))) b31 dX3_copy_35 ?_
    refine m_callV C (s_X2_useAgain l D cy ad ln v18 ou (v18 ((14 + a1.toNatClampNeg % 16) + 16) x17.toNatClampNeg)  h) (cwV 1 C.2.2.2.2.1 gX3_copy_X2_useAgain rfl rfl rfl (by decide +kernel) ⟨Nat.le_of_ble_eq_true rfl, Nat.le_of_ble_eq_true rfl⟩) 2 gp_2 rfl rfl rfl (Nat.le_of_ble_eq_true rfl) dX3_copy_36 ⟨k13, k14⟩ (fun r w1 h1 => ?_)
    obtain ⟨v33, rfl, h, rfl⟩ := h1
    refine mW.eq (st' := []) rfl rfl rfl rfl ?_
    refine m_iinc (lv' := [(5, .int (x17 + 1)), (0, .ref (ad 0)), (1, .int a1), (2, .int a2), (3, .ref (ad (14 + a1.toNatClampNeg % 16))), (4, .ref (ad (14 + a2.toNatClampNeg % 16)))]) C dX3_copy_39 (k := 5) rfl rfl (by decide) rfl ?_
    refine m_goto (tgt := 16) C dX3_copy_42 (by decide) ?_
    obtain ⟨n34, hn, h⟩ := h
    exact mW.sub [1, 2, 3, 4, 5, 0] rfl (ih n34 ((x17 + 1), v33) hn h)
