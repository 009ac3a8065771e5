def lwp_begin (L : Nat) (xs : Nat → Int32) (ln : Nat → Nat) (v : gV) (ou : Nat → Int64) (x : Int32) (kc ks : Nat) (Bk : (Nat → Nat) → gV → (Nat → Int64) → Nat → Nat → Prop) : Prop :=
  vp_in (x + 1) L ∧ vp_in (x + 2) L ∧ vp_in (x + 3) L ∧ kc + 1 ≤ 601024 ∧ ks + 6 ≤ 7293034 ∧ wp_L_begin ln v ou (xs (x + 1).toNatClampNeg) (xs (x + 2).toNatClampNeg) (xs (x + 3).toNatClampNeg) (fun k v1 ou1 => wp_X4_begin ln v1 (xs (x + 1).toNatClampNeg) (xs (x + 2).toNatClampNeg) (xs (x + 3).toNatClampNeg) (fun v2 => v2 46 0 = k ∧ Bk ln v2 ou1 (kc + 1) (ks + 6)))
set_option maxHeartbeats 4000000 in
set_option maxRecDepth 100000 in
theorem law_begin {p : Program} {l : Launch} {e : Env} {s : State} {m : MethodId} {args : Array Value} {below : List Frame} {meth : Method} {c : Code} {D : va_G} {cy : Nat → ClassId} {sA : Nat → Nat} {A : Nat → Prop} {Q : State → Prop} {b L : Nat} {xs : Nat → Int32} (C : mC p s m args meth c D cy A cL_law 7 RL wsL_law ret) (hXs : va_X b L xs s s.heap) (hbl : b < s.heap.size) (hbA : ¬ A b) (hX : xK A sA s s.heap) (hC : cK s) (hl : l.stackTraces = false) (ad ln : Nat → Nat) (v : gV) (ou : Nat → Int64) (x : Int32) (kc ks : Nat) (Bk : (Nat → Nat) → gV → (Nat → Int64) → Nat → Nat → Prop) (h : lwp_begin L xs ln v ou x kc ks Bk)
    (kend : ∀ (ad1 ln1 : Nat → Nat) (v1 : gV) (ou1 : Nat → Int64) (kc1 ks1 : Nat), gA ad ad1 → Bk ln1 v1 ou1 kc1 ks1 → mW p l e room_1 s m args below meth c D A 7 kc1 ks1 Q (gW cy ad1 ln1 v1 ou1) 852 [(0, .ref b), (1, .ref (ad1 0)), (2, .ref (ad1 46)), (3, .ref (ad1 59)), (4, .int x)] []) : mW p l e room_1 s m args below meth c D A 7 kc ks Q (gW cy ad ln v ou) 100 [(0, .ref b), (1, .ref (ad 0)), (2, .ref (ad 46)), (3, .ref (ad 59)), (4, .int x)] [] := by
  unfold lwp_begin at h
  obtain ⟨b1, h⟩ := h
  obtain ⟨b2, h⟩ := h
  obtain ⟨b3, h⟩ := h
  obtain ⟨k1, k2, h⟩ := h
  refine m_aload_n C dL_law_100 rfl 1 rfl ?_
  refine m_aload_n C dL_law_101 rfl 0 rfl ?_
  refine m_iload C dL_law_102 4 rfl ?_
  refine m_iconst (v := 1) C dL_law_104 (by decide) ?_
  refine m_iadd C dL_law_105 ?_
  refine m_sld C hXs hbl hbA b1 dL_law_106 ?_
  refine m_aload_n C dL_law_107 rfl 0 rfl ?_
  refine m_iload C dL_law_108 4 rfl ?_
  refine m_iconst (v := 2) C dL_law_110 (by decide) ?_
  refine m_iadd C dL_law_111 ?_
  refine m_sld C hXs hbl hbA b2 dL_law_112 ?_
  refine m_aload_n C dL_law_113 rfl 0 rfl ?_
  refine m_iload C dL_law_114 4 rfl ?_
  refine m_iconst (v := 3) C dL_law_116 (by decide) ?_
  refine m_iadd C dL_law_117 ?_
  refine m_sld C hXs hbl hbA b3 dL_law_118 ?_
  refine m_callSL C hX hC (s_L_begin l D cy sA ad ln v ou (xs (x + 1).toNatClampNeg) (xs (x + 2).toNatClampNeg) (xs (x + 3).toNatClampNeg) hl h) (vx_cwSW 4 C.2.2.2.2.1 gL_law_L_begin rfl rfl rfl (by decide +kernel) ⟨Nat.le_of_ble_eq_true rfl, Nat.le_of_ble_eq_true rfl⟩) rfl rfl (Nat.le_of_ble_eq_true rfl) dL_law_119 ⟨k1, k2⟩ (fun r w1 h1 => ?_)
  obtain ⟨k, v1, ou1, rfl, h, rfl⟩ := h1
  refine mW.eq (st' := [.int k]) rfl rfl rfl rfl ?_
  refine m_istore (lv' := [(5, .int k), (0, .ref b), (1, .ref (ad 0)), (2, .ref (ad 46)), (3, .ref (ad 59)), (4, .int x)]) C dL_law_122 (by decide) rfl ?_
  refine m_aload_n C dL_law_124 rfl 3 rfl ?_
  refine m_aload_n C dL_law_125 rfl 1 rfl ?_
  refine m_iload C dL_law_126 5 rfl ?_
  refine m_iconst (v := 1) C dL_law_128 (by decide) ?_
  refine m_iadd C dL_law_129 ?_
  refine m_sld C hXs hbl hbA b1 dL_law_130 ?_
  refine m_aload_n C dL_law_131 rfl 1 rfl ?_
  refine m_iload C dL_law_132 5 rfl ?_
  refine m_iconst (v := 2) C dL_law_134 (by decide) ?_
  refine m_iadd C dL_law_135 ?_
  refine m_sld C hXs hbl hbA b2 dL_law_136 ?_
  refine m_aload_n C dL_law_137 rfl 1 rfl ?_
  refine m_iload C dL_law_138 5 rfl ?_
  refine m_iconst (v := 3) C dL_law_140 (by decide) ?_
  refine m_iadd C dL_law_141 ?_
  refine m_sld C hXs hbl hbA b3 dL_law_142 ?_
  refine m_callV C (s_X4_begin l D cy ad ln v1 ou1 (xs (x + 1).toNatClampNeg) (xs (x + 2).toNatClampNeg) (xs (x + 3).toNatClampNeg) h) (cwV 3 C.2.2.2.2.1 gL_law_X4_begin rfl rfl rfl (by decide +kernel) ⟨Nat.le_of_ble_eq_true rfl, Nat.le_of_ble_eq_true rfl⟩) 46 gp_46 rfl rfl rfl (Nat.le_of_ble_eq_true rfl) dL_law_143 ⟨k1, k2⟩ (fun r w1 h1 => ?_)
  obtain ⟨v2, rfl, h, rfl⟩ := h1
  refine mW.eq (st' := []) rfl rfl rfl rfl ?_
  refine m_aload_n C dL_law_146 rfl 3 rfl ?_
  refine m_callV C (p_X4_thrown l D cy ad ln v2 ou1) (cwV 0 C.2.2.2.2.1 gL_law_X4_thrown rfl rfl rfl (by decide +kernel) ⟨Nat.le_of_ble_eq_true rfl, Nat.le_of_ble_eq_true rfl⟩) 46 gp_46 rfl rfl rfl (Nat.le_of_ble_eq_true rfl) dL_law_147 ⟨k1, k2⟩ (fun r w1 h1 => ?_)
  obtain ⟨rfl, rfl⟩ := h1
  refine mW.eq (st' := [.int (v2 46 0)]) rfl rfl rfl rfl ?_
  refine m_iload C dL_law_150 0 rfl ?_
  refine m_icmp_eq (tgt := 157) C dL_law_152 (by decide) (fun c1 => ?_) (fun c1 => absurd h.1 c1)
  refine m_goto (tgt := 852) C dL_law_157 (by decide) ?_
  exact mW.sub [1, 2, 3, 4, 5] rfl (kend _ _ _ _ _ _ gA.rf h.2)
def lwp_put (L : Nat) (xs : Nat → Int32) (ln : Nat → Nat) (v : gV) (ou : Nat → Int64) (x : Int32) (kc ks : Nat) (Bk : (Nat → Nat) → gV → (Nat → Int64) → Nat → Nat → Prop) : Prop :=
  vp_in (x + 1) L ∧ vp_in (x + 2) L ∧ kc + 1 ≤ 601024 ∧ ks + 6 ≤ 7293034 ∧ wp_L_put ln v ou (xs (x + 1).toNatClampNeg) (xs (x + 2).toNatClampNeg) (fun k v1 ou1 => wp_X4_put ln v1 (xs (x + 1).toNatClampNeg) (xs (x + 2).toNatClampNeg) (fun bb v2 => v2 46 0 = k ∧ (k = 0 → ou1 0 = bb.toInt64) ∧ Bk ln v2 ou1 (kc + 1) (ks + 6)))
set_option maxHeartbeats 4000000 in
set_option maxRecDepth 100000 in
theorem law_put {p : Program} {l : Launch} {e : Env} {s : State} {m : MethodId} {args : Array Value} {below : List Frame} {meth : Method} {c : Code} {D : va_G} {cy : Nat → ClassId} {sA : Nat → Nat} {A : Nat → Prop} {Q : State → Prop} {b L : Nat} {xs : Nat → Int32} (C : mC p s m args meth c D cy A cL_law 7 RL wsL_law ret) (hXs : va_X b L xs s s.heap) (hbl : b < s.heap.size) (hbA : ¬ A b) (hX : xK A sA s s.heap) (hC : cK s) (hl : l.stackTraces = false) (ad ln : Nat → Nat) (v : gV) (ou : Nat → Int64) (x : Int32) (kc ks : Nat) (Bk : (Nat → Nat) → gV → (Nat → Int64) → Nat → Nat → Prop) (h : lwp_put L xs ln v ou x kc ks Bk)
    (kend : ∀ (ad1 ln1 : Nat → Nat) (v1 : gV) (ou1 : Nat → Int64) (kc1 ks1 : Nat), gA ad ad1 → Bk ln1 v1 ou1 kc1 ks1 → mW p l e room_1 s m args below meth c D A 7 kc1 ks1 Q (gW cy ad1 ln1 v1 ou1) 852 [(0, .ref b), (1, .ref (ad1 0)), (2, .ref (ad1 46)), (3, .ref (ad1 59)), (4, .int x)] []) : mW p l e room_1 s m args below meth c D A 7 kc ks Q (gW cy ad ln v ou) 160 [(0, .ref b), (1, .ref (ad 0)), (2, .ref (ad 46)), (3, .ref (ad 59)), (4, .int x)] [] := by
  unfold lwp_put at h
  obtain ⟨b1, h⟩ := h
  obtain ⟨b2, h⟩ := h
  obtain ⟨k1, k2, h⟩ := h
  refine m_aload_n C dL_law_160 rfl 1 rfl ?_
  refine m_aload_n C dL_law_161 rfl 0 rfl ?_
  refine m_iload C dL_law_162 4 rfl ?_
  refine m_iconst (v := 1) C dL_law_164 (by decide) ?_
  refine m_iadd C dL_law_165 ?_
  refine m_sld C hXs hbl hbA b1 dL_law_166 ?_
  refine m_aload_n C dL_law_167 rfl 0 rfl ?_
  refine m_iload C dL_law_168 4 rfl ?_
  refine m_iconst (v := 2) C dL_law_170 (by decide) ?_
  refine m_iadd C dL_law_171 ?_
  refine m_sld C hXs hbl hbA b2 dL_law_172 ?_
  refine m_aload_n C dL_law_173 rfl 3 rfl ?_
  refine m_callSL C hX hC (s_L_put l D cy sA ad ln v ou (xs (x + 1).toNatClampNeg) (xs (x + 2).toNatClampNeg) hl h) (vx_cwSW 4 C.2.2.2.2.1 gL_law_L_put rfl rfl rfl (by decide +kernel) ⟨Nat.le_of_ble_eq_true rfl, Nat.le_of_ble_eq_true rfl⟩) rfl rfl (Nat.le_of_ble_eq_true rfl) dL_law_174 ⟨k1, k2⟩ (fun r w1 h1 => ?_)
  obtain ⟨k, v1, ou1, rfl, h, rfl⟩ := h1
  refine mW.eq (st' := [.int k]) rfl rfl rfl rfl ?_
  refine m_istore (lv' := [(5, .int k), (0, .ref b), (1, .ref (ad 0)), (2, .ref (ad 46)), (3, .ref (ad 59)), (4, .int x)]) C dL_law_177 (by decide) rfl ?_
  refine m_aload_n C dL_law_179 rfl 3 rfl ?_
  refine m_aload_n C dL_law_180 rfl 1 rfl ?_
  refine m_iload C dL_law_181 5 rfl ?_
  refine m_iconst (v := 1) C dL_law_183 (by decide) ?_
  refine m_iadd C dL_law_184 ?_
  refine m_sld C hXs hbl hbA b1 dL_law_185 ?_
  refine m_aload_n C dL_law_186 rfl 1 rfl ?_
  refine m_iload C dL_law_187 5 rfl ?_
  refine m_iconst (v := 2) C dL_law_189 (by decide) ?_
  refine m_iadd C dL_law_190 ?_
  refine m_sld C hXs hbl hbA b2 dL_law_191 ?_
  refine m_callV C (s_X4_put l D cy ad ln v1 ou1 (xs (x + 1).toNatClampNeg) (xs (x + 2).toNatClampNeg) h) (cwV 2 C.2.2.2.2.1 gL_law_X4_put rfl rfl rfl (by decide +kernel) ⟨Nat.le_of_ble_eq_true rfl, Nat.le_of_ble_eq_true rfl⟩) 46 gp_46 rfl rfl rfl (Nat.le_of_ble_eq_true rfl) dL_law_192 ⟨k1, k2⟩ (fun r w1 h1 => ?_)
  obtain ⟨bb, v2, rfl, h, rfl⟩ := h1
  refine mW.eq (st' := [.int bb]) rfl rfl rfl rfl ?_
  refine m_istore (lv' := [(6, .int bb), (5, .int k), (0, .ref b), (1, .ref (ad 0)), (2, .ref (ad 46)), (3, .ref (ad 59)), (4, .int x)]) C dL_law_195 (by decide) rfl ?_
  refine m_aload_n C dL_law_197 rfl 4 rfl ?_
  refine m_callV C (p_X4_thrown l D cy ad ln v2 ou1) (cwV 0 C.2.2.2.2.1 gL_law_X4_thrown rfl rfl rfl (by decide +kernel) ⟨Nat.le_of_ble_eq_true rfl, Nat.le_of_ble_eq_true rfl⟩) 46 gp_46 rfl rfl rfl (Nat.le_of_ble_eq_true rfl) dL_law_198 ⟨k1, k2⟩ (fun r w1 h1 => ?_)
  obtain ⟨rfl, rfl⟩ := h1
  refine mW.eq (st' := [.int (v2 46 0)]) rfl rfl rfl rfl ?_
  refine m_iload C dL_law_201 1 rfl ?_
  refine m_icmp_eq (tgt := 208) C dL_law_203 (by decide) (fun c1 => ?_) (fun c1 => absurd h.1 c1)
  refine m_iload C dL_law_208 1 rfl ?_
  refine m_if_ne (tgt := 225) C dL_law_210 (by decide) (fun c2 => ?_) (fun c2 => ?_)
  · refine m_goto (tgt := 852) C dL_law_225 (by decide) ?_
    exact mW.sub [2, 3, 4, 5, 6] rfl (kend _ _ _ _ _ _ gA.rf h.2.2)
  · refine m_aload_n C dL_law_213 rfl 5 rfl ?_
    refine m_iconst (v := 0) C dL_law_214 (by decide) ?_
    refine m_lald C 59 gp_59 (by unfold vp_in; decide) dL_law_215 ?_
    refine m_iload C dL_law_216 0 rfl ?_
    refine m_i2l C dL_law_218 rfl ?_
    refine m_lcmp C dL_law_219 ?_
    refine m_if_eq (tgt := 225) C dL_law_220 (by decide) (fun c3 => ?_) (fun c3 => absurd (lg_cmp0 (h.2.1 c2)) c3)
    refine m_goto (tgt := 852) C dL_law_225 (by decide) ?_
    exact mW.sub [2, 3, 4, 5, 6] rfl (kend _ _ _ _ _ _ gA.rf h.2.2)
def lwp_store (L : Nat) (xs : Nat → Int32) (ln : Nat → Nat) (v : gV) (ou : Nat → Int64) (x : Int32) (kc ks : Nat) (Bk : (Nat → Nat) → gV → (Nat → Int64) → Nat → Nat → Prop) : Prop :=
  vp_in (x + 1) L ∧ ∃ m1 m2 : Nat, kc + m1 ≤ 601024 ∧ ks + m2 ≤ 7293034 ∧ wp_L_store m1 m2 ln v ou (xs (x + 1).toNatClampNeg) (fun k ln1 v1 ou1 => wp_X4_store ln1 v1 (xs (x + 1).toNatClampNeg) (fun bb v2 => v2 46 0 = k ∧ (k = 0 → ou1 0 = bb.toInt64) ∧ Bk ln1 v2 ou1 (kc + m1) (ks + m2)))
set_option maxHeartbeats 4000000 in
set_option maxRecDepth 100000 in
theorem law_store {p : Program} {l : Launch} {e : Env} {s : State} {m : MethodId} {args : Array Value} {below : List Frame} {meth : Method} {c : Code} {D : va_G} {cy : Nat → ClassId} {sA : Nat → Nat} {A : Nat → Prop} {Q : State → Prop} {b L : Nat} {xs : Nat → Int32} (C : mC p s m args meth c D cy A cL_law 7 RL wsL_law ret) (hXs : va_X b L xs s s.heap) (hbl : b < s.heap.size) (hbA : ¬ A b) (hX : xK A sA s s.heap) (hC : cK s) (hl : l.stackTraces = false) (ad ln : Nat → Nat) (v : gV) (ou : Nat → Int64) (x : Int32) (kc ks : Nat) (Bk : (Nat → Nat) → gV → (Nat → Int64) → Nat → Nat → Prop) (h : lwp_store L xs ln v ou x kc ks Bk)
    (kend : ∀ (ad1 ln1 : Nat → Nat) (v1 : gV) (ou1 : Nat → Int64) (kc1 ks1 : Nat), gA ad ad1 → Bk ln1 v1 ou1 kc1 ks1 → mW p l e room_1 s m args below meth c D A 7 kc1 ks1 Q (gW cy ad1 ln1 v1 ou1) 852 [(0, .ref b), (1, .ref (ad1 0)), (2, .ref (ad1 46)), (3, .ref (ad1 59)), (4, .int x)] []) : mW p l e room_1 s m args below meth c D A 7 kc ks Q (gW cy ad ln v ou) 228 [(0, .ref b), (1, .ref (ad 0)), (2, .ref (ad 46)), (3, .ref (ad 59)), (4, .int x)] [] := by
  unfold lwp_store at h
  obtain ⟨b1, h⟩ := h
  obtain ⟨m1, m2, k1, k2, h⟩ := h
  refine m_aload_n C dL_law_228 rfl 1 rfl ?_
  refine m_aload_n C dL_law_229 rfl 0 rfl ?_
  refine m_iload C dL_law_230 4 rfl ?_
  refine m_iconst (v := 1) C dL_law_232 (by decide) ?_
  refine m_iadd C dL_law_233 ?_
  refine m_sld C hXs hbl hbA b1 dL_law_234 ?_
  refine m_aload_n C dL_law_235 rfl 3 rfl ?_
  refine m_callSL C hX hC (s_L_store l D cy sA ad ln v ou m1 m2 (xs (x + 1).toNatClampNeg) hl h) (vx_cwSW 3 C.2.2.2.2.1 gL_law_L_store rfl rfl rfl (by decide +kernel) ⟨Nat.le_of_ble_eq_true rfl, Nat.le_of_ble_eq_true rfl⟩) rfl rfl (Nat.le_of_ble_eq_true rfl) dL_law_236 ⟨k1, k2⟩ (fun r w1 h1 => ?_)
  obtain ⟨k, ad1, ln1, v1, ou1, rfl, h, rfl, g1⟩ := h1
  refine mW.eq (lv' := [(0, .ref b), (1, .ref (ad1 0)), (2, .ref (ad1 46)), (3, .ref (ad1 59)), (4, .int x)]) (st' := [.int k]) rfl (by simp only [g1.n 0 (by decide), g1.n 46 (by decide), g1.n 59 (by decide)]) rfl rfl ?_
  refine m_istore (lv' := [(5, .int k), (0, .ref b), (1, .ref (ad1 0)), (2, .ref (ad1 46)), (3, .ref (ad1 59)), (4, .int x)]) C dL_law_239 (by decide) rfl ?_
  refine m_aload_n C dL_law_241 rfl 3 rfl ?_
  refine m_aload_n C dL_law_242 rfl 1 rfl ?_
  refine m_iload C dL_law_243 5 rfl ?_
  refine m_iconst (v := 1) C dL_law_245 (by decide) ?_
  refine m_iadd C dL_law_246 ?_
  refine m_sld C hXs hbl hbA b1 dL_law_247 ?_
  refine m_callV C (s_X4_store l D cy ad1 ln1 v1 ou1 (xs (x + 1).toNatClampNeg) h) (cwV 1 C.2.2.2.2.1 gL_law_X4_store rfl rfl rfl (by decide +kernel) ⟨Nat.le_of_ble_eq_true rfl, Nat.le_of_ble_eq_true rfl⟩) 46 gp_46 rfl rfl rfl (Nat.le_of_ble_eq_true rfl) dL_law_248 ⟨k1, k2⟩ (fun r w1 h1 => ?_)
  obtain ⟨bb, v2, rfl, h, rfl⟩ := h1
  refine mW.eq (st' := [.int bb]) rfl rfl rfl rfl ?_
  refine m_istore (lv' := [(6, .int bb), (5, .int k), (0, .ref b), (1, .ref (ad1 0)), (2, .ref (ad1 46)), (3, .ref (ad1 59)), (4, .int x)]) C dL_law_251 (by decide) rfl ?_
  refine m_aload_n C dL_law_253 rfl 4 rfl ?_
  refine m_callV C (p_X4_thrown l D cy ad1 ln1 v2 ou1) (cwV 0 C.2.2.2.2.1 gL_law_X4_thrown rfl rfl rfl (by decide +kernel) ⟨Nat.le_of_ble_eq_true rfl, Nat.le_of_ble_eq_true rfl⟩) 46 gp_46 rfl rfl rfl (Nat.le_of_ble_eq_true rfl) dL_law_254 ⟨k1, k2⟩ (fun r w1 h1 => ?_)
  obtain ⟨rfl, rfl⟩ := h1
  refine mW.eq (st' := [.int (v2 46 0)]) rfl rfl rfl rfl ?_
  refine m_iload C dL_law_257 1 rfl ?_
  refine m_icmp_eq (tgt := 264) C dL_law_259 (by decide) (fun c1 => ?_) (fun c1 => absurd h.1 c1)
  refine m_iload C dL_law_264 1 rfl ?_
  refine m_if_ne (tgt := 281) C dL_law_266 (by decide) (fun c2 => ?_) (fun c2 => ?_)
  · refine m_goto (tgt := 852) C dL_law_281 (by decide) ?_
    exact mW.sub [2, 3, 4, 5, 6] rfl (kend _ _ _ _ _ _ g1 h.2.2)
  · refine m_aload_n C dL_law_269 rfl 5 rfl ?_
    refine m_iconst (v := 0) C dL_law_270 (by decide) ?_
    refine m_lald C 59 gp_59 (by unfold vp_in; decide) dL_law_271 ?_
    refine m_iload C dL_law_272 0 rfl ?_
    refine m_i2l C dL_law_274 rfl ?_
    refine m_lcmp C dL_law_275 ?_
    refine m_if_eq (tgt := 281) C dL_law_276 (by decide) (fun c3 => ?_) (fun c3 => absurd (lg_cmp0 (h.2.1 c2)) c3)
    refine m_goto (tgt := 852) C dL_law_281 (by decide) ?_
    exact mW.sub [2, 3, 4, 5, 6] rfl (kend _ _ _ _ _ _ g1 h.2.2)
def lwp_edit (L : Nat) (xs : Nat → Int32) (ln : Nat → Nat) (v : gV) (ou : Nat → Int64) (x : Int32) (kc ks : Nat) (Bk : (Nat → Nat) → gV → (Nat → Int64) → Nat → Nat → Prop) : Prop :=
  vp_in (x + 1) L ∧ vp_in (x + 2) L ∧ vp_in (x + 3) L ∧ ∃ m1 m2 : Nat, kc + m1 ≤ 601024 ∧ ks + m2 ≤ 7293034 ∧ wp_L_edit m1 m2 ln v ou (xs (x + 1).toNatClampNeg) (xs (x + 2).toNatClampNeg) (xs (x + 3).toNatClampNeg) (fun k ln1 v1 ou1 => wp_X4_edit ln1 v1 (xs (x + 1).toNatClampNeg) (xs (x + 2).toNatClampNeg) (xs (x + 3).toNatClampNeg) (fun bb v2 => v2 46 0 = k ∧ (k = 0 → ou1 0 = bb.toInt64) ∧ Bk ln1 v2 ou1 (kc + m1) (ks + m2)))
set_option maxHeartbeats 4000000 in
set_option maxRecDepth 100000 in
theorem law_edit {p : Program} {l : Launch} {e : Env} {s : State} {m : MethodId} {args : Array Value} {below : List Frame} {meth : Method} {c : Code} {D : va_G} {cy : Nat → ClassId} {sA : Nat → Nat} {A : Nat → Prop} {Q : State → Prop} {b L : Nat} {xs : Nat → Int32} (C : mC p s m args meth c D cy A cL_law 7 RL wsL_law ret) (hXs : va_X b L xs s s.heap) (hbl : b < s.heap.size) (hbA : ¬ A b) (hX : xK A sA s s.heap) (hC : cK s) (hl : l.stackTraces = false) (ad ln : Nat → Nat) (v : gV) (ou : Nat → Int64) (x : Int32) (kc ks : Nat) (Bk : (Nat → Nat) → gV → (Nat → Int64) → Nat → Nat → Prop) (h : lwp_edit L xs ln v ou x kc ks Bk)
    (kend : ∀ (ad1 ln1 : Nat → Nat) (v1 : gV) (ou1 : Nat → Int64) (kc1 ks1 : Nat), gA ad ad1 → Bk ln1 v1 ou1 kc1 ks1 → mW p l e room_1 s m args below meth c D A 7 kc1 ks1 Q (gW cy ad1 ln1 v1 ou1) 852 [(0, .ref b), (1, .ref (ad1 0)), (2, .ref (ad1 46)), (3, .ref (ad1 59)), (4, .int x)] []) : mW p l e room_1 s m args below meth c D A 7 kc ks Q (gW cy ad ln v ou) 284 [(0, .ref b), (1, .ref (ad 0)), (2, .ref (ad 46)), (3, .ref (ad 59)), (4, .int x)] [] := by
  unfold lwp_edit at h
  obtain ⟨b1, h⟩ := h
  obtain ⟨b2, h⟩ := h
  obtain ⟨b3, h⟩ := h
  obtain ⟨m1, m2, k1, k2, h⟩ := h
  refine m_aload_n C dL_law_284 rfl 1 rfl ?_
  refine m_aload_n C dL_law_285 rfl 0 rfl ?_
  refine m_iload C dL_law_286 4 rfl ?_
  refine m_iconst (v := 1) C dL_law_288 (by decide) ?_
  refine m_iadd C dL_law_289 ?_
  refine m_sld C hXs hbl hbA b1 dL_law_290 ?_
  refine m_aload_n C dL_law_291 rfl 0 rfl ?_
  refine m_iload C dL_law_292 4 rfl ?_
  refine m_iconst (v := 2) C dL_law_294 (by decide) ?_
  refine m_iadd C dL_law_295 ?_
  refine m_sld C hXs hbl hbA b2 dL_law_296 ?_
  refine m_aload_n C dL_law_297 rfl 0 rfl ?_
  refine m_iload C dL_law_298 4 rfl ?_
  refine m_iconst (v := 3) C dL_law_300 (by decide) ?_
  refine m_iadd C dL_law_301 ?_
  refine m_sld C hXs hbl hbA b3 dL_law_302 ?_
  refine m_aload_n C dL_law_303 rfl 3 rfl ?_
  refine m_callSL C hX hC (s_L_edit l D cy sA ad ln v ou m1 m2 (xs (x + 1).toNatClampNeg) (xs (x + 2).toNatClampNeg) (xs (x + 3).toNatClampNeg) hl h) (vx_cwSW 5 C.2.2.2.2.1 gL_law_L_edit rfl rfl rfl (by decide +kernel) ⟨Nat.le_of_ble_eq_true rfl, Nat.le_of_ble_eq_true rfl⟩) rfl rfl (Nat.le_of_ble_eq_true rfl) dL_law_304 ⟨k1, k2⟩ (fun r w1 h1 => ?_)
  obtain ⟨k, ad1, ln1, v1, ou1, rfl, h, rfl, g1⟩ := h1
  refine mW.eq (lv' := [(0, .ref b), (1, .ref (ad1 0)), (2, .ref (ad1 46)), (3, .ref (ad1 59)), (4, .int x)]) (st' := [.int k]) rfl (by simp only [g1.n 0 (by decide), g1.n 46 (by decide), g1.n 59 (by decide)]) rfl rfl ?_
  refine m_istore (lv' := [(5, .int k), (0, .ref b), (1, .ref (ad1 0)), (2, .ref (ad1 46)), (3, .ref (ad1 59)), (4, .int x)]) C dL_law_307 (by decide) rfl ?_
  refine m_aload_n C dL_law_309 rfl 3 rfl ?_
  refine m_aload_n C dL_law_310 rfl 1 rfl ?_
  refine m_iload C dL_law_311 5 rfl ?_
  refine m_iconst (v := 1) C dL_law_313 (by decide) ?_
  refine m_iadd C dL_law_314 ?_
  refine m_sld C hXs hbl hbA b1 dL_law_315 ?_
  refine m_aload_n C dL_law_316 rfl 1 rfl ?_
  refine m_iload C dL_law_317 5 rfl ?_
  refine m_iconst (v := 2) C dL_law_319 (by decide) ?_
  refine m_iadd C dL_law_320 ?_
  refine m_sld C hXs hbl hbA b2 dL_law_321 ?_
  refine m_aload_n C dL_law_322 rfl 1 rfl ?_
  refine m_iload C dL_law_323 5 rfl ?_
  refine m_iconst (v := 3) C dL_law_325 (by decide) ?_
  refine m_iadd C dL_law_326 ?_
  refine m_sld C hXs hbl hbA b3 dL_law_327 ?_
  refine m_callV C (s_X4_edit l D cy ad1 ln1 v1 ou1 (xs (x + 1).toNatClampNeg) (xs (x + 2).toNatClampNeg) (xs (x + 3).toNatClampNeg) h) (cwV 3 C.2.2.2.2.1 gL_law_X4_edit rfl rfl rfl (by decide +kernel) ⟨Nat.le_of_ble_eq_true rfl, Nat.le_of_ble_eq_true rfl⟩) 46 gp_46 rfl rfl rfl (Nat.le_of_ble_eq_true rfl) dL_law_328 ⟨k1, k2⟩ (fun r w1 h1 => ?_)
  obtain ⟨bb, v2, rfl, h, rfl⟩ := h1
  refine mW.eq (st' := [.int bb]) rfl rfl rfl rfl ?_
  refine m_istore (lv' := [(6, .int bb), (5, .int k), (0, .ref b), (1, .ref (ad1 0)), (2, .ref (ad1 46)), (3, .ref (ad1 59)), (4, .int x)]) C dL_law_331 (by decide) rfl ?_
  refine m_aload_n C dL_law_333 rfl 4 rfl ?_
  refine m_callV C (p_X4_thrown l D cy ad1 ln1 v2 ou1) (cwV 0 C.2.2.2.2.1 gL_law_X4_thrown rfl rfl rfl (by decide +kernel) ⟨Nat.le_of_ble_eq_true rfl, Nat.le_of_ble_eq_true rfl⟩) 46 gp_46 rfl rfl rfl (Nat.le_of_ble_eq_true rfl) dL_law_334 ⟨k1, k2⟩ (fun r w1 h1 => ?_)
  obtain ⟨rfl, rfl⟩ := h1
  refine mW.eq (st' := [.int (v2 46 0)]) rfl rfl rfl rfl ?_
  refine m_iload C dL_law_337 1 rfl ?_
  refine m_icmp_eq (tgt := 344) C dL_law_339 (by decide) (fun c1 => ?_) (fun c1 => absurd h.1 c1)
  refine m_iload C dL_law_344 1 rfl ?_
  refine m_if_ne (tgt := 361) C dL_law_346 (by decide) (fun c2 => ?_) (fun c2 => ?_)
  · refine m_goto (tgt := 852) C dL_law_361 (by decide) ?_
    exact mW.sub [2, 3, 4, 5, 6] rfl (kend _ _ _ _ _ _ g1 h.2.2)
  · refine m_aload_n C dL_law_349 rfl 5 rfl ?_
    refine m_iconst (v := 0) C dL_law_350 (by decide) ?_
    refine m_lald C 59 gp_59 (by unfold vp_in; decide) dL_law_351 ?_
    refine m_iload C dL_law_352 0 rfl ?_
    refine m_i2l C dL_law_354 rfl ?_
    refine m_lcmp C dL_law_355 ?_
    refine m_if_eq (tgt := 361) C dL_law_356 (by decide) (fun c3 => ?_) (fun c3 => absurd (lg_cmp0 (h.2.1 c2)) c3)
    refine m_goto (tgt := 852) C dL_law_361 (by decide) ?_
    exact mW.sub [2, 3, 4, 5, 6] rfl (kend _ _ _ _ _ _ g1 h.2.2)
def lwp_copy (L : Nat) (xs : Nat → Int32) (ln : Nat → Nat) (v : gV) (ou : Nat → Int64) (x : Int32) (kc ks : Nat) (Bk : (Nat → Nat) → gV → (Nat → Int64) → Nat → Nat → Prop) : Prop :=
  vp_in (x + 1) L ∧ vp_in (x + 2) L ∧ ∃ m1 m2 : Nat, kc + m1 ≤ 601024 ∧ ks + m2 ≤ 7293034 ∧ wp_L_copy m1 m2 ln v ou (xs (x + 1).toNatClampNeg) (xs (x + 2).toNatClampNeg) (fun k ln1 v1 ou1 => wp_X4_copy ln1 v1 (xs (x + 1).toNatClampNeg) (xs (x + 2).toNatClampNeg) (fun v2 => v2 46 0 = k ∧ Bk ln1 v2 ou1 (kc + m1) (ks + m2)))
set_option maxHeartbeats 4000000 in
set_option maxRecDepth 100000 in
theorem law_copy {p : Program} {l : Launch} {e : Env} {s : State} {m : MethodId} {args : Array Value} {below : List Frame} {meth : Method} {c : Code} {D : va_G} {cy : Nat → ClassId} {sA : Nat → Nat} {A : Nat → Prop} {Q : State → Prop} {b L : Nat} {xs : Nat → Int32} (C : mC p s m args meth c D cy A cL_law 7 RL wsL_law ret) (hXs : va_X b L xs s s.heap) (hbl : b < s.heap.size) (hbA : ¬ A b) (hX : xK A sA s s.heap) (hC : cK s) (hl : l.stackTraces = false) (ad ln : Nat → Nat) (v : gV) (ou : Nat → Int64) (x : Int32) (kc ks : Nat) (Bk : (Nat → Nat) → gV → (Nat → Int64) → Nat → Nat → Prop) (h : lwp_copy L xs ln v ou x kc ks Bk)
    (kend : ∀ (ad1 ln1 : Nat → Nat) (v1 : gV) (ou1 : Nat → Int64) (kc1 ks1 : Nat), gA ad ad1 → Bk ln1 v1 ou1 kc1 ks1 → mW p l e room_1 s m args below meth c D A 7 kc1 ks1 Q (gW cy ad1 ln1 v1 ou1) 852 [(0, .ref b), (1, .ref (ad1 0)), (2, .ref (ad1 46)), (3, .ref (ad1 59)), (4, .int x)] []) : mW p l e room_1 s m args below meth c D A 7 kc ks Q (gW cy ad ln v ou) 364 [(0, .ref b), (1, .ref (ad 0)), (2, .ref (ad 46)), (3, .ref (ad 59)), (4, .int x)] [] := by
  unfold lwp_copy at h
  obtain ⟨b1, h⟩ := h
  obtain ⟨b2, h⟩ := h
  obtain ⟨m1, m2, k1, k2, h⟩ := h
  refine m_aload_n C dL_law_364 rfl 1 rfl ?_
  refine m_aload_n C dL_law_365 rfl 0 rfl ?_
  refine m_iload C dL_law_366 4 rfl ?_
  refine m_iconst (v := 1) C dL_law_368 (by decide) ?_
  refine m_iadd C dL_law_369 ?_
  refine m_sld C hXs hbl hbA b1 dL_law_370 ?_
  refine m_aload_n C dL_law_371 rfl 0 rfl ?_
  refine m_iload C dL_law_372 4 rfl ?_
  refine m_iconst (v := 2) C dL_law_374 (by decide) ?_
  refine m_iadd C dL_law_375 ?_
  refine m_sld C hXs hbl hbA b2 dL_law_376 ?_
  refine m_callSL C hX hC (s_L_copy l D cy sA ad ln v ou m1 m2 (xs (x + 1).toNatClampNeg) (xs (x + 2).toNatClampNeg) hl h) (vx_cwSW 3 C.2.2.2.2.1 gL_law_L_copy rfl rfl rfl (by decide +kernel) ⟨Nat.le_of_ble_eq_true rfl, Nat.le_of_ble_eq_true rfl⟩) rfl rfl (Nat.le_of_ble_eq_true rfl) dL_law_377 ⟨k1, k2⟩ (fun r w1 h1 => ?_)
  obtain ⟨k, ad1, ln1, v1, ou1, rfl, h, rfl, g1⟩ := h1
  refine mW.eq (lv' := [(0, .ref b), (1, .ref (ad1 0)), (2, .ref (ad1 46)), (3, .ref (ad1 59)), (4, .int x)]) (st' := [.int k]) rfl (by simp only [g1.n 0 (by decide), g1.n 46 (by decide), g1.n 59 (by decide)]) rfl rfl ?_
  refine m_istore (lv' := [(5, .int k), (0, .ref b), (1, .ref (ad1 0)), (2, .ref (ad1 46)), (3, .ref (ad1 59)), (4, .int x)]) C dL_law_380 (by decide) rfl ?_
  refine m_aload_n C dL_law_382 rfl 3 rfl ?_
  refine m_aload_n C dL_law_383 rfl 1 rfl ?_
  refine m_iload C dL_law_384 5 rfl ?_
  refine m_iconst (v := 1) C dL_law_386 (by decide) ?_
  refine m_iadd C dL_law_387 ?_
  refine m_sld C hXs hbl hbA b1 dL_law_388 ?_
  refine m_aload_n C dL_law_389 rfl 1 rfl ?_
  refine m_iload C dL_law_390 5 rfl ?_
  refine m_iconst (v := 2) C dL_law_392 (by decide) ?_
  refine m_iadd C dL_law_393 ?_
  refine m_sld C hXs hbl hbA b2 dL_law_394 ?_
  refine m_callV C (s_X4_copy l D cy ad1 ln1 v1 ou1 (xs (x + 1).toNatClampNeg) (xs (x + 2).toNatClampNeg) h) (cwV 2 C.2.2.2.2.1 gL_law_X4_copy rfl rfl rfl (by decide +kernel) ⟨Nat.le_of_ble_eq_true rfl, Nat.le_of_ble_eq_true rfl⟩) 46 gp_46 rfl rfl rfl (Nat.le_of_ble_eq_true rfl) dL_law_395 ⟨k1, k2⟩ (fun r w1 h1 => ?_)
  obtain ⟨v2, rfl, h, rfl⟩ := h1
  refine mW.eq (st' := []) rfl rfl rfl rfl ?_
  refine m_aload_n C dL_law_398 rfl 3 rfl ?_
  refine m_callV C (p_X4_thrown l D cy ad1 ln1 v2 ou1) (cwV 0 C.2.2.2.2.1 gL_law_X4_thrown rfl rfl rfl (by decide +kernel) ⟨Nat.le_of_ble_eq_true rfl, Nat.le_of_ble_eq_true rfl⟩) 46 gp_46 rfl rfl rfl (Nat.le_of_ble_eq_true rfl) dL_law_399 ⟨k1, k2⟩ (fun r w1 h1 => ?_)
  obtain ⟨rfl, rfl⟩ := h1
  refine mW.eq (st' := [.int (v2 46 0)]) rfl rfl rfl rfl ?_
  refine m_iload C dL_law_402 0 rfl ?_
  refine m_icmp_eq (tgt := 409) C dL_law_404 (by decide) (fun c1 => ?_) (fun c1 => absurd h.1 c1)
  refine m_goto (tgt := 852) C dL_law_409 (by decide) ?_
  exact mW.sub [1, 2, 3, 4, 5] rfl (kend _ _ _ _ _ _ g1 h.2)
def lwp_size (L : Nat) (xs : Nat → Int32) (ln : Nat → Nat) (v : gV) (ou : Nat → Int64) (x : Int32) (kc ks : Nat) (Bk : (Nat → Nat) → gV → (Nat → Int64) → Nat → Nat → Prop) : Prop :=
  vp_in (x + 1) L ∧ kc + 1 ≤ 601024 ∧ ks + 6 ≤ 7293034 ∧ wp_L_size ln v ou (xs (x + 1).toNatClampNeg) (fun k v1 ou1 => wp_X4_size ln v1 (xs (x + 1).toNatClampNeg) (fun bb v2 => v2 46 0 = k ∧ (k = 0 → ou1 0 = bb.toInt64) ∧ Bk ln v2 ou1 (kc + 1) (ks + 6)))
set_option maxHeartbeats 4000000 in
set_option maxRecDepth 100000 in
theorem law_size {p : Program} {l : Launch} {e : Env} {s : State} {m : MethodId} {args : Array Value} {below : List Frame} {meth : Method} {c : Code} {D : va_G} {cy : Nat → ClassId} {sA : Nat → Nat} {A : Nat → Prop} {Q : State → Prop} {b L : Nat} {xs : Nat → Int32} (C : mC p s m args meth c D cy A cL_law 7 RL wsL_law ret) (hXs : va_X b L xs s s.heap) (hbl : b < s.heap.size) (hbA : ¬ A b) (hX : xK A sA s s.heap) (hC : cK s) (hl : l.stackTraces = false) (ad ln : Nat → Nat) (v : gV) (ou : Nat → Int64) (x : Int32) (kc ks : Nat) (Bk : (Nat → Nat) → gV → (Nat → Int64) → Nat → Nat → Prop) (h : lwp_size L xs ln v ou x kc ks Bk)
    (kend : ∀ (ad1 ln1 : Nat → Nat) (v1 : gV) (ou1 : Nat → Int64) (kc1 ks1 : Nat), gA ad ad1 → Bk ln1 v1 ou1 kc1 ks1 → mW p l e room_1 s m args below meth c D A 7 kc1 ks1 Q (gW cy ad1 ln1 v1 ou1) 852 [(0, .ref b), (1, .ref (ad1 0)), (2, .ref (ad1 46)), (3, .ref (ad1 59)), (4, .int x)] []) : mW p l e room_1 s m args below meth c D A 7 kc ks Q (gW cy ad ln v ou) 412 [(0, .ref b), (1, .ref (ad 0)), (2, .ref (ad 46)), (3, .ref (ad 59)), (4, .int x)] [] := by
  unfold lwp_size at h
  obtain ⟨b1, h⟩ := h
  obtain ⟨k1, k2, h⟩ := h
  refine m_aload_n C dL_law_412 rfl 1 rfl ?_
  refine m_aload_n C dL_law_413 rfl 0 rfl ?_
  refine m_iload C dL_law_414 4 rfl ?_
  refine m_iconst (v := 1) C dL_law_416 (by decide) ?_
  refine m_iadd C dL_law_417 ?_
  refine m_sld C hXs hbl hbA b1 dL_law_418 ?_
  refine m_aload_n C dL_law_419 rfl 3 rfl ?_
  refine m_callSL C hX hC (s_L_size l D cy sA ad ln v ou (xs (x + 1).toNatClampNeg) hl h) (vx_cwSW 3 C.2.2.2.2.1 gL_law_L_size rfl rfl rfl (by decide +kernel) ⟨Nat.le_of_ble_eq_true rfl, Nat.le_of_ble_eq_true rfl⟩) rfl rfl (Nat.le_of_ble_eq_true rfl) dL_law_420 ⟨k1, k2⟩ (fun r w1 h1 => ?_)
  obtain ⟨k, v1, ou1, rfl, h, rfl⟩ := h1
  refine mW.eq (st' := [.int k]) rfl rfl rfl rfl ?_
  refine m_istore (lv' := [(5, .int k), (0, .ref b), (1, .ref (ad 0)), (2, .ref (ad 46)), (3, .ref (ad 59)), (4, .int x)]) C dL_law_423 (by decide) rfl ?_
  refine m_aload_n C dL_law_425 rfl 3 rfl ?_
  refine m_aload_n C dL_law_426 rfl 1 rfl ?_
  refine m_iload C dL_law_427 5 rfl ?_
  refine m_iconst (v := 1) C dL_law_429 (by decide) ?_
  refine m_iadd C dL_law_430 ?_
  refine m_sld C hXs hbl hbA b1 dL_law_431 ?_
  refine m_callV C (s_X4_size l D cy ad ln v1 ou1 (xs (x + 1).toNatClampNeg) h) (cwV 1 C.2.2.2.2.1 gL_law_X4_size rfl rfl rfl (by decide +kernel) ⟨Nat.le_of_ble_eq_true rfl, Nat.le_of_ble_eq_true rfl⟩) 46 gp_46 rfl rfl rfl (Nat.le_of_ble_eq_true rfl) dL_law_432 ⟨k1, k2⟩ (fun r w1 h1 => ?_)
  obtain ⟨bb, v2, rfl, h, rfl⟩ := h1
  refine mW.eq (st' := [.int bb]) rfl rfl rfl rfl ?_
  refine m_istore (lv' := [(6, .int bb), (5, .int k), (0, .ref b), (1, .ref (ad 0)), (2, .ref (ad 46)), (3, .ref (ad 59)), (4, .int x)]) C dL_law_435 (by decide) rfl ?_
  refine m_aload_n C dL_law_437 rfl 4 rfl ?_
  refine m_callV C (p_X4_thrown l D cy ad ln v2 ou1) (cwV 0 C.2.2.2.2.1 gL_law_X4_thrown rfl rfl rfl (by decide +kernel) ⟨Nat.le_of_ble_eq_true rfl, Nat.le_of_ble_eq_true rfl⟩) 46 gp_46 rfl rfl rfl (Nat.le_of_ble_eq_true rfl) dL_law_438 ⟨k1, k2⟩ (fun r w1 h1 => ?_)
  obtain ⟨rfl, rfl⟩ := h1
  refine mW.eq (st' := [.int (v2 46 0)]) rfl rfl rfl rfl ?_
  refine m_iload C dL_law_441 1 rfl ?_
  refine m_icmp_eq (tgt := 448) C dL_law_443 (by decide) (fun c1 => ?_) (fun c1 => absurd h.1 c1)
  refine m_iload C dL_law_448 1 rfl ?_
  refine m_if_ne (tgt := 465) C dL_law_450 (by decide) (fun c2 => ?_) (fun c2 => ?_)
  · refine m_goto (tgt := 852) C dL_law_465 (by decide) ?_
    exact mW.sub [2, 3, 4, 5, 6] rfl (kend _ _ _ _ _ _ gA.rf h.2.2)
  · refine m_aload_n C dL_law_453 rfl 5 rfl ?_
    refine m_iconst (v := 0) C dL_law_454 (by decide) ?_
    refine m_lald C 59 gp_59 (by unfold vp_in; decide) dL_law_455 ?_
    refine m_iload C dL_law_456 0 rfl ?_
    refine m_i2l C dL_law_458 rfl ?_
    refine m_lcmp C dL_law_459 ?_
    refine m_if_eq (tgt := 465) C dL_law_460 (by decide) (fun c3 => ?_) (fun c3 => absurd (lg_cmp0 (h.2.1 c2)) c3)
    refine m_goto (tgt := 852) C dL_law_465 (by decide) ?_
    exact mW.sub [2, 3, 4, 5, 6] rfl (kend _ _ _ _ _ _ gA.rf h.2.2)
def lwp_get (L : Nat) (xs : Nat → Int32) (ln : Nat → Nat) (v : gV) (ou : Nat → Int64) (x : Int32) (kc ks : Nat) (Bk : (Nat → Nat) → gV → (Nat → Int64) → Nat → Nat → Prop) : Prop :=
  vp_in (x + 1) L ∧ vp_in (x + 2) L ∧ kc + 2 ≤ 601024 ∧ ks + 12 ≤ 7293034 ∧ wp_L_get ln v ou (xs (x + 1).toNatClampNeg) (xs (x + 2).toNatClampNeg) (fun k v1 ou1 => wp_X4_get ln v1 (xs (x + 1).toNatClampNeg) (xs (x + 2).toNatClampNeg) (fun bb v2 => v2 46 0 = k ∧ (k = 0 → ou1 0 = bb.toInt64) ∧ Bk ln v2 ou1 (kc + 2) (ks + 12)))
set_option maxHeartbeats 4000000 in
set_option maxRecDepth 100000 in
theorem law_get {p : Program} {l : Launch} {e : Env} {s : State} {m : MethodId} {args : Array Value} {below : List Frame} {meth : Method} {c : Code} {D : va_G} {cy : Nat → ClassId} {sA : Nat → Nat} {A : Nat → Prop} {Q : State → Prop} {b L : Nat} {xs : Nat → Int32} (C : mC p s m args meth c D cy A cL_law 7 RL wsL_law ret) (hXs : va_X b L xs s s.heap) (hbl : b < s.heap.size) (hbA : ¬ A b) (hX : xK A sA s s.heap) (hC : cK s) (hl : l.stackTraces = false) (ad ln : Nat → Nat) (v : gV) (ou : Nat → Int64) (x : Int32) (kc ks : Nat) (Bk : (Nat → Nat) → gV → (Nat → Int64) → Nat → Nat → Prop) (h : lwp_get L xs ln v ou x kc ks Bk)
    (kend : ∀ (ad1 ln1 : Nat → Nat) (v1 : gV) (ou1 : Nat → Int64) (kc1 ks1 : Nat), gA ad ad1 → Bk ln1 v1 ou1 kc1 ks1 → mW p l e room_1 s m args below meth c D A 7 kc1 ks1 Q (gW cy ad1 ln1 v1 ou1) 852 [(0, .ref b), (1, .ref (ad1 0)), (2, .ref (ad1 46)), (3, .ref (ad1 59)), (4, .int x)] []) : mW p l e room_1 s m args below meth c D A 7 kc ks Q (gW cy ad ln v ou) 468 [(0, .ref b), (1, .ref (ad 0)), (2, .ref (ad 46)), (3, .ref (ad 59)), (4, .int x)] [] := by
  unfold lwp_get at h
  obtain ⟨b1, h⟩ := h
  obtain ⟨b2, h⟩ := h
  obtain ⟨k1, k2, h⟩ := h
  refine m_aload_n C dL_law_468 rfl 1 rfl ?_
  refine m_aload_n C dL_law_469 rfl 0 rfl ?_
  refine m_iload C dL_law_470 4 rfl ?_
  refine m_iconst (v := 1) C dL_law_472 (by decide) ?_
  refine m_iadd C dL_law_473 ?_
  refine m_sld C hXs hbl hbA b1 dL_law_474 ?_
  refine m_aload_n C dL_law_475 rfl 0 rfl ?_
  refine m_iload C dL_law_476 4 rfl ?_
  refine m_iconst (v := 2) C dL_law_478 (by decide) ?_
  refine m_iadd C dL_law_479 ?_
  refine m_sld C hXs hbl hbA b2 dL_law_480 ?_
  refine m_aload_n C dL_law_481 rfl 3 rfl ?_
  refine m_callSL C hX hC (s_L_get l D cy sA ad ln v ou (xs (x + 1).toNatClampNeg) (xs (x + 2).toNatClampNeg) hl h) (vx_cwSW 4 C.2.2.2.2.1 gL_law_L_get rfl rfl rfl (by decide +kernel) ⟨Nat.le_of_ble_eq_true rfl, Nat.le_of_ble_eq_true rfl⟩) rfl rfl (Nat.le_of_ble_eq_true rfl) dL_law_482 ⟨k1, k2⟩ (fun r w1 h1 => ?_)
  obtain ⟨k, v1, ou1, rfl, h, rfl⟩ := h1
  refine mW.eq (st' := [.int k]) rfl rfl rfl rfl ?_
  refine m_istore (lv' := [(5, .int k), (0, .ref b), (1, .ref (ad 0)), (2, .ref (ad 46)), (3, .ref (ad 59)), (4, .int x)]) C dL_law_485 (by decide) rfl ?_
  refine m_aload_n C dL_law_487 rfl 3 rfl ?_
  refine m_aload_n C dL_law_488 rfl 1 rfl ?_
  refine m_iload C dL_law_489 5 rfl ?_
  refine m_iconst (v := 1) C dL_law_491 (by decide) ?_
  refine m_iadd C dL_law_492 ?_
  refine m_sld C hXs hbl hbA b1 dL_law_493 ?_
  refine m_aload_n C dL_law_494 rfl 1 rfl ?_
  refine m_iload C dL_law_495 5 rfl ?_
  refine m_iconst (v := 2) C dL_law_497 (by decide) ?_
  refine m_iadd C dL_law_498 ?_
  refine m_sld C hXs hbl hbA b2 dL_law_499 ?_
  refine m_callV C (s_X4_get l D cy ad ln v1 ou1 (xs (x + 1).toNatClampNeg) (xs (x + 2).toNatClampNeg) h) (cwV 2 C.2.2.2.2.1 gL_law_X4_get rfl rfl rfl (by decide +kernel) ⟨Nat.le_of_ble_eq_true rfl, Nat.le_of_ble_eq_true rfl⟩) 46 gp_46 rfl rfl rfl (Nat.le_of_ble_eq_true rfl) dL_law_500 ⟨k1, k2⟩ (fun r w1 h1 => ?_)
  obtain ⟨bb, v2, rfl, h, rfl⟩ := h1
  refine mW.eq (st' := [.int bb]) rfl rfl rfl rfl ?_
  refine m_istore (lv' := [(6, .int bb), (5, .int k), (0, .ref b), (1, .ref (ad 0)), (2, .ref (ad 46)), (3, .ref (ad 59)), (4, .int x)]) C dL_law_503 (by decide) rfl ?_
  refine m_aload_n C dL_law_505 rfl 4 rfl ?_
  refine m_callV C (p_X4_thrown l D cy ad ln v2 ou1) (cwV 0 C.2.2.2.2.1 gL_law_X4_thrown rfl rfl rfl (by decide +kernel) ⟨Nat.le_of_ble_eq_true rfl, Nat.le_of_ble_eq_true rfl⟩) 46 gp_46 rfl rfl rfl (Nat.le_of_ble_eq_true rfl) dL_law_506 ⟨k1, k2⟩ (fun r w1 h1 => ?_)
  obtain ⟨rfl, rfl⟩ := h1
  refine mW.eq (st' := [.int (v2 46 0)]) rfl rfl rfl rfl ?_
  refine m_iload C dL_law_509 1 rfl ?_
  refine m_icmp_eq (tgt := 516) C dL_law_511 (by decide) (fun c1 => ?_) (fun c1 => absurd h.1 c1)
  refine m_iload C dL_law_516 1 rfl ?_
  refine m_if_ne (tgt := 533) C dL_law_518 (by decide) (fun c2 => ?_) (fun c2 => ?_)
  · refine m_goto (tgt := 852) C dL_law_533 (by decide) ?_
    exact mW.sub [2, 3, 4, 5, 6] rfl (kend _ _ _ _ _ _ gA.rf h.2.2)
  · refine m_aload_n C dL_law_521 rfl 5 rfl ?_
    refine m_iconst (v := 0) C dL_law_522 (by decide) ?_
    refine m_lald C 59 gp_59 (by unfold vp_in; decide) dL_law_523 ?_
    refine m_iload C dL_law_524 0 rfl ?_
    refine m_i2l C dL_law_526 rfl ?_
    refine m_lcmp C dL_law_527 ?_
    refine m_if_eq (tgt := 533) C dL_law_528 (by decide) (fun c3 => ?_) (fun c3 => absurd (lg_cmp0 (h.2.1 c2)) c3)
    refine m_goto (tgt := 852) C dL_law_533 (by decide) ?_
    exact mW.sub [2, 3, 4, 5, 6] rfl (kend _ _ _ _ _ _ gA.rf h.2.2)
def lwp_parts (L : Nat) (xs : Nat → Int32) (ln : Nat → Nat) (v : gV) (ou : Nat → Int64) (x : Int32) (kc ks : Nat) (Bk : (Nat → Nat) → gV → (Nat → Int64) → Nat → Nat → Prop) : Prop :=
  vp_in (x + 1) L ∧ kc + 1 ≤ 601024 ∧ ks + 6 ≤ 7293034 ∧ wp_L_parts ln v ou (xs (x + 1).toNatClampNeg) (fun k v1 ou1 => wp_X4_parts ln v1 (xs (x + 1).toNatClampNeg) (fun bb v2 => v2 46 0 = k ∧ (k = 0 → ou1 0 = bb.toInt64) ∧ Bk ln v2 ou1 (kc + 1) (ks + 6)))
set_option maxHeartbeats 4000000 in
set_option maxRecDepth 100000 in
theorem law_parts {p : Program} {l : Launch} {e : Env} {s : State} {m : MethodId} {args : Array Value} {below : List Frame} {meth : Method} {c : Code} {D : va_G} {cy : Nat → ClassId} {sA : Nat → Nat} {A : Nat → Prop} {Q : State → Prop} {b L : Nat} {xs : Nat → Int32} (C : mC p s m args meth c D cy A cL_law 7 RL wsL_law ret) (hXs : va_X b L xs s s.heap) (hbl : b < s.heap.size) (hbA : ¬ A b) (hX : xK A sA s s.heap) (hC : cK s) (hl : l.stackTraces = false) (ad ln : Nat → Nat) (v : gV) (ou : Nat → Int64) (x : Int32) (kc ks : Nat) (Bk : (Nat → Nat) → gV → (Nat → Int64) → Nat → Nat → Prop) (h : lwp_parts L xs ln v ou x kc ks Bk)
    (kend : ∀ (ad1 ln1 : Nat → Nat) (v1 : gV) (ou1 : Nat → Int64) (kc1 ks1 : Nat), gA ad ad1 → Bk ln1 v1 ou1 kc1 ks1 → mW p l e room_1 s m args below meth c D A 7 kc1 ks1 Q (gW cy ad1 ln1 v1 ou1) 852 [(0, .ref b), (1, .ref (ad1 0)), (2, .ref (ad1 46)), (3, .ref (ad1 59)), (4, .int x)] []) : mW p l e room_1 s m args below meth c D A 7 kc ks Q (gW cy ad ln v ou) 536 [(0, .ref b), (1, .ref (ad 0)), (2, .ref (ad 46)), (3, .ref (ad 59)), (4, .int x)] [] := by
  unfold lwp_parts at h
  obtain ⟨b1, h⟩ := h
  obtain ⟨k1, k2, h⟩ := h
  refine m_aload_n C dL_law_536 rfl 1 rfl ?_
  refine m_aload_n C dL_law_537 rfl 0 rfl ?_
  refine m_iload C dL_law_538 4 rfl ?_
  refine m_iconst (v := 1) C dL_law_540 (by decide) ?_
  refine m_iadd C dL_law_541 ?_
  refine m_sld C hXs hbl hbA b1 dL_law_542 ?_
  refine m_aload_n C dL_law_543 rfl 3 rfl ?_
  refine m_callSL C hX hC (s_L_parts l D cy sA ad ln v ou (xs (x + 1).toNatClampNeg) hl h) (vx_cwSW 3 C.2.2.2.2.1 gL_law_L_parts rfl rfl rfl (by decide +kernel) ⟨Nat.le_of_ble_eq_true rfl, Nat.le_of_ble_eq_true rfl⟩) rfl rfl (Nat.le_of_ble_eq_true rfl) dL_law_544 ⟨k1, k2⟩ (fun r w1 h1 => ?_)
  obtain ⟨k, v1, ou1, rfl, h, rfl⟩ := h1
  refine mW.eq (st' := [.int k]) rfl rfl rfl rfl ?_
  refine m_istore (lv' := [(5, .int k), (0, .ref b), (1, .ref (ad 0)), (2, .ref (ad 46)), (3, .ref (ad 59)), (4, .int x)]) C dL_law_547 (by decide) rfl ?_
  refine m_aload_n C dL_law_549 rfl 3 rfl ?_
  refine m_aload_n C dL_law_550 rfl 1 rfl ?_
  refine m_iload C dL_law_551 5 rfl ?_
  refine m_iconst (v := 1) C dL_law_553 (by decide) ?_
  refine m_iadd C dL_law_554 ?_
  refine m_sld C hXs hbl hbA b1 dL_law_555 ?_
  refine m_callV C (s_X4_parts l D cy ad ln v1 ou1 (xs (x + 1).toNatClampNeg) h) (cwV 1 C.2.2.2.2.1 gL_law_X4_parts rfl rfl rfl (by decide +kernel) ⟨Nat.le_of_ble_eq_true rfl, Nat.le_of_ble_eq_true rfl⟩) 46 gp_46 rfl rfl rfl (Nat.le_of_ble_eq_true rfl) dL_law_556 ⟨k1, k2⟩ (fun r w1 h1 => ?_)
  obtain ⟨bb, v2, rfl, h, rfl⟩ := h1
  refine mW.eq (st' := [.int bb]) rfl rfl rfl rfl ?_
  refine m_istore (lv' := [(6, .int bb), (5, .int k), (0, .ref b), (1, .ref (ad 0)), (2, .ref (ad 46)), (3, .ref (ad 59)), (4, .int x)]) C dL_law_559 (by decide) rfl ?_
  refine m_aload_n C dL_law_561 rfl 4 rfl ?_
  refine m_callV C (p_X4_thrown l D cy ad ln v2 ou1) (cwV 0 C.2.2.2.2.1 gL_law_X4_thrown rfl rfl rfl (by decide +kernel) ⟨Nat.le_of_ble_eq_true rfl, Nat.le_of_ble_eq_true rfl⟩) 46 gp_46 rfl rfl rfl (Nat.le_of_ble_eq_true rfl) dL_law_562 ⟨k1, k2⟩ (fun r w1 h1 => ?_)
  obtain ⟨rfl, rfl⟩ := h1
  refine mW.eq (st' := [.int (v2 46 0)]) rfl rfl rfl rfl ?_
  refine m_iload C dL_law_565 1 rfl ?_
  refine m_icmp_eq (tgt := 572) C dL_law_567 (by decide) (fun c1 => ?_) (fun c1 => absurd h.1 c1)
  refine m_iload C dL_law_572 1 rfl ?_
  refine m_if_ne (tgt := 589) C dL_law_574 (by decide) (fun c2 => ?_) (fun c2 => ?_)
  · refine m_goto (tgt := 852) C dL_law_589 (by decide) ?_
    exact mW.sub [2, 3, 4, 5, 6] rfl (kend _ _ _ _ _ _ gA.rf h.2.2)
  · refine m_aload_n C dL_law_577 rfl 5 rfl ?_
    refine m_iconst (v := 0) C dL_law_578 (by decide) ?_
    refine m_lald C 59 gp_59 (by unfold vp_in; decide) dL_law_579 ?_
    refine m_iload C dL_law_580 0 rfl ?_
    refine m_i2l C dL_law_582 rfl ?_
    refine m_lcmp C dL_law_583 ?_
    refine m_if_eq (tgt := 589) C dL_law_584 (by decide) (fun c3 => ?_) (fun c3 => absurd (lg_cmp0 (h.2.1 c2)) c3)
    refine m_goto (tgt := 852) C dL_law_589 (by decide) ?_
    exact mW.sub [2, 3, 4, 5, 6] rfl (kend _ _ _ _ _ _ gA.rf h.2.2)
def lwp_part (L : Nat) (xs : Nat → Int32) (ln : Nat → Nat) (v : gV) (ou : Nat → Int64) (x : Int32) (kc ks : Nat) (Bk : (Nat → Nat) → gV → (Nat → Int64) → Nat → Nat → Prop) : Prop :=
  vp_in (x + 1) L ∧ vp_in (x + 2) L ∧ kc + 2 ≤ 601024 ∧ ks + 12 ≤ 7293034 ∧ wp_L_part ln v ou (xs (x + 1).toNatClampNeg) (xs (x + 2).toNatClampNeg) (fun k v1 ou1 => wp_X4_part ln v1 (xs (x + 1).toNatClampNeg) (xs (x + 2).toNatClampNeg) (fun bb v2 => v2 46 0 = k ∧ (k = 0 → ou1 0 = bb.toInt64) ∧ Bk ln v2 ou1 (kc + 2) (ks + 12)))
set_option maxHeartbeats 4000000 in
set_option maxRecDepth 100000 in
theorem law_part {p : Program} {l : Launch} {e : Env} {s : State} {m : MethodId} {args : Array Value} {below : List Frame} {meth : Method} {c : Code} {D : va_G} {cy : Nat → ClassId} {sA : Nat → Nat} {A : Nat → Prop} {Q : State → Prop} {b L : Nat} {xs : Nat → Int32} (C : mC p s m args meth c D cy A cL_law 7 RL wsL_law ret) (hXs : va_X b L xs s s.heap) (hbl : b < s.heap.size) (hbA : ¬ A b) (hX : xK A sA s s.heap) (hC : cK s) (hl : l.stackTraces = false) (ad ln : Nat → Nat) (v : gV) (ou : Nat → Int64) (x : Int32) (kc ks : Nat) (Bk : (Nat → Nat) → gV → (Nat → Int64) → Nat → Nat → Prop) (h : lwp_part L xs ln v ou x kc ks Bk)
    (kend : ∀ (ad1 ln1 : Nat → Nat) (v1 : gV) (ou1 : Nat → Int64) (kc1 ks1 : Nat), gA ad ad1 → Bk ln1 v1 ou1 kc1 ks1 → mW p l e room_1 s m args below meth c D A 7 kc1 ks1 Q (gW cy ad1 ln1 v1 ou1) 852 [(0, .ref b), (1, .ref (ad1 0)), (2, .ref (ad1 46)), (3, .ref (ad1 59)), (4, .int x)] []) : mW p l e room_1 s m args below meth c D A 7 kc ks Q (gW cy ad ln v ou) 592 [(0, .ref b), (1, .ref (ad 0)), (2, .ref (ad 46)), (3, .ref (ad 59)), (4, .int x)] [] := by
  unfold lwp_part at h
  obtain ⟨b1, h⟩ := h
  obtain ⟨b2, h⟩ := h
  obtain ⟨k1, k2, h⟩ := h
  refine m_aload_n C dL_law_592 rfl 1 rfl ?_
  refine m_aload_n C dL_law_593 rfl 0 rfl ?_
  refine m_iload C dL_law_594 4 rfl ?_
  refine m_iconst (v := 1) C dL_law_596 (by decide) ?_
  refine m_iadd C dL_law_597 ?_
  refine m_sld C hXs hbl hbA b1 dL_law_598 ?_
  refine m_aload_n C dL_law_599 rfl 0 rfl ?_
  refine m_iload C dL_law_600 4 rfl ?_
  refine m_iconst (v := 2) C dL_law_602 (by decide) ?_
  refine m_iadd C dL_law_603 ?_
  refine m_sld C hXs hbl hbA b2 dL_law_604 ?_
  refine m_aload_n C dL_law_605 rfl 3 rfl ?_
  refine m_callSL C hX hC (s_L_part l D cy sA ad ln v ou (xs (x + 1).toNatClampNeg) (xs (x + 2).toNatClampNeg) hl h) (vx_cwSW 4 C.2.2.2.2.1 gL_law_L_part rfl rfl rfl (by decide +kernel) ⟨Nat.le_of_ble_eq_true rfl, Nat.le_of_ble_eq_true rfl⟩) rfl rfl (Nat.le_of_ble_eq_true rfl) dL_law_606 ⟨k1, k2⟩ (fun r w1 h1 => ?_)
  obtain ⟨k, v1, ou1, rfl, h, rfl⟩ := h1
  refine mW.eq (st' := [.int k]) rfl rfl rfl rfl ?_
  refine m_istore (lv' := [(5, .int k), (0, .ref b), (1, .ref (ad 0)), (2, .ref (ad 46)), (3, .ref (ad 59)), (4, .int x)]) C dL_law_609 (by decide) rfl ?_
  refine m_aload_n C dL_law_611 rfl 3 rfl ?_
  refine m_aload_n C dL_law_612 rfl 1 rfl ?_
  refine m_iload C dL_law_613 5 rfl ?_
  refine m_iconst (v := 1) C dL_law_615 (by decide) ?_
  refine m_iadd C dL_law_616 ?_
  refine m_sld C hXs hbl hbA b1 dL_law_617 ?_
  refine m_aload_n C dL_law_618 rfl 1 rfl ?_
  refine m_iload C dL_law_619 5 rfl ?_
  refine m_iconst (v := 2) C dL_law_621 (by decide) ?_
  refine m_iadd C dL_law_622 ?_
  refine m_sld C hXs hbl hbA b2 dL_law_623 ?_
  refine m_callV C (s_X4_part l D cy ad ln v1 ou1 (xs (x + 1).toNatClampNeg) (xs (x + 2).toNatClampNeg) h) (cwV 2 C.2.2.2.2.1 gL_law_X4_part rfl rfl rfl (by decide +kernel) ⟨Nat.le_of_ble_eq_true rfl, Nat.le_of_ble_eq_true rfl⟩) 46 gp_46 rfl rfl rfl (Nat.le_of_ble_eq_true rfl) dL_law_624 ⟨k1, k2⟩ (fun r w1 h1 => ?_)
  obtain ⟨bb, v2, rfl, h, rfl⟩ := h1
  refine mW.eq (st' := [.int bb]) rfl rfl rfl rfl ?_
  refine m_istore (lv' := [(6, .int bb), (5, .int k), (0, .ref b), (1, .ref (ad 0)), (2, .ref (ad 46)), (3, .ref (ad 59)), (4, .int x)]) C dL_law_627 (by decide) rfl ?_
  refine m_aload_n C dL_law_629 rfl 4 rfl ?_
  refine m_callV C (p_X4_thrown l D cy ad ln v2 ou1) (cwV 0 C.2.2.2.2.1 gL_law_X4_thrown rfl rfl rfl (by decide +kernel) ⟨Nat.le_of_ble_eq_true rfl, Nat.le_of_ble_eq_true rfl⟩) 46 gp_46 rfl rfl rfl (Nat.le_of_ble_eq_true rfl) dL_law_630 ⟨k1, k2⟩ (fun r w1 h1 => ?_)
  obtain ⟨rfl, rfl⟩ := h1
  refine mW.eq (st' := [.int (v2 46 0)]) rfl rfl rfl rfl ?_
  refine m_iload C dL_law_633 1 rfl ?_
  refine m_icmp_eq (tgt := 640) C dL_law_635 (by decide) (fun c1 => ?_) (fun c1 => absurd h.1 c1)
  refine m_iload C dL_law_640 1 rfl ?_
  refine m_if_ne (tgt := 657) C dL_law_642 (by decide) (fun c2 => ?_) (fun c2 => ?_)
  · refine m_goto (tgt := 852) C dL_law_657 (by decide) ?_
    exact mW.sub [2, 3, 4, 5, 6] rfl (kend _ _ _ _ _ _ gA.rf h.2.2)
  · refine m_aload_n C dL_law_645 rfl 5 rfl ?_
    refine m_iconst (v := 0) C dL_law_646 (by decide) ?_
    refine m_lald C 59 gp_59 (by unfold vp_in; decide) dL_law_647 ?_
    refine m_iload C dL_law_648 0 rfl ?_
    refine m_i2l C dL_law_650 rfl ?_
    refine m_lcmp C dL_law_651 ?_
    refine m_if_eq (tgt := 657) C dL_law_652 (by decide) (fun c3 => ?_) (fun c3 => absurd (lg_cmp0 (h.2.1 c2)) c3)
    refine m_goto (tgt := 852) C dL_law_657 (by decide) ?_
    exact mW.sub [2, 3, 4, 5, 6] rfl (kend _ _ _ _ _ _ gA.rf h.2.2)
def lwp_about (L : Nat) (xs : Nat → Int32) (ln : Nat → Nat) (v : gV) (ou : Nat → Int64) (x : Int32) (kc ks : Nat) (Bk : (Nat → Nat) → gV → (Nat → Int64) → Nat → Nat → Prop) : Prop :=
  vp_in (x + 1) L ∧ vp_in (x + 2) L ∧ kc + 1 ≤ 601024 ∧ ks + 6 ≤ 7293034 ∧ wp_L_about ln v ou (xs (x + 1).toNatClampNeg) (xs (x + 2).toNatClampNeg) (fun k v1 ou1 => wp_X4_about ln v1 (xs (x + 1).toNatClampNeg) (xs (x + 2).toNatClampNeg) (fun bb v2 => v2 46 0 = k ∧ (k = 0 → ou1 0 = bb.toInt64) ∧ Bk ln v2 ou1 (kc + 1) (ks + 6)))
set_option maxHeartbeats 4000000 in
set_option maxRecDepth 100000 in
theorem law_about {p : Program} {l : Launch} {e : Env} {s : State} {m : MethodId} {args : Array Value} {below : List Frame} {meth : Method} {c : Code} {D : va_G} {cy : Nat → ClassId} {sA : Nat → Nat} {A : Nat → Prop} {Q : State → Prop} {b L : Nat} {xs : Nat → Int32} (C : mC p s m args meth c D cy A cL_law 7 RL wsL_law ret) (hXs : va_X b L xs s s.heap) (hbl : b < s.heap.size) (hbA : ¬ A b) (hX : xK A sA s s.heap) (hC : cK s) (hl : l.stackTraces = false) (ad ln : Nat → Nat) (v : gV) (ou : Nat → Int64) (x : Int32) (kc ks : Nat) (Bk : (Nat → Nat) → gV → (Nat → Int64) → Nat → Nat → Prop) (h : lwp_about L xs ln v ou x kc ks Bk)
    (kend : ∀ (ad1 ln1 : Nat → Nat) (v1 : gV) (ou1 : Nat → Int64) (kc1 ks1 : Nat), gA ad ad1 → Bk ln1 v1 ou1 kc1 ks1 → mW p l e room_1 s m args below meth c D A 7 kc1 ks1 Q (gW cy ad1 ln1 v1 ou1) 852 [(0, .ref b), (1, .ref (ad1 0)), (2, .ref (ad1 46)), (3, .ref (ad1 59)), (4, .int x)] []) : mW p l e room_1 s m args below meth c D A 7 kc ks Q (gW cy ad ln v ou) 660 [(0, .ref b), (1, .ref (ad 0)), (2, .ref (ad 46)), (3, .ref (ad 59)), (4, .int x)] [] := by
  unfold lwp_about at h
  obtain ⟨b1, h⟩ := h
  obtain ⟨b2, h⟩ := h
  obtain ⟨k1, k2, h⟩ := h
  refine m_aload_n C dL_law_660 rfl 1 rfl ?_
  refine m_aload_n C dL_law_661 rfl 0 rfl ?_
  refine m_iload C dL_law_662 4 rfl ?_
  refine m_iconst (v := 1) C dL_law_664 (by decide) ?_
  refine m_iadd C dL_law_665 ?_
  refine m_sld C hXs hbl hbA b1 dL_law_666 ?_
  refine m_aload_n C dL_law_667 rfl 0 rfl ?_
  refine m_iload C dL_law_668 4 rfl ?_
  refine m_iconst (v := 2) C dL_law_670 (by decide) ?_
  refine m_iadd C dL_law_671 ?_
  refine m_sld C hXs hbl hbA b2 dL_law_672 ?_
  refine m_aload_n C dL_law_673 rfl 3 rfl ?_
  refine m_callSL C hX hC (s_L_about l D cy sA ad ln v ou (xs (x + 1).toNatClampNeg) (xs (x + 2).toNatClampNeg) hl h) (vx_cwSW 4 C.2.2.2.2.1 gL_law_L_about rfl rfl rfl (by decide +kernel) ⟨Nat.le_of_ble_eq_true rfl, Nat.le_of_ble_eq_true rfl⟩) rfl rfl (Nat.le_of_ble_eq_true rfl) dL_law_674 ⟨k1, k2⟩ (fun r w1 h1 => ?_)
  obtain ⟨k, v1, ou1, rfl, h, rfl⟩ := h1
  refine mW.eq (st' := [.int k]) rfl rfl rfl rfl ?_
  refine m_istore (lv' := [(5, .int k), (0, .ref b), (1, .ref (ad 0)), (2, .ref (ad 46)), (3, .ref (ad 59)), (4, .int x)]) C dL_law_677 (by decide) rfl ?_
  refine m_aload_n C dL_law_679 rfl 3 rfl ?_
  refine m_aload_n C dL_law_680 rfl 1 rfl ?_
  refine m_iload C dL_law_681 5 rfl ?_
  refine m_iconst (v := 1) C dL_law_683 (by decide) ?_
  refine m_iadd C dL_law_684 ?_
  refine m_sld C hXs hbl hbA b1 dL_law_685 ?_
  refine m_aload_n C dL_law_686 rfl 1 rfl ?_
  refine m_iload C dL_law_687 5 rfl ?_
  refine m_iconst (v := 2) C dL_law_689 (by decide) ?_
  refine m_iadd C dL_law_690 ?_
  refine m_sld C hXs hbl hbA b2 dL_law_691 ?_
  refine m_callV C (s_X4_about l D cy ad ln v1 ou1 (xs (x + 1).toNatClampNeg) (xs (x + 2).toNatClampNeg) h) (cwV 2 C.2.2.2.2.1 gL_law_X4_about rfl rfl rfl (by decide +kernel) ⟨Nat.le_of_ble_eq_true rfl, Nat.le_of_ble_eq_true rfl⟩) 46 gp_46 rfl rfl rfl (Nat.le_of_ble_eq_true rfl) dL_law_692 ⟨k1, k2⟩ (fun r w1 h1 => ?_)
  obtain ⟨bb, v2, rfl, h, rfl⟩ := h1
  refine mW.eq (st' := [.int bb]) rfl rfl rfl rfl ?_
  refine m_istore (lv' := [(6, .int bb), (5, .int k), (0, .ref b), (1, .ref (ad 0)), (2, .ref (ad 46)), (3, .ref (ad 59)), (4, .int x)]) C dL_law_695 (by decide) rfl ?_
  refine m_aload_n C dL_law_697 rfl 4 rfl ?_
  refine m_callV C (p_X4_thrown l D cy ad ln v2 ou1) (cwV 0 C.2.2.2.2.1 gL_law_X4_thrown rfl rfl rfl (by decide +kernel) ⟨Nat.le_of_ble_eq_true rfl, Nat.le_of_ble_eq_true rfl⟩) 46 gp_46 rfl rfl rfl (Nat.le_of_ble_eq_true rfl) dL_law_698 ⟨k1, k2⟩ (fun r w1 h1 => ?_)
  obtain ⟨rfl, rfl⟩ := h1
  refine mW.eq (st' := [.int (v2 46 0)]) rfl rfl rfl rfl ?_
  refine m_iload C dL_law_701 1 rfl ?_
  refine m_icmp_eq (tgt := 708) C dL_law_703 (by decide) (fun c1 => ?_) (fun c1 => absurd h.1 c1)
  refine m_iload C dL_law_708 1 rfl ?_
  refine m_if_ne (tgt := 725) C dL_law_710 (by decide) (fun c2 => ?_) (fun c2 => ?_)
  · refine m_goto (tgt := 852) C dL_law_725 (by decide) ?_
    exact mW.sub [2, 3, 4, 5, 6] rfl (kend _ _ _ _ _ _ gA.rf h.2.2)
  · refine m_aload_n C dL_law_713 rfl 5 rfl ?_
    refine m_iconst (v := 0) C dL_law_714 (by decide) ?_
    refine m_lald C 59 gp_59 (by unfold vp_in; decide) dL_law_715 ?_
    refine m_iload C dL_law_716 0 rfl ?_
    refine m_i2l C dL_law_718 rfl ?_
    refine m_lcmp C dL_law_719 ?_
    refine m_if_eq (tgt := 725) C dL_law_720 (by decide) (fun c3 => ?_) (fun c3 => absurd (lg_cmp0 (h.2.1 c2)) c3)
    refine m_goto (tgt := 852) C dL_law_725 (by decide) ?_
    exact mW.sub [2, 3, 4, 5, 6] rfl (kend _ _ _ _ _ _ gA.rf h.2.2)
def lwp_common (L : Nat) (xs : Nat → Int32) (ln : Nat → Nat) (v : gV) (ou : Nat → Int64) (x : Int32) (kc ks : Nat) (Bk : (Nat → Nat) → gV → (Nat → Int64) → Nat → Nat → Prop) : Prop :=
  vp_in (x + 1) L ∧ vp_in (x + 2) L ∧ kc + 2 ≤ 601024 ∧ ks + 12 ≤ 7293034 ∧ wp_L_common ln v ou (xs (x + 1).toNatClampNeg) (xs (x + 2).toNatClampNeg) (fun k v1 ou1 => wp_X4_common ln v1 (xs (x + 1).toNatClampNeg) (xs (x + 2).toNatClampNeg) (fun bb v2 => v2 46 0 = k ∧ (k = 0 → ou1 0 = bb.toInt64) ∧ Bk ln v2 ou1 (kc + 2) (ks + 12)))
set_option maxHeartbeats 4000000 in
set_option maxRecDepth 100000 in
theorem law_common {p : Program} {l : Launch} {e : Env} {s : State} {m : MethodId} {args : Array Value} {below : List Frame} {meth : Method} {c : Code} {D : va_G} {cy : Nat → ClassId} {sA : Nat → Nat} {A : Nat → Prop} {Q : State → Prop} {b L : Nat} {xs : Nat → Int32} (C : mC p s m args meth c D cy A cL_law 7 RL wsL_law ret) (hXs : va_X b L xs s s.heap) (hbl : b < s.heap.size) (hbA : ¬ A b) (hX : xK A sA s s.heap) (hC : cK s) (hl : l.stackTraces = false) (ad ln : Nat → Nat) (v : gV) (ou : Nat → Int64) (x : Int32) (kc ks : Nat) (Bk : (Nat → Nat) → gV → (Nat → Int64) → Nat → Nat → Prop) (h : lwp_common L xs ln v ou x kc ks Bk)
    (kend : ∀ (ad1 ln1 : Nat → Nat) (v1 : gV) (ou1 : Nat → Int64) (kc1 ks1 : Nat), gA ad ad1 → Bk ln1 v1 ou1 kc1 ks1 → mW p l e room_1 s m args below meth c D A 7 kc1 ks1 Q (gW cy ad1 ln1 v1 ou1) 852 [(0, .ref b), (1, .ref (ad1 0)), (2, .ref (ad1 46)), (3, .ref (ad1 59)), (4, .int x)] []) : mW p l e room_1 s m args below meth c D A 7 kc ks Q (gW cy ad ln v ou) 728 [(0, .ref b), (1, .ref (ad 0)), (2, .ref (ad 46)), (3, .ref (ad 59)), (4, .int x)] [] := by
  unfold lwp_common at h
  obtain ⟨b1, h⟩ := h
  obtain ⟨b2, h⟩ := h
  obtain ⟨k1, k2, h⟩ := h
  refine m_aload_n C dL_law_728 rfl 1 rfl ?_
  refine m_aload_n C dL_law_729 rfl 0 rfl ?_
  refine m_iload C dL_law_730 4 rfl ?_
  refine m_iconst (v := 1) C dL_law_732 (by decide) ?_
  refine m_iadd C dL_law_733 ?_
  refine m_sld C hXs hbl hbA b1 dL_law_734 ?_
  refine m_aload_n C dL_law_735 rfl 0 rfl ?_
  refine m_iload C dL_law_736 4 rfl ?_
  refine m_iconst (v := 2) C dL_law_738 (by decide) ?_
  refine m_iadd C dL_law_739 ?_
  refine m_sld C hXs hbl hbA b2 dL_law_740 ?_
  refine m_aload_n C dL_law_741 rfl 3 rfl ?_
  refine m_callSL C hX hC (s_L_common l D cy sA ad ln v ou (xs (x + 1).toNatClampNeg) (xs (x + 2).toNatClampNeg) hl h) (vx_cwSW 4 C.2.2.2.2.1 gL_law_L_common rfl rfl rfl (by decide +kernel) ⟨Nat.le_of_ble_eq_true rfl, Nat.le_of_ble_eq_true rfl⟩) rfl rfl (Nat.le_of_ble_eq_true rfl) dL_law_742 ⟨k1, k2⟩ (fun r w1 h1 => ?_)
  obtain ⟨k, v1, ou1, rfl, h, rfl⟩ := h1
  refine mW.eq (st' := [.int k]) rfl rfl rfl rfl ?_
  refine m_istore (lv' := [(5, .int k), (0, .ref b), (1, .ref (ad 0)), (2, .ref (ad 46)), (3, .ref (ad 59)), (4, .int x)]) C dL_law_745 (by decide) rfl ?_
  refine m_aload_n C dL_law_747 rfl 3 rfl ?_
  refine m_aload_n C dL_law_748 rfl 1 rfl ?_
  refine m_iload C dL_law_749 5 rfl ?_
  refine m_iconst (v := 1) C dL_law_751 (by decide) ?_
  refine m_iadd C dL_law_752 ?_
  refine m_sld C hXs hbl hbA b1 dL_law_753 ?_
  refine m_aload_n C dL_law_754 rfl 1 rfl ?_
  refine m_iload C dL_law_755 5 rfl ?_
  refine m_iconst (v := 2) C dL_law_757 (by decide) ?_
  refine m_iadd C dL_law_758 ?_
  refine m_sld C hXs hbl hbA b2 dL_law_759 ?_
  refine m_callV C (s_X4_common l D cy ad ln v1 ou1 (xs (x + 1).toNatClampNeg) (xs (x + 2).toNatClampNeg) h) (cwV 2 C.2.2.2.2.1 gL_law_X4_common rfl rfl rfl (by decide +kernel) ⟨Nat.le_of_ble_eq_true rfl, Nat.le_of_ble_eq_true rfl⟩) 46 gp_46 rfl rfl rfl (Nat.le_of_ble_eq_true rfl) dL_law_760 ⟨k1, k2⟩ (fun r w1 h1 => ?_)
  obtain ⟨bb, v2, rfl, h, rfl⟩ := h1
  refine mW.eq (st' := [.int bb]) rfl rfl rfl rfl ?_
  refine m_istore (lv' := [(6, .int bb), (5, .int k), (0, .ref b), (1, .ref (ad 0)), (2, .ref (ad 46)), (3, .ref (ad 59)), (4, .int x)]) C dL_law_763 (by decide) rfl ?_
  refine m_aload_n C dL_law_765 rfl 4 rfl ?_
  refine m_callV C (p_X4_thrown l D cy ad ln v2 ou1) (cwV 0 C.2.2.2.2.1 gL_law_X4_thrown rfl rfl rfl (by decide +kernel) ⟨Nat.le_of_ble_eq_true rfl, Nat.le_of_ble_eq_true rfl⟩) 46 gp_46 rfl rfl rfl (Nat.le_of_ble_eq_true rfl) dL_law_766 ⟨k1, k2⟩ (fun r w1 h1 => ?_)
  obtain ⟨rfl, rfl⟩ := h1
  refine mW.eq (st' := [.int (v2 46 0)]) rfl rfl rfl rfl ?_
  refine m_iload C dL_law_769 1 rfl ?_
  refine m_icmp_eq (tgt := 776) C dL_law_771 (by decide) (fun c1 => ?_) (fun c1 => absurd h.1 c1)
  refine m_iload C dL_law_776 1 rfl ?_
  refine m_if_ne (tgt := 793) C dL_law_778 (by decide) (fun c2 => ?_) (fun c2 => ?_)
  · refine m_goto (tgt := 852) C dL_law_793 (by decide) ?_
    exact mW.sub [2, 3, 4, 5, 6] rfl (kend _ _ _ _ _ _ gA.rf h.2.2)
  · refine m_aload_n C dL_law_781 rfl 5 rfl ?_
    refine m_iconst (v := 0) C dL_law_782 (by decide) ?_
    refine m_lald C 59 gp_59 (by unfold vp_in; decide) dL_law_783 ?_
    refine m_iload C dL_law_784 0 rfl ?_
    refine m_i2l C dL_law_786 rfl ?_
    refine m_lcmp C dL_law_787 ?_
    refine m_if_eq (tgt := 793) C dL_law_788 (by decide) (fun c3 => ?_) (fun c3 => absurd (lg_cmp0 (h.2.1 c2)) c3)
    refine m_goto (tgt := 852) C dL_law_793 (by decide) ?_
    exact mW.sub [2, 3, 4, 5, 6] rfl (kend _ _ _ _ _ _ gA.rf h.2.2)
def lwp_all (L : Nat) (xs : Nat → Int32) (ln : Nat → Nat) (v : gV) (ou : Nat → Int64) (x : Int32) (kc ks : Nat) (Bk : (Nat → Nat) → gV → (Nat → Int64) → Nat → Nat → Prop) : Prop :=
  vp_in (x + 1) L ∧ kc + 1 ≤ 601024 ∧ ks + 6 ≤ 7293034 ∧ wp_L_all ln v ou (xs (x + 1).toNatClampNeg) (fun k v1 ou1 => wp_X4_all ln v1 (xs (x + 1).toNatClampNeg) (fun bb v2 => v2 46 0 = k ∧ (k = 0 → ou1 0 = bb.toInt64) ∧ Bk ln v2 ou1 (kc + 1) (ks + 6)))
set_option maxHeartbeats 4000000 in
set_option maxRecDepth 100000 in
theorem law_all {p : Program} {l : Launch} {e : Env} {s : State} {m : MethodId} {args : Array Value} {below : List Frame} {meth : Method} {c : Code} {D : va_G} {cy : Nat → ClassId} {sA : Nat → Nat} {A : Nat → Prop} {Q : State → Prop} {b L : Nat} {xs : Nat → Int32} (C : mC p s m args meth c D cy A cL_law 7 RL wsL_law ret) (hXs : va_X b L xs s s.heap) (hbl : b < s.heap.size) (hbA : ¬ A b) (hX : xK A sA s s.heap) (hC : cK s) (hl : l.stackTraces = false) (ad ln : Nat → Nat) (v : gV) (ou : Nat → Int64) (x : Int32) (kc ks : Nat) (Bk : (Nat → Nat) → gV → (Nat → Int64) → Nat → Nat → Prop) (h : lwp_all L xs ln v ou x kc ks Bk)
    (kend : ∀ (ad1 ln1 : Nat → Nat) (v1 : gV) (ou1 : Nat → Int64) (kc1 ks1 : Nat), gA ad ad1 → Bk ln1 v1 ou1 kc1 ks1 → mW p l e room_1 s m args below meth c D A 7 kc1 ks1 Q (gW cy ad1 ln1 v1 ou1) 852 [(0, .ref b), (1, .ref (ad1 0)), (2, .ref (ad1 46)), (3, .ref (ad1 59)), (4, .int x)] []) : mW p l e room_1 s m args below meth c D A 7 kc ks Q (gW cy ad ln v ou) 796 [(0, .ref b), (1, .ref (ad 0)), (2, .ref (ad 46)), (3, .ref (ad 59)), (4, .int x)] [] := by
  unfold lwp_all at h
  obtain ⟨b1, h⟩ := h
  obtain ⟨k1, k2, h⟩ := h
  refine m_aload_n C dL_law_796 rfl 1 rfl ?_
  refine m_aload_n C dL_law_797 rfl 0 rfl ?_
  refine m_iload C dL_law_798 4 rfl ?_
  refine m_iconst (v := 1) C dL_law_800 (by decide) ?_
  refine m_iadd C dL_law_801 ?_
  refine m_sld C hXs hbl hbA b1 dL_law_802 ?_
  refine m_aload_n C dL_law_803 rfl 3 rfl ?_
  refine m_callSL C hX hC (s_L_all l D cy sA ad ln v ou (xs (x + 1).toNatClampNeg) hl h) (vx_cwSW 3 C.2.2.2.2.1 gL_law_L_all rfl rfl rfl (by decide +kernel) ⟨Nat.le_of_ble_eq_true rfl, Nat.le_of_ble_eq_true rfl⟩) rfl rfl (Nat.le_of_ble_eq_true rfl) dL_law_804 ⟨k1, k2⟩ (fun r w1 h1 => ?_)
  obtain ⟨k, v1, ou1, rfl, h, rfl⟩ := h1
  refine mW.eq (st' := [.int k]) rfl rfl rfl rfl ?_
  refine m_istore (lv' := [(5, .int k), (0, .ref b), (1, .ref (ad 0)), (2, .ref (ad 46)), (3, .ref (ad 59)), (4, .int x)]) C dL_law_807 (by decide) rfl ?_
  refine m_aload_n C dL_law_809 rfl 3 rfl ?_
  refine m_aload_n C dL_law_810 rfl 1 rfl ?_
  refine m_iload C dL_law_811 5 rfl ?_
  refine m_iconst (v := 1) C dL_law_813 (by decide) ?_
  refine m_iadd C dL_law_814 ?_
  refine m_sld C hXs hbl hbA b1 dL_law_815 ?_
  refine m_callV C (s_X4_all l D cy ad ln v1 ou1 (xs (x + 1).toNatClampNeg) h) (cwV 1 C.2.2.2.2.1 gL_law_X4_all rfl rfl rfl (by decide +kernel) ⟨Nat.le_of_ble_eq_true rfl, Nat.le_of_ble_eq_true rfl⟩) 46 gp_46 rfl rfl rfl (Nat.le_of_ble_eq_true rfl) dL_law_816 ⟨k1, k2⟩ (fun r w1 h1 => ?_)
  obtain ⟨bb, v2, rfl, h, rfl⟩ := h1
  refine mW.eq (st' := [.int bb]) rfl rfl rfl rfl ?_
  refine m_istore (lv' := [(6, .int bb), (5, .int k), (0, .ref b), (1, .ref (ad 0)), (2, .ref (ad 46)), (3, .ref (ad 59)), (4, .int x)]) C dL_law_819 (by decide) rfl ?_
  refine m_aload_n C dL_law_821 rfl 4 rfl ?_
  refine m_callV C (p_X4_thrown l D cy ad ln v2 ou1) (cwV 0 C.2.2.2.2.1 gL_law_X4_thrown rfl rfl rfl (by decide +kernel) ⟨Nat.le_of_ble_eq_true rfl, Nat.le_of_ble_eq_true rfl⟩) 46 gp_46 rfl rfl rfl (Nat.le_of_ble_eq_true rfl) dL_law_822 ⟨k1, k2⟩ (fun r w1 h1 => ?_)
  obtain ⟨rfl, rfl⟩ := h1
  refine mW.eq (st' := [.int (v2 46 0)]) rfl rfl rfl rfl ?_
  refine m_iload C dL_law_825 1 rfl ?_
  refine m_icmp_eq (tgt := 832) C dL_law_827 (by decide) (fun c1 => ?_) (fun c1 => absurd h.1 c1)
  refine m_iload C dL_law_832 1 rfl ?_
  refine m_if_ne (tgt := 849) C dL_law_834 (by decide) (fun c2 => ?_) (fun c2 => ?_)
  · refine m_goto (tgt := 852) C dL_law_849 (by decide) ?_
    exact mW.sub [2, 3, 4, 5, 6] rfl (kend _ _ _ _ _ _ gA.rf h.2.2)
  · refine m_aload_n C dL_law_837 rfl 5 rfl ?_
    refine m_iconst (v := 0) C dL_law_838 (by decide) ?_
    refine m_lald C 59 gp_59 (by unfold vp_in; decide) dL_law_839 ?_
    refine m_iload C dL_law_840 0 rfl ?_
    refine m_i2l C dL_law_842 rfl ?_
    refine m_lcmp C dL_law_843 ?_
    refine m_if_eq (tgt := 849) C dL_law_844 (by decide) (fun c3 => ?_) (fun c3 => absurd (lg_cmp0 (h.2.1 c2)) c3)
    refine m_goto (tgt := 852) C dL_law_849 (by decide) ?_
    exact mW.sub [2, 3, 4, 5, 6] rfl (kend _ _ _ _ _ _ gA.rf h.2.2)
