def ln0 (k : Nat) : Nat := [0, 0, 0, 0, 1500, 1500, 1500, 400, 400, 400, 400, 400, 512, 1024, 0, 0, 0, 0, 0, 0, 0, 0, 0, 0, 0, 0, 0, 0, 0, 0, 16, 16, 16, 16, 16, 16, 16, 16, 16, 16, 16, 16, 16, 16, 16, 16, 0, 1500, 1500, 1500, 1500, 400, 16, 24000, 16, 24000, 400, 400, 25600].getD k 0
def v00 (k : Nat) (j : Nat) : Int32 := if k = 1 then ([15, 4, 32] : List Int32).getD j 0 else if k = 12 then (if j < 512 then -1 else 0) else if k = 46 then ([0, 4, 4, 32] : List Int32).getD j 0 else 0
/-- the addresses of the first world, by places -/
def adl (q qc qs q1 q2 q3 q4 q5 q6 qf qh qw qt qn : Nat) (cs : List (Nat × Nat)) (qm m1 m2 m3 m4 m5 m6 m7 m8 m9 m10 m11 m12 qo : Nat) (k : Nat) : Nat := ([q, qc, qs, qf, qh, qw, qt, qn, q1, q2, q3, q4, q5, q6] ++ (cs.map (·.1) ++ (cs.map (·.2) ++ [qm, m1, m2, m3, m4, m5, m6, m7, m8, m9, m10, m11, m12, qo]))).getD k 0
theorem cs_swap {D : va_G} {cy : Nat → ClassId} {q qc qs q1 q2 q3 q4 q5 q6 qf qh qw qt qn : Nat} {f g : Nat → Option Nat} {zs : va_W} {H : Heap} (h : ∀ i, i < 16 → f i = g i) (hP : va_P D vwCl (cs_b cy q qc qs q1 q2 q3 q4 q5 q6 qf qh qw qt qn f ++ zs) H) : va_P D vwCl (cs_b cy q qc qs q1 q2 q3 q4 q5 q6 qf qh qw qt qn g ++ zs) H := by
  intro k x hx
  have e : cs_b cy q qc qs q1 q2 q3 q4 q5 q6 qf qh qw qt qn g ++ zs = (cs_b cy q qc qs q1 q2 q3 q4 q5 q6 qf qh qw qt qn f ++ zs).set 9 (qf, .inl (cy 3, 16, .inr (.inr (.inr (.inr g))))) := rfl
  by_cases hk : k = 9
  · subst hk
    have h9 := hP 9 (qf, .inl (cy 3, 16, .inr (.inr (.inr (.inr f))))) rfl
    have hx' : (qf, (.inl (cy 3, 16, .inr (.inr (.inr (.inr g)))) : va_E)) = x := Option.some.inj hx
    subst hx'
    have ec : vp_cell (cy 3) (16, .inr (.inr (.inr (.inr f)))) = vp_cell (cy 3) (16, .inr (.inr (.inr (.inr g)))) := by
      rw [vp_cell_q, vp_cell_q]
      unfold arrV
      congr 1
      congr 1
      funext j
      show va_rf (f j.val) = va_rf (g j.val)
      rw [h j.val j.isLt]
    show H[qf]? = some (vp_cell (cy 3) (16, .inr (.inr (.inr (.inr g)))))
    rw [← ec]
    exact h9
  · rw [e, List.getElem?_set_ne (fun q => hk q.symm)] at hx
    exact hP k x hx
theorem cs_swapD {A : Nat → Prop} {cy : Nat → ClassId} {q qc qs q1 q2 q3 q4 q5 q6 qf qh qw qt qn : Nat} {f g : Nat → Option Nat} {zs : va_W} (hD : va_D A (cs_b cy q qc qs q1 q2 q3 q4 q5 q6 qf qh qw qt qn f ++ zs)) : va_D A (cs_b cy q qc qs q1 q2 q3 q4 q5 q6 qf qh qw qt qn g ++ zs) := by
  have e : cs_b cy q qc qs q1 q2 q3 q4 q5 q6 qf qh qw qt qn g ++ zs = (cs_b cy q qc qs q1 q2 q3 q4 q5 q6 qf qh qw qt qn f ++ zs).set 9 (qf, .inl (cy 3, 16, .inr (.inr (.inr (.inr g))))) := rfl
  rw [e]
  have h9 : (cs_b cy q qc qs q1 q2 q3 q4 q5 q6 qf qh qw qt qn f ++ zs)[9]? = some (qf, .inl (cy 3, 16, .inr (.inr (.inr (.inr f))))) := rfl
  exact hD.set h9
theorem l16 {α : Type} {cs : List α} (h : cs.length = 16) : ∃ a0 a1 a2 a3 a4 a5 a6 a7 a8 a9 a10 a11 a12 a13 a14 a15 : α, cs = [a0, a1, a2, a3, a4, a5, a6, a7, a8, a9, a10, a11, a12, a13, a14, a15] := by
  match cs, h with
  | [a0, a1, a2, a3, a4, a5, a6, a7, a8, a9, a10, a11, a12, a13, a14, a15], _ => exact ⟨a0, a1, a2, a3, a4, a5, a6, a7, a8, a9, a10, a11, a12, a13, a14, a15, rfl⟩
set_option maxHeartbeats 4000000 in
set_option maxRecDepth 100000 in
theorem cs_first {cy : Nat → ClassId} (q qc qs q1 q2 q3 q4 q5 q6 qf qh qw qt qn qm m1 m2 m3 m4 m5 m6 m7 m8 m9 m10 m11 m12 qo : Nat) (cs : List (Nat × Nat)) (h16 : cs.length = 16) : gW cy (adl q qc qs q1 q2 q3 q4 q5 q6 qf qh qw qt qn cs qm m1 m2 m3 m4 m5 m6 m7 m8 m9 m10 m11 m12 qo) ln0 v00 (fun _ => 0) = ([0, 1, 2, 9, 10, 11, 12, 13, 3, 4, 5, 6, 7, 8, 14, 16, 18, 20, 22, 24, 26, 28, 30, 32, 34, 36, 38, 40, 42, 44, 15, 17, 19, 21, 23, 25, 27, 29, 31, 33, 35, 37, 39, 41, 43, 45, 46, 47, 48, 49, 50, 51, 52, 53, 54, 55, 56, 57, 58, 59] : List Nat).filterMap (fun i => (cs_b cy q qc qs q1 q2 q3 q4 q5 q6 qf qh qw qt qn (fun i => some (adl q qc qs q1 q2 q3 q4 q5 q6 qf qh qw qt qn cs qm m1 m2 m3 m4 m5 m6 m7 m8 m9 m10 m11 m12 qo (14 + i % 16))) ++ (cs_w cy cs ++ ([(qm, .inr (4, [.int 0, .int 4, .int 4, .int 32, .int 0, .ref m1, .int 0, .ref m2, .int 0, .ref m3, .ref m4, .ref m5, .ref m6, .ref m7, .ref m8, .ref m9, .ref m10, .ref m11, .ref m12])), (m1, .inl (cy 0, 1500, .inl (fun _ => 0))), (m2, .inl (cy 0, 1500, .inl (fun _ => 0))), (m3, .inl (cy 0, 1500, .inl (fun _ => 0))), (m4, .inl (cy 0, 1500, .inl (fun _ => 0))), (m5, .inl (cy 2, 400, .inl (fun _ => 0))), (m6, .inl (cy 0, 16, .inl (fun _ => 0))), (m7, .inl (cy 0, 24000, .inl (fun _ => 0))), (m8, .inl (cy 0, 16, .inl (fun _ => 0))), (m9, .inl (cy 0, 24000, .inl (fun _ => 0))), (m10, .inl (cy 0, 400, .inl (fun _ => 0))), (m11, .inl (cy 0, 400, .inl (fun _ => 0))), (m12, .inl (cy 0, 25600, .inl (fun _ => 0)))] ++ [(qo, .inl (cy 4, 1, .inr (.inl (fun _ => 0))))])))[i]?) := by
  obtain ⟨⟨a0, b0⟩, ⟨a1, b1⟩, ⟨a2, b2⟩, ⟨a3, b3⟩, ⟨a4, b4⟩, ⟨a5, b5⟩, ⟨a6, b6⟩, ⟨a7, b7⟩, ⟨a8, b8⟩, ⟨a9, b9⟩, ⟨a10, b10⟩, ⟨a11, b11⟩, ⟨a12, b12⟩, ⟨a13, b13⟩, ⟨a14, b14⟩, ⟨a15, b15⟩, rfl⟩ := l16 h16
  rfl
set_option maxHeartbeats 4000000 in
set_option maxRecDepth 100000 in
theorem cs_firstD {cy : Nat → ClassId} (q qc qs q1 q2 q3 q4 q5 q6 qf qh qw qt qn qm m1 m2 m3 m4 m5 m6 m7 m8 m9 m10 m11 m12 qo : Nat) (cs : List (Nat × Nat)) (h16 : cs.length = 16) : ([0, 1, 2, 9, 10, 11, 12, 13, 3, 4, 5, 6, 7, 8, 14, 16, 18, 20, 22, 24, 26, 28, 30, 32, 34, 36, 38, 40, 42, 44, 15, 17, 19, 21, 23, 25, 27, 29, 31, 33, 35, 37, 39, 41, 43, 45, 46, 47, 48, 49, 50, 51, 52, 53, 54, 55, 56, 57, 58, 59] : List Nat).map (fun i => (cs_b cy q qc qs q1 q2 q3 q4 q5 q6 qf qh qw qt qn (fun i => some (adl q qc qs q1 q2 q3 q4 q5 q6 qf qh qw qt qn cs qm m1 m2 m3 m4 m5 m6 m7 m8 m9 m10 m11 m12 qo (14 + i % 16))) ++ (cs_w cy cs ++ ([(qm, .inr (4, [.int 0, .int 4, .int 4, .int 32, .int 0, .ref m1, .int 0, .ref m2, .int 0, .ref m3, .ref m4, .ref m5, .ref m6, .ref m7, .ref m8, .ref m9, .ref m10, .ref m11, .ref m12])), (m1, .inl (cy 0, 1500, .inl (fun _ => 0))), (m2, .inl (cy 0, 1500, .inl (fun _ => 0))), (m3, .inl (cy 0, 1500, .inl (fun _ => 0))), (m4, .inl (cy 0, 1500, .inl (fun _ => 0))), (m5, .inl (cy 2, 400, .inl (fun _ => 0))), (m6, .inl (cy 0, 16, .inl (fun _ => 0))), (m7, .inl (cy 0, 24000, .inl (fun _ => 0))), (m8, .inl (cy 0, 16, .inl (fun _ => 0))), (m9, .inl (cy 0, 24000, .inl (fun _ => 0))), (m10, .inl (cy 0, 400, .inl (fun _ => 0))), (m11, .inl (cy 0, 400, .inl (fun _ => 0))), (m12, .inl (cy 0, 25600, .inl (fun _ => 0)))] ++ [(qo, .inl (cy 4, 1, .inr (.inl (fun _ => 0))))])))[i]?) = (gW cy (adl q qc qs q1 q2 q3 q4 q5 q6 qf qh qw qt qn cs qm m1 m2 m3 m4 m5 m6 m7 m8 m9 m10 m11 m12 qo) ln0 v00 (fun _ => 0)).map some := by
  obtain ⟨⟨a0, b0⟩, ⟨a1, b1⟩, ⟨a2, b2⟩, ⟨a3, b3⟩, ⟨a4, b4⟩, ⟨a5, b5⟩, ⟨a6, b6⟩, ⟨a7, b7⟩, ⟨a8, b8⟩, ⟨a9, b9⟩, ⟨a10, b10⟩, ⟨a11, b11⟩, ⟨a12, b12⟩, ⟨a13, b13⟩, ⟨a14, b14⟩, ⟨a15, b15⟩, rfl⟩ := l16 h16
  rfl
theorem cs_fg (q qc qs q1 q2 q3 q4 q5 q6 qf qh qw qt qn qm m1 m2 m3 m4 m5 m6 m7 m8 m9 m10 m11 m12 qo : Nat) (cs : List (Nat × Nat)) (h16 : cs.length = 16) : ∀ i, i < 16 → cs_f cs i = some (adl q qc qs q1 q2 q3 q4 q5 q6 qf qh qw qt qn cs qm m1 m2 m3 m4 m5 m6 m7 m8 m9 m10 m11 m12 qo (14 + i % 16)) := by
  obtain ⟨⟨a0, b0⟩, ⟨a1, b1⟩, ⟨a2, b2⟩, ⟨a3, b3⟩, ⟨a4, b4⟩, ⟨a5, b5⟩, ⟨a6, b6⟩, ⟨a7, b7⟩, ⟨a8, b8⟩, ⟨a9, b9⟩, ⟨a10, b10⟩, ⟨a11, b11⟩, ⟨a12, b12⟩, ⟨a13, b13⟩, ⟨a14, b14⟩, ⟨a15, b15⟩, rfl⟩ := l16 h16
  intro i hi
  rcases (show i = 0 ∨ i = 1 ∨ i = 2 ∨ i = 3 ∨ i = 4 ∨ i = 5 ∨ i = 6 ∨ i = 7 ∨ i = 8 ∨ i = 9 ∨ i = 10 ∨ i = 11 ∨ i = 12 ∨ i = 13 ∨ i = 14 ∨ i = 15 by omega) with rfl | rfl | rfl | rfl | rfl | rfl | rfl | rfl | rfl | rfl | rfl | rfl | rfl | rfl | rfl | rfl <;> rfl
theorem ac_of {args : Array Value} {s : State} {ty : FieldType} (h : (Cond.arrayClass ty).before args s = true) : ∃ cA : ClassId, ArrOfT s cA ty ∧ s.vm.findClass ("[" ++ ty.toString) = some cA := by
  obtain ⟨c, k, comp, h1, h2, h3⟩ := Cond.arrayClass_spec h
  exact ⟨c, fun n z => ⟨fun k h => (by cases h), k, h2, comp, h3⟩, h1⟩
theorem ao_of {s : State} {C : String} (h : va_AO C s) : ∃ cA : ClassId, ArrOfT s cA (.object C) ∧ va_RA s cA (.object C) := by
  obtain ⟨comp, c, k, h1, h2, h3, h4, h5⟩ := Cond.arrayOver_spec h
  exact ⟨c, fun n z => ⟨fun k h => (by cases h), k, h3, comp, h4⟩, k, comp, h3, h4, h1, h5⟩
theorem kK_of {args : Array Value} {s : State} (hts : ∀ w ∈ wsL_law, w.before args s = true) (hao : va_AO "CutYard$Content" s) : ∃ (D : va_G) (cy : Nat → ClassId), va_K D vwCl (mTy cy) s := by
  obtain ⟨c0, i0, k0⟩ := u_known (C := RX0) (T := TX0) (N := 3) (n := 3) hts inlX0 (hts (.instantiable RX0 3) (by decide +kernel))
  obtain ⟨c1, i1, k1⟩ := u_known (C := RX1) (T := TX1) (N := 3) (n := 3) hts inlX1 (hts (.instantiable RX1 3) (by decide +kernel))
  obtain ⟨c2, i2, k2⟩ := u_known (C := RX2) (T := TX2) (N := 9) (n := 9) hts inlX2 (hts (.instantiable RX2 9) (by decide +kernel))
  obtain ⟨c3, i3, k3⟩ := u_known (C := RX3) (T := TX3) (N := 8) (n := 8) hts inlX3 (hts (.instantiable RX3 8) (by decide +kernel))
  obtain ⟨c4, i4, k4⟩ := u_known (C := RX4) (T := TX4) (N := 19) (n := 19) hts inlX4 (hts (.instantiable RX4 19) (by decide +kernel))
  obtain ⟨y0, p0, r0⟩ := ac_of (hts (.arrayClass .int) (by decide +kernel))
  obtain ⟨y1, p1, r1⟩ := ac_of (hts (.arrayClass .byte) (by decide +kernel))
  obtain ⟨y2, p2, r2⟩ := ac_of (hts (.arrayClass .boolean) (by decide +kernel))
  obtain ⟨y3, p3, r3⟩ := ao_of hao
  obtain ⟨y4, p4, r4⟩ := ac_of (hts (.arrayClass .long) (by decide +kernel))
  refine ⟨(fun k => if k = 0 then c0 else if k = 1 then c1 else if k = 2 then c2 else if k = 3 then c3 else c4, fun k => if k = 0 then i0 else if k = 1 then i1 else if k = 2 then i2 else if k = 3 then i3 else i4), fun k => if k = 0 then y0 else if k = 1 then y1 else if k = 2 then y2 else if k = 3 then y3 else y4, ?_, ?_⟩
  · intro k q hq
    match k, hq with
    | 0, hq => cases hq; exact k0
    | 1, hq => cases hq; exact k1
    | 2, hq => cases hq; exact k2
    | 3, hq => cases hq; exact k3
    | 4, hq => cases hq; exact k4
    | k + 5, hq => simp [vwCl] at hq
  · intro k q hq
    match k, hq with
    | 0, hq => cases hq; exact ⟨p0, r0⟩
    | 1, hq => cases hq; exact ⟨p1, r1⟩
    | 2, hq => cases hq; exact ⟨p2, r2⟩
    | 3, hq => cases hq; exact ⟨p3, r3⟩
    | 4, hq => cases hq; exact ⟨p4, r4⟩
    | k + 5, hq => simp [mTy] at hq
theorem nK_of {args : Array Value} {s : State} (hts : ∀ w ∈ lw_tbl, w.before args s = true) : nK s := by
  refine ⟨fun w hw => ?_, hts (.arrayOver (.object "CutYard$Content")) (by decide +kernel)⟩
  have h : ∀ w ∈ nW, w ∈ lw_tbl ∧ w.onTables = true := by decide +kernel
  exact va_Nw.of (h w hw).2 (hts w (h w hw).1)
theorem xK_of {args : Array Value} {s : State} {A : Nat → Prop} (hts : ∀ w ∈ lw_tbl, w.before args s = true) (hgv : (Jvm.Cond.and given_1 narrow_1).before args s = true) (hA : ∀ a : Nat, a < s.heap.size → ¬ A a) : ∃ sA : Nat → Nat, xK A sA s s.heap := by
  have hs := flat_of_before _ hgv
  have hstr : ∀ q ∈ xStr, ∃ a : Nat, vk_R "CutYard" q.1 q.2 a s := by
    intro q hq
    have h1 : ∀ q ∈ xStr, Cond.stringRef "CutYard" q.1 q.2 ∈ lw_tbl := by decide +kernel
    have h2 : ∀ q ∈ xStr, Cond.exactly (.string "CutYard" q.1) "java/lang/String" ∈ flatC (Jvm.Cond.and given_1 narrow_1) := by decide +kernel
    obtain ⟨a, c, cell, k, e1, -⟩ := Cond.exactly_spec (hs _ (h2 q hq))
    exact ⟨a, vk_R.of (hts _ (h1 q hq)) e1⟩
  have hch : ∃ sA : Nat → Nat, ∀ q ∈ xStr, vk_R "CutYard" q.1 q.2 (sA q.1) s := by
    classical
    refine ⟨fun k => if h : ∃ a : Nat, ∀ q ∈ xStr, q.1 = k → vk_R "CutYard" q.1 q.2 a s then h.choose else 0, fun q hq => ?_⟩
    have hu : ∀ q ∈ xStr, ∀ q' ∈ xStr, q'.1 = q.1 → q' = q := by decide +kernel
    have h : ∃ a : Nat, ∀ q' ∈ xStr, q'.1 = q.1 → vk_R "CutYard" q'.1 q'.2 a s := by
      obtain ⟨a, ha⟩ := hstr q hq
      exact ⟨a, fun q' hq' he => by rw [hu q hq q' hq' he]; exact ha⟩
    have hz := h.choose_spec q hq rfl
    simp only [dif_pos h]
    exact hz
  obtain ⟨sA, hsA⟩ := hch
  refine ⟨sA, vx_Zqof (hts _ (by decide +kernel)) (hts _ (by decide +kernel)) (hs _ (by decide +kernel)) hA, vx_Zqof (hts _ (by decide +kernel)) (hts _ (by decide +kernel)) (hs _ (by decide +kernel)) hA, hsA, fun w hw => ?_⟩
  have h : ∀ w ∈ xB, w ∈ lw_tbl ∧ w.onTables = true := by decide +kernel
  exact va_Nw.of (h w hw).2 (hts w (h w hw).1)
theorem cK_of {args : Array Value} {s : State} (hgv : (Jvm.Cond.and given_1 narrow_1).before args s = true) : cK s := by
  have hs := flat_of_before _ hgv
  intro q hq
  have h : ∀ q ∈ xC, Cond.not (.castable q.1 q.2) ∈ flatC (Jvm.Cond.and given_1 narrow_1) := by decide +kernel
  exact va_Nc.of (hs _ (h q hq))
set_option maxHeartbeats 4000000 in
set_option maxRecDepth 100000 in
/-- from the law's entry to its loop -/
theorem law_first {p : Program} {l : Launch} {e : Env} {s : State} {m : MethodId} {below : List Frame} {meth : Method} {c : Code} {b L : Nat} {xs : Nat → Int32} (hl : l.stackTraces = false) (C0 : lw_At p s m meth c b L xs) (I : Nat → Int32 → (Nat → Nat) → gV → (Nat → Int64) → Nat → Nat → Prop) (hI : lawVC L xs I) (n0 : Nat) (h0 : I n0 0 ln0 v00 (fun _ => 0) 60 89228) : W p l e room_1 s m #[Value.ref b] below meth c s.heap [] 0 0 (lw_Z below #[Value.ref b] s) (entryFrame m ([Value.ref b] : List Value).toArray 7) := by
  obtain ⟨hx, hb, hr, hml, hown, hts, hX, hbl, hlocks, hgv⟩ := id C0
  have htsw : ∀ w ∈ wsL_law, w.before #[Value.ref b] s = true := fun w h => hts w (wsL_law_in w h)
  have hnK := nK_of hts
  obtain ⟨D, cy, hK⟩ := kK_of htsw hnK.2
  obtain ⟨sA, hxK⟩ := xK_of (A := fun q : Nat => s.heap.size ≤ q) hts hgv (fun a h => Nat.not_le.mpr h)
  have hcK := cK_of hgv
  have C : mC p s m #[Value.ref b] meth c D cy (fun q : Nat => s.heap.size ≤ q) cL_law 7 RL wsL_law ret := ⟨hx, hb, hml, hown, htsw, hK, fun _ h => h, hr, hlocks, hnK⟩
  have hbA : ¬ (fun q : Nat => s.heap.size ≤ q) b := Nat.not_le.mpr hbl
  have hlv := lv_entry ([.ref b]) (n := 7) (Nat.le_of_ble_eq_true rfl)
  rw [lg_entry_eq]
  generalize (lg_sl ([.ref b]) ++ List.replicate (7 - (lg_sl ([.ref b])).length) Slot.unset).toArray = ls at hlv ⊢
  have hlv : lv_has ls 7 [(0, .ref b)] := hlv
  have key : mW p l e room_1 s m #[Value.ref b] below meth c D (fun q : Nat => s.heap.size ≤ q) 7 0 0 (lw_Z below #[Value.ref b] s) [] 0 [(0, .ref b)] [] := by
    refine m_new (Cn := RX3) (T := TX3) (N := 8) (ci := 3) (fs := [.null, .null, .null, .null, .int 0, .null, .null, .null]) C inlX3 tyX3 tyX3_ok (by decide +kernel : Cond.classLink RL 8 RX3 ∈ wsL_law) (by decide +kernel) (by decide +kernel) rfl (fun j hj => by rcases (show j = 0 ∨ j = 1 ∨ j = 2 ∨ j = 3 ∨ j = 4 ∨ j = 5 ∨ j = 6 ∨ j = 7 by omega) with rfl | rfl | rfl | rfl | rfl | rfl | rfl | rfl <;> rfl) (Nat.le_of_ble_eq_true rfl) (Nat.le_of_ble_eq_true rfl) dL_law_0 (fun q => ?_)
    refine m_dup C dL_law_3 rfl ?_
    refine m_callI (R := room_1) (kc := 1) (ks := 8) (rest := [.ref q]) C (c_X3_init l D cy [] q) ⟨callB_of 0 C.2.2.2.2.1 gL_law_X3_init rfl rfl rfl (C.2.2.2.2.1 _ (by decide +kernel : Cond.initialized RX3 ∈ wsL_law)) (C.2.2.2.2.1 _ (by decide +kernel : Cond.methodLink RL 58 yX3_init ∈ wsL_law)) (by decide +kernel) ⟨Nat.le_of_ble_eq_true rfl, Nat.le_of_ble_eq_true rfl⟩, rfl, C.2.2.2.2.1 _ (by decide +kernel : Cond.instanceMethod yX3_init ∈ wsL_law)⟩ rfl rfl (Nat.le_of_ble_eq_true rfl) dL_law_4 ⟨by exact Nat.le_of_ble_eq_true rfl, by exact Nat.le_of_ble_eq_true rfl⟩ (fun r w1 h1 => ?_)
    obtain ⟨rfl, qc, qs, q1, q2, q3, q4, q5, q6, qf, qh, qw, qt, qn, cs, h16, rfl⟩ := h1
    refine m_astore_n (lv' := [(1, .ref q), (0, .ref b)]) C dL_law_7 rfl (by decide) rfl ?_
    refine m_new (Cn := RX4) (T := TX4) (N := 19) (ci := 4) (fs := [.int 0, .int 0, .int 0, .int 0, .int 0, .null, .int 0, .null, .int 0, .null, .null, .null, .null, .null, .null, .null, .null, .null, .null]) C inlX4 tyX4 tyX4_ok (by decide +kernel : Cond.classLink RL 59 RX4 ∈ wsL_law) (by decide +kernel) (by decide +kernel) rfl (fun j hj => by rcases (show j = 0 ∨ j = 1 ∨ j = 2 ∨ j = 3 ∨ j = 4 ∨ j = 5 ∨ j = 6 ∨ j = 7 ∨ j = 8 ∨ j = 9 ∨ j = 10 ∨ j = 11 ∨ j = 12 ∨ j = 13 ∨ j = 14 ∨ j = 15 ∨ j = 16 ∨ j = 17 ∨ j = 18 by omega) with rfl | rfl | rfl | rfl | rfl | rfl | rfl | rfl | rfl | rfl | rfl | rfl | rfl | rfl | rfl | rfl | rfl | rfl | rfl <;> rfl) (Nat.le_of_ble_eq_true rfl) (Nat.le_of_ble_eq_true rfl) dL_law_8 (fun qm => ?_)
    refine m_dup C dL_law_11 rfl ?_
    refine m_callI (R := room_1) (kc := 47) (ks := 8395) (rest := [.ref qm]) C (c_X4_init l D cy ([] ++ (cs_b cy q qc qs q1 q2 q3 q4 q5 q6 qf qh qw qt qn (cs_f cs) ++ cs_w cy cs)) qm) ⟨callB_of 0 C.2.2.2.2.1 gL_law_X4_init rfl rfl rfl (C.2.2.2.2.1 _ (by decide +kernel : Cond.initialized RX4 ∈ wsL_law)) (C.2.2.2.2.1 _ (by decide +kernel : Cond.methodLink RL 61 yX4_init ∈ wsL_law)) (by decide +kernel) ⟨Nat.le_of_ble_eq_true rfl, Nat.le_of_ble_eq_true rfl⟩, rfl, C.2.2.2.2.1 _ (by decide +kernel : Cond.instanceMethod yX4_init ∈ wsL_law)⟩ rfl rfl (Nat.le_of_ble_eq_true rfl) dL_law_12 ⟨by exact Nat.le_of_ble_eq_true rfl, by exact Nat.le_of_ble_eq_true rfl⟩ (fun r w1 h1 => ?_)
    obtain ⟨rfl, m1, m2, m3, m4, m5, m6, m7, m8, m9, m10, m11, m12, rfl⟩ := h1
    refine m_astore_n (lv' := [(2, .ref qm), (1, .ref q), (0, .ref b)]) C dL_law_15 rfl (by decide) rfl ?_
    refine m_iconst (v := 1) C dL_law_16 (by decide) ?_
    refine m_newa (ty := .long) (a0 := (1, .inr (.inl (fun _ => 0)))) (N' := 1) C 4 rfl rfl (fun U cA h => h) (by decide +kernel) (fun cA => rfl) (by decide) (by decide) (by decide) (Nat.le_of_ble_eq_true rfl) (Nat.le_of_ble_eq_true rfl) dL_law_17 (fun qo => ?_)
    refine m_astore_n (lv' := [(3, .ref qo), (2, .ref qm), (1, .ref q), (0, .ref b)]) C dL_law_19 rfl (by decide) rfl ?_
    refine m_iconst (v := 0) C dL_law_20 (by decide) ?_
    refine m_istore (lv' := [(4, .int 0), (3, .ref qo), (2, .ref qm), (1, .ref q), (0, .ref b)]) C dL_law_21 (by decide) rfl ?_
    refine mW.sub (lv' := [(0, .ref b), (1, .ref q), (2, .ref qm), (3, .ref qo), (4, .int 0)]) [4, 3, 2, 1, 0] rfl ?_
    refine mW.eq (w' := (cs_b cy q qc qs q1 q2 q3 q4 q5 q6 qf qh qw qt qn (cs_f cs) ++ (cs_w cy cs ++ ([(qm, .inr (4, [.int 0, .int 4, .int 4, .int 32, .int 0, .ref m1, .int 0, .ref m2, .int 0, .ref m3, .ref m4, .ref m5, .ref m6, .ref m7, .ref m8, .ref m9, .ref m10, .ref m11, .ref m12])), (m1, .inl (cy 0, 1500, .inl (fun _ => 0))), (m2, .inl (cy 0, 1500, .inl (fun _ => 0))), (m3, .inl (cy 0, 1500, .inl (fun _ => 0))), (m4, .inl (cy 0, 1500, .inl (fun _ => 0))), (m5, .inl (cy 2, 400, .inl (fun _ => 0))), (m6, .inl (cy 0, 16, .inl (fun _ => 0))), (m7, .inl (cy 0, 24000, .inl (fun _ => 0))), (m8, .inl (cy 0, 16, .inl (fun _ => 0))), (m9, .inl (cy 0, 24000, .inl (fun _ => 0))), (m10, .inl (cy 0, 400, .inl (fun _ => 0))), (m11, .inl (cy 0, 400, .inl (fun _ => 0))), (m12, .inl (cy 0, 25600, .inl (fun _ => 0)))] ++ [(qo, .inl (cy 4, 1, .inr (.inl (fun _ => 0))))])))) rfl rfl rfl (by simp) ?_
    refine mW.by (w2 := gW cy (adl q qc qs q1 q2 q3 q4 q5 q6 qf qh qw qt qn cs qm m1 m2 m3 m4 m5 m6 m7 m8 m9 m10 m11 m12 qo) ln0 v00 (fun _ => 0)) ⟨fun H hP => ?_, fun hD => ?_⟩ ?_
    · rw [cs_first q qc qs q1 q2 q3 q4 q5 q6 qf qh qw qt qn qm m1 m2 m3 m4 m5 m6 m7 m8 m9 m10 m11 m12 qo cs h16]
      exact (cs_swap (cs_fg q qc qs q1 q2 q3 q4 q5 q6 qf qh qw qt qn qm m1 m2 m3 m4 m5 m6 m7 m8 m9 m10 m11 m12 qo cs h16) hP).sub _ rfl
    · exact (cs_swapD hD).sub _ (by decide +kernel) (cs_firstD q qc qs q1 q2 q3 q4 q5 q6 qf qh qw qt qn qm m1 m2 m3 m4 m5 m6 m7 m8 m9 m10 m11 m12 qo cs h16)
    have hz := law_loop (below := below) (e := e) C hX hbl hbA hxK hcK hl (fun _ h => h) I hI n0 0 (adl q qc qs q1 q2 q3 q4 q5 q6 qf qh qw qt qn cs qm m1 m2 m3 m4 m5 m6 m7 m8 m9 m10 m11 m12 qo) ln0 v00 (fun _ => 0) 60 89228 h0
    have g46 : (adl q qc qs q1 q2 q3 q4 q5 q6 qf qh qw qt qn cs qm m1 m2 m3 m4 m5 m6 m7 m8 m9 m10 m11 m12 qo) 46 = qm := by obtain ⟨⟨a0, b0⟩, ⟨a1, b1⟩, ⟨a2, b2⟩, ⟨a3, b3⟩, ⟨a4, b4⟩, ⟨a5, b5⟩, ⟨a6, b6⟩, ⟨a7, b7⟩, ⟨a8, b8⟩, ⟨a9, b9⟩, ⟨a10, b10⟩, ⟨a11, b11⟩, ⟨a12, b12⟩, ⟨a13, b13⟩, ⟨a14, b14⟩, ⟨a15, b15⟩, rfl⟩ := l16 h16; rfl
    have g59 : (adl q qc qs q1 q2 q3 q4 q5 q6 qf qh qw qt qn cs qm m1 m2 m3 m4 m5 m6 m7 m8 m9 m10 m11 m12 qo) 59 = qo := by obtain ⟨⟨a0, b0⟩, ⟨a1, b1⟩, ⟨a2, b2⟩, ⟨a3, b3⟩, ⟨a4, b4⟩, ⟨a5, b5⟩, ⟨a6, b6⟩, ⟨a7, b7⟩, ⟨a8, b8⟩, ⟨a9, b9⟩, ⟨a10, b10⟩, ⟨a11, b11⟩, ⟨a12, b12⟩, ⟨a13, b13⟩, ⟨a14, b14⟩, ⟨a15, b15⟩, rfl⟩ := l16 h16; rfl
    have g00 : (adl q qc qs q1 q2 q3 q4 q5 q6 qf qh qw qt qn cs qm m1 m2 m3 m4 m5 m6 m7 m8 m9 m10 m11 m12 qo) 0 = q := rfl
    rw [g46, g59, g00] at hz
    exact hz
  exact key s.heap [] ls (fun k q h => by simp at h) ⟨fun i j p q h => by simp at h, fun k q h => by simp at h⟩ va_S.rf hlv
