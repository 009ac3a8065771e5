/-! THE WORLD of class, reference and law by places: 0 CutYard, 1 Cutter, 2 Stock, 3 files, 4 hand, 5 work, 6 taken, 7 seen, 8 uses, 9 lengths, 10 hashes, 11 next, 12 heads, 13 room, 14+i Content i, 30+i its numbers, 46 CutYardModel, 47 hand, 48 row, 49 ends, 50 numbers, 51 fresh, 52 sizes, 53 bytes, 54 counts, 55 parts, 56 uses, 57 lengths, 58 contents, 59 out.
v k j: what place k holds at j (an object's int field by its slot, an array's element); ln k: an array's length; ad k: the address. -/
abbrev gV : Type := Nat → Nat → Int32
def gIs (k : Nat) : Bool := (6 ≤ k && k ≤ 12) || (30 ≤ k && k ≤ 45) || (47 ≤ k && k ≤ 50) || (52 ≤ k && k ≤ 58)
def gBs (k : Nat) : Bool := k == 4 || k == 5 || k == 13
def gE (cy : Nat → ClassId) (ad ln : Nat → Nat) (v : gV) (ou : Nat → Int64) (k : Nat) : va_E :=
  if gIs k = true then .inl (cy 0, ln k, .inl (v k))
  else if gBs k = true then .inl (cy 1, ln k, .inl (v k))
  else if 14 ≤ k ∧ k < 30 then .inr (0, [.ref (ad (k + 16)), .int (v k 1), .int (v k 2)])
  else if k = 0 then .inr (3, [.ref (ad 1), .ref (ad 2), .ref (ad 3), .ref (ad 4), .int (v 0 4), .ref (ad 5), .ref (ad 6), .ref (ad 7)])
  else if k = 1 then .inr (1, [.int (v 1 0), .int (v 1 1), .int (v 1 2)])
  else if k = 2 then .inr (2, [.ref (ad 8), .ref (ad 9), .ref (ad 10), .ref (ad 11), .ref (ad 12), .ref (ad 13), .int (v 2 6), .int (v 2 7), .int (v 2 8)])
  else if k = 3 then .inl (cy 3, 16, .inr (.inr (.inr (.inr (fun i => some (ad (14 + i % 16)))))))
  else if k = 46 then .inr (4, [.int (v 46 0), .int (v 46 1), .int (v 46 2), .int (v 46 3), .int (v 46 4), .ref (ad 47), .int (v 46 6), .ref (ad 48), .int (v 46 8), .ref (ad 49), .ref (ad 50), .ref (ad 51), .ref (ad 52), .ref (ad 53), .ref (ad 54), .ref (ad 55), .ref (ad 56), .ref (ad 57), .ref (ad 58)])
  else if k = 51 then .inl (cy 2, ln 51, .inl (v 51))
  else .inl (cy 4, 1, .inr (.inl ou))
def gW (cy : Nat → ClassId) (ad ln : Nat → Nat) (v : gV) (ou : Nat → Int64) : va_W := (List.range 60).map (fun k => (ad k, gE cy ad ln v ou k))
section GW
variable {cy : Nat → ClassId} {ad ln : Nat → Nat} {v : gV} {ou : Nat → Int64}
theorem gW_at (k : Nat) (hk : k < 60) : (gW cy ad ln v ou)[k]? = some (ad k, gE cy ad ln v ou k) := by
  unfold gW
  rw [List.getElem?_map, List.getElem?_range hk]
  rfl
theorem gE_v {v' : gV} {k : Nat} (h : v' k = v k) : gE cy ad ln v' ou k = gE cy ad ln v ou k := by
  unfold gE
  by_cases h0 : k = 0
  · subst h0; simp [h]
  by_cases h1 : k = 1
  · subst h1; simp [h]
  by_cases h2 : k = 2
  · subst h2; simp [h]
  by_cases h46 : k = 46
  · subst h46; simp [h]
  by_cases h51 : k = 51
  · subst h51; simp [h]
  simp [h, h0, h1, h2, h46, h51]
theorem gW_set {k : Nat} (hk : k < 60) {f : Nat → Int32} {e : va_E} (he : gE cy ad ln (va_up v k f) ou k = e) : (gW cy ad ln v ou).set k (ad k, e) = gW cy ad ln (va_up v k f) ou := by
  apply List.ext_getElem?
  intro j
  by_cases hj : j = k
  · subst hj
    rw [List.getElem?_set_self (by simp [gW]; exact hk), gW_at _ hk, he]
  · rw [List.getElem?_set_ne (fun q => hj q.symm)]
    by_cases hj60 : j < 60
    · rw [gW_at _ hj60, gW_at _ hj60, gE_v (va_up_ne v f hj)]
    · rw [List.getElem?_eq_none (by simp [gW]; omega), List.getElem?_eq_none (by simp [gW]; omega)]
theorem gE_I {k : Nat} (hk : gIs k = true) : gE cy ad ln v ou k = .inl (cy 0, ln k, .inl (v k)) := by unfold gE; rw [if_pos hk]
theorem gE_B {k : Nat} (hk : gBs k = true) : gE cy ad ln v ou k = .inl (cy 1, ln k, .inl (v k)) := by
  unfold gE
  have : gIs k = false := by
    simp [gBs] at hk
    rcases hk with (rfl | rfl) | rfl <;> rfl
  rw [this, if_neg (by decide), if_pos hk]
theorem gIs_lt {k : Nat} (hk : gIs k = true) : k < 60 := by simp [gIs] at hk; omega
theorem gBs_lt {k : Nat} (hk : gBs k = true) : k < 60 := by simp [gBs] at hk; omega
theorem gp_I {k : Nat} (hk : gIs k = true) : (gW cy ad ln v ou)[k]? = some (ad k, .inl (cy 0, ln k, .inl (v k))) := by rw [gW_at k (gIs_lt hk), gE_I hk]
theorem gp_B {k : Nat} (hk : gBs k = true) : (gW cy ad ln v ou)[k]? = some (ad k, .inl (cy 1, ln k, .inl (v k))) := by rw [gW_at k (gBs_lt hk), gE_B hk]
theorem gs_I {k : Nat} (hk : gIs k = true) {f : Nat → Int32} : (gW cy ad ln v ou).set k (ad k, .inl (cy 0, ln k, .inl f)) = gW cy ad ln (va_up v k f) ou := gW_set (gIs_lt hk) (by rw [gE_I hk, va_up_self])
theorem gs_B {k : Nat} (hk : gBs k = true) {f : Nat → Int32} : (gW cy ad ln v ou).set k (ad k, .inl (cy 1, ln k, .inl f)) = gW cy ad ln (va_up v k f) ou := gW_set (gBs_lt hk) (by rw [gE_B hk, va_up_self])
theorem gp_Z : (gW cy ad ln v ou)[51]? = some (ad 51, .inl (cy 2, ln 51, .inl (v 51))) := rfl
theorem gs_Z {f : Nat → Int32} : (gW cy ad ln v ou).set 51 (ad 51, .inl (cy 2, ln 51, .inl f)) = gW cy ad ln (va_up v 51 f) ou := gW_set (by decide) rfl
theorem gp_0 : (gW cy ad ln v ou)[0]? = some (ad 0, .inr (3, [.ref (ad 1), .ref (ad 2), .ref (ad 3), .ref (ad 4), .int (v 0 4), .ref (ad 5), .ref (ad 6), .ref (ad 7)])) := rfl
theorem gp_1 : (gW cy ad ln v ou)[1]? = some (ad 1, .inr (1, [.int (v 1 0), .int (v 1 1), .int (v 1 2)])) := rfl
theorem gp_2 : (gW cy ad ln v ou)[2]? = some (ad 2, .inr (2, [.ref (ad 8), .ref (ad 9), .ref (ad 10), .ref (ad 11), .ref (ad 12), .ref (ad 13), .int (v 2 6), .int (v 2 7), .int (v 2 8)])) := rfl
theorem gp_3 : (gW cy ad ln v ou)[3]? = some (ad 3, .inl (cy 3, 16, .inr (.inr (.inr (.inr (fun i => some (ad (14 + i % 16)))))))) := rfl
theorem gp_46 : (gW cy ad ln v ou)[46]? = some (ad 46, .inr (4, [.int (v 46 0), .int (v 46 1), .int (v 46 2), .int (v 46 3), .int (v 46 4), .ref (ad 47), .int (v 46 6), .ref (ad 48), .int (v 46 8), .ref (ad 49), .ref (ad 50), .ref (ad 51), .ref (ad 52), .ref (ad 53), .ref (ad 54), .ref (ad 55), .ref (ad 56), .ref (ad 57), .ref (ad 58)])) := rfl
theorem gp_C {k : Nat} (h1 : 14 ≤ k) (h2 : k < 30) : (gW cy ad ln v ou)[k]? = some (ad k, .inr (0, [.ref (ad (k + 16)), .int (v k 1), .int (v k 2)])) := by
  rw [gW_at k (by omega)]
  unfold gE
  have e1 : gIs k = false := by simp [gIs]; omega
  have e2 : gBs k = false := by simp [gBs]; omega
  rw [e1, e2]
  simp [h1, h2]
theorem gs_C1 {k : Nat} (h1 : 14 ≤ k) (h2 : k < 30) {x : Int32} : (gW cy ad ln v ou).set k (ad k, .inr (0, [.ref (ad (k + 16)), .int x, .int (v k 2)])) = gW cy ad ln (va_up v k (upd (v k) 1 x)) ou := gW_set (by omega) (by
  have h := gp_C (cy := cy) (ad := ad) (ln := ln) (ou := ou) (v := va_up v k (upd (v k) 1 x)) h1 h2
  rw [gW_at k (by omega)] at h
  have h := (Prod.mk.inj (Option.some.inj h)).2
  rw [h, va_up_self]
  rfl)
theorem gs_C2 {k : Nat} (h1 : 14 ≤ k) (h2 : k < 30) {x : Int32} : (gW cy ad ln v ou).set k (ad k, .inr (0, [.ref (ad (k + 16)), .int (v k 1), .int x])) = gW cy ad ln (va_up v k (upd (v k) 2 x)) ou := gW_set (by omega) (by
  have h := gp_C (cy := cy) (ad := ad) (ln := ln) (ou := ou) (v := va_up v k (upd (v k) 2 x)) h1 h2
  rw [gW_at k (by omega)] at h
  have h := (Prod.mk.inj (Option.some.inj h)).2
  rw [h, va_up_self]
  rfl)
theorem gs_o {k : Nat} (hk : k < 60) {f : Nat → Int32} {e : va_E} (he : gE cy ad ln (va_up v k f) ou k = e) {w : va_W} (hw : gW cy ad ln (va_up v k f) ou = w) : (gW cy ad ln v ou).set k (ad k, e) = w := (gW_set hk he).trans hw
end GW
def ius (a b : Int32) : Int32 := (a.toUInt32 >>> (b.toUInt32 &&& Int32.toUInt32 31)).toInt32
