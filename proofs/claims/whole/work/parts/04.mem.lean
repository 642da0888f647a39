/-! fields, arrays, static tables -/
theorem tb_1 {w : Cond} {i : Nat} (h9 : tables_1_1[i]? = some w) (g : goodWord w = true) : w ∈ am_B := by
  have h : w ∈ tables_1_1 := List.mem_of_getElem? h9
  exact am_Bin (List.mem_append_right _ (show w ∈ tables_1_1 ++ (tables_1_2 ++ (tables_1_3 ++ (tables_1_4 ++ (tables_1_5 ++ tables_1_6)))) from List.mem_append_left _ h)) g
theorem tb_2 {w : Cond} {i : Nat} (h9 : tables_1_2[i]? = some w) (g : goodWord w = true) : w ∈ am_B := by
  have h : w ∈ tables_1_2 := List.mem_of_getElem? h9
  exact am_Bin (List.mem_append_right _ (show w ∈ tables_1_1 ++ (tables_1_2 ++ (tables_1_3 ++ (tables_1_4 ++ (tables_1_5 ++ tables_1_6)))) from List.mem_append_right _ (List.mem_append_left _ h))) g
theorem tb_3 {w : Cond} {i : Nat} (h9 : tables_1_3[i]? = some w) (g : goodWord w = true) : w ∈ am_B := by
  have h : w ∈ tables_1_3 := List.mem_of_getElem? h9
  exact am_Bin (List.mem_append_right _ (show w ∈ tables_1_1 ++ (tables_1_2 ++ (tables_1_3 ++ (tables_1_4 ++ (tables_1_5 ++ tables_1_6)))) from List.mem_append_right _ (List.mem_append_right _ (List.mem_append_left _ h)))) g
theorem tb_4 {w : Cond} {i : Nat} (h9 : tables_1_4[i]? = some w) (g : goodWord w = true) : w ∈ am_B := by
  have h : w ∈ tables_1_4 := List.mem_of_getElem? h9
  exact am_Bin (List.mem_append_right _ (show w ∈ tables_1_1 ++ (tables_1_2 ++ (tables_1_3 ++ (tables_1_4 ++ (tables_1_5 ++ tables_1_6)))) from List.mem_append_right _ (List.mem_append_right _ (List.mem_append_right _ (List.mem_append_left _ h))))) g
theorem tb_5 {w : Cond} {i : Nat} (h9 : tables_1_5[i]? = some w) (g : goodWord w = true) : w ∈ am_B := by
  have h : w ∈ tables_1_5 := List.mem_of_getElem? h9
  exact am_Bin (List.mem_append_right _ (show w ∈ tables_1_1 ++ (tables_1_2 ++ (tables_1_3 ++ (tables_1_4 ++ (tables_1_5 ++ tables_1_6)))) from List.mem_append_right _ (List.mem_append_right _ (List.mem_append_right _ (List.mem_append_right _ (List.mem_append_left _ h)))))) g
theorem tb_6 {w : Cond} {i : Nat} (h9 : tables_1_6[i]? = some w) (g : goodWord w = true) : w ∈ am_B := by
  have h : w ∈ tables_1_6 := List.mem_of_getElem? h9
  exact am_Bin (List.mem_append_right _ (show w ∈ tables_1_1 ++ (tables_1_2 ++ (tables_1_3 ++ (tables_1_4 ++ (tables_1_5 ++ tables_1_6)))) from List.mem_append_right _ (List.mem_append_right _ (List.mem_append_right _ (List.mem_append_right _ (List.mem_append_right _ (h))))))) g
set_option maxRecDepth 20000 in
theorem am_inX0 : ∀ w ∈ u_ws RX0 TX0 5, w ∈ am_B := by
  intro w hw
  obtain ⟨k, hk, rfl⟩ := List.mem_map.mp hw
  have hk := List.mem_range.mp hk
  clear hw
  rcases (show k = 0 ∨ k = 1 ∨ k = 2 ∨ k = 3 ∨ k = 4 by omega) with rfl | rfl | rfl | rfl | rfl
  · exact tb_2 (i := 1) rfl rfl
  · exact tb_2 (i := 3) rfl rfl
  · exact tb_2 (i := 5) rfl rfl
  · exact tb_2 (i := 7) rfl rfl
  · exact tb_2 (i := 9) rfl rfl
set_option maxRecDepth 20000 in
theorem am_inX1 : ∀ w ∈ u_ws RX1 TX1 6, w ∈ am_B := by
  intro w hw
  obtain ⟨k, hk, rfl⟩ := List.mem_map.mp hw
  have hk := List.mem_range.mp hk
  clear hw
  rcases (show k = 0 ∨ k = 1 ∨ k = 2 ∨ k = 3 ∨ k = 4 ∨ k = 5 by omega) with rfl | rfl | rfl | rfl | rfl | rfl
  · exact tb_1 (i := 64) rfl rfl
  · exact tb_1 (i := 66) rfl rfl
  · exact tb_1 (i := 68) rfl rfl
  · exact tb_1 (i := 70) rfl rfl
  · exact tb_1 (i := 72) rfl rfl
  · exact tb_1 (i := 74) rfl rfl
set_option maxRecDepth 20000 in
theorem am_inX2 : ∀ w ∈ u_ws RX2 TX2 8, w ∈ am_B := by
  intro w hw
  obtain ⟨k, hk, rfl⟩ := List.mem_map.mp hw
  have hk := List.mem_range.mp hk
  clear hw
  rcases (show k = 0 ∨ k = 1 ∨ k = 2 ∨ k = 3 ∨ k = 4 ∨ k = 5 ∨ k = 6 ∨ k = 7 by omega) with rfl | rfl | rfl | rfl | rfl | rfl | rfl | rfl
  · exact tb_1 (i := 192) rfl rfl
  · exact tb_1 (i := 194) rfl rfl
  · exact tb_1 (i := 196) rfl rfl
  · exact tb_1 (i := 198) rfl rfl
  · exact tb_1 (i := 200) rfl rfl
  · exact tb_1 (i := 202) rfl rfl
  · exact tb_1 (i := 204) rfl rfl
  · exact tb_1 (i := 206) rfl rfl
set_option maxRecDepth 20000 in
theorem am_inX3 : ∀ w ∈ u_ws RX3 TX3 15, w ∈ am_B := by
  intro w hw
  obtain ⟨k, hk, rfl⟩ := List.mem_map.mp hw
  have hk := List.mem_range.mp hk
  clear hw
  rcases (show k = 0 ∨ k = 1 ∨ k = 2 ∨ k = 3 ∨ k = 4 ∨ k = 5 ∨ k = 6 ∨ k = 7 ∨ k = 8 ∨ k = 9 ∨ k = 10 ∨ k = 11 ∨ k = 12 ∨ k = 13 ∨ k = 14 by omega) with rfl | rfl | rfl | rfl | rfl | rfl | rfl | rfl | rfl | rfl | rfl | rfl | rfl | rfl | rfl
  · exact tb_1 (i := 99) rfl rfl
  · exact tb_1 (i := 101) rfl rfl
  · exact tb_1 (i := 103) rfl rfl
  · exact tb_1 (i := 105) rfl rfl
  · exact tb_1 (i := 107) rfl rfl
  · exact tb_1 (i := 109) rfl rfl
  · exact tb_1 (i := 111) rfl rfl
  · exact tb_1 (i := 113) rfl rfl
  · exact tb_1 (i := 115) rfl rfl
  · exact tb_1 (i := 117) rfl rfl
  · exact tb_1 (i := 119) rfl rfl
  · exact tb_1 (i := 121) rfl rfl
  · exact tb_1 (i := 123) rfl rfl
  · exact tb_1 (i := 125) rfl rfl
  · exact tb_1 (i := 127) rfl rfl
set_option maxRecDepth 20000 in
theorem am_inX4 : ∀ w ∈ u_ws RX4 TX4 6, w ∈ am_B := by
  intro w hw
  obtain ⟨k, hk, rfl⟩ := List.mem_map.mp hw
  have hk := List.mem_range.mp hk
  clear hw
  rcases (show k = 0 ∨ k = 1 ∨ k = 2 ∨ k = 3 ∨ k = 4 ∨ k = 5 by omega) with rfl | rfl | rfl | rfl | rfl | rfl
  · exact tb_1 (i := 157) rfl rfl
  · exact tb_1 (i := 159) rfl rfl
  · exact tb_1 (i := 161) rfl rfl
  · exact tb_1 (i := 163) rfl rfl
  · exact tb_1 (i := 165) rfl rfl
  · exact tb_1 (i := 167) rfl rfl
set_option maxRecDepth 20000 in
theorem am_inX6 : ∀ w ∈ u_ws RX6 TX6 5, w ∈ am_B := by
  intro w hw
  obtain ⟨k, hk, rfl⟩ := List.mem_map.mp hw
  have hk := List.mem_range.mp hk
  clear hw
  rcases (show k = 0 ∨ k = 1 ∨ k = 2 ∨ k = 3 ∨ k = 4 by omega) with rfl | rfl | rfl | rfl | rfl
  · exact tb_1 (i := 38) rfl rfl
  · exact tb_1 (i := 40) rfl rfl
  · exact tb_1 (i := 42) rfl rfl
  · exact tb_1 (i := 44) rfl rfl
  · exact tb_1 (i := 46) rfl rfl
set_option maxRecDepth 20000 in
theorem am_inX7 : ∀ w ∈ u_ws RX7 TX7 4, w ∈ am_B := by
  intro w hw
  obtain ⟨k, hk, rfl⟩ := List.mem_map.mp hw
  have hk := List.mem_range.mp hk
  clear hw
  rcases (show k = 0 ∨ k = 1 ∨ k = 2 ∨ k = 3 by omega) with rfl | rfl | rfl | rfl
  · exact tb_2 (i := 27) rfl rfl
  · exact tb_2 (i := 29) rfl rfl
  · exact tb_2 (i := 31) rfl rfl
  · exact tb_2 (i := 33) rfl rfl
set_option maxRecDepth 20000 in
theorem am_inX8 : ∀ w ∈ u_ws RX8 TX8 3, w ∈ am_B := by
  intro w hw
  obtain ⟨k, hk, rfl⟩ := List.mem_map.mp hw
  have hk := List.mem_range.mp hk
  clear hw
  rcases (show k = 0 ∨ k = 1 ∨ k = 2 by omega) with rfl | rfl | rfl
  · exact tb_1 (i := 219) rfl rfl
  · exact tb_1 (i := 221) rfl rfl
  · exact tb_1 (i := 223) rfl rfl
set_option maxRecDepth 20000 in
theorem am_inX9 : ∀ w ∈ u_ws RX9 TX9 12, w ∈ am_B := by
  intro w hw
  obtain ⟨k, hk, rfl⟩ := List.mem_map.mp hw
  have hk := List.mem_range.mp hk
  clear hw
  rcases (show k = 0 ∨ k = 1 ∨ k = 2 ∨ k = 3 ∨ k = 4 ∨ k = 5 ∨ k = 6 ∨ k = 7 ∨ k = 8 ∨ k = 9 ∨ k = 10 ∨ k = 11 by omega) with rfl | rfl | rfl | rfl | rfl | rfl | rfl | rfl | rfl | rfl | rfl | rfl
  · exact tb_2 (i := 49) rfl rfl
  · exact tb_2 (i := 51) rfl rfl
  · exact tb_2 (i := 53) rfl rfl
  · exact tb_2 (i := 55) rfl rfl
  · exact tb_2 (i := 57) rfl rfl
  · exact tb_2 (i := 59) rfl rfl
  · exact tb_2 (i := 61) rfl rfl
  · exact tb_2 (i := 63) rfl rfl
  · exact tb_2 (i := 65) rfl rfl
  · exact tb_2 (i := 67) rfl rfl
  · exact tb_2 (i := 69) rfl rfl
  · exact tb_2 (i := 71) rfl rfl
set_option maxRecDepth 20000 in
theorem am_inX10 : ∀ w ∈ u_ws RX10 TX10 49, w ∈ am_B := by
  intro w hw
  obtain ⟨k, hk, rfl⟩ := List.mem_map.mp hw
  have hk := List.mem_range.mp hk
  clear hw
  rcases (show k = 0 ∨ k = 1 ∨ k = 2 ∨ k = 3 ∨ k = 4 ∨ k = 5 ∨ k = 6 ∨ k = 7 ∨ k = 8 ∨ k = 9 ∨ k = 10 ∨ k = 11 ∨ k = 12 ∨ k = 13 ∨ k = 14 ∨ k = 15 ∨ k = 16 ∨ k = 17 ∨ k = 18 ∨ k = 19 ∨ k = 20 ∨ k = 21 ∨ k = 22 ∨ k = 23 ∨ k = 24 ∨ k = 25 ∨ k = 26 ∨ k = 27 ∨ k = 28 ∨ k = 29 ∨ k = 30 ∨ k = 31 ∨ k = 32 ∨ k = 33 ∨ k = 34 ∨ k = 35 ∨ k = 36 ∨ k = 37 ∨ k = 38 ∨ k = 39 ∨ k = 40 ∨ k = 41 ∨ k = 42 ∨ k = 43 ∨ k = 44 ∨ k = 45 ∨ k = 46 ∨ k = 47 ∨ k = 48 by omega) with rfl | rfl | rfl | rfl | rfl | rfl | rfl | rfl | rfl | rfl | rfl | rfl | rfl | rfl | rfl | rfl | rfl | rfl | rfl | rfl | rfl | rfl | rfl | rfl | rfl | rfl | rfl | rfl | rfl | rfl | rfl | rfl | rfl | rfl | rfl | rfl | rfl | rfl | rfl | rfl | rfl | rfl | rfl | rfl | rfl | rfl | rfl | rfl | rfl
  · exact tb_4 (i := 186) rfl rfl
  · exact tb_4 (i := 188) rfl rfl
  · exact tb_4 (i := 190) rfl rfl
  · exact tb_4 (i := 192) rfl rfl
  · exact tb_4 (i := 194) rfl rfl
  · exact tb_4 (i := 196) rfl rfl
  · exact tb_4 (i := 198) rfl rfl
  · exact tb_4 (i := 200) rfl rfl
  · exact tb_4 (i := 202) rfl rfl
  · exact tb_4 (i := 204) rfl rfl
  · exact tb_4 (i := 206) rfl rfl
  · exact tb_4 (i := 208) rfl rfl
  · exact tb_4 (i := 210) rfl rfl
  · exact tb_4 (i := 212) rfl rfl
  · exact tb_4 (i := 214) rfl rfl
  · exact tb_4 (i := 216) rfl rfl
  · exact tb_4 (i := 218) rfl rfl
  · exact tb_4 (i := 220) rfl rfl
  · exact tb_4 (i := 222) rfl rfl
  · exact tb_4 (i := 224) rfl rfl
  · exact tb_4 (i := 226) rfl rfl
  · exact tb_4 (i := 228) rfl rfl
  · exact tb_4 (i := 230) rfl rfl
  · exact tb_4 (i := 232) rfl rfl
  · exact tb_4 (i := 234) rfl rfl
  · exact tb_4 (i := 236) rfl rfl
  · exact tb_4 (i := 238) rfl rfl
  · exact tb_5 (i := 0) rfl rfl
  · exact tb_5 (i := 2) rfl rfl
  · exact tb_5 (i := 4) rfl rfl
  · exact tb_5 (i := 6) rfl rfl
  · exact tb_5 (i := 8) rfl rfl
  · exact tb_5 (i := 10) rfl rfl
  · exact tb_5 (i := 12) rfl rfl
  · exact tb_5 (i := 14) rfl rfl
  · exact tb_5 (i := 16) rfl rfl
  · exact tb_5 (i := 18) rfl rfl
  · exact tb_5 (i := 20) rfl rfl
  · exact tb_5 (i := 22) rfl rfl
  · exact tb_5 (i := 24) rfl rfl
  · exact tb_5 (i := 26) rfl rfl
  · exact tb_5 (i := 28) rfl rfl
  · exact tb_5 (i := 30) rfl rfl
  · exact tb_5 (i := 32) rfl rfl
  · exact tb_5 (i := 34) rfl rfl
  · exact tb_5 (i := 36) rfl rfl
  · exact tb_5 (i := 38) rfl rfl
  · exact tb_5 (i := 40) rfl rfl
  · exact tb_5 (i := 42) rfl rfl
theorem am_cl_in {ci : Nat} {r : vw_C} (h : am_cl[ci]? = some r) : ∀ w ∈ u_ws r.1 r.2.1 r.2.2, w ∈ am_B := by
  match ci, h with
  | 0, h => cases h; exact am_inX0
  | 1, h => cases h; exact am_inX1
  | 2, h => cases h; exact am_inX2
  | 3, h => cases h; exact am_inX3
  | 4, h => cases h; exact am_inX4
  | 5, h => cases h; exact am_inX6
  | 6, h => cases h; exact am_inX7
  | 7, h => cases h; exact am_inX8
  | 8, h => cases h; exact am_inX9
  | 9, h => cases h; exact am_inX10
  | n + 10, h => simp [am_cl, vwCl] at h
theorem am_cl_ty {ci : Nat} {r : vw_C} (h : am_cl[ci]? = some r) : ∀ k, k < r.2.2 → parseFieldDescriptor (r.2.1 k).2.2.1 = some (am_ty ci k) := by
  match ci, h with
  | 0, h => cases h; exact tyX0_ok
  | 1, h => cases h; exact tyX1_ok
  | 2, h => cases h; exact tyX2_ok
  | 3, h => cases h; exact tyX3_ok
  | 4, h => cases h; exact tyX4_ok
  | 5, h => cases h; exact tyX6_ok
  | 6, h => cases h; exact tyX7_ok
  | 7, h => cases h; exact tyX8_ok
  | 8, h => cases h; exact tyX9_ok
  | 9, h => cases h; exact tyX10_ok
  | n + 10, h => simp [am_cl, vwCl] at h
theorem am_cl_nm {ci : Nat} {r : vw_C} (h : am_cl[ci]? = some r) : ∀ a, a < r.2.2 → ∀ b, b < r.2.2 → a ≠ b → (r.2.1 a).2.1 ≠ (r.2.1 b).2.1 := by
  match ci, h with
  | 0, h => cases h; exact nmX0
  | 1, h => cases h; exact nmX1
  | 2, h => cases h; exact nmX2
  | 3, h => cases h; exact nmX3
  | 4, h => cases h; exact nmX4
  | 5, h => cases h; exact nmX6
  | 6, h => cases h; exact nmX7
  | 7, h => cases h; exact nmX8
  | 8, h => cases h; exact nmX9
  | 9, h => cases h; exact nmX10
  | n + 10, h => simp [am_cl, vwCl] at h
/-- a place of the constant pool of a class that names field k of class ci -/
def am_lf (own : String) (i ci k : Nat) : Prop := ∃ r : vw_C, am_cl[ci]? = some r ∧ k < r.2.2 ∧ Cond.fieldLink own i r.1 (r.2.1 k).2.1 (r.2.1 k).2.2.1 ∈ am_B ∧ (r.2.1 k).1 = r.1
def am_fin (ci k : Nat) : Bool := ((am_cl.getD ci (RX0, TX0, 5)).2.1 k).2.2.2
theorem am_fin_of {ci k : Nat} {r : vw_C} (h : am_cl[ci]? = some r) : (r.2.1 k).2.2.2 = am_fin ci k := by
  unfold am_fin
  rw [List.getD_eq_getElem?_getD, h]
  rfl
theorem am_el_obj (cA : Nat → ClassId) (ad : Nat → Nat) (ci n : Nat) (rs : List (Option Nat)) (f : Nat → Int) : am_el cA ad (10 + ci, n, rs) f = .inr (ci, (List.range n).map (am_fld ad ci rs f)) := by
  rw [Nat.add_comm]
  show Sum.inr (ci + 10 - 10, (List.range n).map (am_fld ad (ci + 10 - 10) rs f)) = _
  rw [Nat.add_sub_cancel]
theorem am_flds_get {ad : Nat → Nat} {ci n k : Nat} {rs : List (Option Nat)} {f : Nat → Int} (hk : k < n) : ((List.range n).map (am_fld ad ci rs f))[k]? = some (am_fld ad ci rs f k) := by
  rw [List.getElem?_map, List.getElem?_range hk]
  rfl
theorem am_flds_set {ad : Nat → Nat} {ci n k : Nat} {rs rs' : List (Option Nat)} {f f' : Nat → Int} {v : Value} (hk : k < n) (hv : v = am_fld ad ci rs' f' k) (ho : ∀ j, j ≠ k → am_fld ad ci rs' f' j = am_fld ad ci rs f j) : ((List.range n).map (am_fld ad ci rs f)).set k v = (List.range n).map (am_fld ad ci rs' f') := by
  apply List.ext_getElem?
  intro i
  by_cases hi : i = k
  · subst hi
    rw [List.getElem?_set_self (by simpa using hk), am_flds_get hk, hv]
  · rw [List.getElem?_set_ne (Ne.symm hi)]
    by_cases hl : i < n
    · rw [am_flds_get hl, am_flds_get hl, ho i hi]
    · rw [List.getElem?_eq_none (by simp; omega), List.getElem?_eq_none (by simp; omega)]
theorem am_fld_i {ad : Nat → Nat} {ci k : Nat} {rs : List (Option Nat)} {f : Nat → Int} (h : am_isref (am_ty ci k) = false) : am_fld ad ci rs f k = .int (Int32.ofInt (f k)) := by
  unfold am_fld
  rw [if_neg (by rw [h]; decide)]
theorem am_fld_r {ad : Nat → Nat} {ci k : Nat} {rs : List (Option Nat)} {f : Nat → Int} {c : Nat} (h : am_isref (am_ty ci k) = true) (hr : rs[k]? = some (some c)) : am_fld ad ci rs f k = .ref (ad c) := by
  unfold am_fld
  rw [if_pos h, List.getD_eq_getElem?_getD, hr]
  rfl
section AM4
variable {K : am_K} {cc : ByteArray} {own : String} {pc : Nat} {L : List (Option am_V)} {st : List am_V} {sh : List am_S} {σ : am_H}
theorem am_geti (X : am_X K cc own) {i ci k0 n : Nat} {rs : List (Option Nat)} (c0 : Nat) (hf : am_lf own i ci k0) (ht : am_isref (am_ty ci k0) = false) (hs : sh[c0]? = some (10 + ci, n, rs)) (hn : k0 < n) (hd : decode cc pc = .ok (.getfield i, 3)) (k : am_G K (pc + 3) L (vi (σ c0 k0) :: st) sh σ) : am_G K pc L (vr c0 :: st) sh σ := by
  obtain ⟨p, l, e, R, s, m, args, below, meth, c, Q, D, cA, A, n0, s0, adS⟩ := K
  obtain ⟨hx, hb, ho, hts, hK, hA, hSt, hN⟩ := X
  intro ad ls H locs h
  obtain ⟨⟨hP, hD, hS⟩, hl, hst, hlo, hok1, hok2, had, hn0, hs0⟩ := id h
  obtain ⟨⟨C, T, N⟩, hr, hkN, hlk, hdc⟩ := hf
  have he := am_w_get (cA := cA) (ad := ad) (σ := σ) hs
  rw [am_el_obj] at he
  refine va_get (D := D) (ci := ci) (C := C) (T := T) (N := N) hx hb hts (am_cl_in hr) ho hK hP c0 he hr k0 hkN (hts _ hlk) (fun x h9 => by rw [← hdc]; exact h9) (am_flds_get hn) hd ?_
  rw [am_fld_i ht]
  exact k ad ls H locs (am_Rst h (am_st_2 (okv_i ((hok2 _ _ hs k0).2 (by show ¬ (10 + ci = 1); omega))) (am_st_1 hst)))
theorem am_getr (X : am_X K cc own) {i ci k0 n c1 : Nat} {rs : List (Option Nat)} (c0 : Nat) (hf : am_lf own i ci k0) (ht : am_isref (am_ty ci k0) = true) (hs : sh[c0]? = some (10 + ci, n, rs)) (hn : k0 < n) (hr1 : rs[k0]? = some (some c1)) (hd : decode cc pc = .ok (.getfield i, 3)) (k : am_G K (pc + 3) L (vr c1 :: st) sh σ) : am_G K pc L (vr c0 :: st) sh σ := by
  obtain ⟨p, l, e, R, s, m, args, below, meth, c, Q, D, cA, A, n0, s0, adS⟩ := K
  obtain ⟨hx, hb, ho, hts, hK, hA, hSt, hN⟩ := X
  intro ad ls H locs h
  obtain ⟨⟨hP, hD, hS⟩, hl, hst, hlo, hok1, hok2, had, hn0, hs0⟩ := id h
  obtain ⟨⟨C, T, N⟩, hr, hkN, hlk, hdc⟩ := hf
  have he := am_w_get (cA := cA) (ad := ad) (σ := σ) hs
  rw [am_el_obj] at he
  refine va_get (D := D) (ci := ci) (C := C) (T := T) (N := N) hx hb hts (am_cl_in hr) ho hK hP c0 he hr k0 hkN (hts _ hlk) (fun x h9 => by rw [← hdc]; exact h9) (am_flds_get hn) hd ?_
  rw [am_fld_r ht hr1]
  exact k ad ls H locs (am_Rst h (am_st_2 (okv_r (Or.inl (hok1 _ _ hs _ (List.mem_of_getElem? hr1)))) (am_st_1 hst)))
theorem am_puti (X : am_X K cc own) {i ci k0 n : Nat} {x : Int} {rs : List (Option Nat)} (c0 : Nat) (hf : am_lf own i ci k0) (ht : am_ty ci k0 = .int) (hfn : am_fin ci k0 = false) (hs : sh[c0]? = some (10 + ci, n, rs)) (hn : k0 < n) (hd : decode cc pc = .ok (.putfield i, 3)) (k : am_G K (pc + 3) L st sh (am_up σ c0 k0 x)) : am_G K pc L (vi x :: vr c0 :: st) sh σ := by
  obtain ⟨p, l, e, R, s, m, args, below, meth, c, Q, D, cA, A, n0, s0, adS⟩ := K
  obtain ⟨hx, hb, ho, hts, hK, hA, hSt, hN⟩ := X
  intro ad ls H locs h
  obtain ⟨⟨hP, hD, hS⟩, hl, hst, hlo, hok1, hok2, had, hn0, hs0⟩ := id h
  obtain ⟨⟨C, T, N⟩, hr, hkN, hlk, hdc⟩ := hf
  have hR := okv_iR (am_st_h hst)
  have he := am_w_get (cA := cA) (ad := ad) (σ := σ) hs
  rw [am_el_obj] at he
  have hT := am_cl_ty hr k0 hkN
  rw [ht] at hT
  refine va_put (D := D) (ci := ci) (C := C) (T := T) (N := N) (ty := .int) (v := .int (Int32.ofInt x)) hx hb hts (am_cl_in hr) (am_ty ci) (am_cl_ty hr) (am_cl_nm hr) ho hK hP hD hS c0 he hr k0 hkN (hts _ hlk) (fun x h9 => by rw [← hdc]; exact h9) ((am_fin_of hr).trans hfn) hT rfl rfl (by simpa using hn) hd (fun H1 locs1 hP1 hD1 hS1 => ?_)
  have hi : am_isref (am_ty ci k0) = false := by rw [ht]; rfl
  have e : (am_w cA ad sh σ).set c0 (ad c0, .inr (ci, ((List.range n).map (am_fld ad ci rs (σ c0))).set k0 (.int (Int32.ofInt x)))) = am_w cA ad sh (am_up σ c0 k0 x) := by
    refine am_w_set1 hs ?_ (fun c' hc' => am_up_ne c' hc')
    rw [am_el_obj, am_flds_set (rs' := rs) (f' := am_up σ c0 k0 x c0) hn]
    · rw [am_fld_i hi, am_up_at]; simp
    · intro j hj
      unfold am_fld
      rw [am_up_at]
      simp only [if_neg hj]
  rw [e] at hP1 hD1
  exact k ad ls H1 locs1 ⟨⟨hP1, hD1, hS1⟩, hl, am_st_1 (am_st_1 hst), hlo, hok1, am_okh_up hok2 hs ⟨fun q => absurd q (by show ¬ (10 + ci = 1); omega), fun _ => hR⟩, had, hn0, hs0⟩
theorem am_putz (X : am_X K cc own) {i ci k0 n : Nat} {x : Int} {rs : List (Option Nat)} (c0 : Nat) (hf : am_lf own i ci k0) (ht : am_ty ci k0 = .boolean) (hfn : am_fin ci k0 = false) (hs : sh[c0]? = some (10 + ci, n, rs)) (hn : k0 < n) (hv : x = 0 ∨ x = 1) (hd : decode cc pc = .ok (.putfield i, 3)) (k : am_G K (pc + 3) L st sh (am_up σ c0 k0 x)) : am_G K pc L (vi x :: vr c0 :: st) sh σ := by
  obtain ⟨p, l, e, R, s, m, args, below, meth, c, Q, D, cA, A, n0, s0, adS⟩ := K
  obtain ⟨hx, hb, ho, hts, hK, hA, hSt, hN⟩ := X
  intro ad ls H locs h
  obtain ⟨⟨hP, hD, hS⟩, hl, hst, hlo, hok1, hok2, had, hn0, hs0⟩ := id h
  obtain ⟨⟨C, T, N⟩, hr, hkN, hlk, hdc⟩ := hf
  have hR := okv_iR (am_st_h hst)
  have he := am_w_get (cA := cA) (ad := ad) (σ := σ) hs
  rw [am_el_obj] at he
  have hT := am_cl_ty hr k0 hkN
  rw [ht] at hT
  refine va_put (D := D) (ci := ci) (C := C) (T := T) (N := N) (ty := .boolean) (v := .int (Int32.ofInt x)) hx hb hts (am_cl_in hr) (am_ty ci) (am_cl_ty hr) (am_cl_nm hr) ho hK hP hD hS c0 he hr k0 hkN (hts _ hlk) (fun x h9 => by rw [← hdc]; exact h9) ((am_fin_of hr).trans hfn) hT (by rcases hv with rfl | rfl <;> rfl) (by rcases hv with rfl | rfl <;> rfl) (by simpa using hn) hd (fun H1 locs1 hP1 hD1 hS1 => ?_)
  have hi : am_isref (am_ty ci k0) = false := by rw [ht]; rfl
  have e : (am_w cA ad sh σ).set c0 (ad c0, .inr (ci, ((List.range n).map (am_fld ad ci rs (σ c0))).set k0 (.int (Int32.ofInt x)))) = am_w cA ad sh (am_up σ c0 k0 x) := by
    refine am_w_set1 hs ?_ (fun c' hc' => am_up_ne c' hc')
    rw [am_el_obj, am_flds_set (rs' := rs) (f' := am_up σ c0 k0 x c0) hn]
    · rw [am_fld_i hi, am_up_at]; simp
    · intro j hj
      unfold am_fld
      rw [am_up_at]
      simp only [if_neg hj]
  rw [e] at hP1 hD1
  exact k ad ls H1 locs1 ⟨⟨hP1, hD1, hS1⟩, hl, am_st_1 (am_st_1 hst), hlo, hok1, am_okh_up hok2 hs ⟨fun q => absurd q (by show ¬ (10 + ci = 1); omega), fun _ => hR⟩, had, hn0, hs0⟩
theorem am_in_of {n : Nat} {i : Int} {sh : List am_S} {st : List am_V} (hst : ∀ x ∈ vi i :: st, am_okv sh.length x) (h0 : 0 ≤ i) (h1 : i < n) : vp_in (Int32.ofInt i) n ∧ (Int32.ofInt i).toNatClampNeg = i.toNat := ⟨R32_in (okv_iR (am_st_h hst)) h0 h1, R32_cl (okv_iR (am_st_h hst))⟩
theorem am_iald (X : am_X K cc own) {n : Nat} {i : Int} {rs : List (Option Nat)} (c0 : Nat) (hs : sh[c0]? = some (0, n, rs)) (h0 : 0 ≤ i) (h1 : i < n) (hd : decode cc pc = .ok (.iaload, 1)) (k : am_G K (pc + 1) L (vi (σ c0 i.toNat) :: st) sh σ) : am_G K pc L (vi i :: vr c0 :: st) sh σ := by
  obtain ⟨p, l, e, R, s, m, args, below, meth, c, Q, D, cA, A, n0, s0, adS⟩ := K
  obtain ⟨hx, hb, ho, hts, hK, hA, hSt, hN⟩ := X
  intro ad ls H locs h
  obtain ⟨⟨hP, hD, hS⟩, hl, hst, hlo, hok1, hok2, had, hn0, hs0⟩ := id h
  obtain ⟨hin, hcl⟩ := am_in_of hst h0 h1
  refine va_iald hx hb hK hP c0 0 (am_w_get hs) rfl hin hd ?_
  rw [hcl]
  exact k ad ls H locs (am_Rst h (am_st_2 (okv_i ((hok2 _ _ hs _).2 (by simp))) (am_st_1 (am_st_1 hst))))
theorem am_zald (X : am_X K cc own) {n : Nat} {i : Int} {rs : List (Option Nat)} (c0 : Nat) (hs : sh[c0]? = some (2, n, rs)) (h0 : 0 ≤ i) (h1 : i < n) (hd : decode cc pc = .ok (.baload, 1)) (k : am_G K (pc + 1) L (vi (σ c0 i.toNat) :: st) sh σ) : am_G K pc L (vi i :: vr c0 :: st) sh σ := by
  obtain ⟨p, l, e, R, s, m, args, below, meth, c, Q, D, cA, A, n0, s0, adS⟩ := K
  obtain ⟨hx, hb, ho, hts, hK, hA, hSt, hN⟩ := X
  intro ad ls H locs h
  obtain ⟨⟨hP, hD, hS⟩, hl, hst, hlo, hok1, hok2, had, hn0, hs0⟩ := id h
  obtain ⟨hin, hcl⟩ := am_in_of hst h0 h1
  refine va_zald hx hb hK hP c0 2 (am_w_get hs) rfl hin hd ?_
  rw [hcl]
  exact k ad ls H locs (am_Rst h (am_st_2 (okv_i ((hok2 _ _ hs _).2 (by simp))) (am_st_1 (am_st_1 hst))))
theorem am_lald (X : am_X K cc own) {n : Nat} {i : Int} {rs : List (Option Nat)} (c0 : Nat) (hs : sh[c0]? = some (1, n, rs)) (h0 : 0 ≤ i) (h1 : i < n) (hd : decode cc pc = .ok (.laload, 1)) (k : am_G K (pc + 1) L (vl (σ c0 i.toNat) :: st) sh σ) : am_G K pc L (vi i :: vr c0 :: st) sh σ := by
  obtain ⟨p, l, e, R, s, m, args, below, meth, c, Q, D, cA, A, n0, s0, adS⟩ := K
  obtain ⟨hx, hb, ho, hts, hK, hA, hSt, hN⟩ := X
  intro ad ls H locs h
  obtain ⟨⟨hP, hD, hS⟩, hl, hst, hlo, hok1, hok2, had, hn0, hs0⟩ := id h
  obtain ⟨hin, hcl⟩ := am_in_of hst h0 h1
  refine va_lald hx hb hK hP c0 1 (am_w_get hs) rfl hin hd ?_
  rw [hcl]
  exact k ad ls H locs (am_Rst h (am_st_2 (okv_l ((hok2 _ _ hs _).1 rfl)) (am_st_1 (am_st_1 hst))))
theorem am_iast (X : am_X K cc own) {n : Nat} {i x : Int} {rs : List (Option Nat)} (c0 : Nat) (hs : sh[c0]? = some (0, n, rs)) (h0 : 0 ≤ i) (h1 : i < n) (hd : decode cc pc = .ok (.iastore, 1)) (k : am_G K (pc + 1) L st sh (am_up σ c0 i.toNat x)) : am_G K pc L (vi x :: vi i :: vr c0 :: st) sh σ := by
  obtain ⟨p, l, e, R, s, m, args, below, meth, c, Q, D, cA, A, n0, s0, adS⟩ := K
  obtain ⟨hx, hb, ho, hts, hK, hA, hSt, hN⟩ := X
  intro ad ls H locs h
  obtain ⟨⟨hP, hD, hS⟩, hl, hst, hlo, hok1, hok2, had, hn0, hs0⟩ := id h
  have hR := okv_iR (am_st_h hst)
  obtain ⟨hin, hcl⟩ := am_in_of (am_st_1 hst) h0 h1
  refine va_iast hx hb hK hP hD hS c0 0 (am_w_get hs) rfl hin hd (fun H1 locs1 hP1 hD1 hS1 => ?_)
  rw [hcl] at hP1 hD1
  have e0 : (Sum.inl (cA 0, n, Sum.inl (upd (fun j => Int32.ofInt (σ c0 j)) i.toNat (Int32.ofInt x))) : va_E) = am_el cA ad (0, n, rs) (am_up σ c0 i.toNat x c0) := by
    rw [am_up_at]
    simp only [am_el]
    congr 4
    funext j
    simp only [upd]
    split <;> rfl
  have e := am_w_set1 (cA := cA) (ad := ad) (σ := σ) (σ' := am_up σ c0 i.toNat x) hs e0 (fun c' hc' => am_up_ne c' hc')
  simp only [am_el] at hP1 hD1
  rw [e] at hP1 hD1
  exact k ad ls H1 locs1 ⟨⟨hP1, hD1, hS1⟩, hl, am_st_1 (am_st_1 (am_st_1 hst)), hlo, hok1, am_okh_up hok2 hs ⟨fun q => absurd q (by simp), fun _ => hR⟩, had, hn0, hs0⟩
theorem am_zast (X : am_X K cc own) {n : Nat} {i x : Int} {rs : List (Option Nat)} (c0 : Nat) (hs : sh[c0]? = some (2, n, rs)) (h0 : 0 ≤ i) (h1 : i < n) (hv : x = 0 ∨ x = 1) (hd : decode cc pc = .ok (.bastore, 1)) (k : am_G K (pc + 1) L st sh (am_up σ c0 i.toNat x)) : am_G K pc L (vi x :: vi i :: vr c0 :: st) sh σ := by
  obtain ⟨p, l, e, R, s, m, args, below, meth, c, Q, D, cA, A, n0, s0, adS⟩ := K
  obtain ⟨hx, hb, ho, hts, hK, hA, hSt, hN⟩ := X
  intro ad ls H locs h
  obtain ⟨⟨hP, hD, hS⟩, hl, hst, hlo, hok1, hok2, had, hn0, hs0⟩ := id h
  have hR := okv_iR (am_st_h hst)
  obtain ⟨hin, hcl⟩ := am_in_of (am_st_1 hst) h0 h1
  refine va_zast hx hb hK hP hD hS c0 2 (am_w_get hs) rfl hin hd (fun H1 locs1 hP1 hD1 hS1 => ?_)
  rw [hcl] at hP1 hD1
  have e0 : (Sum.inl (cA 2, n, Sum.inl (upd (fun j => Int32.ofInt (σ c0 j)) i.toNat (vp_nar .boolean (Int32.ofInt x)))) : va_E) = am_el cA ad (2, n, rs) (am_up σ c0 i.toNat x c0) := by
    rw [am_up_at]
    simp only [am_el]
    congr 4
    funext j
    have e9 : vp_nar .boolean (Int32.ofInt x) = Int32.ofInt x := by rcases hv with rfl | rfl <;> rfl
    simp only [upd, e9]
    split <;> rfl
  have e := am_w_set1 (cA := cA) (ad := ad) (σ := σ) (σ' := am_up σ c0 i.toNat x) hs e0 (fun c' hc' => am_up_ne c' hc')
  simp only [am_el] at hP1 hD1
  rw [e] at hP1 hD1
  exact k ad ls H1 locs1 ⟨⟨hP1, hD1, hS1⟩, hl, am_st_1 (am_st_1 (am_st_1 hst)), hlo, hok1, am_okh_up hok2 hs ⟨fun q => absurd q (by simp), fun _ => hR⟩, had, hn0, hs0⟩
theorem am_last (X : am_X K cc own) {n : Nat} {i x : Int} {rs : List (Option Nat)} (c0 : Nat) (hs : sh[c0]? = some (1, n, rs)) (h0 : 0 ≤ i) (h1 : i < n) (hd : decode cc pc = .ok (.lastore, 1)) (k : am_G K (pc + 1) L st sh (am_up σ c0 i.toNat x)) : am_G K pc L (vl x :: vi i :: vr c0 :: st) sh σ := by
  obtain ⟨p, l, e, R, s, m, args, below, meth, c, Q, D, cA, A, n0, s0, adS⟩ := K
  obtain ⟨hx, hb, ho, hts, hK, hA, hSt, hN⟩ := X
  intro ad ls H locs h
  obtain ⟨⟨hP, hD, hS⟩, hl, hst, hlo, hok1, hok2, had, hn0, hs0⟩ := id h
  have hR := okv_lR (am_st_h hst)
  obtain ⟨hin, hcl⟩ := am_in_of (am_st_1 hst) h0 h1
  refine va_last hx hb hK hP hD hS c0 1 (am_w_get hs) rfl hin hd (fun H1 locs1 hP1 hD1 hS1 => ?_)
  rw [hcl] at hP1 hD1
  have e0 : (Sum.inl (cA 1, n, Sum.inr (Sum.inl (vp_updL (fun j => Int64.ofInt (σ c0 j)) i.toNat (Int64.ofInt x)))) : va_E) = am_el cA ad (1, n, rs) (am_up σ c0 i.toNat x c0) := by
    rw [am_up_at]
    simp only [am_el]
    congr 5
    funext j
    simp only [vp_updL]
    split <;> rfl
  have e := am_w_set1 (cA := cA) (ad := ad) (σ := σ) (σ' := am_up σ c0 i.toNat x) hs e0 (fun c' hc' => am_up_ne c' hc')
  simp only [am_el] at hP1 hD1
  rw [e] at hP1 hD1
  exact k ad ls H1 locs1 ⟨⟨hP1, hD1, hS1⟩, hl, am_st_1 (am_st_1 (am_st_1 hst)), hlo, hok1, am_okh_up hok2 hs ⟨fun _ => hR, fun q => absurd rfl q⟩, had, hn0, hs0⟩
theorem am_aald (X : am_X K cc own) {n c1 : Nat} {i : Int} {rs : List (Option Nat)} (c0 : Nat) (hs : sh[c0]? = some (3, n, rs)) (h0 : 0 ≤ i) (h1 : i < n) (hr : rs[i.toNat]? = some (some c1)) (hd : decode cc pc = .ok (.aaload, 1)) (k : am_G K (pc + 1) L (vr c1 :: st) sh σ) : am_G K pc L (vi i :: vr c0 :: st) sh σ := by
  obtain ⟨p, l, e, R, s, m, args, below, meth, c, Q, D, cA, A, n0, s0, adS⟩ := K
  obtain ⟨hx, hb, ho, hts, hK, hA, hSt, hN⟩ := X
  intro ad ls H locs h
  obtain ⟨⟨hP, hD, hS⟩, hl, hst, hlo, hok1, hok2, had, hn0, hs0⟩ := id h
  obtain ⟨hin, hcl⟩ := am_in_of hst h0 h1
  refine va_aldq hx hb hK hP c0 3 (am_w_get hs) rfl hin hd ?_
  rw [hcl, List.getD_eq_getElem?_getD, hr]
  exact k ad ls H locs (am_Rst h (am_st_2 (okv_r (Or.inl (hok1 _ _ hs _ (List.mem_of_getElem? hr)))) (am_st_1 (am_st_1 hst))))
theorem am_alen (X : am_X K cc own) {kd n : Nat} {rs : List (Option Nat)} (c0 : Nat) (hs : sh[c0]? = some (kd, n, rs)) (hk : kd < 4) (hn : n < 2147483648) (hd : decode cc pc = .ok (.arraylength, 1)) (k : am_G K (pc + 1) L (vi n :: st) sh σ) : am_G K pc L (vr c0 :: st) sh σ := by
  obtain ⟨p, l, e, R, s, m, args, below, meth, c, Q, D, cA, A, n0, s0, adS⟩ := K
  obtain ⟨hx, hb, ho, hts, hK, hA, hSt, hN⟩ := X
  intro ad ls H locs h
  obtain ⟨⟨hP, hD, hS⟩, hl, hst, hlo, hok1, hok2, had, hn0, hs0⟩ := id h
  have hk2 := k ad ls H locs (am_Rst h (am_st_2 (okv_i (by unfold R32; omega)) (am_st_1 hst)))
  rcases (show kd = 0 ∨ kd = 1 ∨ kd = 2 ∨ kd = 3 by omega) with rfl | rfl | rfl | rfl
  · exact va_alen hx hb hK hP c0 0 (am_w_get hs) (ty := .int) rfl rfl hd hk2
  · exact va_alen hx hb hK hP c0 1 (am_w_get hs) (ty := .long) rfl rfl hd hk2
  · exact va_alen hx hb hK hP c0 2 (am_w_get hs) (ty := .boolean) rfl rfl hd hk2
  · exact va_alen hx hb hK hP c0 3 (am_w_get hs) (ty := .object "OwedDays$Shelf") rfl rfl hd hk2
theorem am_gsOWN (X : am_X K cc own) {i : Nat} (hw : Cond.fieldLink own i RX0 "OWN" "[I" ∈ am_B) (hd : decode cc pc = .ok (.getstatic i, 3)) (k : am_G K (pc + 3) L (vr 1000 :: st) sh σ) : am_G K pc L st sh σ := by
  obtain ⟨p, l, e, R, s, m, args, below, meth, c, Q, D, cA, A, n0, s0, adS⟩ := K
  obtain ⟨hx, hb, ho, hts, hK, hA, hSt, hN⟩ := X
  intro ad ls H locs h
  obtain ⟨⟨hP, hD, hS⟩, hl, hst, hlo, hok1, hok2, had, hn0, hs0⟩ := id h
  refine va_gets hx hb hSt.1 hS ho (hts _ hw) (fun _ h9 => h9) hd ?_
  rw [← had 1000 (Or.inr (by decide))]
  exact k ad ls H locs (am_Rst h (am_st_2 (okv_r (Or.inr (by decide))) hst))
theorem am_ldOWN (X : am_X K cc own) {i : Int} (h0 : 0 ≤ i) (h1 : i < 32) (hr : R32 (am_own i.toNat)) (hd : decode cc pc = .ok (.iaload, 1)) (k : am_G K (pc + 1) L (vi (am_own i.toNat) :: st) sh σ) : am_G K pc L (vi i :: vr 1000 :: st) sh σ := by
  obtain ⟨p, l, e, R, s, m, args, below, meth, c, Q, D, cA, A, n0, s0, adS⟩ := K
  obtain ⟨hx, hb, ho, hts, hK, hA, hSt, hN⟩ := X
  intro ad ls H locs h
  obtain ⟨⟨hP, hD, hS⟩, hl, hst, hlo, hok1, hok2, had, hn0, hs0⟩ := id h
  obtain ⟨hin, hcl⟩ := am_in_of (n := 32) hst h0 h1
  have hk2 := k ad ls H locs (am_Rst h (am_st_2 (okv_i hr) (am_st_1 (am_st_1 hst))))
  refine W.eq (g2 := F0 m pc ls (.int (Int32.ofInt i) :: .ref (adS 1000) :: st.map (am_c ad))) (by rw [← had 1000 (Or.inr (by decide))]; rfl) ?_
  exact va_ti hx hb hSt.2.1 hS hin (by rw [hcl]; rfl) hd hk2
theorem am_gsABOVE (X : am_X K cc own) {i : Nat} (hw : Cond.fieldLink own i RX0 "ABOVE" "[I" ∈ am_B) (hd : decode cc pc = .ok (.getstatic i, 3)) (k : am_G K (pc + 3) L (vr 1001 :: st) sh σ) : am_G K pc L st sh σ := by
  obtain ⟨p, l, e, R, s, m, args, below, meth, c, Q, D, cA, A, n0, s0, adS⟩ := K
  obtain ⟨hx, hb, ho, hts, hK, hA, hSt, hN⟩ := X
  intro ad ls H locs h
  obtain ⟨⟨hP, hD, hS⟩, hl, hst, hlo, hok1, hok2, had, hn0, hs0⟩ := id h
  refine va_gets hx hb hSt.2.2.1 hS ho (hts _ hw) (fun _ h9 => h9) hd ?_
  rw [← had 1001 (Or.inr (by decide))]
  exact k ad ls H locs (am_Rst h (am_st_2 (okv_r (Or.inr (by decide))) hst))
theorem am_ldABOVE (X : am_X K cc own) {i : Int} (h0 : 0 ≤ i) (h1 : i < 8) (hr : R32 (am_above i.toNat)) (hd : decode cc pc = .ok (.iaload, 1)) (k : am_G K (pc + 1) L (vi (am_above i.toNat) :: st) sh σ) : am_G K pc L (vi i :: vr 1001 :: st) sh σ := by
  obtain ⟨p, l, e, R, s, m, args, below, meth, c, Q, D, cA, A, n0, s0, adS⟩ := K
  obtain ⟨hx, hb, ho, hts, hK, hA, hSt, hN⟩ := X
  intro ad ls H locs h
  obtain ⟨⟨hP, hD, hS⟩, hl, hst, hlo, hok1, hok2, had, hn0, hs0⟩ := id h
  obtain ⟨hin, hcl⟩ := am_in_of (n := 8) hst h0 h1
  have hk2 := k ad ls H locs (am_Rst h (am_st_2 (okv_i hr) (am_st_1 (am_st_1 hst))))
  refine W.eq (g2 := F0 m pc ls (.int (Int32.ofInt i) :: .ref (adS 1001) :: st.map (am_c ad))) (by rw [← had 1001 (Or.inr (by decide))]; rfl) ?_
  exact va_ti hx hb hSt.2.2.2.1 hS hin (by rw [hcl]; rfl) hd hk2
end AM4
