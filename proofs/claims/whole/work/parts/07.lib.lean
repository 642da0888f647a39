/-! the library, and cells that are made -/
set_option maxRecDepth 20000 in
theorem wo_inst : Cond.instanceMethod objectInit ∈ am_B := tb_1 (i := 20) rfl rfl
set_option maxRecDepth 20000 in
theorem wo_code : Cond.code objectInit ⟨#[0xb1]⟩ 1 none ∈ am_B := tb_1 (i := 21) rfl rfl
set_option maxRecDepth 20000 in
theorem wm_max_st : Cond.static Lib.Math.max.name ∈ am_B := tb_3 (i := 61) rfl rfl
set_option maxRecDepth 20000 in
theorem wm_max_code : Cond.code Lib.Math.max.name Lib.Math.max.code 2 (some .int) ∈ am_B := tb_3 (i := 62) rfl rfl
set_option maxRecDepth 20000 in
theorem wm_min_st : Cond.static Lib.Math.min.name ∈ am_B := tb_3 (i := 58) rfl rfl
set_option maxRecDepth 20000 in
theorem wm_min_code : Cond.code Lib.Math.min.name Lib.Math.min.code 2 (some .int) ∈ am_B := tb_3 (i := 59) rfl rfl
set_option maxRecDepth 20000 in
theorem wm_ini : Cond.initialized "java/lang/Math" ∈ am_B := tb_1 (i := 12) rfl rfl
set_option maxRecDepth 20000 in
theorem ws_ini : Cond.initialized "java/lang/System" ∈ am_B := tb_1 (i := 11) rfl rfl
set_option maxRecDepth 20000 in
theorem ws_nat : Cond.native arraycopyName ∈ am_B := tb_2 (i := 157) rfl rfl
set_option maxRecDepth 20000 in
theorem ws_st : Cond.static arraycopyName ∈ am_B := tb_2 (i := 156) rfl rfl
set_option maxRecDepth 20000 in
theorem wa_int : Cond.arrayClass .int ∈ am_B := tb_1 (i := 49) rfl rfl
set_option maxRecDepth 20000 in
theorem wa_long : Cond.arrayClass .long ∈ am_B := tb_2 (i := 36) rfl rfl
set_option maxRecDepth 20000 in
theorem wa_bool : Cond.arrayClass .boolean ∈ am_B := tb_1 (i := 209) rfl rfl
theorem am_el_ext {cA : Nat → ClassId} {ad ad' : Nat → Nat} {x : am_S} {f : Nat → Int} (h : ∀ r, some r ∈ x.2.2 → ad' r = ad r) : am_el cA ad' x f = am_el cA ad x f := by
  have hr : ∀ j, am_ro ad' (x.2.2.getD j none) = am_ro ad (x.2.2.getD j none) := by
    intro j
    rw [List.getD_eq_getElem?_getD]
    cases hj : x.2.2[j]? with
    | none => rfl
    | some o =>
      cases o with
      | none => rfl
      | some r =>
        show some (ad' r) = some (ad r)
        rw [h r (List.mem_of_getElem? hj)]
  unfold am_el
  split <;> try rfl
  · congr 7
    funext j
    exact hr j
  · congr 2
    apply List.map_congr_left
    intro k _
    unfold am_fld
    rw [hr k]
def am_ad (ad : Nat → Nat) (n q : Nat) : Nat → Nat := fun k => if k = n then q else ad k
def am_nw (σ : am_H) (n : Nat) : am_H := fun c => if c = n then (fun _ => 0) else σ c
theorem am_w_new {cA : Nat → ClassId} {ad : Nat → Nat} {sh : List am_S} {σ : am_H} (hok : am_oks sh) (x : am_S) (q : Nat) : am_w cA (am_ad ad sh.length q) (sh ++ [x]) (am_nw σ sh.length) = am_w cA ad sh σ ++ [(q, am_el cA (am_ad ad sh.length q) x (fun _ => 0))] := by
  apply List.ext_getElem?
  intro i
  by_cases hl : i < sh.length
  · have e := List.getElem?_eq_getElem hl
    rw [am_w_get (x := sh[i]) (by rw [List.getElem?_append_left hl]; exact e), List.getElem?_append_left (by rw [am_w_len]; exact hl), am_w_get e]
    have h1 : am_ad ad sh.length q i = ad i := by simp [am_ad, Nat.ne_of_lt hl]
    have h2 : am_nw σ sh.length i = σ i := by simp [am_nw, Nat.ne_of_lt hl]
    have hrr : ∀ r, some r ∈ sh[i].2.2 → am_ad ad sh.length q r = ad r := fun r hr => by
      have hlt := hok i _ e r hr
      unfold am_ad
      rw [if_neg (by omega)]
    rw [h1, h2, am_el_ext hrr]
  · by_cases he : i = sh.length
    · subst he
      rw [am_w_get (x := x) (by simp), List.getElem?_append_right (by rw [am_w_len]; exact Nat.le_refl _), am_w_len, Nat.sub_self]
      have h1 : am_ad ad sh.length q sh.length = q := by simp [am_ad]
      have h2 : am_nw σ sh.length sh.length = (fun _ => 0) := by simp [am_nw]
      rw [h1, h2]
      rfl
    · rw [List.getElem?_eq_none (by rw [am_w_len, List.length_append, List.length_singleton]; omega), List.getElem?_eq_none (by rw [List.length_append, am_w_len, List.length_singleton]; omega)]
theorem am_sl_app (sh : List am_S) (x : am_S) : am_sl (sh ++ [x]) = am_sl sh + x.2.1 := by simp [am_sl, List.sum_append]
theorem am_sl_set {sh : List am_S} {c : Nat} {x x' : am_S} (h : sh[c]? = some x) (he : x'.2.1 = x.2.1) : am_sl (sh.set c x') = am_sl sh := by
  unfold am_sl
  rw [List.map_set, he]
  congr 1
  apply List.ext_getElem?
  intro i
  by_cases hi : i = c
  · subst hi
    rw [List.getElem?_set_self (by rw [List.length_map]; exact (List.getElem?_eq_some_iff.mp h).1), List.getElem?_map, h]
    rfl
  · rw [List.getElem?_set_ne (Ne.symm hi)]
/-- the state behind the making of a cell -/
theorem am_made {s : State} {c : Code} {D : va_G} {cA : Nat → ClassId} {A : Nat → Prop} {n0 s0 : Nat} {adS ad : Nat → Nat} {L : List (Option am_V)} {st st1 : List am_V} {sh : List am_S} {σ : am_H} {ls : Array Slot} {H H1 : Heap} {locs : List Loc} {x : am_S} {q : Nat} (h : am_R s c D cA A n0 s0 adS ad L st sh σ ls H locs) (hl : sh.length < 1000) (hx : ∀ r, some r ∉ x.2.2) (hP : va_P D am_cl (am_w cA ad sh σ ++ [(q, am_el cA (am_ad ad sh.length q) x (fun _ => 0))]) H1) (hD : va_D A (am_w cA ad sh σ ++ [(q, am_el cA (am_ad ad sh.length q) x (fun _ => 0))])) (hS : va_S A s.heap H1 locs) (hst : ∀ v ∈ st1, am_okv sh.length v) : am_R s c D cA A n0 s0 adS (am_ad ad sh.length q) L (vr sh.length :: st1) (sh ++ [x]) (am_nw σ sh.length) ls H1 locs ∧ (vr sh.length :: st1).map (am_c (am_ad ad sh.length q)) = .ref q :: st1.map (am_c ad) := by
  obtain ⟨-, hl9, -, hlo, hok1, hok2, had, hn0, hs0⟩ := h
  have hx9 : ∀ k, k < sh.length ∨ 1000 ≤ k → am_ad ad sh.length q k = ad k := fun k hk => by
    have : k ≠ sh.length := by omega
    simp [am_ad, this]
  have hle : sh.length ≤ (sh ++ [x]).length := by simp
  rw [← am_w_new hok1] at hP hD
  refine ⟨⟨⟨hP, hD, hS⟩, ⟨am_RL_ext hx9 hlo hl9.1, hl9.2⟩, am_st_2 (okv_r (Or.inl (by simp))) (fun v hv => okv_mono hle (hst v hv)), fun i v hi => okv_mono hle (hlo i v hi), fun c' x' hc' r hr => ?_, fun c' x' hc' k => ?_, fun k hk => ?_, Nat.le_trans hn0 hle, by rw [am_sl_app]; exact Nat.le_trans hs0 (Nat.le_add_right _ _)⟩, ?_⟩
  · by_cases hi : c' < sh.length
    · rw [List.getElem?_append_left hi] at hc'
      exact Nat.lt_of_lt_of_le (hok1 _ _ hc' r hr) hle
    · rw [List.getElem?_append_right (by omega)] at hc'
      have hz : c' - sh.length < 1 := (List.getElem?_eq_some_iff.mp hc').1
      rw [show c' - sh.length = 0 by omega] at hc'
      cases hc'
      exact absurd hr (hx r)
  · by_cases hi : c' < sh.length
    · rw [List.getElem?_append_left hi] at hc'
      have e : am_nw σ sh.length c' = σ c' := by simp [am_nw, Nat.ne_of_lt hi]
      rw [e]
      exact hok2 _ _ hc' k
    · have hc : c' = sh.length := by
        have := (List.getElem?_eq_some_iff.mp hc').1
        simp at this
        omega
      have e : am_nw σ sh.length c' = fun _ => 0 := by simp [am_nw, hc]
      rw [e]
      exact ⟨fun _ => R64_0, fun _ => R32_0⟩
  · rw [hx9 k (by omega)]
    exact had k hk
  · rw [List.map_cons, am_map_ext hx9 hst]
    congr 1
    show Value.ref (am_ad ad sh.length q sh.length) = _
    simp [am_ad]
theorem am_df (ci k : Nat) : defaultValue (am_ty ci k) = if am_isref (am_ty ci k) = true then va_rf none else .int (Int32.ofInt 0) := by
  unfold am_ty
  split <;> first | (unfold tyX0; split <;> rfl) | (unfold tyX1; split <;> rfl) | (unfold tyX2; split <;> rfl) | (unfold tyX3; split <;> rfl) | (unfold tyX4; split <;> rfl) | (unfold tyX6; split <;> rfl) | (unfold tyX7; split <;> rfl) | (unfold tyX8; split <;> rfl) | (unfold tyX9; split <;> rfl) | (unfold tyX10; split <;> rfl)
section AM7
variable {K : am_K} {cc : ByteArray} {own : String} {pc : Nat} {L : List (Option am_V)} {st : List am_V} {sh : List am_S} {σ : am_H}
theorem am_objInit (X : am_X K cc own) {dd NN SS : Nat} (hY : am_Y K dd NN SS) {i c0 : Nat} (hlk : Cond.methodLink own i objectInit ∈ am_B) (hdd : 1 ≤ dd) (hw : am_cw st ≤ 8) (hd : decode cc pc = .ok (.invokespecial i, 3)) (k : am_G K (pc + 3) L st sh σ) : am_G K pc L (vr c0 :: st) sh σ := by
  obtain ⟨p, l, e, R, s, m, args, below, meth, c, Q, D, cA, A, n0, s0, adS⟩ := K
  obtain ⟨hx, hb, ho, hts, hK, hA, hSt, hN⟩ := X
  intro ad ls H locs h
  obtain ⟨hY1, hY2, hY3, hY4⟩ := hY
  obtain ⟨⟨hP, hD, hS⟩, hl, hst, hlo, hok1, hok2, had, hn0, hs0⟩ := id h
  refine W.objInit hx hb ho (hts _ hlk) (hts _ wo_inst) (hts _ wo_code) rfl (hl.1.1.trans hl.2) (a := ad c0) (rest := st.map (am_c ad)) rfl hd (by omega) (by rw [am_cw_of]; show 2 * 0 + _ + 12 ≤ _; omega) ?_
  exact k ad ls H locs (am_Rst h (am_st_1 hst))
theorem am_mmax (X : am_X K cc own) {dd NN SS : Nat} (hY : am_Y K dd NN SS) {i : Nat} {a b : Int} (hlk : Cond.methodLink own i Lib.Math.max.name ∈ am_B) (hdd : 1 ≤ dd) (hNN : sh.length ≤ NN) (hSS : am_sl sh ≤ SS) (hw : am_cw st ≤ 8) (hd : decode cc pc = .ok (.invokestatic i, 3)) (k : am_G K (pc + 3) L (vi (if a < b then b else a) :: st) sh σ) : am_G K pc L (vi b :: vi a :: st) sh σ := by
  obtain ⟨p, l, e, R, s, m, args, below, meth, c, Q, D, cA, A, n0, s0, adS⟩ := K
  obtain ⟨hx, hb, ho, hts, hK, hA, hSt, hN⟩ := X
  intro ad ls H locs h
  obtain ⟨hY1, hY2, hY3, hY4⟩ := hY
  obtain ⟨⟨hP, hD, hS⟩, hl, hst, hlo, hok1, hok2, had, hn0, hs0⟩ := id h
  have ha := okv_iR (am_st_h (am_st_1 hst))
  have hb2 := okv_iR (am_st_h hst)
  have hr : R32 (if a < b then b else a) := by split <;> assumption
  refine va_mmax hx hb (hl.2.symm.trans hl.1.1.symm) ho (hts _ hlk) (hts _ wm_max_st) (hts _ wm_ini) (hts _ wm_max_code) (by omega) (by rw [am_cw_of]; omega) (by omega) (by omega) hd ?_
  have hk := k ad ls H locs (am_Rst h (am_st_2 (okv_i hr) (am_st_1 (am_st_1 hst))))
  have e : (if Int32.ofInt a < Int32.ofInt b then Int32.ofInt b else Int32.ofInt a) = Int32.ofInt (if a < b then b else a) := by
    by_cases z : a < b
    · rw [if_pos z, if_pos ((R32_lt ha hb2).mpr z)]
    · rw [if_neg z, if_neg (fun y => z ((R32_lt ha hb2).mp y))]
  rw [e]
  exact hk
theorem am_mmin (X : am_X K cc own) {dd NN SS : Nat} (hY : am_Y K dd NN SS) {i : Nat} {a b : Int} (hlk : Cond.methodLink own i Lib.Math.min.name ∈ am_B) (hdd : 1 ≤ dd) (hNN : sh.length ≤ NN) (hSS : am_sl sh ≤ SS) (hw : am_cw st ≤ 8) (hd : decode cc pc = .ok (.invokestatic i, 3)) (k : am_G K (pc + 3) L (vi (if b < a then b else a) :: st) sh σ) : am_G K pc L (vi b :: vi a :: st) sh σ := by
  obtain ⟨p, l, e, R, s, m, args, below, meth, c, Q, D, cA, A, n0, s0, adS⟩ := K
  obtain ⟨hx, hb, ho, hts, hK, hA, hSt, hN⟩ := X
  intro ad ls H locs h
  obtain ⟨hY1, hY2, hY3, hY4⟩ := hY
  obtain ⟨⟨hP, hD, hS⟩, hl, hst, hlo, hok1, hok2, had, hn0, hs0⟩ := id h
  have ha := okv_iR (am_st_h (am_st_1 hst))
  have hb2 := okv_iR (am_st_h hst)
  have hr : R32 (if b < a then b else a) := by split <;> assumption
  refine va_mmin hx hb (hl.2.symm.trans hl.1.1.symm) ho (hts _ hlk) (hts _ wm_min_st) (hts _ wm_ini) (hts _ wm_min_code) (by omega) (by rw [am_cw_of]; omega) (by omega) (by omega) hd ?_
  have hk := k ad ls H locs (am_Rst h (am_st_2 (okv_i hr) (am_st_1 (am_st_1 hst))))
  have e : (if Int32.ofInt b < Int32.ofInt a then Int32.ofInt b else Int32.ofInt a) = Int32.ofInt (if b < a then b else a) := by
    by_cases z : b < a
    · rw [if_pos z, if_pos ((R32_lt hb2 ha).mpr z)]
    · rw [if_neg z, if_neg (fun y => z ((R32_lt hb2 ha).mp y))]
  rw [e]
  exact hk
def am_cp (σ : am_H) (c0 c1 sp dp n : Nat) : am_H := fun c k => if c = c1 ∧ dp ≤ k ∧ k < dp + n then σ c0 (sp + (k - dp)) else σ c k
theorem am_cp_ne {σ : am_H} {c0 c1 sp dp n : Nat} (c' : Nat) (h : c' ≠ c1) : am_cp σ c0 c1 sp dp n c' = σ c' := by
  funext k'
  simp [am_cp, h]
theorem am_copyi (X : am_X K cc own) {dd NN SS : Nat} (hY : am_Y K dd NN SS) {i n0x n1x : Nat} {sp dp n : Int} {rs0 rs1 : List (Option Nat)} (c0 c1 : Nat) (hlk : Cond.methodLink own i arraycopyName ∈ am_B) (hdd : 1 ≤ dd) (hs0x : sh[c0]? = some (0, n0x, rs0)) (hs1x : sh[c1]? = some (0, n1x, rs1)) (h1 : 0 ≤ sp) (h2 : 0 ≤ dp) (h3 : 0 ≤ n) (h4 : sp + n ≤ n0x) (h5 : dp + n ≤ n1x) (hw : am_cw st ≤ 8) (hd : decode cc pc = .ok (.invokestatic i, 3)) (k : am_G K (pc + 3) L st sh (am_cp σ c0 c1 sp.toNat dp.toNat n.toNat)) : am_G K pc L (vi n :: vi dp :: vr c1 :: vi sp :: vr c0 :: st) sh σ := by
  obtain ⟨p, l, e, R, s, m, args, below, meth, c, Q, D, cA, A, n0, s0, adS⟩ := K
  obtain ⟨hx, hb, ho, hts, hK, hA, hSt, hN⟩ := X
  intro ad ls H locs h
  obtain ⟨hY1, hY2, hY3, hY4⟩ := hY
  obtain ⟨⟨hP, hD, hS⟩, hl, hst, hlo, hok1, hok2, had, hn0, hs0⟩ := id h
  have hRn := okv_iR (am_st_h hst)
  have hRd := okv_iR (am_st_h (am_st_1 hst))
  have hRs := okv_iR (am_st_h (am_st_1 (am_st_1 (am_st_1 hst))))
  have hst5 := am_st_1 (am_st_1 (am_st_1 (am_st_1 (am_st_1 hst))))
  refine va_copyi hx hb (hl.2.symm.trans hl.1.1.symm) ho (hts _ hlk) (hts _ ws_nat) (hts _ ws_st) (hts _ ws_ini) hK hP hD hS c0 c1 0 0 (am_w_get hs0x) (am_w_get hs1x) rfl rfl rfl (sp := Int32.ofInt sp) (dp := Int32.ofInt dp) (n := Int32.ofInt n) (by rw [R32_lz hRs]; omega) (by rw [R32_lz hRd]; omega) (by rw [R32_lz hRn]; omega) (by rw [R32_cl hRs, R32_cl hRn]; show sp.toNat + n.toNat ≤ n0x; omega) (by rw [R32_cl hRd, R32_cl hRn]; show dp.toNat + n.toNat ≤ n1x; omega) (fun i hi => rfl) (by omega) (by rw [am_cw_of, show nativeFrameWords "java/lang/System" "arraycopy" 5 = 7 from by decide]; omega) hd (fun H1 locs1 hP1 hD1 hS1 => ?_)
  rw [R32_cl hRs, R32_cl hRd, R32_cl hRn] at hP1 hD1
  have e0 : (Sum.inl (cA 0, n1x, Sum.inl (va_cpy (fun j => Int32.ofInt (σ c0 j)) (fun j => Int32.ofInt (σ c1 j)) sp.toNat dp.toNat n.toNat)) : va_E) = am_el cA ad (0, n1x, rs1) (am_cp σ c0 c1 sp.toNat dp.toNat n.toNat c1) := by
    simp only [am_el]
    congr 4
    funext j
    simp only [va_cpy, am_cp, true_and]
    split <;> rfl
  have e := am_w_set1 (cA := cA) (ad := ad) (σ := σ) (σ' := am_cp σ c0 c1 sp.toNat dp.toNat n.toNat) hs1x e0 (fun c' hc' => am_cp_ne c' hc')
  simp only [am_el] at hP1 hD1
  rw [e] at hP1 hD1
  refine k ad ls H1 locs1 ⟨⟨hP1, hD1, hS1⟩, hl, hst5, hlo, hok1, fun c' x' hc' k' => ?_, had, hn0, hs0⟩
  unfold am_cp
  by_cases q : c' = c1 ∧ dp.toNat ≤ k' ∧ k' < dp.toNat + n.toNat
  · rw [if_pos q]
    obtain ⟨rfl, -⟩ := q
    cases hs1x.symm.trans hc'
    exact hok2 _ _ hs0x _
  · rw [if_neg q]
    exact hok2 _ _ hc' k' 
theorem am_copyz (X : am_X K cc own) {dd NN SS : Nat} (hY : am_Y K dd NN SS) {i n0x n1x : Nat} {sp dp n : Int} {rs0 rs1 : List (Option Nat)} (c0 c1 : Nat) (hlk : Cond.methodLink own i arraycopyName ∈ am_B) (hdd : 1 ≤ dd) (hs0x : sh[c0]? = some (2, n0x, rs0)) (hs1x : sh[c1]? = some (2, n1x, rs1)) (h1 : 0 ≤ sp) (h2 : 0 ≤ dp) (h3 : 0 ≤ n) (h4 : sp + n ≤ n0x) (h5 : dp + n ≤ n1x) (hz : ∀ j, sp.toNat ≤ j → j < sp.toNat + n.toNat → σ c0 j = 0 ∨ σ c0 j = 1) (hw : am_cw st ≤ 8) (hd : decode cc pc = .ok (.invokestatic i, 3)) (k : am_G K (pc + 3) L st sh (am_cp σ c0 c1 sp.toNat dp.toNat n.toNat)) : am_G K pc L (vi n :: vi dp :: vr c1 :: vi sp :: vr c0 :: st) sh σ := by
  obtain ⟨p, l, e, R, s, m, args, below, meth, c, Q, D, cA, A, n0, s0, adS⟩ := K
  obtain ⟨hx, hb, ho, hts, hK, hA, hSt, hN⟩ := X
  intro ad ls H locs h
  obtain ⟨hY1, hY2, hY3, hY4⟩ := hY
  obtain ⟨⟨hP, hD, hS⟩, hl, hst, hlo, hok1, hok2, had, hn0, hs0⟩ := id h
  have hRn := okv_iR (am_st_h hst)
  have hRd := okv_iR (am_st_h (am_st_1 hst))
  have hRs := okv_iR (am_st_h (am_st_1 (am_st_1 (am_st_1 hst))))
  have hst5 := am_st_1 (am_st_1 (am_st_1 (am_st_1 (am_st_1 hst))))
  refine va_copyi hx hb (hl.2.symm.trans hl.1.1.symm) ho (hts _ hlk) (hts _ ws_nat) (hts _ ws_st) (hts _ ws_ini) hK hP hD hS c0 c1 2 2 (am_w_get hs0x) (am_w_get hs1x) rfl rfl rfl (sp := Int32.ofInt sp) (dp := Int32.ofInt dp) (n := Int32.ofInt n) (by rw [R32_lz hRs]; omega) (by rw [R32_lz hRd]; omega) (by rw [R32_lz hRn]; omega) (by rw [R32_cl hRs, R32_cl hRn]; show sp.toNat + n.toNat ≤ n0x; omega) (by rw [R32_cl hRd, R32_cl hRn]; show dp.toNat + n.toNat ≤ n1x; omega) (fun i hi => by rcases hz (sp.toNat + i) (by omega) (by rw [R32_cl hRn] at hi; omega) with q | q <;> (rw [R32_cl hRs]; show fits .boolean (.int (Int32.ofInt (σ c0 (sp.toNat + i)))) = true; rw [q]; rfl)) (by omega) (by rw [am_cw_of, show nativeFrameWords "java/lang/System" "arraycopy" 5 = 7 from by decide]; omega) hd (fun H1 locs1 hP1 hD1 hS1 => ?_)
  rw [R32_cl hRs, R32_cl hRd, R32_cl hRn] at hP1 hD1
  have e0 : (Sum.inl (cA 2, n1x, Sum.inl (va_cpy (fun j => Int32.ofInt (σ c0 j)) (fun j => Int32.ofInt (σ c1 j)) sp.toNat dp.toNat n.toNat)) : va_E) = am_el cA ad (2, n1x, rs1) (am_cp σ c0 c1 sp.toNat dp.toNat n.toNat c1) := by
    simp only [am_el]
    congr 4
    funext j
    simp only [va_cpy, am_cp, true_and]
    split <;> rfl
  have e := am_w_set1 (cA := cA) (ad := ad) (σ := σ) (σ' := am_cp σ c0 c1 sp.toNat dp.toNat n.toNat) hs1x e0 (fun c' hc' => am_cp_ne c' hc')
  simp only [am_el] at hP1 hD1
  rw [e] at hP1 hD1
  refine k ad ls H1 locs1 ⟨⟨hP1, hD1, hS1⟩, hl, hst5, hlo, hok1, fun c' x' hc' k' => ?_, had, hn0, hs0⟩
  unfold am_cp
  by_cases q : c' = c1 ∧ dp.toNat ≤ k' ∧ k' < dp.toNat + n.toNat
  · rw [if_pos q]
    obtain ⟨rfl, -⟩ := q
    cases hs1x.symm.trans hc'
    exact hok2 _ _ hs0x _
  · rw [if_neg q]
    exact hok2 _ _ hc' k' 
theorem am_copyl (X : am_X K cc own) {dd NN SS : Nat} (hY : am_Y K dd NN SS) {i n0x n1x : Nat} {sp dp n : Int} {rs0 rs1 : List (Option Nat)} (c0 c1 : Nat) (hlk : Cond.methodLink own i arraycopyName ∈ am_B) (hdd : 1 ≤ dd) (hs0x : sh[c0]? = some (1, n0x, rs0)) (hs1x : sh[c1]? = some (1, n1x, rs1)) (h1 : 0 ≤ sp) (h2 : 0 ≤ dp) (h3 : 0 ≤ n) (h4 : sp + n ≤ n0x) (h5 : dp + n ≤ n1x) (hw : am_cw st ≤ 8) (hd : decode cc pc = .ok (.invokestatic i, 3)) (k : am_G K (pc + 3) L st sh (am_cp σ c0 c1 sp.toNat dp.toNat n.toNat)) : am_G K pc L (vi n :: vi dp :: vr c1 :: vi sp :: vr c0 :: st) sh σ := by
  obtain ⟨p, l, e, R, s, m, args, below, meth, c, Q, D, cA, A, n0, s0, adS⟩ := K
  obtain ⟨hx, hb, ho, hts, hK, hA, hSt, hN⟩ := X
  intro ad ls H locs h
  obtain ⟨hY1, hY2, hY3, hY4⟩ := hY
  obtain ⟨⟨hP, hD, hS⟩, hl, hst, hlo, hok1, hok2, had, hn0, hs0⟩ := id h
  have hRn := okv_iR (am_st_h hst)
  have hRd := okv_iR (am_st_h (am_st_1 hst))
  have hRs := okv_iR (am_st_h (am_st_1 (am_st_1 (am_st_1 hst))))
  have hst5 := am_st_1 (am_st_1 (am_st_1 (am_st_1 (am_st_1 hst))))
  refine va_copyl hx hb (hl.2.symm.trans hl.1.1.symm) ho (hts _ hlk) (hts _ ws_nat) (hts _ ws_st) (hts _ ws_ini) hK hP hD hS c0 c1 1 1 (am_w_get hs0x) (am_w_get hs1x) rfl rfl rfl (sp := Int32.ofInt sp) (dp := Int32.ofInt dp) (n := Int32.ofInt n) (by rw [R32_lz hRs]; omega) (by rw [R32_lz hRd]; omega) (by rw [R32_lz hRn]; omega) (by rw [R32_cl hRs, R32_cl hRn]; show sp.toNat + n.toNat ≤ n0x; omega) (by rw [R32_cl hRd, R32_cl hRn]; show dp.toNat + n.toNat ≤ n1x; omega) (fun i hi => rfl) (by omega) (by rw [am_cw_of, show nativeFrameWords "java/lang/System" "arraycopy" 5 = 7 from by decide]; omega) hd (fun H1 locs1 hP1 hD1 hS1 => ?_)
  rw [R32_cl hRs, R32_cl hRd, R32_cl hRn] at hP1 hD1
  have e0 : (Sum.inl (cA 1, n1x, Sum.inr (Sum.inl (va_cpy (fun j => Int64.ofInt (σ c0 j)) (fun j => Int64.ofInt (σ c1 j)) sp.toNat dp.toNat n.toNat))) : va_E) = am_el cA ad (1, n1x, rs1) (am_cp σ c0 c1 sp.toNat dp.toNat n.toNat c1) := by
    simp only [am_el]
    congr 5
    funext j
    simp only [va_cpy, am_cp, true_and]
    split <;> rfl
  have e := am_w_set1 (cA := cA) (ad := ad) (σ := σ) (σ' := am_cp σ c0 c1 sp.toNat dp.toNat n.toNat) hs1x e0 (fun c' hc' => am_cp_ne c' hc')
  simp only [am_el] at hP1 hD1
  rw [e] at hP1 hD1
  refine k ad ls H1 locs1 ⟨⟨hP1, hD1, hS1⟩, hl, hst5, hlo, hok1, fun c' x' hc' k' => ?_, had, hn0, hs0⟩
  unfold am_cp
  by_cases q : c' = c1 ∧ dp.toNat ≤ k' ∧ k' < dp.toNat + n.toNat
  · rw [if_pos q]
    obtain ⟨rfl, -⟩ := q
    cases hs1x.symm.trans hc'
    exact hok2 _ _ hs0x _
  · rw [if_neg q]
    exact hok2 _ _ hc' k' 
theorem am_new (X : am_X K cc own) {dd NN SS : Nat} (hY : am_Y K dd NN SS) {i ci n : Nat} {C : String} {T : u_T} (hc : am_cl[ci]? = some (C, T, n)) (hcl : Cond.classLink own i C ∈ am_B) (hin : Cond.instantiable C n ∈ am_B) (hini : Cond.initialized C ∈ am_B) (hNN : sh.length + 1 ≤ NN) (hSS : am_sl sh + n ≤ SS) (hl1 : sh.length < 1000) (hd : decode cc pc = .ok (.new i, 3)) (k : am_G K (pc + 3) L (vr sh.length :: st) (sh ++ [(10 + ci, n, List.replicate n none)]) (am_nw σ sh.length)) : am_G K pc L st sh σ := by
  obtain ⟨p, l, e, R, s, m, args, below, meth, c, Q, D, cA, A, n0, s0, adS⟩ := K
  obtain ⟨hx, hb, ho, hts, hK, hA, hSt, hN⟩ := X
  intro ad ls H locs h
  obtain ⟨hY1, hY2, hY3, hY4⟩ := hY
  obtain ⟨⟨hP, hD, hS⟩, hl, hst, hlo, hok1, hok2, had, hn0, hs0⟩ := id h
  refine va_new (ci := ci) (C := C) (T := T) (N := n) (fs := (List.range n).map (am_fld ad ci (List.replicate n none) (fun _ => 0))) hx hb hts (am_cl_in hc) (am_ty ci) (am_cl_ty hc) ho (hts _ hcl) (hts _ hin) (hts _ hini) hK hP hD hS hA hc (fun j hj => ?_) (by omega) (by omega) hd (fun q H1 hP1 hD1 hS1 => ?_)
  · rw [am_df]
    unfold vp_V
    rw [List.getD_eq_getElem?_getD, am_flds_get hj]
    unfold am_fld
    have e9 : (List.replicate n (none : Option Nat)).getD j none = none := by
      rw [List.getD_eq_getElem?_getD, List.getElem?_replicate]
      split <;> rfl
    rw [e9]
    rfl
  · have e1 : am_el cA (am_ad ad sh.length q) (10 + ci, n, List.replicate n none) (fun _ => 0) = .inr (ci, (List.range n).map (am_fld ad ci (List.replicate n none) (fun _ => 0))) := by
      rw [am_el_ext (ad := ad) (fun r hr => absurd (List.eq_of_mem_replicate hr) (by simp)), am_el_obj]
    rw [← e1] at hP1 hD1
    obtain ⟨g1, g2⟩ := am_made h hl1 (fun r hr => absurd (List.eq_of_mem_replicate hr) (by simp)) hP1 hD1 hS1 hst
    have hk := k _ ls H1 locs g1
    rw [g2] at hk
    exact W.cs (by rw [List.length_append, List.length_singleton]; omega) (by rw [am_sl_app]; show _ = am_sl sh + n - s0; omega) hk
theorem am_newI (X : am_X K cc own) {dd NN SS : Nat} (hY : am_Y K dd NN SS) {n : Nat} (hNN : sh.length + 1 ≤ NN) (hSS : am_sl sh + n ≤ SS) (hl1 : sh.length < 1000) (hn : n < 60000) (hd : decode cc pc = .ok (.newarray .int, 2)) (k : am_G K (pc + 2) L (vr sh.length :: st) (sh ++ [(0, n, [])]) (am_nw σ sh.length)) : am_G K pc L (vi (Int.ofNat n) :: st) sh σ := by
  obtain ⟨p, l, e, R, s, m, args, below, meth, c, Q, D, cA, A, n0, s0, adS⟩ := K
  obtain ⟨hx, hb, ho, hts, hK, hA, hSt, hN⟩ := X
  intro ad ls H locs h
  obtain ⟨hY1, hY2, hY3, hY4⟩ := hY
  obtain ⟨⟨hP, hD, hS⟩, hl, hst, hlo, hok1, hok2, had, hn0, hs0⟩ := id h
  have hRn := okv_iR (am_st_h hst)
  refine va_newa (atype := .int) (ty := .int) (a0 := (n, .inl (fun _ => Int32.ofInt 0))) (N' := n) (n := Int32.ofInt (Int.ofNat n)) hx hb (hts _ wa_int) rfl hK hP hD hS hA (fun _ => rfl) (by rw [R32_lz hRn]; show ¬ ((n : Nat) : Int) < 0; omega) (by rw [R32_cl hRn]; rfl) (by show n * 4 ≤ _; omega) (by omega) (by omega) hd (fun q cA' H1 hK1 hP1 hD1 hS1 => ?_)
  have hcA : cA' = cA 0 := by
    have h1 := (hK1.2 4 (cA', .int) rfl).2
    have h2 := (hK.2 0 (cA 0, .int) rfl).2
    exact Option.some.inj (h1.symm.trans h2)
  subst hcA
  have e1 : am_el cA (am_ad ad sh.length q) (0, n, []) (fun _ => 0) = .inl (cA 0, n, .inl (fun _ => Int32.ofInt 0)) := rfl
  rw [← e1] at hP1 hD1
  obtain ⟨g1, g2⟩ := am_made h hl1 (fun r hr => by cases hr) hP1 hD1 hS1 (am_st_1 hst)
  have hk := k _ ls H1 locs g1
  rw [g2] at hk
  exact W.cs (by rw [List.length_append, List.length_singleton]; omega) (by rw [am_sl_app]; show _ = am_sl sh + n - s0; omega) hk
theorem am_newL (X : am_X K cc own) {dd NN SS : Nat} (hY : am_Y K dd NN SS) {n : Nat} (hNN : sh.length + 1 ≤ NN) (hSS : am_sl sh + n ≤ SS) (hl1 : sh.length < 1000) (hn : n < 60000) (hd : decode cc pc = .ok (.newarray .long, 2)) (k : am_G K (pc + 2) L (vr sh.length :: st) (sh ++ [(1, n, [])]) (am_nw σ sh.length)) : am_G K pc L (vi (Int.ofNat n) :: st) sh σ := by
  obtain ⟨p, l, e, R, s, m, args, below, meth, c, Q, D, cA, A, n0, s0, adS⟩ := K
  obtain ⟨hx, hb, ho, hts, hK, hA, hSt, hN⟩ := X
  intro ad ls H locs h
  obtain ⟨hY1, hY2, hY3, hY4⟩ := hY
  obtain ⟨⟨hP, hD, hS⟩, hl, hst, hlo, hok1, hok2, had, hn0, hs0⟩ := id h
  have hRn := okv_iR (am_st_h hst)
  refine va_newa (atype := .long) (ty := .long) (a0 := (n, .inr (.inl (fun _ => Int64.ofInt 0)))) (N' := n) (n := Int32.ofInt (Int.ofNat n)) hx hb (hts _ wa_long) rfl hK hP hD hS hA (fun _ => rfl) (by rw [R32_lz hRn]; show ¬ ((n : Nat) : Int) < 0; omega) (by rw [R32_cl hRn]; rfl) (by show n * 8 ≤ _; omega) (by omega) (by omega) hd (fun q cA' H1 hK1 hP1 hD1 hS1 => ?_)
  have hcA : cA' = cA 1 := by
    have h1 := (hK1.2 4 (cA', .long) rfl).2
    have h2 := (hK.2 1 (cA 1, .long) rfl).2
    exact Option.some.inj (h1.symm.trans h2)
  subst hcA
  have e1 : am_el cA (am_ad ad sh.length q) (1, n, []) (fun _ => 0) = .inl (cA 1, n, .inr (.inl (fun _ => Int64.ofInt 0))) := rfl
  rw [← e1] at hP1 hD1
  obtain ⟨g1, g2⟩ := am_made h hl1 (fun r hr => by cases hr) hP1 hD1 hS1 (am_st_1 hst)
  have hk := k _ ls H1 locs g1
  rw [g2] at hk
  exact W.cs (by rw [List.length_append, List.length_singleton]; omega) (by rw [am_sl_app]; show _ = am_sl sh + n - s0; omega) hk
theorem am_newZ (X : am_X K cc own) {dd NN SS : Nat} (hY : am_Y K dd NN SS) {n : Nat} (hNN : sh.length + 1 ≤ NN) (hSS : am_sl sh + n ≤ SS) (hl1 : sh.length < 1000) (hn : n < 60000) (hd : decode cc pc = .ok (.newarray .boolean, 2)) (k : am_G K (pc + 2) L (vr sh.length :: st) (sh ++ [(2, n, [])]) (am_nw σ sh.length)) : am_G K pc L (vi (Int.ofNat n) :: st) sh σ := by
  obtain ⟨p, l, e, R, s, m, args, below, meth, c, Q, D, cA, A, n0, s0, adS⟩ := K
  obtain ⟨hx, hb, ho, hts, hK, hA, hSt, hN⟩ := X
  intro ad ls H locs h
  obtain ⟨hY1, hY2, hY3, hY4⟩ := hY
  obtain ⟨⟨hP, hD, hS⟩, hl, hst, hlo, hok1, hok2, had, hn0, hs0⟩ := id h
  have hRn := okv_iR (am_st_h hst)
  refine va_newa (atype := .boolean) (ty := .boolean) (a0 := (n, .inl (fun _ => Int32.ofInt 0))) (N' := n) (n := Int32.ofInt (Int.ofNat n)) hx hb (hts _ wa_bool) rfl hK hP hD hS hA (fun _ => rfl) (by rw [R32_lz hRn]; show ¬ ((n : Nat) : Int) < 0; omega) (by rw [R32_cl hRn]; rfl) (by show n * 1 ≤ _; omega) (by omega) (by omega) hd (fun q cA' H1 hK1 hP1 hD1 hS1 => ?_)
  have hcA : cA' = cA 2 := by
    have h1 := (hK1.2 4 (cA', .boolean) rfl).2
    have h2 := (hK.2 2 (cA 2, .boolean) rfl).2
    exact Option.some.inj (h1.symm.trans h2)
  subst hcA
  have e1 : am_el cA (am_ad ad sh.length q) (2, n, []) (fun _ => 0) = .inl (cA 2, n, .inl (fun _ => Int32.ofInt 0)) := rfl
  rw [← e1] at hP1 hD1
  obtain ⟨g1, g2⟩ := am_made h hl1 (fun r hr => by cases hr) hP1 hD1 hS1 (am_st_1 hst)
  have hk := k _ ls H1 locs g1
  rw [g2] at hk
  exact W.cs (by rw [List.length_append, List.length_singleton]; omega) (by rw [am_sl_app]; show _ = am_sl sh + n - s0; omega) hk
theorem am_newQ (X : am_X K cc own) {dd NN SS : Nat} (hY : am_Y K dd NN SS) {i n : Nat} (hcl : Cond.classLink own i "OwedDays$Shelf" ∈ am_B) (hNN : sh.length + 1 ≤ NN) (hSS : am_sl sh + n ≤ SS) (hl1 : sh.length < 1000) (hn : n < 60000) (hd : decode cc pc = .ok (.anewarray i, 3)) (k : am_G K (pc + 3) L (vr sh.length :: st) (sh ++ [(3, n, List.replicate n none)]) (am_nw σ sh.length)) : am_G K pc L (vi (Int.ofNat n) :: st) sh σ := by
  obtain ⟨p, l, e, R, s, m, args, below, meth, c, Q, D, cA, A, n0, s0, adS⟩ := K
  obtain ⟨hx, hb, ho, hts, hK, hA, hSt, hN⟩ := X
  intro ad ls H locs h
  obtain ⟨hY1, hY2, hY3, hY4⟩ := hY
  obtain ⟨⟨hP, hD, hS⟩, hl, hst, hlo, hok1, hok2, had, hn0, hs0⟩ := id h
  have hRn := okv_iR (am_st_h hst)
  refine va_newq (C := "OwedDays$Shelf") (N' := n) (n := Int32.ofInt (Int.ofNat n)) hx hb ho (hts _ hcl) hSt.2.2.2.2 hK hP hD hS hA (by rw [R32_lz hRn]; show ¬ ((n : Nat) : Int) < 0; omega) (by rw [R32_cl hRn]; rfl) (by omega) (by omega) (by omega) hd (fun q cA' H1 hK1 hP1 hD1 hS1 => ?_)
  have hcA : cA' = cA 3 := by
    obtain ⟨_, _, _, _, _, h1⟩ := (hK1.2 4 (cA', .object "OwedDays$Shelf") rfl).2
    obtain ⟨_, _, _, _, _, h2⟩ := (hK.2 3 (cA 3, .object "OwedDays$Shelf") rfl).2
    exact Option.some.inj (h1.symm.trans h2)
  subst hcA
  have e1 : am_el cA (am_ad ad sh.length q) (3, n, List.replicate n none) (fun _ => 0) = .inl (cA 3, n, .inr (.inr (.inr (.inr (fun _ => none))))) := by
    simp only [am_el]
    congr 7
    funext j
    have e9 : (List.replicate n (none : Option Nat)).getD j none = none := by
      rw [List.getD_eq_getElem?_getD, List.getElem?_replicate]
      split <;> rfl
    rw [e9]
    rfl
  rw [← e1] at hP1 hD1
  obtain ⟨g1, g2⟩ := am_made h hl1 (fun r hr => absurd (List.eq_of_mem_replicate hr) (by simp)) hP1 hD1 hS1 (am_st_1 hst)
  have hk := k _ ls H1 locs g1
  rw [g2] at hk
  exact W.cs (by rw [List.length_append, List.length_singleton]; omega) (by rw [am_sl_app]; show _ = am_sl sh + n - s0; omega) hk
theorem am_oks_set {sh : List am_S} {c0 : Nat} {x : am_S} (hok : am_oks sh) (hx : ∀ r, some r ∈ x.2.2 → r < sh.length) : am_oks (sh.set c0 x) := by
  intro c' x' h' r hr
  rw [List.length_set]
  by_cases hi : c' = c0
  · subst hi
    by_cases hl : c' < sh.length
    · rw [List.getElem?_set_self hl] at h'
      cases h'
      exact hx r hr
    · rw [List.getElem?_eq_none (by rw [List.length_set]; omega)] at h'
      cases h'
  · rw [List.getElem?_set_ne (Ne.symm hi)] at h'
    exact hok c' x' h' r hr
theorem am_okh_set {sh : List am_S} {σ : am_H} {c0 : Nat} {x x1 : am_S} (hok : am_okh sh σ) (hs : sh[c0]? = some x1) (hx : x.1 = x1.1) : am_okh (sh.set c0 x) σ := by
  intro c' x' h' k
  by_cases hi : c' = c0
  · subst hi
    rw [List.getElem?_set_self (List.getElem?_eq_some_iff.mp hs).1] at h'
    cases h'
    rw [hx]
    exact hok _ _ hs k
  · rw [List.getElem?_set_ne (Ne.symm hi)] at h'
    exact hok c' x' h' k
theorem am_mem_set {rs : List (Option Nat)} {k c1 n : Nat} (h : ∀ r, some r ∈ rs → r < n) (hc : c1 < n) : ∀ r, some r ∈ rs.set k (some c1) → r < n := by
  intro r hr
  rcases List.mem_or_eq_of_mem_set hr with q | q
  · exact h r q
  · cases q; exact hc
theorem am_putr (X : am_X K cc own) (hI : am_init K) {i ci k0 n c1 : Nat} {rs : List (Option Nat)} {sh' : List am_S} (c0 : Nat) (hf : am_lf own i ci k0) (hdo : ((am_cl.getD ci (RX0, TX0, 5)).2.1 k0).1 = own) (ht : am_isref (am_ty ci k0) = true) (hfn : am_fin ci k0 = true) (hs : sh[c0]? = some (10 + ci, n, rs)) (hn : k0 < n) (hrl : rs.length = n) (hc1 : c1 < sh.length) (hsh : sh.set c0 (10 + ci, n, rs.set k0 (some c1)) = sh') (hd : decode cc pc = .ok (.putfield i, 3)) (k : am_G K (pc + 3) L st sh' σ) : am_G K pc L (vr c1 :: vr c0 :: st) sh σ := by
  subst hsh
  obtain ⟨p, l, e, R, s, m, args, below, meth, c, Q, D, cA, A, n0, s0, adS⟩ := K
  obtain ⟨hx, hb, ho, hts, hK, hA, hSt, hN⟩ := X
  intro ad ls H locs h
  obtain ⟨⟨hP, hD, hS⟩, hl, hst, hlo, hok1, hok2, had, hn0, hs0⟩ := id h
  obtain ⟨⟨C, T, N⟩, hr, hkN, hlk, hdc⟩ := hf
  have he := am_w_get (cA := cA) (ad := ad) (σ := σ) hs
  rw [am_el_obj] at he
  have hT := am_cl_ty hr k0 hkN
  have hnf : narrow (am_ty ci k0) (.ref (ad c1)) = .ref (ad c1) ∧ fits (am_ty ci k0) (.ref (ad c1)) = true := by
    cases hty : am_ty ci k0 <;> rw [hty] at ht <;> first | exact ⟨rfl, rfl⟩ | exact absurd ht (by decide)
  have hdo2 : (T k0).1 = own := by
    rw [List.getD_eq_getElem?_getD, hr] at hdo
    exact hdo
  refine va_putF (D := D) (ci := ci) (C := C) (T := T) (N := N) (ty := am_ty ci k0) (v := .ref (ad c1)) hx hb hts (am_cl_in hr) (am_ty ci) (am_cl_ty hr) (am_cl_nm hr) ho hK hP hD hS c0 he hr k0 hkN (hts _ hlk) (fun x h9 => by rw [← hdc]; exact h9) ((am_fin_of hr).trans hfn) hI hdo2 hT hnf.1 hnf.2 (by simpa using hn) hd (fun H1 locs1 hP1 hD1 hS1 => ?_)
  have e : (am_w cA ad sh σ).set c0 (ad c0, .inr (ci, ((List.range n).map (am_fld ad ci rs (σ c0))).set k0 (.ref (ad c1)))) = am_w cA ad (sh.set c0 (10 + ci, n, rs.set k0 (some c1))) σ := by
    refine am_w_set hs ?_ (fun c' hc' => rfl)
    rw [am_el_obj, am_flds_set (rs' := rs.set k0 (some c1)) (f' := σ c0) hn]
    · rw [am_fld_r ht]
      rw [List.getElem?_set_self (by omega)]
    · intro j hj
      unfold am_fld
      rw [List.getD_eq_getElem?_getD, List.getElem?_set_ne (Ne.symm hj), ← List.getD_eq_getElem?_getD]
  rw [e] at hP1 hD1
  have hk := k ad ls H1 locs1 ⟨⟨hP1, hD1, hS1⟩, hl, by rw [List.length_set]; exact am_st_1 (am_st_1 hst), by rw [List.length_set]; exact hlo, am_oks_set hok1 (am_mem_set (hok1 _ _ hs) hc1), am_okh_set hok2 hs rfl, had, by rw [List.length_set]; exact hn0, by rw [am_sl_set (x := (10 + ci, n, rs)) (x' := (10 + ci, n, rs.set k0 (some c1))) hs rfl]; exact hs0⟩
  rw [List.length_set, am_sl_set (x := (10 + ci, n, rs)) (x' := (10 + ci, n, rs.set k0 (some c1))) hs rfl] at hk
  exact hk
theorem am_aast (X : am_X K cc own) {n nf c1 : Nat} {i : Int} {rs rs1 : List (Option Nat)} {sh' : List am_S} (c0 : Nat) (hs : sh[c0]? = some (3, n, rs)) (hs1 : sh[c1]? = some (16, nf, rs1)) (h0 : 0 ≤ i) (h1 : i < n) (hrl : rs.length = n) (hsh : sh.set c0 (3, n, rs.set i.toNat (some c1)) = sh') (hd : decode cc pc = .ok (.aastore, 1)) (k : am_G K (pc + 1) L st sh' σ) : am_G K pc L (vr c1 :: vi i :: vr c0 :: st) sh σ := by
  subst hsh
  obtain ⟨p, l, e, R, s, m, args, below, meth, c, Q, D, cA, A, n0, s0, adS⟩ := K
  obtain ⟨hx, hb, ho, hts, hK, hA, hSt, hN⟩ := X
  intro ad ls H locs h
  obtain ⟨⟨hP, hD, hS⟩, hl, hst, hlo, hok1, hok2, had, hn0, hs0⟩ := id h
  have hc1 : c1 < sh.length := (List.getElem?_eq_some_iff.mp hs1).1
  obtain ⟨hin, hcl⟩ := am_in_of (am_st_1 hst) h0 h1
  have hv := am_w_get (cA := cA) (ad := ad) (σ := σ) hs1
  rw [show (16 : Nat) = 10 + 6 from rfl, am_el_obj] at hv
  refine va_astq (r := (RX7, TX7, 4)) (v := ad c1) hx hb hK hP hD hS c0 3 c1 6 (am_w_get hs) rfl hv rfl hin hd (fun H1 locs1 hP1 hD1 hS1 => ?_)
  rw [hcl] at hP1 hD1
  have e0 : (Sum.inl (cA 3, n, Sum.inr (Sum.inr (Sum.inr (Sum.inr (va_up (fun j => am_ro ad (rs.getD j none)) i.toNat (some (ad c1))))))) : va_E) = am_el cA ad (3, n, rs.set i.toNat (some c1)) (σ c0) := by
    simp only [am_el]
    congr 7
    funext j
    simp only [va_up]
    by_cases q : j = i.toNat
    · rw [if_pos q, List.getD_eq_getElem?_getD, q, List.getElem?_set_self (by omega)]
      rfl
    · rw [if_neg q, List.getD_eq_getElem?_getD, List.getD_eq_getElem?_getD, List.getElem?_set_ne (Ne.symm q)]
  have e := am_w_set (cA := cA) (ad := ad) (σ := σ) (σ' := σ) hs e0 (fun c' hc' => rfl)
  simp only [am_el] at hP1 hD1
  rw [e] at hP1 hD1
  have hk := k ad ls H1 locs1 ⟨⟨hP1, hD1, hS1⟩, hl, by rw [List.length_set]; exact am_st_1 (am_st_1 (am_st_1 hst)), by rw [List.length_set]; exact hlo, am_oks_set hok1 (am_mem_set (hok1 _ _ hs) hc1), am_okh_set hok2 hs rfl, had, by rw [List.length_set]; exact hn0, by rw [am_sl_set (x := (3, n, rs)) (x' := (3, n, rs.set i.toNat (some c1))) hs rfl]; exact hs0⟩
  rw [List.length_set, am_sl_set (x := (3, n, rs)) (x' := (3, n, rs.set i.toNat (some c1))) hs rfl] at hk
  exact hk
/-- the law's script, at the cell 1002 -/
def am_Xs (K : am_K) (n : Nat) (xs : Nat → Int32) : Prop := match K with
  | (_, _, _, _, s, _, _, _, _, _, _, _, _, A, _, _, adS) => va_X (adS 1002) n xs s s.heap ∧ adS 1002 < s.heap.size ∧ ¬ A (adS 1002)
theorem am_sld (X : am_X K cc own) {n : Nat} {xs : Nat → Int32} (hXs : am_Xs K n xs) {i : Int} (h0 : 0 ≤ i) (h1 : i < n) (hd : decode cc pc = .ok (.iaload, 1)) (k : am_G K (pc + 1) L (vi (xs i.toNat).toInt :: st) sh σ) : am_G K pc L (vi i :: vr 1002 :: st) sh σ := by
  obtain ⟨p, l, e, R, s, m, args, below, meth, c, Q, D, cA, A, n0, s0, adS⟩ := K
  obtain ⟨hx, hb, ho, hts, hK, hA, hSt, hN⟩ := X
  intro ad ls H locs h
  obtain ⟨⟨hP, hD, hS⟩, hl, hst, hlo, hok1, hok2, had, hn0, hs0⟩ := id h
  obtain ⟨hX1, hX2, hX3⟩ := hXs
  obtain ⟨hin, hcl⟩ := am_in_of hst h0 h1
  have hk2 := k ad ls H locs (am_Rst h (am_st_2 (okv_i (R32_i _)) (am_st_1 (am_st_1 hst))))
  refine W.eq (g2 := F0 m pc ls (.int (Int32.ofInt i) :: .ref (adS 1002) :: st.map (am_c ad))) (by rw [← had 1002 (Or.inr (by decide))]; rfl) ?_
  refine va_sld hx hb hX1 hX2 hX3 hS hin hd ?_
  rw [hcl, ← Int32.ofInt_toInt (xs i.toNat)]
  exact hk2
theorem am_slen (X : am_X K cc own) {n : Nat} {xs : Nat → Int32} (hXs : am_Xs K n xs) (hn : n < 2147483648) (hd : decode cc pc = .ok (.arraylength, 1)) (k : am_G K (pc + 1) L (vi (Int.ofNat n) :: st) sh σ) : am_G K pc L (vr 1002 :: st) sh σ := by
  obtain ⟨p, l, e, R, s, m, args, below, meth, c, Q, D, cA, A, n0, s0, adS⟩ := K
  obtain ⟨hx, hb, ho, hts, hK, hA, hSt, hN⟩ := X
  intro ad ls H locs h
  obtain ⟨⟨hP, hD, hS⟩, hl, hst, hlo, hok1, hok2, had, hn0, hs0⟩ := id h
  obtain ⟨hX1, hX2, hX3⟩ := hXs
  have hk2 := k ad ls H locs (am_Rst h (am_st_2 (okv_i (by unfold R32; show _ ≤ ((n : Nat) : Int) ∧ ((n : Nat) : Int) < _; omega)) (am_st_1 hst)))
  refine W.eq (g2 := F0 m pc ls (.ref (adS 1002) :: st.map (am_c ad))) (by rw [← had 1002 (Or.inr (by decide))]; rfl) ?_
  exact va_slen hx hb hX1 hX2 hX3 hS hd hk2
end AM7
