/-! calls -/
def am_nm (y : MethodName) (n : Nat) : Prop := y.cls ≠ "java/lang/invoke/MethodHandle" ∧ y.cls ≠ "java/lang/invoke/VarHandle" ∧ (parseMethodDescriptor y.desc).map (fun d => d.parameters.length) = some n
def am_mv (y : MethodName) (b : ByteArray) (maxL : Nat) (ret : Option FieldType) (n : Nat) : Prop := Cond.instanceMethod y ∈ am_B ∧ Cond.selects y.cls y y ∈ am_B ∧ Cond.initialized y.cls ∈ am_B ∧ Cond.code y b maxL ret ∈ am_B ∧ am_nm y n
def am_ms (y : MethodName) (b : ByteArray) (maxL : Nat) (ret : Option FieldType) (n : Nat) : Prop := Cond.static y ∈ am_B ∧ Cond.initialized y.cls ∈ am_B ∧ Cond.code y b maxL ret ∈ am_B ∧ am_nm y n
def am_mi (y : MethodName) (b : ByteArray) (maxL : Nat) (n : Nat) : Prop := Cond.instanceMethod y ∈ am_B ∧ Cond.initialized y.cls ∈ am_B ∧ Cond.code y b maxL none ∈ am_B ∧ y.name = "<init>" ∧ am_nm y n
def am_cw (st : List am_V) : Nat := (st.map (fun v => if v.1 = 1 then 2 else 1)).sum
theorem am_cw_of (ad : Nat → Nat) : ∀ st : List am_V, ((st.map (am_c ad)).map fun v => v.category).sum = am_cw st
  | [] => rfl
  | v :: st => by
    have ih := am_cw_of ad st
    unfold am_cw at *
    rw [List.map_cons, List.map_cons, List.map_cons, List.sum_cons, List.sum_cons, ih]
    congr 1
    by_cases h : v.1 = 1
    · obtain ⟨t, z⟩ := v
      have h : t = 1 := h
      subst h; rfl
    · rw [if_neg h, am_c1 h]
theorem am_Gw {y : MethodName} {b : ByteArray} {maxL : Nat} {ret : Option FieldType} (h : Cond.code y b maxL ret ∈ am_B) : GoodIn am_B (am_ws y b maxL ret) := by
  intro w hw
  rcases List.mem_cons.mp hw with rfl | hw
  · exact am_Bg _ h
  · exact am_Bg _ hw
theorem am_pre {s U : State} {c : Code} {D : va_G} {cA : Nat → ClassId} {A : Nat → Prop} {n0 s0 : Nat} {adS ad : Nat → Nat} {L : List (Option am_V)} {st : List am_V} {sh : List am_S} {σ : am_H} {ls : Array Slot} {H : Heap} {locs : List Loc} (h : am_R s c D cA A n0 s0 adS ad L st sh σ ls H locs) (hK : va_K D am_cl (am_tys cA) s) (hA : ∀ q : Nat, s.heap.size ≤ q → A q) (hSt : am_St adS A s s.heap) (hN : ∀ w ∈ am_N, va_Nw w s) (hU : U.heap = H) (hW : s.WarmedH U.vm) : am_Wd D cA ad sh σ H.size U := by
  obtain ⟨⟨hP, hD, hS⟩, hl, hst, hlo, hok1, hok2, had, hn0, hs0⟩ := h
  refine ⟨by rw [hU], by rw [hU]; exact hP, hD.weaken (fun _ _ _ _ => trivial), va_K.moved hW.alike hK, ⟨hok1, hok2⟩, ?_, am_Nw_warm hW hN⟩
  rw [hU]
  exact hSt.callee hW.alike hS.2.1 (va_free hD hS hA (List.range (am_w cA ad sh σ).length) (by
    apply List.ext_getElem?
    intro i
    rw [List.getElem?_map, List.getElem?_map]
    by_cases hi : i < (am_w cA ad sh σ).length
    · rw [List.getElem?_range hi, List.getElem?_eq_getElem hi]
      simp [List.getElem?_eq_getElem hi]
    · rw [List.getElem?_eq_none (by simpa using hi), List.getElem?_eq_none (by simpa using hi)]; rfl)) (fun k hk => had k (Or.inr hk))
theorem am_Fc {s : State} {c : Code} {D : va_G} {cA : Nat → ClassId} {A : Nat → Prop} {n0 s0 : Nat} {adS ad : Nat → Nat} {L : List (Option am_V)} {st : List am_V} {sh : List am_S} {σ : am_H} {ls : Array Slot} {H : Heap} {locs : List Loc} (h : am_R s c D cA A n0 s0 adS ad L st sh σ ls H locs) (hA : ∀ q : Nat, s.heap.size ≤ q → A q) : ∀ q, va_A (am_w cA ad sh σ) H.size q → A q := by
  intro q hq
  rcases hq with ⟨k, e, hk⟩ | hq
  · exact h.1.2.1.2 k _ hk
  · exact hA q (Nat.le_trans h.1.2.2.1 hq)
/-- the state behind a call -/
theorem am_after {s : State} {c : Code} {D : va_G} {cA : Nat → ClassId} {A : Nat → Prop} {n0 s0 mc ms : Nat} {adS ad : Nat → Nat} {L : List (Option am_V)} {st st1 : List am_V} {sh : List am_S} {σ : am_H} {ls : Array Slot} {H H1 : Heap} {locs locs1 : List Loc} {u : am_U} {t : State} (h : am_R s c D cA A n0 s0 adS ad L st sh σ ls H locs) (hA : ∀ q : Nat, s.heap.size ≤ q → A q) (hB : am_Wq D cA ad sh mc ms (va_A (am_w cA ad sh σ) H.size) u t) (ht : t.heap = H1) (hS : va_S A s.heap H1 locs1) (hst : ∀ v ∈ st1, am_okv sh.length v) : am_R s c D cA A n0 s0 adS u.2.1 L st1 u.2.2.1 u.2.2.2 ls H1 locs1 ∧ st1.map (am_c u.2.1) = st1.map (am_c ad) := by
  obtain ⟨hP1, hD1, hok1, hok2, hx, hlen, hsl⟩ := hB
  have hF := am_Fc h hA
  have hle : sh.length ≤ u.2.2.1.length := by omega
  refine ⟨⟨⟨by rw [← ht]; exact hP1, hD1.weaken (fun _ _ _ hq => hF _ hq), hS⟩, ⟨am_RL_ext hx h.2.2.2.1 h.2.1.1, h.2.1.2⟩, fun v hv => okv_mono hle (hst v hv), fun i v hi => okv_mono hle (h.2.2.2.1 i v hi), hok1, hok2, fun k hk => ?_, Nat.le_trans h.2.2.2.2.2.2.2.1 hle, by rw [hsl]; exact Nat.le_trans h.2.2.2.2.2.2.2.2 (Nat.le_add_right _ _)⟩, am_map_ext hx hst⟩
  rw [hx k (by have := h.2.2.2.2.2.2.2.1; omega)]
  exact h.2.2.2.2.2.2.1 k hk
section AM6
variable {K : am_K} {cc : ByteArray} {own : String} {pc : Nat} {L : List (Option am_V)} {st st0 : List am_V} {sh : List am_S} {σ : am_H}
theorem am_callVi (X : am_X K cc own) {dd NN SS : Nat} (hY : am_Y K dd NN SS) {i maxL d mc ms n : Nat} {y : MethodName} {b : ByteArray} {ret : Option FieldType} {vs : List am_V} {c0 : Nat} {ci nf : Nat} {rs : List (Option Nat)} {Post : Int → List am_S → am_H → Prop} (hl : Cond.methodLink own i y ∈ am_B) (hm : am_mv y b maxL ret n) (hM : am_Mi y b maxL ret d mc ms (vr c0 :: vs) sh σ Post) (hdd : d < dd) (hml : maxL ≤ 22) (hNN : sh.length + mc ≤ NN) (hSS : am_sl sh + ms ≤ SS) (hs : sh[c0]? = some (10 + ci, nf, rs)) (hc : (am_cl[ci]?).map (fun r => r.1) = some y.cls) (hn : vs.length = n) (hst0 : st0 = vs.reverse ++ vr c0 :: st) (hw : am_cw st ≤ 8) (hd : decode cc pc = .ok (.invokevirtual i, 3)) (k : ∀ (r : Int) (sh' : List am_S) (σ' : am_H), R32 r → Post r sh' σ' → am_G K (pc + 3) L (vi r :: st) sh' σ') : am_G K pc L st0 sh σ := by
  subst hst0
  obtain ⟨p, l, e, R, s, m, args, below, meth, c, Q, D, cA, A, n0, s0, adS⟩ := K
  obtain ⟨hx, hb, ho, hts, hK, hA, hSt, hN⟩ := X
  intro ad ls H locs h
  obtain ⟨hY1, hY2, hY3, hY4⟩ := hY
  obtain ⟨⟨hP, hD, hS⟩, hl9, hst, hlo, hok1, hok2, had, hn0, hs0⟩ := id h
  obtain ⟨hm1, hm2, hm3, hm4, hm5⟩ := hm
  have hst1 : ∀ v ∈ st, am_okv sh.length v := fun v hv => hst v (List.mem_append_right _ (List.mem_cons_of_mem _ hv))
  have hvs : ∀ v ∈ vr c0 :: vs, am_okv sh.length v := fun v hv => by
    rcases List.mem_cons.mp hv with rfl | hv
    · exact hst _ (List.mem_append_right _ List.mem_cons_self)
    · exact hst v (List.mem_append_left _ (List.mem_reverse.mpr hv))
  have hFc := am_Fc h hA
  have hroom : (am_rm d mc ms).frames + 1 ≤ R.frames ∧ 8 + (maxL + 11) + (am_rm d mc ms).locals ≤ R.locals := by
    show d + 1 ≤ R.frames ∧ 8 + (maxL + 11) + 41 * d ≤ R.locals
    omega
  have hcat : 2 * (F0 m pc ls ((vs.reverse ++ vr c0 :: st).map (am_c ad))).monitorRoom + ((st.map (am_c ad)).map fun v => v.category).sum ≤ 8 := by rw [am_cw_of]; show 2 * 0 + _ ≤ 8; omega
  have hfit : (sh.length - n0) + mc ≤ R.cells ∧ (am_sl sh - s0) + ms ≤ R.slots := by omega
  have he := am_w_get (cA := cA) (ad := ad) (σ := σ) hs
  rw [am_el_obj] at he
  obtain ⟨rq, hrq, hrc⟩ : ∃ r, am_cl[ci]? = some r ∧ r.1 = y.cls := by
    cases hq : am_cl[ci]? with
    | none => rw [hq] at hc; simp at hc
    | some r => rw [hq] at hc; exact ⟨r, rfl, by simpa using hc⟩
  obtain ⟨cellB, hcB, hoB, hclB⟩ := va_recv hK hP hrq he
  rw [hrc] at hclB
  have hrun := va_runV (C := y.cls) (As := vs.map (am_c ad)) (rest := st.map (am_c ad)) (locs := locs) (meth := meth) (below := below) (e := e) ⟨hx, hb, rfl, ho, hts⟩ (hM l D cA ad H.size hvs) ⟨callB_of n hts (am_Gw hm4) rfl rfl rfl (hts _ hm3) (hts _ hl) hm5 hroom, hts _ hm1, hts _ hm2⟩ ⟨am_Wd_blind, ⟨cellB, hcB, hoB, hclB⟩, fun U hU hW => ⟨rfl, am_pre h hK hA hSt hN hU hW⟩⟩ rfl (by rw [List.length_map]; exact hn) (hl9.1.1.trans hl9.2) (by simp [List.map_append, List.map_reverse, am_c]) hcat hd hfit
  refine va_calli hrun hS (fun q _ hq => hFc q hq) hFc (fun r9 u t H1 locs1 ht hvm hw9 hB hz1 hk1 hS1 => ?_)
  obtain ⟨h1, h2⟩ := am_after h hA hB ht hS1 hst1
  obtain ⟨⟨e9, hr9⟩, hp9⟩ := hw9
  have hk := k _ _ _ hr9 hp9 u.2.1 ls H1 locs1 ⟨h1.1, h1.2.1, am_st_2 (okv_i hr9) h1.2.2.1, h1.2.2.2⟩
  have hlen := hB.2.2.2.2.2.1
  have hsl := hB.2.2.2.2.2.2
  refine W.cs (cells' := u.2.2.1.length - n0) (slots' := am_sl u.2.2.1 - s0) (by omega) (by omega) ?_
  rw [e9, ← h2]
  exact hk
theorem am_callVv (X : am_X K cc own) {dd NN SS : Nat} (hY : am_Y K dd NN SS) {i maxL d mc ms n : Nat} {y : MethodName} {b : ByteArray} {ret : Option FieldType} {vs : List am_V} {c0 : Nat} {ci nf : Nat} {rs : List (Option Nat)} {Post : List am_S → am_H → Prop} (hl : Cond.methodLink own i y ∈ am_B) (hm : am_mv y b maxL ret n) (hM : am_Mv y b maxL ret d mc ms (vr c0 :: vs) sh σ Post) (hdd : d < dd) (hml : maxL ≤ 22) (hNN : sh.length + mc ≤ NN) (hSS : am_sl sh + ms ≤ SS) (hs : sh[c0]? = some (10 + ci, nf, rs)) (hc : (am_cl[ci]?).map (fun r => r.1) = some y.cls) (hn : vs.length = n) (hst0 : st0 = vs.reverse ++ vr c0 :: st) (hw : am_cw st ≤ 8) (hd : decode cc pc = .ok (.invokevirtual i, 3)) (k : ∀ (sh' : List am_S) (σ' : am_H), Post sh' σ' → am_G K (pc + 3) L (st) sh' σ') : am_G K pc L st0 sh σ := by
  subst hst0
  obtain ⟨p, l, e, R, s, m, args, below, meth, c, Q, D, cA, A, n0, s0, adS⟩ := K
  obtain ⟨hx, hb, ho, hts, hK, hA, hSt, hN⟩ := X
  intro ad ls H locs h
  obtain ⟨hY1, hY2, hY3, hY4⟩ := hY
  obtain ⟨⟨hP, hD, hS⟩, hl9, hst, hlo, hok1, hok2, had, hn0, hs0⟩ := id h
  obtain ⟨hm1, hm2, hm3, hm4, hm5⟩ := hm
  have hst1 : ∀ v ∈ st, am_okv sh.length v := fun v hv => hst v (List.mem_append_right _ (List.mem_cons_of_mem _ hv))
  have hvs : ∀ v ∈ vr c0 :: vs, am_okv sh.length v := fun v hv => by
    rcases List.mem_cons.mp hv with rfl | hv
    · exact hst _ (List.mem_append_right _ List.mem_cons_self)
    · exact hst v (List.mem_append_left _ (List.mem_reverse.mpr hv))
  have hFc := am_Fc h hA
  have hroom : (am_rm d mc ms).frames + 1 ≤ R.frames ∧ 8 + (maxL + 11) + (am_rm d mc ms).locals ≤ R.locals := by
    show d + 1 ≤ R.frames ∧ 8 + (maxL + 11) + 41 * d ≤ R.locals
    omega
  have hcat : 2 * (F0 m pc ls ((vs.reverse ++ vr c0 :: st).map (am_c ad))).monitorRoom + ((st.map (am_c ad)).map fun v => v.category).sum ≤ 8 := by rw [am_cw_of]; show 2 * 0 + _ ≤ 8; omega
  have hfit : (sh.length - n0) + mc ≤ R.cells ∧ (am_sl sh - s0) + ms ≤ R.slots := by omega
  have he := am_w_get (cA := cA) (ad := ad) (σ := σ) hs
  rw [am_el_obj] at he
  obtain ⟨rq, hrq, hrc⟩ : ∃ r, am_cl[ci]? = some r ∧ r.1 = y.cls := by
    cases hq : am_cl[ci]? with
    | none => rw [hq] at hc; simp at hc
    | some r => rw [hq] at hc; exact ⟨r, rfl, by simpa using hc⟩
  obtain ⟨cellB, hcB, hoB, hclB⟩ := va_recv hK hP hrq he
  rw [hrc] at hclB
  have hrun := va_runV (C := y.cls) (As := vs.map (am_c ad)) (rest := st.map (am_c ad)) (locs := locs) (meth := meth) (below := below) (e := e) ⟨hx, hb, rfl, ho, hts⟩ (hM l D cA ad H.size hvs) ⟨callB_of n hts (am_Gw hm4) rfl rfl rfl (hts _ hm3) (hts _ hl) hm5 hroom, hts _ hm1, hts _ hm2⟩ ⟨am_Wd_blind, ⟨cellB, hcB, hoB, hclB⟩, fun U hU hW => ⟨rfl, am_pre h hK hA hSt hN hU hW⟩⟩ rfl (by rw [List.length_map]; exact hn) (hl9.1.1.trans hl9.2) (by simp [List.map_append, List.map_reverse, am_c]) hcat hd hfit
  refine va_callv hrun hS (fun q _ hq => hFc q hq) hFc (fun u t H1 locs1 ht hvm hw9 hB hz1 hk1 hS1 => ?_)
  obtain ⟨h1, h2⟩ := am_after h hA hB ht hS1 hst1
  have hk := k _ _ hw9 u.2.1 ls H1 locs1 h1
  rw [h2] at hk
  have hlen := hB.2.2.2.2.2.1
  have hsl := hB.2.2.2.2.2.2
  exact W.cs (by omega) (by omega) hk
theorem am_callVl (X : am_X K cc own) {dd NN SS : Nat} (hY : am_Y K dd NN SS) {i maxL d mc ms n : Nat} {y : MethodName} {b : ByteArray} {ret : Option FieldType} {vs : List am_V} {c0 : Nat} {ci nf : Nat} {rs : List (Option Nat)} {Post : Int → List am_S → am_H → Prop} (hl : Cond.methodLink own i y ∈ am_B) (hm : am_mv y b maxL ret n) (hM : am_Ml y b maxL ret d mc ms (vr c0 :: vs) sh σ Post) (hdd : d < dd) (hml : maxL ≤ 22) (hNN : sh.length + mc ≤ NN) (hSS : am_sl sh + ms ≤ SS) (hs : sh[c0]? = some (10 + ci, nf, rs)) (hc : (am_cl[ci]?).map (fun r => r.1) = some y.cls) (hn : vs.length = n) (hst0 : st0 = vs.reverse ++ vr c0 :: st) (hw : am_cw st ≤ 8) (hd : decode cc pc = .ok (.invokevirtual i, 3)) (k : ∀ (r : Int) (sh' : List am_S) (σ' : am_H), R64 r → Post r sh' σ' → am_G K (pc + 3) L (vl r :: st) sh' σ') : am_G K pc L st0 sh σ := by
  subst hst0
  obtain ⟨p, l, e, R, s, m, args, below, meth, c, Q, D, cA, A, n0, s0, adS⟩ := K
  obtain ⟨hx, hb, ho, hts, hK, hA, hSt, hN⟩ := X
  intro ad ls H locs h
  obtain ⟨hY1, hY2, hY3, hY4⟩ := hY
  obtain ⟨⟨hP, hD, hS⟩, hl9, hst, hlo, hok1, hok2, had, hn0, hs0⟩ := id h
  obtain ⟨hm1, hm2, hm3, hm4, hm5⟩ := hm
  have hst1 : ∀ v ∈ st, am_okv sh.length v := fun v hv => hst v (List.mem_append_right _ (List.mem_cons_of_mem _ hv))
  have hvs : ∀ v ∈ vr c0 :: vs, am_okv sh.length v := fun v hv => by
    rcases List.mem_cons.mp hv with rfl | hv
    · exact hst _ (List.mem_append_right _ List.mem_cons_self)
    · exact hst v (List.mem_append_left _ (List.mem_reverse.mpr hv))
  have hFc := am_Fc h hA
  have hroom : (am_rm d mc ms).frames + 1 ≤ R.frames ∧ 8 + (maxL + 11) + (am_rm d mc ms).locals ≤ R.locals := by
    show d + 1 ≤ R.frames ∧ 8 + (maxL + 11) + 41 * d ≤ R.locals
    omega
  have hcat : 2 * (F0 m pc ls ((vs.reverse ++ vr c0 :: st).map (am_c ad))).monitorRoom + ((st.map (am_c ad)).map fun v => v.category).sum ≤ 8 := by rw [am_cw_of]; show 2 * 0 + _ ≤ 8; omega
  have hfit : (sh.length - n0) + mc ≤ R.cells ∧ (am_sl sh - s0) + ms ≤ R.slots := by omega
  have he := am_w_get (cA := cA) (ad := ad) (σ := σ) hs
  rw [am_el_obj] at he
  obtain ⟨rq, hrq, hrc⟩ : ∃ r, am_cl[ci]? = some r ∧ r.1 = y.cls := by
    cases hq : am_cl[ci]? with
    | none => rw [hq] at hc; simp at hc
    | some r => rw [hq] at hc; exact ⟨r, rfl, by simpa using hc⟩
  obtain ⟨cellB, hcB, hoB, hclB⟩ := va_recv hK hP hrq he
  rw [hrc] at hclB
  have hrun := va_runV (C := y.cls) (As := vs.map (am_c ad)) (rest := st.map (am_c ad)) (locs := locs) (meth := meth) (below := below) (e := e) ⟨hx, hb, rfl, ho, hts⟩ (hM l D cA ad H.size hvs) ⟨callB_of n hts (am_Gw hm4) rfl rfl rfl (hts _ hm3) (hts _ hl) hm5 hroom, hts _ hm1, hts _ hm2⟩ ⟨am_Wd_blind, ⟨cellB, hcB, hoB, hclB⟩, fun U hU hW => ⟨rfl, am_pre h hK hA hSt hN hU hW⟩⟩ rfl (by rw [List.length_map]; exact hn) (hl9.1.1.trans hl9.2) (by simp [List.map_append, List.map_reverse, am_c]) hcat hd hfit
  refine va_calll hrun hS (fun q _ hq => hFc q hq) hFc (fun r9 u t H1 locs1 ht hvm hw9 hB hz1 hk1 hS1 => ?_)
  obtain ⟨h1, h2⟩ := am_after h hA hB ht hS1 hst1
  obtain ⟨⟨e9, hr9⟩, hp9⟩ := hw9
  have hk := k _ _ _ hr9 hp9 u.2.1 ls H1 locs1 ⟨h1.1, h1.2.1, am_st_2 (okv_l hr9) h1.2.2.1, h1.2.2.2⟩
  have hlen := hB.2.2.2.2.2.1
  have hsl := hB.2.2.2.2.2.2
  refine W.cs (cells' := u.2.2.1.length - n0) (slots' := am_sl u.2.2.1 - s0) (by omega) (by omega) ?_
  rw [e9, ← h2]
  exact hk
theorem am_callSi (X : am_X K cc own) {dd NN SS : Nat} (hY : am_Y K dd NN SS) {i maxL d mc ms n : Nat} {y : MethodName} {b : ByteArray} {ret : Option FieldType} {vs : List am_V} {Post : Int → List am_S → am_H → Prop} (hl : Cond.methodLink own i y ∈ am_B) (hm : am_ms y b maxL ret n) (hM : am_Mi y b maxL ret d mc ms (vs) sh σ Post) (hdd : d < dd) (hml : maxL ≤ 22) (hNN : sh.length + mc ≤ NN) (hSS : am_sl sh + ms ≤ SS) (hn : vs.length = n) (hst0 : st0 = vs.reverse ++ st) (hw : am_cw st ≤ 8) (hd : decode cc pc = .ok (.invokestatic i, 3)) (k : ∀ (r : Int) (sh' : List am_S) (σ' : am_H), R32 r → Post r sh' σ' → am_G K (pc + 3) L (vi r :: st) sh' σ') : am_G K pc L st0 sh σ := by
  subst hst0
  obtain ⟨p, l, e, R, s, m, args, below, meth, c, Q, D, cA, A, n0, s0, adS⟩ := K
  obtain ⟨hx, hb, ho, hts, hK, hA, hSt, hN⟩ := X
  intro ad ls H locs h
  obtain ⟨hY1, hY2, hY3, hY4⟩ := hY
  obtain ⟨⟨hP, hD, hS⟩, hl9, hst, hlo, hok1, hok2, had, hn0, hs0⟩ := id h
  obtain ⟨hm1, hm3, hm4, hm5⟩ := hm
  have hst1 : ∀ v ∈ st, am_okv sh.length v := fun v hv => hst v (List.mem_append_right _ hv)
  have hvs : ∀ v ∈ vs, am_okv sh.length v := fun v hv => hst v (List.mem_append_left _ (List.mem_reverse.mpr hv))
  have hFc := am_Fc h hA
  have hroom : (am_rm d mc ms).frames + 1 ≤ R.frames ∧ 8 + (maxL + 11) + (am_rm d mc ms).locals ≤ R.locals := by
    show d + 1 ≤ R.frames ∧ 8 + (maxL + 11) + 41 * d ≤ R.locals
    omega
  have hcat : 2 * (F0 m pc ls ((vs.reverse ++ st).map (am_c ad))).monitorRoom + ((st.map (am_c ad)).map fun v => v.category).sum ≤ 8 := by rw [am_cw_of]; show 2 * 0 + _ ≤ 8; omega
  have hfit : (sh.length - n0) + mc ≤ R.cells ∧ (am_sl sh - s0) + ms ≤ R.slots := by omega
  have hrun := va_runS (As := vs.map (am_c ad)) (rest := st.map (am_c ad)) (locs := locs) (meth := meth) (below := below) (e := e) ⟨hx, hb, rfl, ho, hts⟩ (hM l D cA ad H.size hvs) ⟨callB_of n hts (am_Gw hm4) rfl rfl rfl (hts _ hm3) (hts _ hl) hm5 hroom, hts _ hm1⟩ ⟨am_Wd_blind, fun U hU hW => ⟨rfl, am_pre h hK hA hSt hN hU hW⟩⟩ rfl (by rw [List.length_map]; exact hn) (hl9.1.1.trans hl9.2) (by simp [List.map_append, List.map_reverse, am_c]) hcat hd hfit
  refine va_calli hrun hS (fun q _ hq => hFc q hq) hFc (fun r9 u t H1 locs1 ht hvm hw9 hB hz1 hk1 hS1 => ?_)
  obtain ⟨h1, h2⟩ := am_after h hA hB ht hS1 hst1
  obtain ⟨⟨e9, hr9⟩, hp9⟩ := hw9
  have hk := k _ _ _ hr9 hp9 u.2.1 ls H1 locs1 ⟨h1.1, h1.2.1, am_st_2 (okv_i hr9) h1.2.2.1, h1.2.2.2⟩
  have hlen := hB.2.2.2.2.2.1
  have hsl := hB.2.2.2.2.2.2
  refine W.cs (cells' := u.2.2.1.length - n0) (slots' := am_sl u.2.2.1 - s0) (by omega) (by omega) ?_
  rw [e9, ← h2]
  exact hk
theorem am_callSv (X : am_X K cc own) {dd NN SS : Nat} (hY : am_Y K dd NN SS) {i maxL d mc ms n : Nat} {y : MethodName} {b : ByteArray} {ret : Option FieldType} {vs : List am_V} {Post : List am_S → am_H → Prop} (hl : Cond.methodLink own i y ∈ am_B) (hm : am_ms y b maxL ret n) (hM : am_Mv y b maxL ret d mc ms (vs) sh σ Post) (hdd : d < dd) (hml : maxL ≤ 22) (hNN : sh.length + mc ≤ NN) (hSS : am_sl sh + ms ≤ SS) (hn : vs.length = n) (hst0 : st0 = vs.reverse ++ st) (hw : am_cw st ≤ 8) (hd : decode cc pc = .ok (.invokestatic i, 3)) (k : ∀ (sh' : List am_S) (σ' : am_H), Post sh' σ' → am_G K (pc + 3) L (st) sh' σ') : am_G K pc L st0 sh σ := by
  subst hst0
  obtain ⟨p, l, e, R, s, m, args, below, meth, c, Q, D, cA, A, n0, s0, adS⟩ := K
  obtain ⟨hx, hb, ho, hts, hK, hA, hSt, hN⟩ := X
  intro ad ls H locs h
  obtain ⟨hY1, hY2, hY3, hY4⟩ := hY
  obtain ⟨⟨hP, hD, hS⟩, hl9, hst, hlo, hok1, hok2, had, hn0, hs0⟩ := id h
  obtain ⟨hm1, hm3, hm4, hm5⟩ := hm
  have hst1 : ∀ v ∈ st, am_okv sh.length v := fun v hv => hst v (List.mem_append_right _ hv)
  have hvs : ∀ v ∈ vs, am_okv sh.length v := fun v hv => hst v (List.mem_append_left _ (List.mem_reverse.mpr hv))
  have hFc := am_Fc h hA
  have hroom : (am_rm d mc ms).frames + 1 ≤ R.frames ∧ 8 + (maxL + 11) + (am_rm d mc ms).locals ≤ R.locals := by
    show d + 1 ≤ R.frames ∧ 8 + (maxL + 11) + 41 * d ≤ R.locals
    omega
  have hcat : 2 * (F0 m pc ls ((vs.reverse ++ st).map (am_c ad))).monitorRoom + ((st.map (am_c ad)).map fun v => v.category).sum ≤ 8 := by rw [am_cw_of]; show 2 * 0 + _ ≤ 8; omega
  have hfit : (sh.length - n0) + mc ≤ R.cells ∧ (am_sl sh - s0) + ms ≤ R.slots := by omega
  have hrun := va_runS (As := vs.map (am_c ad)) (rest := st.map (am_c ad)) (locs := locs) (meth := meth) (below := below) (e := e) ⟨hx, hb, rfl, ho, hts⟩ (hM l D cA ad H.size hvs) ⟨callB_of n hts (am_Gw hm4) rfl rfl rfl (hts _ hm3) (hts _ hl) hm5 hroom, hts _ hm1⟩ ⟨am_Wd_blind, fun U hU hW => ⟨rfl, am_pre h hK hA hSt hN hU hW⟩⟩ rfl (by rw [List.length_map]; exact hn) (hl9.1.1.trans hl9.2) (by simp [List.map_append, List.map_reverse, am_c]) hcat hd hfit
  refine va_callv hrun hS (fun q _ hq => hFc q hq) hFc (fun u t H1 locs1 ht hvm hw9 hB hz1 hk1 hS1 => ?_)
  obtain ⟨h1, h2⟩ := am_after h hA hB ht hS1 hst1
  have hk := k _ _ hw9 u.2.1 ls H1 locs1 h1
  rw [h2] at hk
  have hlen := hB.2.2.2.2.2.1
  have hsl := hB.2.2.2.2.2.2
  exact W.cs (by omega) (by omega) hk
theorem am_callSl (X : am_X K cc own) {dd NN SS : Nat} (hY : am_Y K dd NN SS) {i maxL d mc ms n : Nat} {y : MethodName} {b : ByteArray} {ret : Option FieldType} {vs : List am_V} {Post : Int → List am_S → am_H → Prop} (hl : Cond.methodLink own i y ∈ am_B) (hm : am_ms y b maxL ret n) (hM : am_Ml y b maxL ret d mc ms (vs) sh σ Post) (hdd : d < dd) (hml : maxL ≤ 22) (hNN : sh.length + mc ≤ NN) (hSS : am_sl sh + ms ≤ SS) (hn : vs.length = n) (hst0 : st0 = vs.reverse ++ st) (hw : am_cw st ≤ 8) (hd : decode cc pc = .ok (.invokestatic i, 3)) (k : ∀ (r : Int) (sh' : List am_S) (σ' : am_H), R64 r → Post r sh' σ' → am_G K (pc + 3) L (vl r :: st) sh' σ') : am_G K pc L st0 sh σ := by
  subst hst0
  obtain ⟨p, l, e, R, s, m, args, below, meth, c, Q, D, cA, A, n0, s0, adS⟩ := K
  obtain ⟨hx, hb, ho, hts, hK, hA, hSt, hN⟩ := X
  intro ad ls H locs h
  obtain ⟨hY1, hY2, hY3, hY4⟩ := hY
  obtain ⟨⟨hP, hD, hS⟩, hl9, hst, hlo, hok1, hok2, had, hn0, hs0⟩ := id h
  obtain ⟨hm1, hm3, hm4, hm5⟩ := hm
  have hst1 : ∀ v ∈ st, am_okv sh.length v := fun v hv => hst v (List.mem_append_right _ hv)
  have hvs : ∀ v ∈ vs, am_okv sh.length v := fun v hv => hst v (List.mem_append_left _ (List.mem_reverse.mpr hv))
  have hFc := am_Fc h hA
  have hroom : (am_rm d mc ms).frames + 1 ≤ R.frames ∧ 8 + (maxL + 11) + (am_rm d mc ms).locals ≤ R.locals := by
    show d + 1 ≤ R.frames ∧ 8 + (maxL + 11) + 41 * d ≤ R.locals
    omega
  have hcat : 2 * (F0 m pc ls ((vs.reverse ++ st).map (am_c ad))).monitorRoom + ((st.map (am_c ad)).map fun v => v.category).sum ≤ 8 := by rw [am_cw_of]; show 2 * 0 + _ ≤ 8; omega
  have hfit : (sh.length - n0) + mc ≤ R.cells ∧ (am_sl sh - s0) + ms ≤ R.slots := by omega
  have hrun := va_runS (As := vs.map (am_c ad)) (rest := st.map (am_c ad)) (locs := locs) (meth := meth) (below := below) (e := e) ⟨hx, hb, rfl, ho, hts⟩ (hM l D cA ad H.size hvs) ⟨callB_of n hts (am_Gw hm4) rfl rfl rfl (hts _ hm3) (hts _ hl) hm5 hroom, hts _ hm1⟩ ⟨am_Wd_blind, fun U hU hW => ⟨rfl, am_pre h hK hA hSt hN hU hW⟩⟩ rfl (by rw [List.length_map]; exact hn) (hl9.1.1.trans hl9.2) (by simp [List.map_append, List.map_reverse, am_c]) hcat hd hfit
  refine va_calll hrun hS (fun q _ hq => hFc q hq) hFc (fun r9 u t H1 locs1 ht hvm hw9 hB hz1 hk1 hS1 => ?_)
  obtain ⟨h1, h2⟩ := am_after h hA hB ht hS1 hst1
  obtain ⟨⟨e9, hr9⟩, hp9⟩ := hw9
  have hk := k _ _ _ hr9 hp9 u.2.1 ls H1 locs1 ⟨h1.1, h1.2.1, am_st_2 (okv_l hr9) h1.2.2.1, h1.2.2.2⟩
  have hlen := hB.2.2.2.2.2.1
  have hsl := hB.2.2.2.2.2.2
  refine W.cs (cells' := u.2.2.1.length - n0) (slots' := am_sl u.2.2.1 - s0) (by omega) (by omega) ?_
  rw [e9, ← h2]
  exact hk
theorem am_callSNi (X : am_X K cc own) {dd NN SS : Nat} (hY : am_Y K dd NN SS) {i maxL d mc ms n : Nat} {y : MethodName} {b : ByteArray} {ret : Option FieldType} {vs : List am_V} {Post : Int → List am_S → am_H → Prop} (hl : Cond.methodLinkNest own i y RX9 ∈ am_N) (hm : am_ms y b maxL ret n) (hM : am_Mi y b maxL ret d mc ms (vs) sh σ Post) (hdd : d < dd) (hml : maxL ≤ 22) (hNN : sh.length + mc ≤ NN) (hSS : am_sl sh + ms ≤ SS) (hn : vs.length = n) (hst0 : st0 = vs.reverse ++ st) (hw : am_cw st ≤ 8) (hd : decode cc pc = .ok (.invokestatic i, 3)) (k : ∀ (r : Int) (sh' : List am_S) (σ' : am_H), R32 r → Post r sh' σ' → am_G K (pc + 3) L (vi r :: st) sh' σ') : am_G K pc L st0 sh σ := by
  subst hst0
  obtain ⟨p, l, e, R, s, m, args, below, meth, c, Q, D, cA, A, n0, s0, adS⟩ := K
  obtain ⟨hx, hb, ho, hts, hK, hA, hSt, hN⟩ := X
  intro ad ls H locs h
  obtain ⟨hY1, hY2, hY3, hY4⟩ := hY
  obtain ⟨⟨hP, hD, hS⟩, hl9, hst, hlo, hok1, hok2, had, hn0, hs0⟩ := id h
  obtain ⟨hm1, hm3, hm4, hm5⟩ := hm
  have hst1 : ∀ v ∈ st, am_okv sh.length v := fun v hv => hst v (List.mem_append_right _ hv)
  have hvs : ∀ v ∈ vs, am_okv sh.length v := fun v hv => hst v (List.mem_append_left _ (List.mem_reverse.mpr hv))
  have hFc := am_Fc h hA
  have hroom : (am_rm d mc ms).frames + 1 ≤ R.frames ∧ 8 + (maxL + 11) + (am_rm d mc ms).locals ≤ R.locals := by
    show d + 1 ≤ R.frames ∧ 8 + (maxL + 11) + 41 * d ≤ R.locals
    omega
  have hcat : 2 * (F0 m pc ls ((vs.reverse ++ st).map (am_c ad))).monitorRoom + ((st.map (am_c ad)).map fun v => v.category).sum ≤ 8 := by rw [am_cw_of]; show 2 * 0 + _ ≤ 8; omega
  have hfit : (sh.length - n0) + mc ≤ R.cells ∧ (am_sl sh - s0) + ms ≤ R.slots := by omega
  have hrun := va_runSN (As := vs.map (am_c ad)) (rest := st.map (am_c ad)) (locs := locs) (meth := meth) (below := below) (e := e) ⟨hx, hb, rfl, ho, hts⟩ (hM l D cA ad H.size hvs) ⟨va_cnB n hts (am_Gw hm4) rfl rfl rfl (hN _ hl) (hts _ hm3) hm5 hroom, hts _ hm1, trivial⟩ ⟨am_Wd_blind, fun U hU hW => ⟨rfl, am_pre h hK hA hSt hN hU hW⟩⟩ rfl (by rw [List.length_map]; exact hn) (hl9.1.1.trans hl9.2) (by simp [List.map_append, List.map_reverse, am_c]) hcat hd hfit
  refine va_calli hrun hS (fun q _ hq => hFc q hq) hFc (fun r9 u t H1 locs1 ht hvm hw9 hB hz1 hk1 hS1 => ?_)
  obtain ⟨h1, h2⟩ := am_after h hA hB ht hS1 hst1
  obtain ⟨⟨e9, hr9⟩, hp9⟩ := hw9
  have hk := k _ _ _ hr9 hp9 u.2.1 ls H1 locs1 ⟨h1.1, h1.2.1, am_st_2 (okv_i hr9) h1.2.2.1, h1.2.2.2⟩
  have hlen := hB.2.2.2.2.2.1
  have hsl := hB.2.2.2.2.2.2
  refine W.cs (cells' := u.2.2.1.length - n0) (slots' := am_sl u.2.2.1 - s0) (by omega) (by omega) ?_
  rw [e9, ← h2]
  exact hk
theorem am_callIv (X : am_X K cc own) {dd NN SS : Nat} (hY : am_Y K dd NN SS) {i maxL d mc ms n : Nat} {y : MethodName} {b : ByteArray} {vs : List am_V} {c0 : Nat} {Post : List am_S → am_H → Prop} (hl : Cond.methodLink own i y ∈ am_B) (hm : am_mi y b maxL n) (hM : am_Mv y b maxL none d mc ms (vr c0 :: vs) sh σ Post) (hdd : d < dd) (hml : maxL ≤ 22) (hNN : sh.length + mc ≤ NN) (hSS : am_sl sh + ms ≤ SS) (hn : vs.length = n) (hst0 : st0 = vs.reverse ++ vr c0 :: st) (hw : am_cw st ≤ 8) (hd : decode cc pc = .ok (.invokespecial i, 3)) (k : ∀ (sh' : List am_S) (σ' : am_H), Post sh' σ' → am_G K (pc + 3) L (st) sh' σ') : am_G K pc L st0 sh σ := by
  subst hst0
  obtain ⟨p, l, e, R, s, m, args, below, meth, c, Q, D, cA, A, n0, s0, adS⟩ := K
  obtain ⟨hx, hb, ho, hts, hK, hA, hSt, hN⟩ := X
  intro ad ls H locs h
  obtain ⟨hY1, hY2, hY3, hY4⟩ := hY
  obtain ⟨⟨hP, hD, hS⟩, hl9, hst, hlo, hok1, hok2, had, hn0, hs0⟩ := id h
  obtain ⟨hm1, hm3, hm4, hm6, hm5⟩ := hm
  have hst1 : ∀ v ∈ st, am_okv sh.length v := fun v hv => hst v (List.mem_append_right _ (List.mem_cons_of_mem _ hv))
  have hvs : ∀ v ∈ vr c0 :: vs, am_okv sh.length v := fun v hv => by
    rcases List.mem_cons.mp hv with rfl | hv
    · exact hst _ (List.mem_append_right _ List.mem_cons_self)
    · exact hst v (List.mem_append_left _ (List.mem_reverse.mpr hv))
  have hFc := am_Fc h hA
  have hroom : (am_rm d mc ms).frames + 1 ≤ R.frames ∧ 8 + (maxL + 11) + (am_rm d mc ms).locals ≤ R.locals := by
    show d + 1 ≤ R.frames ∧ 8 + (maxL + 11) + 41 * d ≤ R.locals
    omega
  have hcat : 2 * (F0 m pc ls ((vs.reverse ++ vr c0 :: st).map (am_c ad))).monitorRoom + ((st.map (am_c ad)).map fun v => v.category).sum ≤ 8 := by rw [am_cw_of]; show 2 * 0 + _ ≤ 8; omega
  have hfit : (sh.length - n0) + mc ≤ R.cells ∧ (am_sl sh - s0) + ms ≤ R.slots := by omega
  have hrun := va_runI (As := vs.map (am_c ad)) (rest := st.map (am_c ad)) (locs := locs) (meth := meth) (below := below) (e := e) ⟨hx, hb, rfl, ho, hts⟩ (hM l D cA ad H.size hvs) ⟨callB_of n hts (am_Gw hm4) rfl rfl rfl (hts _ hm3) (hts _ hl) hm5 hroom, hm6, hts _ hm1⟩ ⟨am_Wd_blind, fun U hU hW => ⟨rfl, am_pre h hK hA hSt hN hU hW⟩⟩ rfl (by rw [List.length_map]; exact hn) (hl9.1.1.trans hl9.2) (by simp [List.map_append, List.map_reverse, am_c]) hcat hd hfit
  refine va_callv hrun hS (fun q _ hq => hFc q hq) hFc (fun u t H1 locs1 ht hvm hw9 hB hz1 hk1 hS1 => ?_)
  obtain ⟨h1, h2⟩ := am_after h hA hB ht hS1 hst1
  have hk := k _ _ hw9 u.2.1 ls H1 locs1 h1
  rw [h2] at hk
  have hlen := hB.2.2.2.2.2.1
  have hsl := hB.2.2.2.2.2.2
  exact W.cs (by omega) (by omega) hk
theorem am_callINv (X : am_X K cc own) {dd NN SS : Nat} (hY : am_Y K dd NN SS) {i maxL d mc ms n : Nat} {y : MethodName} {b : ByteArray} {vs : List am_V} {c0 : Nat} {Post : List am_S → am_H → Prop} (hl : Cond.methodLinkNest own i y RX9 ∈ am_N) (hm : am_mi y b maxL n) (hM : am_Mv y b maxL none d mc ms (vr c0 :: vs) sh σ Post) (hdd : d < dd) (hml : maxL ≤ 22) (hNN : sh.length + mc ≤ NN) (hSS : am_sl sh + ms ≤ SS) (hn : vs.length = n) (hst0 : st0 = vs.reverse ++ vr c0 :: st) (hw : am_cw st ≤ 8) (hd : decode cc pc = .ok (.invokespecial i, 3)) (k : ∀ (sh' : List am_S) (σ' : am_H), Post sh' σ' → am_G K (pc + 3) L (st) sh' σ') : am_G K pc L st0 sh σ := by
  subst hst0
  obtain ⟨p, l, e, R, s, m, args, below, meth, c, Q, D, cA, A, n0, s0, adS⟩ := K
  obtain ⟨hx, hb, ho, hts, hK, hA, hSt, hN⟩ := X
  intro ad ls H locs h
  obtain ⟨hY1, hY2, hY3, hY4⟩ := hY
  obtain ⟨⟨hP, hD, hS⟩, hl9, hst, hlo, hok1, hok2, had, hn0, hs0⟩ := id h
  obtain ⟨hm1, hm3, hm4, hm6, hm5⟩ := hm
  have hst1 : ∀ v ∈ st, am_okv sh.length v := fun v hv => hst v (List.mem_append_right _ (List.mem_cons_of_mem _ hv))
  have hvs : ∀ v ∈ vr c0 :: vs, am_okv sh.length v := fun v hv => by
    rcases List.mem_cons.mp hv with rfl | hv
    · exact hst _ (List.mem_append_right _ List.mem_cons_self)
    · exact hst v (List.mem_append_left _ (List.mem_reverse.mpr hv))
  have hFc := am_Fc h hA
  have hroom : (am_rm d mc ms).frames + 1 ≤ R.frames ∧ 8 + (maxL + 11) + (am_rm d mc ms).locals ≤ R.locals := by
    show d + 1 ≤ R.frames ∧ 8 + (maxL + 11) + 41 * d ≤ R.locals
    omega
  have hcat : 2 * (F0 m pc ls ((vs.reverse ++ vr c0 :: st).map (am_c ad))).monitorRoom + ((st.map (am_c ad)).map fun v => v.category).sum ≤ 8 := by rw [am_cw_of]; show 2 * 0 + _ ≤ 8; omega
  have hfit : (sh.length - n0) + mc ≤ R.cells ∧ (am_sl sh - s0) + ms ≤ R.slots := by omega
  have hrun := va_runIN (As := vs.map (am_c ad)) (rest := st.map (am_c ad)) (locs := locs) (meth := meth) (below := below) (e := e) ⟨hx, hb, rfl, ho, hts⟩ (hM l D cA ad H.size hvs) ⟨va_cnB n hts (am_Gw hm4) rfl rfl rfl (hN _ hl) (hts _ hm3) hm5 hroom, hm6, hts _ hm1⟩ ⟨am_Wd_blind, fun U hU hW => ⟨rfl, am_pre h hK hA hSt hN hU hW⟩⟩ rfl (by rw [List.length_map]; exact hn) (hl9.1.1.trans hl9.2) (by simp [List.map_append, List.map_reverse, am_c]) hcat hd hfit
  refine va_callv hrun hS (fun q _ hq => hFc q hq) hFc (fun u t H1 locs1 ht hvm hw9 hB hz1 hk1 hS1 => ?_)
  obtain ⟨h1, h2⟩ := am_after h hA hB ht hS1 hst1
  have hk := k _ _ hw9 u.2.1 ls H1 locs1 h1
  rw [h2] at hk
  have hlen := hB.2.2.2.2.2.1
  have hsl := hB.2.2.2.2.2.2
  exact W.cs (by omega) (by omega) hk
end AM6
