/-! contracts of the abstract machine, and calls -/
theorem am_c_ext {ad ad' : Nat → Nat} {n : Nat} {v : am_V} (h : ∀ k, k < n ∨ 1000 ≤ k → ad' k = ad k) (hv : am_okv n v) : am_c ad' v = am_c ad v := by
  obtain ⟨t, z⟩ := v
  rcases hv with ⟨q, -⟩ | ⟨q, -⟩ | ⟨q, h1, h2⟩
  · have q : t = 0 := q
    subst q; rfl
  · have q : t = 1 := q
    subst q; rfl
  · have q : t = 2 := q
    subst q
    show Value.ref (ad' z.toNat) = Value.ref (ad z.toNat)
    rw [h _ h2]
theorem am_map_ext {ad ad' : Nat → Nat} {n : Nat} {st : List am_V} (h : ∀ k, k < n ∨ 1000 ≤ k → ad' k = ad k) (hv : ∀ v ∈ st, am_okv n v) : st.map (am_c ad') = st.map (am_c ad) := List.map_congr_left (fun v hm => am_c_ext h (hv v hm))
theorem am_RL_ext {ad ad' : Nat → Nat} {n : Nat} {L : List (Option am_V)} {ls : Array Slot} (h : ∀ k, k < n ∨ 1000 ≤ k → ad' k = ad k) (hv : ∀ (i : Nat) (v : am_V), L[i]? = some (some v) → am_okv n v) (hl : am_RL ad L ls) : am_RL ad' L ls :=
  ⟨hl.1, hl.2.1, fun i v hi => by rw [am_c_ext h (hv i v hi)]; exact hl.2.2 i v hi⟩
abbrev am_U : Type := Int × (Nat → Nat) × List am_S × am_H
def am_rm (d mc ms : Nat) : Room := { frames := d, cells := mc, slots := ms, locals := 41 * d }
def am_ws (y : MethodName) (b : ByteArray) (maxL : Nat) (ret : Option FieldType) : List Cond := .code y b maxL ret :: am_B
def am_Wd (D : va_G) (cA : Nat → ClassId) (ad : Nat → Nat) (sh : List am_S) (σ : am_H) (sz : Nat) (U : State) : Prop :=
  U.heap.size = sz ∧ va_P D am_cl (am_w cA ad sh σ) U.heap ∧ va_D (fun _ => True) (am_w cA ad sh σ) ∧ va_K D am_cl (am_tys cA) U ∧ (am_oks sh ∧ am_okh sh σ) ∧ am_St ad (va_A (am_w cA ad sh σ) sz) U U.heap ∧ ∀ w ∈ am_N, va_Nw w U
def am_Wq (D : va_G) (cA : Nat → ClassId) (ad : Nat → Nat) (sh : List am_S) (mc ms : Nat) (A : Nat → Prop) (u : am_U) (t : State) : Prop :=
  va_P D am_cl (am_w cA u.2.1 u.2.2.1 u.2.2.2) t.heap ∧ va_D A (am_w cA u.2.1 u.2.2.1 u.2.2.2) ∧ am_oks u.2.2.1 ∧ am_okh u.2.2.1 u.2.2.2 ∧ (∀ k, k < sh.length ∨ 1000 ≤ k → u.2.1 k = ad k) ∧ u.2.2.1.length = sh.length + mc ∧ am_sl u.2.2.1 = am_sl sh + ms
/-- what a run may use: d frames, N cells and S places in the world -/
def am_Y (K : am_K) (d N S : Nat) : Prop := match K with
  | (_, _, _, R, _, _, _, _, _, _, _, _, _, _, n0, s0, _) => d ≤ R.frames ∧ 41 * d ≤ R.locals ∧ R.cells + n0 = N ∧ R.slots + s0 = S
def am_init (K : am_K) : Prop := match K with
  | (_, _, _, _, _, _, _, _, meth, _, _, _, _, _, _, _, _) => meth.name = "<init>"
theorem am_St.callee {adS ad : Nat → Nat} {A A' : Nat → Prop} {s U : State} {H : Heap} (h : am_St adS A s s.heap) (hv : s.vm.Alike U.vm) (hq : ∀ a : Nat, a < s.heap.size → ¬ A a → H[a]? = s.heap[a]?) (hAB : ∀ q, A' q → A q) (had : ∀ k, 1000 ≤ k → ad k = adS k) : am_St ad A' U H := by
  obtain ⟨h1, h2, h3, h4, h5⟩ := h
  unfold am_St
  rw [had 1000 (by decide), had 1001 (by decide)]
  exact ⟨((h1.kept hq).narrow hAB).moved hv, ((h2.kept hq).narrow hAB).moved hv, ((h3.kept hq).narrow hAB).moved hv, ((h4.kept hq).narrow hAB).moved hv, h5.moved hv⟩
theorem am_Nw_warm {s U : State} (hW : s.WarmedH U.vm) (h : ∀ w ∈ am_N, va_Nw w s) : ∀ w ∈ am_N, va_Nw w U := by
  intro w hw
  have hz := h w hw
  simp only [am_N, List.mem_cons, List.not_mem_nil, or_false] at hw
  rcases hw with rfl | rfl | rfl | rfl | rfl | rfl | rfl | rfl | rfl | rfl | rfl <;> exact va_Nw.warmM hW hz
theorem am_Nw_same {u U : State} (hv : u.vm = U.vm) (h : ∀ w ∈ am_N, va_Nw w u) : ∀ w ∈ am_N, va_Nw w U := by
  intro w hw
  have hz := h w hw
  simp only [am_N, List.mem_cons, List.not_mem_nil, or_false] at hw
  rcases hw with rfl | rfl | rfl | rfl | rfl | rfl | rfl | rfl | rfl | rfl | rfl <;> exact va_Nw.same rfl hv hz
theorem am_Wd_blind {D : va_G} {cA : Nat → ClassId} {ad : Nat → Nat} {sh : List am_S} {σ : am_H} {sz : Nat} {av : List Value} : FrameBlind (va_Pc av (am_Wd D cA ad sh σ sz)) := by
  intro a U g mk q
  obtain ⟨q0, q1, q2, q3, q4, q5, q6, q7⟩ := q
  refine ⟨q0, q1, q2, q3, va_K.moved (u := U) (U := U.calling g mk a) (Vm.Alike.refl U.vm) q4, q5, ?_, am_Nw_same (u := U) (U := U.calling g mk a) rfl q7⟩
  exact am_St.callee (s := U) (A := va_A (am_w cA ad sh σ) sz) (adS := ad) (H := U.heap) q6 (Vm.Alike.refl U.vm) (fun _ _ _ => rfl) (fun _ h => h) (fun _ _ => rfl)
/-- entry locals -/
def am_e0 (vs : List am_V) : List (Option am_V) := vs.flatMap (fun v => if v.1 = 1 then [some v, none] else [some v])
def am_ent (vs : List am_V) (n : Nat) : List (Option am_V) := am_e0 vs ++ List.replicate (n - (am_e0 vs).length) none
theorem am_e0_len (ad : Nat → Nat) : ∀ vs : List am_V, (lg_sl (vs.map (am_c ad))).length = (am_e0 vs).length
  | [] => rfl
  | v :: vs => by
    have ih := am_e0_len ad vs
    unfold lg_sl am_e0 at *
    rw [List.map_cons, List.flatMap_cons, List.flatMap_cons, List.length_append, List.length_append, ih]
    congr 1
    by_cases h : v.1 = 1
    · have hc : (am_c ad v).category = 2 := by
        obtain ⟨t, z⟩ := v
        have h : t = 1 := h
        subst h; rfl
      rw [if_pos h, if_pos hc]; rfl
    · have hc : ¬ (am_c ad v).category = 2 := fun q => h (am_cat q)
      rw [if_neg h, if_neg hc]; rfl
theorem am_e0_args (ad : Nat → Nat) : ∀ (vs : List am_V) (k i : Nat) (v : am_V), (am_e0 vs)[i]? = some (some v) → (k + i, am_c ad v) ∈ lv_args k (vs.map (am_c ad))
  | [], k, i, v, h => by simp [am_e0] at h
  | u :: vs, k, i, v, h => by
    have ih := am_e0_args ad vs
    unfold am_e0 at h ih
    rw [List.flatMap_cons] at h
    by_cases hu : u.1 = 1
    · have hc : (am_c ad u).category = 2 := by
        obtain ⟨t, z⟩ := u
        have hu : t = 1 := hu
        subst hu; rfl
      rw [if_pos hu] at h
      rw [List.map_cons]
      unfold lv_args
      rw [if_pos hc]
      match i, h with
      | 0, h =>
        simp at h
        subst h
        exact List.mem_cons_self
      | 1, h => simp at h
      | j + 2, h =>
        have h : (vs.flatMap (fun v => if v.1 = 1 then [some v, none] else [some v]))[j]? = some (some v) := by simpa using h
        have := ih (k + 2) j v h
        rw [show k + (j + 2) = k + 2 + j by omega]
        exact List.mem_cons_of_mem _ this
    · have hc : ¬ (am_c ad u).category = 2 := fun q => hu (am_cat q)
      rw [if_neg hu] at h
      rw [List.map_cons]
      unfold lv_args
      rw [if_neg hc]
      match i, h with
      | 0, h =>
        simp at h
        subst h
        exact List.mem_cons_self
      | j + 1, h =>
        have h : (vs.flatMap (fun v => if v.1 = 1 then [some v, none] else [some v]))[j]? = some (some v) := by simpa using h
        have := ih (k + 1) j v h
        rw [show k + (j + 1) = k + 1 + j by omega]
        exact List.mem_cons_of_mem _ this
theorem am_ent_RL {ad : Nat → Nat} {vs : List am_V} {n : Nat} (hn : (am_e0 vs).length ≤ n) : am_RL ad (am_ent vs n) ((lg_sl (vs.map (am_c ad)) ++ List.replicate (n - (lg_sl (vs.map (am_c ad))).length) Slot.unset).toArray) := by
  have h := lv_entry (vs.map (am_c ad)) (n := n) (by rw [am_e0_len]; exact hn)
  refine ⟨?_, h.2.1, fun i v hi => ?_⟩
  · rw [h.1]
    unfold am_ent
    rw [List.length_append, List.length_replicate]
    omega
  · unfold am_ent at hi
    by_cases hl : i < (am_e0 vs).length
    · rw [List.getElem?_append_left hl] at hi
      have := h.2.2 _ (am_e0_args ad vs 0 i v hi)
      rw [Nat.zero_add] at this
      exact this
    · rw [List.getElem?_append_right (by omega), List.getElem?_replicate] at hi
      split at hi <;> simp at hi
theorem am_ent_ok {vs : List am_V} {n N : Nat} (hv : ∀ v ∈ vs, am_okv N v) : ∀ (i : Nat) (v : am_V), (am_ent vs n)[i]? = some (some v) → am_okv N v := by
  intro i v hi
  have hm := List.mem_of_getElem? hi
  unfold am_ent am_e0 at hm
  rcases List.mem_append.mp hm with h | h
  · obtain ⟨u, hu, h2⟩ := List.mem_flatMap.mp h
    split at h2
    · simp at h2
      rw [h2]
      exact hv u hu
    · simp at h2
      rw [h2]
      exact hv u hu
  · have := List.eq_of_mem_replicate h
    cases this
theorem am_ent_len {vs : List am_V} {n : Nat} (hn : (am_e0 vs).length ≤ n) : (am_ent vs n).length = n := by
  unfold am_ent
  rw [List.length_append, List.length_replicate]
  omega
/-- a contract: from this world, with these arguments, the method ends so -/
def am_Mi (y : MethodName) (b : ByteArray) (maxL : Nat) (ret : Option FieldType) (d mc ms : Nat) (vs : List am_V) (sh : List am_S) (σ : am_H) (Post : Int → List am_S → am_H → Prop) : Prop :=
  ∀ (l : Launch) (D : va_G) (cA : Nat → ClassId) (ad : Nat → Nat) (sz : Nat), (∀ v ∈ vs, am_okv sh.length v) → Met l y (am_ws y b maxL ret) (am_rm d mc ms) (va_Pc (vs.map (am_c ad)) (am_Wd D cA ad sh σ sz)) (va_Qi (fun (r : Int32) (u : am_U) => (r = Int32.ofInt u.1 ∧ R32 u.1) ∧ Post u.1 u.2.2.1 u.2.2.2) (am_Wq D cA ad sh mc ms (va_A (am_w cA ad sh σ) sz)) (va_A (am_w cA ad sh σ) sz)) mc ms (va_A (am_w cA ad sh σ) sz)
/-- a contract: from this world, with these arguments, the method ends so -/
def am_Ml (y : MethodName) (b : ByteArray) (maxL : Nat) (ret : Option FieldType) (d mc ms : Nat) (vs : List am_V) (sh : List am_S) (σ : am_H) (Post : Int → List am_S → am_H → Prop) : Prop :=
  ∀ (l : Launch) (D : va_G) (cA : Nat → ClassId) (ad : Nat → Nat) (sz : Nat), (∀ v ∈ vs, am_okv sh.length v) → Met l y (am_ws y b maxL ret) (am_rm d mc ms) (va_Pc (vs.map (am_c ad)) (am_Wd D cA ad sh σ sz)) (va_Ql (fun (r : Int64) (u : am_U) => (r = Int64.ofInt u.1 ∧ R64 u.1) ∧ Post u.1 u.2.2.1 u.2.2.2) (am_Wq D cA ad sh mc ms (va_A (am_w cA ad sh σ) sz)) (va_A (am_w cA ad sh σ) sz)) mc ms (va_A (am_w cA ad sh σ) sz)
/-- a contract: from this world, with these arguments, the method ends so -/
def am_Mv (y : MethodName) (b : ByteArray) (maxL : Nat) (ret : Option FieldType) (d mc ms : Nat) (vs : List am_V) (sh : List am_S) (σ : am_H) (Post : List am_S → am_H → Prop) : Prop :=
  ∀ (l : Launch) (D : va_G) (cA : Nat → ClassId) (ad : Nat → Nat) (sz : Nat), (∀ v ∈ vs, am_okv sh.length v) → Met l y (am_ws y b maxL ret) (am_rm d mc ms) (va_Pc (vs.map (am_c ad)) (am_Wd D cA ad sh σ sz)) (va_Qv (fun (u : am_U) => Post u.2.2.1 u.2.2.2) (am_Wq D cA ad sh mc ms (va_A (am_w cA ad sh σ) sz)) (va_A (am_w cA ad sh σ) sz)) mc ms (va_A (am_w cA ad sh σ) sz)
theorem am_Mi_of {y : MethodName} {b : ByteArray} {maxL d mc ms : Nat} {vs : List am_V} {sh : List am_S} {σ : am_H} {Post : Int → List am_S → am_H → Prop} (hy : plainName y.cls = true) (hn : (am_e0 vs).length ≤ maxL)
    (body : ∀ K : am_K, am_X K b y.cls → am_Y K d (sh.length + mc) (am_sl sh + ms) → (y.name = "<init>" → am_init K) → (∀ (pc : Nat) (L : List (Option am_V)) (r : Int) (sh9 : List am_S) (σ9 : am_H), decode b pc = .ok (.ireturn, 1) → sh9.length = sh.length + mc → am_sl sh9 = am_sl sh + ms → Post r sh9 σ9 → am_G K pc L [vi r] sh9 σ9) → am_G K 0 (am_ent vs maxL) [] sh σ) : am_Mi y b maxL (some .int) d mc ms vs sh σ Post := by
  intro l D cA ad sz hvs
  refine Met.ofW (cc := b) (maxL := maxL) (ret := some .int) hy rfl ?_
  intro p e s m args below meth c s₁ B hml hv
  obtain ⟨rfl, hsz, hP, hD0, hK, ⟨hok1, hok2⟩, hSt, hN⟩ := hv
  have hx := B.exec
  have hb := B.bytes
  have hr := B.returns
  have hts := atoms_spec (ws := am_ws y b maxL (some .int)) B.pre
  have hown : s.vm.findClass y.cls = some m.cls := findClass_of_methodNamed B.named
  have hlocks := B.notSynchronized
  have hnm : meth.name = y.name := (name_of_methodNamed B.named B.method).1
  subst hsz
  have hD : va_D (va_A (am_w cA ad sh σ) s.heap.size) (am_w cA ad sh σ) := hD0.self
  generalize hAe : va_A (am_w cA ad sh σ) s.heap.size = A at hD hSt ⊢
  have hA : ∀ q : Nat, s.heap.size ≤ q → A q := fun q h => by rw [← hAe]; exact Or.inr h
  rw [lg_entry_eq]
  generalize hQ : MQ below _ _ _ _ _ _ = Q
  have hg := body (p, l, e, am_rm d mc ms, s, m, (vs.map (am_c ad)).toArray, below, meth, c, Q, D, cA, A, sh.length, am_sl sh, ad)
    ⟨hx, hb, hown, fun w hw => hts w (List.mem_cons_of_mem _ hw), hK, hA, hSt, hN⟩ ⟨Nat.le_refl _, Nat.le_refl _, Nat.add_comm _ _, Nat.add_comm _ _⟩ (fun q => hnm.trans q) ?_ ad _ s.heap [] ⟨⟨hP, hD, va_S.rf⟩, ⟨am_ent_RL hn, by rw [am_ent_len hn, hml]⟩, (fun _ h => by cases h), am_ent_ok hvs, hok1, hok2, fun _ _ => rfl, Nat.le_refl _, Nat.le_refl _⟩
  · exact W.cs (Nat.sub_self _).symm (Nat.sub_self _).symm hg
  · intro pc L r sh9 σ9 hd hlen hsl hP9 ad9 ls H locs h
    obtain ⟨⟨hP1, hD1, hS1⟩, hl, hst, hlo, hok3, hok4, had, hn0, hs0⟩ := id h
    have hRr := okv_iR (am_st_h hst)
    subst hQ
    refine W.cs (cells' := mc) (slots' := ms) (by omega) (by omega) ?_
    exact W.iret (v := Int32.ofInt r) hx hb hr (fun t ht hW => ⟨⟨Int32.ofInt r, (r, ad9, sh9, σ9), rfl, ⟨⟨rfl, hRr⟩, hP9⟩, by rw [ht]; exact hP1, hD1, hok3, hok4, had, hlen, hsl⟩, hS1.F ht⟩) hS1.2.2 hd
theorem am_Mz_of {y : MethodName} {b : ByteArray} {maxL d mc ms : Nat} {vs : List am_V} {sh : List am_S} {σ : am_H} {Post : Int → List am_S → am_H → Prop} (hy : plainName y.cls = true) (hn : (am_e0 vs).length ≤ maxL)
    (body : ∀ K : am_K, am_X K b y.cls → am_Y K d (sh.length + mc) (am_sl sh + ms) → (y.name = "<init>" → am_init K) → (∀ (pc : Nat) (L : List (Option am_V)) (r : Int) (sh9 : List am_S) (σ9 : am_H), decode b pc = .ok (.ireturn, 1) → sh9.length = sh.length + mc → am_sl sh9 = am_sl sh + ms → Post r sh9 σ9 → (r = 0 ∨ r = 1) → am_G K pc L [vi r] sh9 σ9) → am_G K 0 (am_ent vs maxL) [] sh σ) : am_Mi y b maxL (some .boolean) d mc ms vs sh σ Post := by
  intro l D cA ad sz hvs
  refine Met.ofW (cc := b) (maxL := maxL) (ret := some .boolean) hy rfl ?_
  intro p e s m args below meth c s₁ B hml hv
  obtain ⟨rfl, hsz, hP, hD0, hK, ⟨hok1, hok2⟩, hSt, hN⟩ := hv
  have hx := B.exec
  have hb := B.bytes
  have hr := B.returns
  have hts := atoms_spec (ws := am_ws y b maxL (some .boolean)) B.pre
  have hown : s.vm.findClass y.cls = some m.cls := findClass_of_methodNamed B.named
  have hlocks := B.notSynchronized
  have hnm : meth.name = y.name := (name_of_methodNamed B.named B.method).1
  subst hsz
  have hD : va_D (va_A (am_w cA ad sh σ) s.heap.size) (am_w cA ad sh σ) := hD0.self
  generalize hAe : va_A (am_w cA ad sh σ) s.heap.size = A at hD hSt ⊢
  have hA : ∀ q : Nat, s.heap.size ≤ q → A q := fun q h => by rw [← hAe]; exact Or.inr h
  rw [lg_entry_eq]
  generalize hQ : MQ below _ _ _ _ _ _ = Q
  have hg := body (p, l, e, am_rm d mc ms, s, m, (vs.map (am_c ad)).toArray, below, meth, c, Q, D, cA, A, sh.length, am_sl sh, ad)
    ⟨hx, hb, hown, fun w hw => hts w (List.mem_cons_of_mem _ hw), hK, hA, hSt, hN⟩ ⟨Nat.le_refl _, Nat.le_refl _, Nat.add_comm _ _, Nat.add_comm _ _⟩ (fun q => hnm.trans q) ?_ ad _ s.heap [] ⟨⟨hP, hD, va_S.rf⟩, ⟨am_ent_RL hn, by rw [am_ent_len hn, hml]⟩, (fun _ h => by cases h), am_ent_ok hvs, hok1, hok2, fun _ _ => rfl, Nat.le_refl _, Nat.le_refl _⟩
  · exact W.cs (Nat.sub_self _).symm (Nat.sub_self _).symm hg
  · intro pc L r sh9 σ9 hd hlen hsl hP9 hz ad9 ls H locs h
    obtain ⟨⟨hP1, hD1, hS1⟩, hl, hst, hlo, hok3, hok4, had, hn0, hs0⟩ := id h
    have hRr := okv_iR (am_st_h hst)
    subst hQ
    refine W.cs (cells' := mc) (slots' := ms) (by omega) (by omega) ?_
    exact W.zret (v := Int32.ofInt r) (ty := .boolean) hx hb hr (by rcases hz with rfl | rfl <;> rfl) (fun t ht hW => ⟨⟨Int32.ofInt r, (r, ad9, sh9, σ9), rfl, ⟨⟨rfl, hRr⟩, hP9⟩, by rw [ht]; exact hP1, hD1, hok3, hok4, had, hlen, hsl⟩, hS1.F ht⟩) hS1.2.2 hd
theorem am_Ml_of {y : MethodName} {b : ByteArray} {maxL d mc ms : Nat} {vs : List am_V} {sh : List am_S} {σ : am_H} {Post : Int → List am_S → am_H → Prop} (hy : plainName y.cls = true) (hn : (am_e0 vs).length ≤ maxL)
    (body : ∀ K : am_K, am_X K b y.cls → am_Y K d (sh.length + mc) (am_sl sh + ms) → (y.name = "<init>" → am_init K) → (∀ (pc : Nat) (L : List (Option am_V)) (r : Int) (sh9 : List am_S) (σ9 : am_H), decode b pc = .ok (.lreturn, 1) → sh9.length = sh.length + mc → am_sl sh9 = am_sl sh + ms → Post r sh9 σ9 → am_G K pc L [vl r] sh9 σ9) → am_G K 0 (am_ent vs maxL) [] sh σ) : am_Ml y b maxL (some .long) d mc ms vs sh σ Post := by
  intro l D cA ad sz hvs
  refine Met.ofW (cc := b) (maxL := maxL) (ret := some .long) hy rfl ?_
  intro p e s m args below meth c s₁ B hml hv
  obtain ⟨rfl, hsz, hP, hD0, hK, ⟨hok1, hok2⟩, hSt, hN⟩ := hv
  have hx := B.exec
  have hb := B.bytes
  have hr := B.returns
  have hts := atoms_spec (ws := am_ws y b maxL (some .long)) B.pre
  have hown : s.vm.findClass y.cls = some m.cls := findClass_of_methodNamed B.named
  have hlocks := B.notSynchronized
  have hnm : meth.name = y.name := (name_of_methodNamed B.named B.method).1
  subst hsz
  have hD : va_D (va_A (am_w cA ad sh σ) s.heap.size) (am_w cA ad sh σ) := hD0.self
  generalize hAe : va_A (am_w cA ad sh σ) s.heap.size = A at hD hSt ⊢
  have hA : ∀ q : Nat, s.heap.size ≤ q → A q := fun q h => by rw [← hAe]; exact Or.inr h
  rw [lg_entry_eq]
  generalize hQ : MQ below _ _ _ _ _ _ = Q
  have hg := body (p, l, e, am_rm d mc ms, s, m, (vs.map (am_c ad)).toArray, below, meth, c, Q, D, cA, A, sh.length, am_sl sh, ad)
    ⟨hx, hb, hown, fun w hw => hts w (List.mem_cons_of_mem _ hw), hK, hA, hSt, hN⟩ ⟨Nat.le_refl _, Nat.le_refl _, Nat.add_comm _ _, Nat.add_comm _ _⟩ (fun q => hnm.trans q) ?_ ad _ s.heap [] ⟨⟨hP, hD, va_S.rf⟩, ⟨am_ent_RL hn, by rw [am_ent_len hn, hml]⟩, (fun _ h => by cases h), am_ent_ok hvs, hok1, hok2, fun _ _ => rfl, Nat.le_refl _, Nat.le_refl _⟩
  · exact W.cs (Nat.sub_self _).symm (Nat.sub_self _).symm hg
  · intro pc L r sh9 σ9 hd hlen hsl hP9 ad9 ls H locs h
    obtain ⟨⟨hP1, hD1, hS1⟩, hl, hst, hlo, hok3, hok4, had, hn0, hs0⟩ := id h
    have hRr := okv_lR (am_st_h hst)
    subst hQ
    refine W.cs (cells' := mc) (slots' := ms) (by omega) (by omega) ?_
    exact W.lret (v := Int64.ofInt r) hx hb hr (fun t ht hW => ⟨⟨Int64.ofInt r, (r, ad9, sh9, σ9), rfl, ⟨⟨rfl, hRr⟩, hP9⟩, by rw [ht]; exact hP1, hD1, hok3, hok4, had, hlen, hsl⟩, hS1.F ht⟩) hS1.2.2 hd
theorem am_Mv_of {y : MethodName} {b : ByteArray} {maxL d mc ms : Nat} {vs : List am_V} {sh : List am_S} {σ : am_H} {Post : List am_S → am_H → Prop} (hy : plainName y.cls = true) (hn : (am_e0 vs).length ≤ maxL)
    (body : ∀ K : am_K, am_X K b y.cls → am_Y K d (sh.length + mc) (am_sl sh + ms) → (y.name = "<init>" → am_init K) → (∀ (pc : Nat) (L : List (Option am_V)) (sh9 : List am_S) (σ9 : am_H), decode b pc = .ok (.return_, 1) → sh9.length = sh.length + mc → am_sl sh9 = am_sl sh + ms → Post sh9 σ9 → am_G K pc L [] sh9 σ9) → am_G K 0 (am_ent vs maxL) [] sh σ) : am_Mv y b maxL (none) d mc ms vs sh σ Post := by
  intro l D cA ad sz hvs
  refine Met.ofW (cc := b) (maxL := maxL) (ret := none) hy rfl ?_
  intro p e s m args below meth c s₁ B hml hv
  obtain ⟨rfl, hsz, hP, hD0, hK, ⟨hok1, hok2⟩, hSt, hN⟩ := hv
  have hx := B.exec
  have hb := B.bytes
  have hr := B.returns
  have hts := atoms_spec (ws := am_ws y b maxL (none)) B.pre
  have hown : s.vm.findClass y.cls = some m.cls := findClass_of_methodNamed B.named
  have hlocks := B.notSynchronized
  have hnm : meth.name = y.name := (name_of_methodNamed B.named B.method).1
  subst hsz
  have hD : va_D (va_A (am_w cA ad sh σ) s.heap.size) (am_w cA ad sh σ) := hD0.self
  generalize hAe : va_A (am_w cA ad sh σ) s.heap.size = A at hD hSt ⊢
  have hA : ∀ q : Nat, s.heap.size ≤ q → A q := fun q h => by rw [← hAe]; exact Or.inr h
  rw [lg_entry_eq]
  generalize hQ : MQ below _ _ _ _ _ _ = Q
  have hg := body (p, l, e, am_rm d mc ms, s, m, (vs.map (am_c ad)).toArray, below, meth, c, Q, D, cA, A, sh.length, am_sl sh, ad)
    ⟨hx, hb, hown, fun w hw => hts w (List.mem_cons_of_mem _ hw), hK, hA, hSt, hN⟩ ⟨Nat.le_refl _, Nat.le_refl _, Nat.add_comm _ _, Nat.add_comm _ _⟩ (fun q => hnm.trans q) ?_ ad _ s.heap [] ⟨⟨hP, hD, va_S.rf⟩, ⟨am_ent_RL hn, by rw [am_ent_len hn, hml]⟩, (fun _ h => by cases h), am_ent_ok hvs, hok1, hok2, fun _ _ => rfl, Nat.le_refl _, Nat.le_refl _⟩
  · exact W.cs (Nat.sub_self _).symm (Nat.sub_self _).symm hg
  · intro pc L sh9 σ9 hd hlen hsl hP9 ad9 ls H locs h
    obtain ⟨⟨hP1, hD1, hS1⟩, hl, hst, hlo, hok3, hok4, had, hn0, hs0⟩ := id h
    skip
    subst hQ
    refine W.cs (cells' := mc) (slots' := ms) (by omega) (by omega) ?_
    exact W.vret hx hb hr (fun t ht hW => ⟨⟨(0, ad9, sh9, σ9), rfl, hP9, by rw [ht]; exact hP1, hD1, hok3, hok4, had, hlen, hsl⟩, hS1.F ht⟩) hS1.2.2 hd
