/-! the abstract machine: its context and its instructions -/
abbrev am_K : Type := Program × Launch × Env × Room × State × MethodId × Array Value × List Frame × Method × Code × (State → Prop) × va_G × (Nat → ClassId) × (Nat → Prop) × Nat × Nat × (Nat → Nat)
def am_B : List Cond := lw_tbl.filter goodWord
theorem am_Bin {w : Cond} (h : w ∈ lw_tbl) (g : goodWord w = true) : w ∈ am_B := List.mem_filter.mpr ⟨h, g⟩
theorem am_Bg : GoodIn am_B am_B := fun _ h => ⟨h, good_of_word (List.mem_filter.mp h).2⟩
/-- the links that are between mates of a nest -/
def am_N : List Cond := [.methodLinkNest RX9 18 yX1_init RX9, .methodLinkNest RX9 25 yX3_init RX9, .methodLinkNest RX9 32 yX4_init RX9, .methodLinkNest RX9 52 yX8_init RX9, .methodLinkNest RX9 59 yX0_init RX9, .methodLinkNest RX9 74 yX7_init RX9, .methodLinkNest RX6 25 yX9_within RX9, .methodLinkNest RX4 37 yX9_within RX9, .methodLinkNest RX2 44 yX9_within RX9, .methodLinkNest RX3 110 yX9_within RX9, .methodLinkNest RX0 22 yX9_within RX9]
def am_own (j : Nat) : Int := ([1, 10, 11, 2, 20, 0, 0, 0, 0, 30, 0, 0, 0, 41, 40, 0, 0, 0, 50, 0, 0, 0, 0, 60, 70, 0, 0, 0, 0, 80, 0, 81] : List Int).getD j 0
def am_above (j : Nat) : Int := ([-1, 0, 0, 2, 1, 3, 0, 4] : List Int).getD j 0
/-- the two static tables: nobody writes them -/
def am_St (adS : Nat → Nat) (A : Nat → Prop) (U : State) (H : Heap) : Prop :=
  va_Z RX0 "OWN" "[I" (.ref (adS 1000)) A U H ∧ va_T .int (adS 1000) 32 (fun j => .int (Int32.ofInt (am_own j))) A U H ∧ va_Z RX0 "ABOVE" "[I" (.ref (adS 1001)) A U H ∧ va_T .int (adS 1001) 8 (fun j => .int (Int32.ofInt (am_above j))) A U H ∧ va_AO "OwedDays$Shelf" U
/-- what holds of a method's run from its entry on -/
def am_X (K : am_K) (cc : ByteArray) (own : String) : Prop := match K with
  | (p, _, _, _, s, m, args, _, _, c, _, D, cA, A, _, _, adS) => p.tables.exec = Jvm.exec ∧ c.code = cc ∧ s.vm.findClass own = some m.cls ∧ (∀ w ∈ am_B, w.before args s = true) ∧ va_K D am_cl (am_tys cA) s ∧ (∀ q : Nat, s.heap.size ≤ q → A q) ∧ am_St adS A s s.heap ∧ ∀ w ∈ am_N, va_Nw w s
/-- a state of the machine and a state of the abstract one -/
def am_R (s : State) (c : Code) (D : va_G) (cA : Nat → ClassId) (A : Nat → Prop) (n0 s0 : Nat) (adS ad : Nat → Nat) (L : List (Option am_V)) (st : List am_V) (sh : List am_S) (σ : am_H) (ls : Array Slot) (H : Heap) (locs : List Loc) : Prop :=
  (va_P D am_cl (am_w cA ad sh σ) H ∧ va_D A (am_w cA ad sh σ) ∧ va_S A s.heap H locs) ∧ (am_RL ad L ls ∧ L.length = c.maxLocals) ∧ (∀ v ∈ st, am_okv sh.length v) ∧ (∀ (i : Nat) (v : am_V), L[i]? = some (some v) → am_okv sh.length v) ∧ (am_oks sh ∧ am_okh sh σ ∧ (∀ k, k < n0 ∨ 1000 ≤ k → ad k = adS k) ∧ n0 ≤ sh.length ∧ s0 ≤ am_sl sh)
/-- from here on all goes well -/
def am_G (K : am_K) (pc : Nat) (L : List (Option am_V)) (st : List am_V) (sh : List am_S) (σ : am_H) : Prop := match K with
  | (p, l, e, R, s, m, args, below, meth, c, Q, D, cA, A, n0, s0, adS) => ∀ (ad : Nat → Nat) (ls : Array Slot) (H : Heap) (locs : List Loc), am_R s c D cA A n0 s0 adS ad L st sh σ ls H locs → W p l e R s m args below meth c H locs (sh.length - n0) (am_sl sh - s0) Q (F0 m pc ls (st.map (am_c ad)))
theorem am_Rst {s : State} {c : Code} {D : va_G} {cA : Nat → ClassId} {A : Nat → Prop} {n0 s0 : Nat} {adS ad : Nat → Nat} {L : List (Option am_V)} {st st' : List am_V} {sh : List am_S} {σ : am_H} {ls : Array Slot} {H : Heap} {locs : List Loc} (h : am_R s c D cA A n0 s0 adS ad L st sh σ ls H locs) (h' : ∀ v ∈ st', am_okv sh.length v) : am_R s c D cA A n0 s0 adS ad L st' sh σ ls H locs := ⟨h.1, h.2.1, h', h.2.2.2⟩
theorem am_st_1 {n : Nat} {v : am_V} {st : List am_V} (h : ∀ x ∈ v :: st, am_okv n x) : ∀ x ∈ st, am_okv n x := fun x hx => h x (List.mem_cons_of_mem _ hx)
theorem am_st_2 {n : Nat} {v : am_V} {st : List am_V} (hv : am_okv n v) (h : ∀ x ∈ st, am_okv n x) : ∀ x ∈ v :: st, am_okv n x := fun x hx => by
  rcases List.mem_cons.mp hx with rfl | hx
  · exact hv
  · exact h x hx
theorem am_st_h {n : Nat} {v : am_V} {st : List am_V} (h : ∀ x ∈ v :: st, am_okv n x) : am_okv n v := h v List.mem_cons_self
section AM
variable {K : am_K} {cc : ByteArray} {own : String} {pc : Nat} {L : List (Option am_V)} {st : List am_V} {sh : List am_S} {σ : am_H}
/-- what is sound may be used -/
theorem am_use (k : am_oks sh → am_okh sh σ → (∀ v ∈ st, am_okv sh.length v) → (∀ (i : Nat) (v : am_V), L[i]? = some (some v) → am_okv sh.length v) → am_G K pc L st sh σ) : am_G K pc L st sh σ := by
  obtain ⟨p, l, e, R, s, m, args, below, meth, c, Q, D, cA, A, n0, s0, adS⟩ := K
  intro ad ls H locs h
  exact k h.2.2.2.2.1 h.2.2.2.2.2.1 h.2.2.1 h.2.2.2.1 ad ls H locs h
theorem am_iconst (X : am_X K cc own) {n : Int} (hd : decode cc pc = .ok (.iconst n, 1)) (k : am_G K (pc + 1) L (vi (w32 n) :: st) sh σ) : am_G K (pc) L (st) sh σ := by
  obtain ⟨p, l, e, R, s, m, args, below, meth, c, Q, D, cA, A, n0, s0, adS⟩ := K
  obtain ⟨hx, hb, ho, hts, hK, hA, hSt, hN⟩ := X
  intro ad ls H locs h
  exact lv_iconst hx hb hd (w32_of n).symm (k ad ls H locs (am_Rst h (am_st_2 (okv_i (w32_R _)) h.2.2.1)))
theorem am_bipush (X : am_X K cc own) {n : Int} (hn : -128 ≤ n ∧ n < 128) (hd : decode cc pc = .ok (.bipush n, 2)) (k : am_G K (pc + 2) L (vi n :: st) sh σ) : am_G K (pc) L (st) sh σ := by
  obtain ⟨p, l, e, R, s, m, args, below, meth, c, Q, D, cA, A, n0, s0, adS⟩ := K
  obtain ⟨hx, hb, ho, hts, hK, hA, hSt, hN⟩ := X
  intro ad ls H locs h
  have h8 : (Int8.ofInt n).toInt = n := Int8.toInt_ofInt_of_le hn.1 hn.2
  have e : (Int8.ofInt n).toInt32 = Int32.ofInt n := by
    apply Int32.toInt_inj.mp
    rw [Int8.toInt_toInt32, h8, R32_to]
    unfold R32; omega
  exact lv_bipush hx hb hd e (k ad ls H locs (am_Rst h (am_st_2 (okv_i (by unfold R32; omega)) h.2.2.1)))
theorem am_sipush (X : am_X K cc own) {n : Int} (hn : -32768 ≤ n ∧ n < 32768) (hd : decode cc pc = .ok (.sipush n, 3)) (k : am_G K (pc + 3) L (vi n :: st) sh σ) : am_G K (pc) L (st) sh σ := by
  obtain ⟨p, l, e, R, s, m, args, below, meth, c, Q, D, cA, A, n0, s0, adS⟩ := K
  obtain ⟨hx, hb, ho, hts, hK, hA, hSt, hN⟩ := X
  intro ad ls H locs h
  have h8 : (Int16.ofInt n).toInt = n := Int16.toInt_ofInt_of_le hn.1 hn.2
  have e : (Int16.ofInt n).toInt32 = Int32.ofInt n := by
    apply Int32.toInt_inj.mp
    rw [Int16.toInt_toInt32, h8, R32_to]
    unfold R32; omega
  exact lv_sipush hx hb hd e (k ad ls H locs (am_Rst h (am_st_2 (okv_i (by unfold R32; omega)) h.2.2.1)))
theorem am_lconst (X : am_X K cc own) {n : Fin 2} (hd : decode cc pc = .ok (.lconst n, 1)) (k : am_G K (pc + 1) L (vl (Int.ofNat n.val) :: st) sh σ) : am_G K (pc) L (st) sh σ := by
  obtain ⟨p, l, e, R, s, m, args, below, meth, c, Q, D, cA, A, n0, s0, adS⟩ := K
  obtain ⟨hx, hb, ho, hts, hK, hA, hSt, hN⟩ := X
  intro ad ls H locs h
  exact lv_lconst hx hb hd rfl (k ad ls H locs (am_Rst h (am_st_2 (okv_l (by have := n.isLt; unfold R64; show _ ≤ ((n.val : Nat) : Int) ∧ ((n.val : Nat) : Int) < _; omega)) h.2.2.1)))
theorem am_ldc (X : am_X K cc own) {i : Nat} {n : Int} (hn : R32 n) (hw : Cond.constant own i (Int32.ofInt n) ∈ am_B) (hd : decode cc pc = .ok (.ldc i, 2)) (k : am_G K (pc + 2) L (vi n :: st) sh σ) : am_G K (pc) L (st) sh σ := by
  obtain ⟨p, l, e, R, s, m, args, below, meth, c, Q, D, cA, A, n0, s0, adS⟩ := K
  obtain ⟨hx, hb, ho, hts, hK, hA, hSt, hN⟩ := X
  intro ad ls H locs h
  exact lv_ldc hx hb ho (hts _ hw) hd (k ad ls H locs (am_Rst h (am_st_2 (okv_i hn) h.2.2.1)))
theorem am_ldcw (X : am_X K cc own) {i : Nat} {n : Int} (hn : R32 n) (hw : Cond.constant own i (Int32.ofInt n) ∈ am_B) (hd : decode cc pc = .ok (.ldc_w i, 3)) (k : am_G K (pc + 3) L (vi n :: st) sh σ) : am_G K (pc) L (st) sh σ := by
  obtain ⟨p, l, e, R, s, m, args, below, meth, c, Q, D, cA, A, n0, s0, adS⟩ := K
  obtain ⟨hx, hb, ho, hts, hK, hA, hSt, hN⟩ := X
  intro ad ls H locs h
  exact lv_ldcw hx hb ho (hts _ hw) hd (k ad ls H locs (am_Rst h (am_st_2 (okv_i hn) h.2.2.1)))
theorem am_ldc2 (X : am_X K cc own) {i : Nat} {n : Int} (hn : R64 n) (hw : Cond.constantLong own i (Int64.ofInt n) ∈ am_B) (hd : decode cc pc = .ok (.ldc2_w i, 3)) (k : am_G K (pc + 3) L (vl n :: st) sh σ) : am_G K (pc) L (st) sh σ := by
  obtain ⟨p, l, e, R, s, m, args, below, meth, c, Q, D, cA, A, n0, s0, adS⟩ := K
  obtain ⟨hx, hb, ho, hts, hK, hA, hSt, hN⟩ := X
  intro ad ls H locs h
  exact lv_ldc2 hx hb ho (hts _ hw) hd (k ad ls H locs (am_Rst h (am_st_2 (okv_l hn) h.2.2.1)))
theorem am_iload_n (X : am_X K cc own) {j : Fin 4} {x : Int} (hl : L[j.val]? = some (some (vi x))) (hd : decode cc pc = .ok (.iload_n j, 1)) (k : am_G K (pc + 1) L (vi x :: st) sh σ) : am_G K (pc) L (st) sh σ := by
  obtain ⟨p, l, e, R, s, m, args, below, meth, c, Q, D, cA, A, n0, s0, adS⟩ := K
  obtain ⟨hx, hb, ho, hts, hK, hA, hSt, hN⟩ := X
  intro ad ls H locs h
  exact lv_iload_n hx hb hd rfl (h.2.1.1.2.2 _ _ hl) (k ad ls H locs (am_Rst h (am_st_2 (h.2.2.2.1 _ _ hl) h.2.2.1)))
theorem am_iload (X : am_X K cc own) {i : Nat} {x : Int} (hl : L[i]? = some (some (vi x))) (hd : decode cc pc = .ok (.iload i, 2)) (k : am_G K (pc + 2) L (vi x :: st) sh σ) : am_G K (pc) L (st) sh σ := by
  obtain ⟨p, l, e, R, s, m, args, below, meth, c, Q, D, cA, A, n0, s0, adS⟩ := K
  obtain ⟨hx, hb, ho, hts, hK, hA, hSt, hN⟩ := X
  intro ad ls H locs h
  exact lv_iload hx hb hd (h.2.1.1.2.2 _ _ hl) (k ad ls H locs (am_Rst h (am_st_2 (h.2.2.2.1 _ _ hl) h.2.2.1)))
theorem am_lload_n (X : am_X K cc own) {j : Fin 4} {x : Int} (hl : L[j.val]? = some (some (vl x))) (hd : decode cc pc = .ok (.lload_n j, 1)) (k : am_G K (pc + 1) L (vl x :: st) sh σ) : am_G K (pc) L (st) sh σ := by
  obtain ⟨p, l, e, R, s, m, args, below, meth, c, Q, D, cA, A, n0, s0, adS⟩ := K
  obtain ⟨hx, hb, ho, hts, hK, hA, hSt, hN⟩ := X
  intro ad ls H locs h
  exact lv_lload_n hx hb hd rfl (h.2.1.1.2.2 _ _ hl) (k ad ls H locs (am_Rst h (am_st_2 (h.2.2.2.1 _ _ hl) h.2.2.1)))
theorem am_lload (X : am_X K cc own) {i : Nat} {x : Int} (hl : L[i]? = some (some (vl x))) (hd : decode cc pc = .ok (.lload i, 2)) (k : am_G K (pc + 2) L (vl x :: st) sh σ) : am_G K (pc) L (st) sh σ := by
  obtain ⟨p, l, e, R, s, m, args, below, meth, c, Q, D, cA, A, n0, s0, adS⟩ := K
  obtain ⟨hx, hb, ho, hts, hK, hA, hSt, hN⟩ := X
  intro ad ls H locs h
  exact lv_lload hx hb hd (h.2.1.1.2.2 _ _ hl) (k ad ls H locs (am_Rst h (am_st_2 (h.2.2.2.1 _ _ hl) h.2.2.1)))
theorem am_aload_n (X : am_X K cc own) {j : Fin 4} {x : Nat} (hl : L[j.val]? = some (some (vr x))) (hd : decode cc pc = .ok (.aload_n j, 1)) (k : am_G K (pc + 1) L (vr x :: st) sh σ) : am_G K (pc) L (st) sh σ := by
  obtain ⟨p, l, e, R, s, m, args, below, meth, c, Q, D, cA, A, n0, s0, adS⟩ := K
  obtain ⟨hx, hb, ho, hts, hK, hA, hSt, hN⟩ := X
  intro ad ls H locs h
  exact lv_aload_n hx hb hd rfl (h.2.1.1.2.2 _ _ hl) (k ad ls H locs (am_Rst h (am_st_2 (h.2.2.2.1 _ _ hl) h.2.2.1)))
theorem am_aload (X : am_X K cc own) {i : Nat} {x : Nat} (hl : L[i]? = some (some (vr x))) (hd : decode cc pc = .ok (.aload i, 2)) (k : am_G K (pc + 2) L (vr x :: st) sh σ) : am_G K (pc) L (st) sh σ := by
  obtain ⟨p, l, e, R, s, m, args, below, meth, c, Q, D, cA, A, n0, s0, adS⟩ := K
  obtain ⟨hx, hb, ho, hts, hK, hA, hSt, hN⟩ := X
  intro ad ls H locs h
  exact lv_aload hx hb hd (h.2.1.1.2.2 _ _ hl) (k ad ls H locs (am_Rst h (am_st_2 (h.2.2.2.1 _ _ hl) h.2.2.1)))
theorem am_Rl1 {s : State} {c : Code} {D : va_G} {cA : Nat → ClassId} {A : Nat → Prop} {n0 s0 : Nat} {adS ad : Nat → Nat} {L : List (Option am_V)} {v : am_V} {st st' : List am_V} {sh : List am_S} {σ : am_H} {ls ls' : Array Slot} {H : Heap} {locs : List Loc} {i : Nat} (h : am_R s c D cA A n0 s0 adS ad L st sh σ ls H locs) (hv : am_okv sh.length v) (hs : ∀ v ∈ st', am_okv sh.length v) (hl : am_RL ad (am_st1 L i v) ls') : am_R s c D cA A n0 s0 adS ad (am_st1 L i v) st' sh σ ls' H locs := by
  refine ⟨h.1, ⟨hl, by rw [am_st1_len]; exact h.2.1.2⟩, hs, fun j w hj => ?_, h.2.2.2.2⟩
  rcases am_st1_of hj with ⟨-, rfl⟩ | ⟨-, h2, -⟩
  · exact hv
  · exact h.2.2.2.1 _ _ h2
theorem am_Rl2 {s : State} {c : Code} {D : va_G} {cA : Nat → ClassId} {A : Nat → Prop} {n0 s0 : Nat} {adS ad : Nat → Nat} {L : List (Option am_V)} {v : am_V} {st st' : List am_V} {sh : List am_S} {σ : am_H} {ls ls' : Array Slot} {H : Heap} {locs : List Loc} {i : Nat} (h : am_R s c D cA A n0 s0 adS ad L st sh σ ls H locs) (hv : am_okv sh.length v) (hs : ∀ v ∈ st', am_okv sh.length v) (hl : am_RL ad (am_st2 L i v) ls') : am_R s c D cA A n0 s0 adS ad (am_st2 L i v) st' sh σ ls' H locs := by
  refine ⟨h.1, ⟨hl, by rw [am_st2_len]; exact h.2.1.2⟩, hs, fun j w hj => ?_, h.2.2.2.2⟩
  rcases am_st2_of hj with ⟨-, rfl⟩ | ⟨-, -, h2, -⟩
  · exact hv
  · exact h.2.2.2.1 _ _ h2
theorem am_istore_n (X : am_X K cc own) {j : Fin 4} {i : Nat} {x : Int} {L' : List (Option am_V)} (hi : j.val = i) (hn : i < L.length) (hL : am_st1 L i (vi x) = L') (hd : decode cc pc = .ok (.istore_n j, 1)) (k : am_G K (pc + 1) L' st sh σ) : am_G K pc L (vi x :: st) sh σ := by
  obtain ⟨p, l, e, R, s, m, args, below, meth, c, Q, D, cA, A, n0, s0, adS⟩ := K
  obtain ⟨hx, hb, ho, hts, hK, hA, hSt, hN⟩ := X
  intro ad ls H locs h
  subst hL
  exact lv_istore_n hx hb hd hi (am_lv_has h.2.1.1) hn rfl (fun ls' hl => k ad ls' H locs (am_Rl1 h (am_st_h h.2.2.1) (am_st_1 h.2.2.1) (am_RL_st1 hl)))
theorem am_istore (X : am_X K cc own) {i : Nat} {x : Int} {L' : List (Option am_V)} (hn : i < L.length) (hL : am_st1 L i (vi x) = L') (hd : decode cc pc = .ok (.istore i, 2)) (k : am_G K (pc + 2) L' st sh σ) : am_G K pc L (vi x :: st) sh σ := by
  obtain ⟨p, l, e, R, s, m, args, below, meth, c, Q, D, cA, A, n0, s0, adS⟩ := K
  obtain ⟨hx, hb, ho, hts, hK, hA, hSt, hN⟩ := X
  intro ad ls H locs h
  subst hL
  exact lv_istore hx hb hd (am_lv_has h.2.1.1) hn rfl (fun ls' hl => k ad ls' H locs (am_Rl1 h (am_st_h h.2.2.1) (am_st_1 h.2.2.1) (am_RL_st1 hl)))
theorem am_lstore_n (X : am_X K cc own) {j : Fin 4} {i : Nat} {x : Int} {L' : List (Option am_V)} (hi : j.val = i) (hn : i + 1 < L.length) (hL : am_st2 L i (vl x) = L') (hd : decode cc pc = .ok (.lstore_n j, 1)) (k : am_G K (pc + 1) L' st sh σ) : am_G K pc L (vl x :: st) sh σ := by
  obtain ⟨p, l, e, R, s, m, args, below, meth, c, Q, D, cA, A, n0, s0, adS⟩ := K
  obtain ⟨hx, hb, ho, hts, hK, hA, hSt, hN⟩ := X
  intro ad ls H locs h
  subst hL
  exact lv_lstore_n hx hb hd hi (am_lv_has h.2.1.1) hn rfl (fun ls' hl => k ad ls' H locs (am_Rl2 h (am_st_h h.2.2.1) (am_st_1 h.2.2.1) (am_RL_st2 hl)))
theorem am_lstore (X : am_X K cc own) {i : Nat} {x : Int} {L' : List (Option am_V)} (hn : i + 1 < L.length) (hL : am_st2 L i (vl x) = L') (hd : decode cc pc = .ok (.lstore i, 2)) (k : am_G K (pc + 2) L' st sh σ) : am_G K pc L (vl x :: st) sh σ := by
  obtain ⟨p, l, e, R, s, m, args, below, meth, c, Q, D, cA, A, n0, s0, adS⟩ := K
  obtain ⟨hx, hb, ho, hts, hK, hA, hSt, hN⟩ := X
  intro ad ls H locs h
  subst hL
  exact lv_lstore hx hb hd (am_lv_has h.2.1.1) hn rfl (fun ls' hl => k ad ls' H locs (am_Rl2 h (am_st_h h.2.2.1) (am_st_1 h.2.2.1) (am_RL_st2 hl)))
theorem am_astore_n (X : am_X K cc own) {j : Fin 4} {i : Nat} {x : Nat} {L' : List (Option am_V)} (hi : j.val = i) (hn : i < L.length) (hL : am_st1 L i (vr x) = L') (hd : decode cc pc = .ok (.astore_n j, 1)) (k : am_G K (pc + 1) L' st sh σ) : am_G K pc L (vr x :: st) sh σ := by
  obtain ⟨p, l, e, R, s, m, args, below, meth, c, Q, D, cA, A, n0, s0, adS⟩ := K
  obtain ⟨hx, hb, ho, hts, hK, hA, hSt, hN⟩ := X
  intro ad ls H locs h
  subst hL
  exact lv_astore_n hx hb hd hi (am_lv_has h.2.1.1) hn rfl (fun ls' hl => k ad ls' H locs (am_Rl1 h (am_st_h h.2.2.1) (am_st_1 h.2.2.1) (am_RL_st1 hl)))
theorem am_astore (X : am_X K cc own) {i : Nat} {x : Nat} {L' : List (Option am_V)} (hn : i < L.length) (hL : am_st1 L i (vr x) = L') (hd : decode cc pc = .ok (.astore i, 2)) (k : am_G K (pc + 2) L' st sh σ) : am_G K pc L (vr x :: st) sh σ := by
  obtain ⟨p, l, e, R, s, m, args, below, meth, c, Q, D, cA, A, n0, s0, adS⟩ := K
  obtain ⟨hx, hb, ho, hts, hK, hA, hSt, hN⟩ := X
  intro ad ls H locs h
  subst hL
  exact lv_astore hx hb hd (am_lv_has h.2.1.1) hn rfl (fun ls' hl => k ad ls' H locs (am_Rl1 h (am_st_h h.2.2.1) (am_st_1 h.2.2.1) (am_RL_st1 hl)))
theorem am_iinc (X : am_X K cc own) {i : Nat} {n x : Int} {L' : List (Option am_V)} (hl : L[i]? = some (some (vi x))) (hL : am_st1 L i (vi (w32 (x + n))) = L') (hd : decode cc pc = .ok (.iinc i n, 3)) (k : am_G K (pc + 3) L' st sh σ) : am_G K pc L st sh σ := by
  obtain ⟨p, l, e, R, s, m, args, below, meth, c, Q, D, cA, A, n0, s0, adS⟩ := K
  obtain ⟨hx, hb, ho, hts, hK, hA, hSt, hN⟩ := X
  intro ad ls H locs h
  subst hL
  obtain ⟨j, hj⟩ := List.getElem?_of_mem (am_lv_mem (ad := ad) hl)
  exact lv_iinc (v := Int32.ofInt (w32 (x + n))) hx hb hd (am_lv_has h.2.1.1) hj (by rw [w32_of, Int32.ofInt_add]) (List.getElem?_eq_some_iff.mp hl).1 rfl (fun ls' hl => k ad ls' H locs (am_Rl1 h (okv_i (w32_R _)) h.2.2.1 (am_RL_st1 (v := vi (w32 (x + n))) hl)))
theorem am_iadd (X : am_X K cc own) {a b : Int} (hd : decode cc pc = .ok (.iadd, 1)) (k : am_G K (pc + 1) L (vi (w32 (a + b)) :: st) sh σ) : am_G K (pc) L (vi b :: vi a :: st) sh σ := by
  obtain ⟨p, l, e, R, s, m, args, below, meth, c, Q, D, cA, A, n0, s0, adS⟩ := K
  obtain ⟨hx, hb, ho, hts, hK, hA, hSt, hN⟩ := X
  intro ad ls H locs h
  have ha := okv_iR (am_st_h (am_st_1 h.2.2.1))
  have hb2 := okv_iR (am_st_h h.2.2.1)
  have hk := k ad ls H locs (am_Rst h (am_st_2 (okv_i (w32_R _)) (am_st_1 (am_st_1 h.2.2.1))))
  refine lv_iadd hx hb hd ?_
  rw [← Int32.ofInt_add, ← w32_of]
  exact hk
theorem am_isub (X : am_X K cc own) {a b : Int} (hd : decode cc pc = .ok (.isub, 1)) (k : am_G K (pc + 1) L (vi (w32 (a - b)) :: st) sh σ) : am_G K (pc) L (vi b :: vi a :: st) sh σ := by
  obtain ⟨p, l, e, R, s, m, args, below, meth, c, Q, D, cA, A, n0, s0, adS⟩ := K
  obtain ⟨hx, hb, ho, hts, hK, hA, hSt, hN⟩ := X
  intro ad ls H locs h
  have ha := okv_iR (am_st_h (am_st_1 h.2.2.1))
  have hb2 := okv_iR (am_st_h h.2.2.1)
  have hk := k ad ls H locs (am_Rst h (am_st_2 (okv_i (w32_R _)) (am_st_1 (am_st_1 h.2.2.1))))
  refine lv_isub hx hb hd ?_
  rw [← Int32.ofInt_sub, ← w32_of]
  exact hk
theorem am_imul (X : am_X K cc own) {a b : Int} (hd : decode cc pc = .ok (.imul, 1)) (k : am_G K (pc + 1) L (vi (w32 (a * b)) :: st) sh σ) : am_G K (pc) L (vi b :: vi a :: st) sh σ := by
  obtain ⟨p, l, e, R, s, m, args, below, meth, c, Q, D, cA, A, n0, s0, adS⟩ := K
  obtain ⟨hx, hb, ho, hts, hK, hA, hSt, hN⟩ := X
  intro ad ls H locs h
  have ha := okv_iR (am_st_h (am_st_1 h.2.2.1))
  have hb2 := okv_iR (am_st_h h.2.2.1)
  have hk := k ad ls H locs (am_Rst h (am_st_2 (okv_i (w32_R _)) (am_st_1 (am_st_1 h.2.2.1))))
  refine lv_imul hx hb hd ?_
  rw [← Int32.ofInt_mul, ← w32_of]
  exact hk
theorem am_idiv (X : am_X K cc own) {a b : Int} (h0 : b ≠ 0) (hd : decode cc pc = .ok (.idiv, 1)) (k : am_G K (pc + 1) L (vi (w32 (a.tdiv b)) :: st) sh σ) : am_G K (pc) L (vi b :: vi a :: st) sh σ := by
  obtain ⟨p, l, e, R, s, m, args, below, meth, c, Q, D, cA, A, n0, s0, adS⟩ := K
  obtain ⟨hx, hb, ho, hts, hK, hA, hSt, hN⟩ := X
  intro ad ls H locs h
  have ha := okv_iR (am_st_h (am_st_1 h.2.2.1))
  have hb2 := okv_iR (am_st_h h.2.2.1)
  have hk := k ad ls H locs (am_Rst h (am_st_2 (okv_i (w32_R _)) (am_st_1 (am_st_1 h.2.2.1))))
  refine lv_idiv hx hb hd (fun q => h0 ((R32_z hb2).mp q)) ?_
  rw [← w32_div ha hb2, ← w32_of]
  exact hk
theorem am_irem (X : am_X K cc own) {a b : Int} (h0 : b ≠ 0) (hd : decode cc pc = .ok (.irem, 1)) (k : am_G K (pc + 1) L (vi (w32 (a.tmod b)) :: st) sh σ) : am_G K (pc) L (vi b :: vi a :: st) sh σ := by
  obtain ⟨p, l, e, R, s, m, args, below, meth, c, Q, D, cA, A, n0, s0, adS⟩ := K
  obtain ⟨hx, hb, ho, hts, hK, hA, hSt, hN⟩ := X
  intro ad ls H locs h
  have ha := okv_iR (am_st_h (am_st_1 h.2.2.1))
  have hb2 := okv_iR (am_st_h h.2.2.1)
  have hk := k ad ls H locs (am_Rst h (am_st_2 (okv_i (w32_R _)) (am_st_1 (am_st_1 h.2.2.1))))
  refine lv_irem hx hb hd (fun q => h0 ((R32_z hb2).mp q)) ?_
  rw [← w32_rem ha hb2, ← w32_of]
  exact hk
theorem am_iand (X : am_X K cc own) {a b : Int} (hd : decode cc pc = .ok (.iand, 1)) (k : am_G K (pc + 1) L (vi (am_and a b) :: st) sh σ) : am_G K (pc) L (vi b :: vi a :: st) sh σ := by
  obtain ⟨p, l, e, R, s, m, args, below, meth, c, Q, D, cA, A, n0, s0, adS⟩ := K
  obtain ⟨hx, hb, ho, hts, hK, hA, hSt, hN⟩ := X
  intro ad ls H locs h
  have ha := okv_iR (am_st_h (am_st_1 h.2.2.1))
  have hb2 := okv_iR (am_st_h h.2.2.1)
  have hk := k ad ls H locs (am_Rst h (am_st_2 (okv_i (R32_i _)) (am_st_1 (am_st_1 h.2.2.1))))
  have e2 : Int32.ofInt (am_and a b) = Int32.ofInt a &&& Int32.ofInt b := Int32.ofInt_toInt _
  refine lv_iand hx hb hd ?_
  rw [← e2]
  exact hk
theorem am_ior (X : am_X K cc own) {a b : Int} (hd : decode cc pc = .ok (.ior, 1)) (k : am_G K (pc + 1) L (vi (am_or a b) :: st) sh σ) : am_G K (pc) L (vi b :: vi a :: st) sh σ := by
  obtain ⟨p, l, e, R, s, m, args, below, meth, c, Q, D, cA, A, n0, s0, adS⟩ := K
  obtain ⟨hx, hb, ho, hts, hK, hA, hSt, hN⟩ := X
  intro ad ls H locs h
  have ha := okv_iR (am_st_h (am_st_1 h.2.2.1))
  have hb2 := okv_iR (am_st_h h.2.2.1)
  have hk := k ad ls H locs (am_Rst h (am_st_2 (okv_i (R32_i _)) (am_st_1 (am_st_1 h.2.2.1))))
  have e2 : Int32.ofInt (am_or a b) = Int32.ofInt a ||| Int32.ofInt b := Int32.ofInt_toInt _
  refine lv_ior hx hb hd ?_
  rw [← e2]
  exact hk
theorem am_ixor (X : am_X K cc own) {a b : Int} (hd : decode cc pc = .ok (.ixor, 1)) (k : am_G K (pc + 1) L (vi (am_xor a b) :: st) sh σ) : am_G K (pc) L (vi b :: vi a :: st) sh σ := by
  obtain ⟨p, l, e, R, s, m, args, below, meth, c, Q, D, cA, A, n0, s0, adS⟩ := K
  obtain ⟨hx, hb, ho, hts, hK, hA, hSt, hN⟩ := X
  intro ad ls H locs h
  have ha := okv_iR (am_st_h (am_st_1 h.2.2.1))
  have hb2 := okv_iR (am_st_h h.2.2.1)
  have hk := k ad ls H locs (am_Rst h (am_st_2 (okv_i (R32_i _)) (am_st_1 (am_st_1 h.2.2.1))))
  have e2 : Int32.ofInt (am_xor a b) = Int32.ofInt a ^^^ Int32.ofInt b := Int32.ofInt_toInt _
  refine lv_ixor hx hb hd ?_
  rw [← e2]
  exact hk
theorem am_ishl (X : am_X K cc own) {a b : Int} (hd : decode cc pc = .ok (.ishl, 1)) (k : am_G K (pc + 1) L (vi (am_shl a b) :: st) sh σ) : am_G K (pc) L (vi b :: vi a :: st) sh σ := by
  obtain ⟨p, l, e, R, s, m, args, below, meth, c, Q, D, cA, A, n0, s0, adS⟩ := K
  obtain ⟨hx, hb, ho, hts, hK, hA, hSt, hN⟩ := X
  intro ad ls H locs h
  have ha := okv_iR (am_st_h (am_st_1 h.2.2.1))
  have hb2 := okv_iR (am_st_h h.2.2.1)
  have hk := k ad ls H locs (am_Rst h (am_st_2 (okv_i (R32_i _)) (am_st_1 (am_st_1 h.2.2.1))))
  have e2 : Int32.ofInt (am_shl a b) = Int32.ofInt a <<< (Int32.ofInt b &&& 31) := Int32.ofInt_toInt _
  refine lv_ishl hx hb hd ?_
  rw [← e2]
  exact hk
theorem am_ishr (X : am_X K cc own) {a b : Int} (hd : decode cc pc = .ok (.ishr, 1)) (k : am_G K (pc + 1) L (vi (am_shr a b) :: st) sh σ) : am_G K (pc) L (vi b :: vi a :: st) sh σ := by
  obtain ⟨p, l, e, R, s, m, args, below, meth, c, Q, D, cA, A, n0, s0, adS⟩ := K
  obtain ⟨hx, hb, ho, hts, hK, hA, hSt, hN⟩ := X
  intro ad ls H locs h
  have ha := okv_iR (am_st_h (am_st_1 h.2.2.1))
  have hb2 := okv_iR (am_st_h h.2.2.1)
  have hk := k ad ls H locs (am_Rst h (am_st_2 (okv_i (R32_i _)) (am_st_1 (am_st_1 h.2.2.1))))
  have e2 : Int32.ofInt (am_shr a b) = Int32.ofInt a >>> (Int32.ofInt b &&& 31) := Int32.ofInt_toInt _
  refine lv_ishr hx hb hd ?_
  rw [← e2]
  exact hk
theorem am_iushr (X : am_X K cc own) {a b : Int} (hd : decode cc pc = .ok (.iushr, 1)) (k : am_G K (pc + 1) L (vi (am_ushr a b) :: st) sh σ) : am_G K (pc) L (vi b :: vi a :: st) sh σ := by
  obtain ⟨p, l, e, R, s, m, args, below, meth, c, Q, D, cA, A, n0, s0, adS⟩ := K
  obtain ⟨hx, hb, ho, hts, hK, hA, hSt, hN⟩ := X
  intro ad ls H locs h
  have ha := okv_iR (am_st_h (am_st_1 h.2.2.1))
  have hb2 := okv_iR (am_st_h h.2.2.1)
  have hk := k ad ls H locs (am_Rst h (am_st_2 (okv_i (R32_i _)) (am_st_1 (am_st_1 h.2.2.1))))
  exact lv_iushr hx hb hd (Int32.ofInt_toInt _).symm hk
theorem am_ineg (X : am_X K cc own) {a : Int} (hd : decode cc pc = .ok (.ineg, 1)) (k : am_G K (pc + 1) L (vi (w32 (-a)) :: st) sh σ) : am_G K (pc) L (vi a :: st) sh σ := by
  obtain ⟨p, l, e, R, s, m, args, below, meth, c, Q, D, cA, A, n0, s0, adS⟩ := K
  obtain ⟨hx, hb, ho, hts, hK, hA, hSt, hN⟩ := X
  intro ad ls H locs h
  refine lv_ineg hx hb hd ?_
  rw [← Int32.ofInt_neg, ← w32_of]
  exact k ad ls H locs (am_Rst h (am_st_2 (okv_i (w32_R _)) (am_st_1 h.2.2.1)))
theorem am_ladd (X : am_X K cc own) {a b : Int} (hd : decode cc pc = .ok (.ladd, 1)) (k : am_G K (pc + 1) L (vl (w64 (a + b)) :: st) sh σ) : am_G K (pc) L (vl b :: vl a :: st) sh σ := by
  obtain ⟨p, l, e, R, s, m, args, below, meth, c, Q, D, cA, A, n0, s0, adS⟩ := K
  obtain ⟨hx, hb, ho, hts, hK, hA, hSt, hN⟩ := X
  intro ad ls H locs h
  refine lv_ladd hx hb hd ?_
  rw [← Int64.ofInt_add, ← w64_of]
  exact k ad ls H locs (am_Rst h (am_st_2 (okv_l (w64_R _)) (am_st_1 (am_st_1 h.2.2.1))))
theorem am_lsub (X : am_X K cc own) {a b : Int} (hd : decode cc pc = .ok (.lsub, 1)) (k : am_G K (pc + 1) L (vl (w64 (a - b)) :: st) sh σ) : am_G K (pc) L (vl b :: vl a :: st) sh σ := by
  obtain ⟨p, l, e, R, s, m, args, below, meth, c, Q, D, cA, A, n0, s0, adS⟩ := K
  obtain ⟨hx, hb, ho, hts, hK, hA, hSt, hN⟩ := X
  intro ad ls H locs h
  refine lv_lsub hx hb hd ?_
  rw [← Int64.ofInt_sub, ← w64_of]
  exact k ad ls H locs (am_Rst h (am_st_2 (okv_l (w64_R _)) (am_st_1 (am_st_1 h.2.2.1))))
theorem am_lmul (X : am_X K cc own) {a b : Int} (hd : decode cc pc = .ok (.lmul, 1)) (k : am_G K (pc + 1) L (vl (w64 (a * b)) :: st) sh σ) : am_G K (pc) L (vl b :: vl a :: st) sh σ := by
  obtain ⟨p, l, e, R, s, m, args, below, meth, c, Q, D, cA, A, n0, s0, adS⟩ := K
  obtain ⟨hx, hb, ho, hts, hK, hA, hSt, hN⟩ := X
  intro ad ls H locs h
  refine lv_lmul hx hb hd ?_
  rw [← Int64.ofInt_mul, ← w64_of]
  exact k ad ls H locs (am_Rst h (am_st_2 (okv_l (w64_R _)) (am_st_1 (am_st_1 h.2.2.1))))
theorem am_land_ (X : am_X K cc own) {a b : Int} (hd : decode cc pc = .ok (.land, 1)) (k : am_G K (pc + 1) L (vl (am_land a b) :: st) sh σ) : am_G K (pc) L (vl b :: vl a :: st) sh σ := by
  obtain ⟨p, l, e, R, s, m, args, below, meth, c, Q, D, cA, A, n0, s0, adS⟩ := K
  obtain ⟨hx, hb, ho, hts, hK, hA, hSt, hN⟩ := X
  intro ad ls H locs h
  have e2 : Int64.ofInt (am_land a b) = Int64.ofInt a &&& Int64.ofInt b := Int64.ofInt_toInt _
  refine lv_land hx hb hd ?_
  rw [← e2]
  exact k ad ls H locs (am_Rst h (am_st_2 (okv_l (R64_i _)) (am_st_1 (am_st_1 h.2.2.1))))
theorem am_lor_ (X : am_X K cc own) {a b : Int} (hd : decode cc pc = .ok (.lor, 1)) (k : am_G K (pc + 1) L (vl (am_lor a b) :: st) sh σ) : am_G K (pc) L (vl b :: vl a :: st) sh σ := by
  obtain ⟨p, l, e, R, s, m, args, below, meth, c, Q, D, cA, A, n0, s0, adS⟩ := K
  obtain ⟨hx, hb, ho, hts, hK, hA, hSt, hN⟩ := X
  intro ad ls H locs h
  have e2 : Int64.ofInt (am_lor a b) = Int64.ofInt a ||| Int64.ofInt b := Int64.ofInt_toInt _
  refine lv_lor hx hb hd ?_
  rw [← e2]
  exact k ad ls H locs (am_Rst h (am_st_2 (okv_l (R64_i _)) (am_st_1 (am_st_1 h.2.2.1))))
theorem am_lshl_ (X : am_X K cc own) {a b : Int} (hd : decode cc pc = .ok (.lshl, 1)) (k : am_G K (pc + 1) L (vl (am_lshl a b) :: st) sh σ) : am_G K (pc) L (vi b :: vl a :: st) sh σ := by
  obtain ⟨p, l, e, R, s, m, args, below, meth, c, Q, D, cA, A, n0, s0, adS⟩ := K
  obtain ⟨hx, hb, ho, hts, hK, hA, hSt, hN⟩ := X
  intro ad ls H locs h
  exact lv_lshl hx hb hd (Int64.ofInt_toInt _).symm (k ad ls H locs (am_Rst h (am_st_2 (okv_l (R64_i _)) (am_st_1 (am_st_1 h.2.2.1)))))
theorem am_i2l (X : am_X K cc own) {a : Int} (hd : decode cc pc = .ok (.i2l, 1)) (k : am_G K (pc + 1) L (vl a :: st) sh σ) : am_G K (pc) L (vi a :: st) sh σ := by
  obtain ⟨p, l, e, R, s, m, args, below, meth, c, Q, D, cA, A, n0, s0, adS⟩ := K
  obtain ⟨hx, hb, ho, hts, hK, hA, hSt, hN⟩ := X
  intro ad ls H locs h
  have ha := okv_iR (am_st_h h.2.2.1)
  have e : (Int32.ofInt a).toInt64 = Int64.ofInt a := by
    apply Int64.toInt_inj.mp
    rw [Int32.toInt_toInt64, R32_to ha, R64_to (R32_64 ha)]
  exact lv_i2l hx hb hd e (k ad ls H locs (am_Rst h (am_st_2 (okv_l (R32_64 ha)) (am_st_1 h.2.2.1))))
theorem am_l2i (X : am_X K cc own) {a : Int} (hd : decode cc pc = .ok (.l2i, 1)) (k : am_G K (pc + 1) L (vi (w32 a) :: st) sh σ) : am_G K (pc) L (vl a :: st) sh σ := by
  obtain ⟨p, l, e, R, s, m, args, below, meth, c, Q, D, cA, A, n0, s0, adS⟩ := K
  obtain ⟨hx, hb, ho, hts, hK, hA, hSt, hN⟩ := X
  intro ad ls H locs h
  exact lv_l2i hx hb hd (by rw [Int64.toInt32_ofInt]; exact (w32_of a).symm) (k ad ls H locs (am_Rst h (am_st_2 (okv_i (w32_R _)) (am_st_1 h.2.2.1))))
theorem am_i2b_ (X : am_X K cc own) {a : Int} (hd : decode cc pc = .ok (.i2b, 1)) (k : am_G K (pc + 1) L (vi (am_i2b a) :: st) sh σ) : am_G K (pc) L (vi a :: st) sh σ := by
  obtain ⟨p, l, e, R, s, m, args, below, meth, c, Q, D, cA, A, n0, s0, adS⟩ := K
  obtain ⟨hx, hb, ho, hts, hK, hA, hSt, hN⟩ := X
  intro ad ls H locs h
  exact lv_i2b hx hb hd (Int32.ofInt_toInt _).symm (k ad ls H locs (am_Rst h (am_st_2 (okv_i (R32_i _)) (am_st_1 h.2.2.1))))
theorem am_i2s_ (X : am_X K cc own) {a : Int} (hd : decode cc pc = .ok (.i2s, 1)) (k : am_G K (pc + 1) L (vi (am_i2s a) :: st) sh σ) : am_G K (pc) L (vi a :: st) sh σ := by
  obtain ⟨p, l, e, R, s, m, args, below, meth, c, Q, D, cA, A, n0, s0, adS⟩ := K
  obtain ⟨hx, hb, ho, hts, hK, hA, hSt, hN⟩ := X
  intro ad ls H locs h
  exact lv_i2s hx hb hd (Int32.ofInt_toInt _).symm (k ad ls H locs (am_Rst h (am_st_2 (okv_i (R32_i _)) (am_st_1 h.2.2.1))))
theorem am_lcmp (X : am_X K cc own) {a b : Int} (hd : decode cc pc = .ok (.lcmp, 1)) (k : am_G K (pc + 1) L (vi (if b < a then 1 else if a = b then 0 else -1) :: st) sh σ) : am_G K (pc) L (vl b :: vl a :: st) sh σ := by
  obtain ⟨p, l, e, R, s, m, args, below, meth, c, Q, D, cA, A, n0, s0, adS⟩ := K
  obtain ⟨hx, hb, ho, hts, hK, hA, hSt, hN⟩ := X
  intro ad ls H locs h
  have ha := okv_lR (am_st_h (am_st_1 h.2.2.1))
  have hb2 := okv_lR (am_st_h h.2.2.1)
  have hr : R32 (if b < a then 1 else if a = b then 0 else -1) := by unfold R32; split <;> (try split) <;> omega
  have hk := k ad ls H locs (am_Rst h (am_st_2 (okv_i hr) (am_st_1 (am_st_1 h.2.2.1))))
  have e : lg_cmp (Int64.ofInt a) (Int64.ofInt b) = Int32.ofInt (if b < a then 1 else if a = b then 0 else -1) := by
    unfold lg_cmp
    by_cases q : b < a
    · rw [if_pos q, if_pos ((R64_lt hb2 ha).mpr q)]; rfl
    · rw [if_neg q, if_neg (fun z => q ((R64_lt hb2 ha).mp z))]
      by_cases q2 : a = b
      · rw [if_pos q2, if_pos ((R64_eqi ha hb2).mpr q2)]; rfl
      · rw [if_neg q2, if_neg (fun z => q2 ((R64_eqi ha hb2).mp z))]; rfl
  refine W.lcmp hx hb hd ?_
  rw [e]
  exact hk
theorem am_c1 {ad : Nat → Nat} {v : am_V} (h : v.1 ≠ 1) : (am_c ad v).category = 1 := by
  rcases lv_cat (am_c ad v) with q | q
  · exact q
  · exact absurd (am_cat q) h
theorem am_dup (X : am_X K cc own) {v : am_V} (hv : v.1 ≠ 1) (hd : decode cc pc = .ok (.dup, 1)) (k : am_G K (pc + 1) L (v :: v :: st) sh σ) : am_G K (pc) L (v :: st) sh σ := by
  obtain ⟨p, l, e, R, s, m, args, below, meth, c, Q, D, cA, A, n0, s0, adS⟩ := K
  obtain ⟨hx, hb, ho, hts, hK, hA, hSt, hN⟩ := X
  intro ad ls H locs h
  exact lv_dup hx hb hd (am_c1 hv) (k ad ls H locs (am_Rst h (am_st_2 (am_st_h h.2.2.1) h.2.2.1)))
theorem am_pop (X : am_X K cc own) {v : am_V} (hv : v.1 ≠ 1) (hd : decode cc pc = .ok (.pop, 1)) (k : am_G K (pc + 1) L (st) sh σ) : am_G K (pc) L (v :: st) sh σ := by
  obtain ⟨p, l, e, R, s, m, args, below, meth, c, Q, D, cA, A, n0, s0, adS⟩ := K
  obtain ⟨hx, hb, ho, hts, hK, hA, hSt, hN⟩ := X
  intro ad ls H locs h
  exact lv_pop hx hb hd (am_c1 hv) (k ad ls H locs (am_Rst h (am_st_1 h.2.2.1)))
theorem am_dup2 (X : am_X K cc own) {v u : am_V} (hv : v.1 ≠ 1) (hu : u.1 ≠ 1) (hd : decode cc pc = .ok (.dup2, 1)) (k : am_G K (pc + 1) L (v :: u :: v :: u :: st) sh σ) : am_G K (pc) L (v :: u :: st) sh σ := by
  obtain ⟨p, l, e, R, s, m, args, below, meth, c, Q, D, cA, A, n0, s0, adS⟩ := K
  obtain ⟨hx, hb, ho, hts, hK, hA, hSt, hN⟩ := X
  intro ad ls H locs h
  exact lv_dup2_11 hx hb hd (am_c1 hv) (am_c1 hu) (k ad ls H locs (am_Rst h (am_st_2 (am_st_h h.2.2.1) (am_st_2 (am_st_h (am_st_1 h.2.2.1)) h.2.2.1))))
theorem am_if_eq (X : am_X K cc own) {a : Int} {off : Int} {tgt : Nat} (hd : decode cc pc = .ok (.ifCond .eq off, 3)) (ht : (pc : Int) + off = (tgt : Int)) (kt : a = 0 → am_G K tgt L st sh σ) (kf : ¬ (a = 0) → am_G K (pc + 3) L st sh σ) : am_G K pc L (vi a :: st) sh σ := by
  obtain ⟨p, l, e, R, s, m, args, below, meth, c, Q, D, cA, A, n0, s0, adS⟩ := K
  obtain ⟨hx, hb, ho, hts, hK, hA, hSt, hN⟩ := X
  intro ad ls H locs h
  have ha := okv_iR (am_st_h h.2.2.1)
  have hs := am_st_1 h.2.2.1
  refine lv_if_eq hx hb hd ht (fun q => kt ?_ ad ls H locs (am_Rst h hs)) (fun q => kf ?_ ad ls H locs (am_Rst h hs))
  · exact (R32_z ha).mp q
  · exact fun z => q ((R32_z ha).mpr z)
theorem am_icmp_eq (X : am_X K cc own) {a b : Int} {off : Int} {tgt : Nat} (hd : decode cc pc = .ok (.if_icmp .eq off, 3)) (ht : (pc : Int) + off = (tgt : Int)) (kt : a = b → am_G K tgt L st sh σ) (kf : ¬ (a = b) → am_G K (pc + 3) L st sh σ) : am_G K pc L (vi b :: vi a :: st) sh σ := by
  obtain ⟨p, l, e, R, s, m, args, below, meth, c, Q, D, cA, A, n0, s0, adS⟩ := K
  obtain ⟨hx, hb, ho, hts, hK, hA, hSt, hN⟩ := X
  intro ad ls H locs h
  have ha := okv_iR (am_st_h (am_st_1 h.2.2.1))
  have hb2 := okv_iR (am_st_h h.2.2.1)
  have hs := am_st_1 (am_st_1 h.2.2.1)
  refine lv_icmp_eq hx hb hd ht (fun q => kt ?_ ad ls H locs (am_Rst h hs)) (fun q => kf ?_ ad ls H locs (am_Rst h hs))
  · exact (R32_eqi ha hb2).mp q
  · exact fun z => q ((R32_eqi ha hb2).mpr z)
theorem am_if_ne (X : am_X K cc own) {a : Int} {off : Int} {tgt : Nat} (hd : decode cc pc = .ok (.ifCond .ne off, 3)) (ht : (pc : Int) + off = (tgt : Int)) (kt : a ≠ 0 → am_G K tgt L st sh σ) (kf : a = 0 → am_G K (pc + 3) L st sh σ) : am_G K pc L (vi a :: st) sh σ := by
  obtain ⟨p, l, e, R, s, m, args, below, meth, c, Q, D, cA, A, n0, s0, adS⟩ := K
  obtain ⟨hx, hb, ho, hts, hK, hA, hSt, hN⟩ := X
  intro ad ls H locs h
  have ha := okv_iR (am_st_h h.2.2.1)
  have hs := am_st_1 h.2.2.1
  refine lv_if_ne hx hb hd ht (fun q => kt ?_ ad ls H locs (am_Rst h hs)) (fun q => kf ?_ ad ls H locs (am_Rst h hs))
  · exact fun z => q ((R32_z ha).mpr z)
  · exact (R32_z ha).mp q
theorem am_icmp_ne (X : am_X K cc own) {a b : Int} {off : Int} {tgt : Nat} (hd : decode cc pc = .ok (.if_icmp .ne off, 3)) (ht : (pc : Int) + off = (tgt : Int)) (kt : a ≠ b → am_G K tgt L st sh σ) (kf : a = b → am_G K (pc + 3) L st sh σ) : am_G K pc L (vi b :: vi a :: st) sh σ := by
  obtain ⟨p, l, e, R, s, m, args, below, meth, c, Q, D, cA, A, n0, s0, adS⟩ := K
  obtain ⟨hx, hb, ho, hts, hK, hA, hSt, hN⟩ := X
  intro ad ls H locs h
  have ha := okv_iR (am_st_h (am_st_1 h.2.2.1))
  have hb2 := okv_iR (am_st_h h.2.2.1)
  have hs := am_st_1 (am_st_1 h.2.2.1)
  refine lv_icmp_ne hx hb hd ht (fun q => kt ?_ ad ls H locs (am_Rst h hs)) (fun q => kf ?_ ad ls H locs (am_Rst h hs))
  · exact fun z => q ((R32_eqi ha hb2).mpr z)
  · exact (R32_eqi ha hb2).mp q
theorem am_if_lt (X : am_X K cc own) {a : Int} {off : Int} {tgt : Nat} (hd : decode cc pc = .ok (.ifCond .lt off, 3)) (ht : (pc : Int) + off = (tgt : Int)) (kt : a < 0 → am_G K tgt L st sh σ) (kf : ¬ (a < 0) → am_G K (pc + 3) L st sh σ) : am_G K pc L (vi a :: st) sh σ := by
  obtain ⟨p, l, e, R, s, m, args, below, meth, c, Q, D, cA, A, n0, s0, adS⟩ := K
  obtain ⟨hx, hb, ho, hts, hK, hA, hSt, hN⟩ := X
  intro ad ls H locs h
  have ha := okv_iR (am_st_h h.2.2.1)
  have hs := am_st_1 h.2.2.1
  refine lv_if_lt hx hb hd ht (fun q => kt ?_ ad ls H locs (am_Rst h hs)) (fun q => kf ?_ ad ls H locs (am_Rst h hs))
  · exact (R32_lz ha).mp q
  · exact fun z => q ((R32_lz ha).mpr z)
theorem am_icmp_lt (X : am_X K cc own) {a b : Int} {off : Int} {tgt : Nat} (hd : decode cc pc = .ok (.if_icmp .lt off, 3)) (ht : (pc : Int) + off = (tgt : Int)) (kt : a < b → am_G K tgt L st sh σ) (kf : ¬ (a < b) → am_G K (pc + 3) L st sh σ) : am_G K pc L (vi b :: vi a :: st) sh σ := by
  obtain ⟨p, l, e, R, s, m, args, below, meth, c, Q, D, cA, A, n0, s0, adS⟩ := K
  obtain ⟨hx, hb, ho, hts, hK, hA, hSt, hN⟩ := X
  intro ad ls H locs h
  have ha := okv_iR (am_st_h (am_st_1 h.2.2.1))
  have hb2 := okv_iR (am_st_h h.2.2.1)
  have hs := am_st_1 (am_st_1 h.2.2.1)
  refine lv_icmp_lt hx hb hd ht (fun q => kt ?_ ad ls H locs (am_Rst h hs)) (fun q => kf ?_ ad ls H locs (am_Rst h hs))
  · exact (R32_lt ha hb2).mp q
  · exact fun z => q ((R32_lt ha hb2).mpr z)
theorem am_if_ge (X : am_X K cc own) {a : Int} {off : Int} {tgt : Nat} (hd : decode cc pc = .ok (.ifCond .ge off, 3)) (ht : (pc : Int) + off = (tgt : Int)) (kt : 0 ≤ a → am_G K tgt L st sh σ) (kf : ¬ (0 ≤ a) → am_G K (pc + 3) L st sh σ) : am_G K pc L (vi a :: st) sh σ := by
  obtain ⟨p, l, e, R, s, m, args, below, meth, c, Q, D, cA, A, n0, s0, adS⟩ := K
  obtain ⟨hx, hb, ho, hts, hK, hA, hSt, hN⟩ := X
  intro ad ls H locs h
  have ha := okv_iR (am_st_h h.2.2.1)
  have hs := am_st_1 h.2.2.1
  refine lv_if_ge hx hb hd ht (fun q => kt ?_ ad ls H locs (am_Rst h hs)) (fun q => kf ?_ ad ls H locs (am_Rst h hs))
  · exact (R32_zle ha).mp q
  · exact fun z => q ((R32_zle ha).mpr z)
theorem am_icmp_ge (X : am_X K cc own) {a b : Int} {off : Int} {tgt : Nat} (hd : decode cc pc = .ok (.if_icmp .ge off, 3)) (ht : (pc : Int) + off = (tgt : Int)) (kt : b ≤ a → am_G K tgt L st sh σ) (kf : ¬ (b ≤ a) → am_G K (pc + 3) L st sh σ) : am_G K pc L (vi b :: vi a :: st) sh σ := by
  obtain ⟨p, l, e, R, s, m, args, below, meth, c, Q, D, cA, A, n0, s0, adS⟩ := K
  obtain ⟨hx, hb, ho, hts, hK, hA, hSt, hN⟩ := X
  intro ad ls H locs h
  have ha := okv_iR (am_st_h (am_st_1 h.2.2.1))
  have hb2 := okv_iR (am_st_h h.2.2.1)
  have hs := am_st_1 (am_st_1 h.2.2.1)
  refine lv_icmp_ge hx hb hd ht (fun q => kt ?_ ad ls H locs (am_Rst h hs)) (fun q => kf ?_ ad ls H locs (am_Rst h hs))
  · exact (R32_le hb2 ha).mp q
  · exact fun z => q ((R32_le hb2 ha).mpr z)
theorem am_if_gt (X : am_X K cc own) {a : Int} {off : Int} {tgt : Nat} (hd : decode cc pc = .ok (.ifCond .gt off, 3)) (ht : (pc : Int) + off = (tgt : Int)) (kt : 0 < a → am_G K tgt L st sh σ) (kf : ¬ (0 < a) → am_G K (pc + 3) L st sh σ) : am_G K pc L (vi a :: st) sh σ := by
  obtain ⟨p, l, e, R, s, m, args, below, meth, c, Q, D, cA, A, n0, s0, adS⟩ := K
  obtain ⟨hx, hb, ho, hts, hK, hA, hSt, hN⟩ := X
  intro ad ls H locs h
  have ha := okv_iR (am_st_h h.2.2.1)
  have hs := am_st_1 h.2.2.1
  refine lv_if_gt hx hb hd ht (fun q => kt ?_ ad ls H locs (am_Rst h hs)) (fun q => kf ?_ ad ls H locs (am_Rst h hs))
  · exact (R32_zlt ha).mp q
  · exact fun z => q ((R32_zlt ha).mpr z)
theorem am_icmp_gt (X : am_X K cc own) {a b : Int} {off : Int} {tgt : Nat} (hd : decode cc pc = .ok (.if_icmp .gt off, 3)) (ht : (pc : Int) + off = (tgt : Int)) (kt : b < a → am_G K tgt L st sh σ) (kf : ¬ (b < a) → am_G K (pc + 3) L st sh σ) : am_G K pc L (vi b :: vi a :: st) sh σ := by
  obtain ⟨p, l, e, R, s, m, args, below, meth, c, Q, D, cA, A, n0, s0, adS⟩ := K
  obtain ⟨hx, hb, ho, hts, hK, hA, hSt, hN⟩ := X
  intro ad ls H locs h
  have ha := okv_iR (am_st_h (am_st_1 h.2.2.1))
  have hb2 := okv_iR (am_st_h h.2.2.1)
  have hs := am_st_1 (am_st_1 h.2.2.1)
  refine lv_icmp_gt hx hb hd ht (fun q => kt ?_ ad ls H locs (am_Rst h hs)) (fun q => kf ?_ ad ls H locs (am_Rst h hs))
  · exact (R32_lt hb2 ha).mp q
  · exact fun z => q ((R32_lt hb2 ha).mpr z)
theorem am_if_le (X : am_X K cc own) {a : Int} {off : Int} {tgt : Nat} (hd : decode cc pc = .ok (.ifCond .le off, 3)) (ht : (pc : Int) + off = (tgt : Int)) (kt : a ≤ 0 → am_G K tgt L st sh σ) (kf : ¬ (a ≤ 0) → am_G K (pc + 3) L st sh σ) : am_G K pc L (vi a :: st) sh σ := by
  obtain ⟨p, l, e, R, s, m, args, below, meth, c, Q, D, cA, A, n0, s0, adS⟩ := K
  obtain ⟨hx, hb, ho, hts, hK, hA, hSt, hN⟩ := X
  intro ad ls H locs h
  have ha := okv_iR (am_st_h h.2.2.1)
  have hs := am_st_1 h.2.2.1
  refine lv_if_le hx hb hd ht (fun q => kt ?_ ad ls H locs (am_Rst h hs)) (fun q => kf ?_ ad ls H locs (am_Rst h hs))
  · exact (R32_lez ha).mp q
  · exact fun z => q ((R32_lez ha).mpr z)
theorem am_icmp_le (X : am_X K cc own) {a b : Int} {off : Int} {tgt : Nat} (hd : decode cc pc = .ok (.if_icmp .le off, 3)) (ht : (pc : Int) + off = (tgt : Int)) (kt : a ≤ b → am_G K tgt L st sh σ) (kf : ¬ (a ≤ b) → am_G K (pc + 3) L st sh σ) : am_G K pc L (vi b :: vi a :: st) sh σ := by
  obtain ⟨p, l, e, R, s, m, args, below, meth, c, Q, D, cA, A, n0, s0, adS⟩ := K
  obtain ⟨hx, hb, ho, hts, hK, hA, hSt, hN⟩ := X
  intro ad ls H locs h
  have ha := okv_iR (am_st_h (am_st_1 h.2.2.1))
  have hb2 := okv_iR (am_st_h h.2.2.1)
  have hs := am_st_1 (am_st_1 h.2.2.1)
  refine lv_icmp_le hx hb hd ht (fun q => kt ?_ ad ls H locs (am_Rst h hs)) (fun q => kf ?_ ad ls H locs (am_Rst h hs))
  · exact (R32_le ha hb2).mp q
  · exact fun z => q ((R32_le ha hb2).mpr z)
theorem am_goto (X : am_X K cc own) {off : Int} {tgt : Nat} (hd : decode cc pc = .ok (.goto off, 3)) (ht : (pc : Int) + off = (tgt : Int)) (k : am_G K tgt L st sh σ) : am_G K pc L st sh σ := by
  obtain ⟨p, l, e, R, s, m, args, below, meth, c, Q, D, cA, A, n0, s0, adS⟩ := K
  obtain ⟨hx, hb, ho, hts, hK, hA, hSt, hN⟩ := X
  intro ad ls H locs h
  exact lv_goto hx hb hd ht (k ad ls H locs h)
theorem am_tableIn (X : am_X K cc own) {dflt lo hi : Int} {offs : Array Int} {len : Nat} {a off : Int} {tgt : Nat} (hd : decode cc pc = .ok (.tableswitch dflt lo hi offs, len)) (h1 : lo ≤ a) (h2 : a ≤ hi) (ho : offs[(a - lo).toNat]? = some off) (ht : (pc : Int) + off = (tgt : Int)) (k : am_G K tgt L st sh σ) : am_G K pc L (vi a :: st) sh σ := by
  have ho' := ho
  obtain ⟨p, l, e, R, s, m, args, below, meth, c, Q, D, cA, A, n0, s0, adS⟩ := K
  obtain ⟨hx, hb, ho, hts, hK, hA, hSt, hN⟩ := X
  intro ad ls H locs h
  have ha := okv_iR (am_st_h h.2.2.1)
  exact lv_tableIn hx hb hd (by rw [R32_to ha]; omega) (by rw [R32_to ha]; omega) (by rw [R32_to ha]; exact ho') ht (k ad ls H locs (am_Rst h (am_st_1 h.2.2.1)))
theorem am_tableOut (X : am_X K cc own) {dflt lo hi : Int} {offs : Array Int} {len : Nat} {a : Int} {tgt : Nat} (hd : decode cc pc = .ok (.tableswitch dflt lo hi offs, len)) (h1 : a < lo ∨ hi < a) (ht : (pc : Int) + dflt = (tgt : Int)) (k : am_G K tgt L st sh σ) : am_G K pc L (vi a :: st) sh σ := by
  obtain ⟨p, l, e, R, s, m, args, below, meth, c, Q, D, cA, A, n0, s0, adS⟩ := K
  obtain ⟨hx, hb, ho, hts, hK, hA, hSt, hN⟩ := X
  intro ad ls H locs h
  have ha := okv_iR (am_st_h h.2.2.1)
  exact lv_tableOut hx hb hd (by rw [R32_to ha]; exact h1) ht (k ad ls H locs (am_Rst h (am_st_1 h.2.2.1)))
theorem am_lookup (X : am_X K cc own) {dflt : Int} {ps : Array (Int × Int)} {len : Nat} {a off : Int} {tgt : Nat} (hd : decode cc pc = .ok (.lookupswitch dflt ps, len)) (hp : (ps.toList.zip (ps.toList.drop 1)).all (fun (a, next) => a.1 < next.1) = true) (hf : Op.lookupswitch.offset ps.toList dflt a = off) (ht : (pc : Int) + off = (tgt : Int)) (k : am_G K tgt L st sh σ) : am_G K pc L (vi a :: st) sh σ := by
  obtain ⟨p, l, e, R, s, m, args, below, meth, c, Q, D, cA, A, n0, s0, adS⟩ := K
  obtain ⟨hx, hb, ho, hts, hK, hA, hSt, hN⟩ := X
  intro ad ls H locs h
  have ha := okv_iR (am_st_h h.2.2.1)
  exact lv_lookup hx hb hd hp (by rw [R32_to ha]; exact hf) ht (k ad ls H locs (am_Rst h (am_st_1 h.2.2.1)))
end AM
