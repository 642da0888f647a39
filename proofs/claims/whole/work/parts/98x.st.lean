/-! what holds at the law's entry: classes, arrays, the two static tables, the nest -/
theorem am_cl_nw {ci : Nat} {r : vw_C} (h : am_cl[ci]? = some r) : ∃ n, Cond.instantiable r.1 n ∈ am_B := by
  match ci, h with
  | 0, h => cases h; exact ⟨_, nw_X0⟩
  | 1, h => cases h; exact ⟨_, nw_X1⟩
  | 2, h => cases h; exact ⟨_, nw_X2⟩
  | 3, h => cases h; exact ⟨_, nw_X3⟩
  | 4, h => cases h; exact ⟨_, nw_X4⟩
  | 5, h => cases h; exact ⟨_, nw_X6⟩
  | 6, h => cases h; exact ⟨_, nw_X7⟩
  | 7, h => cases h; exact ⟨_, nw_X8⟩
  | 8, h => cases h; exact ⟨_, nw_X9⟩
  | 9, h => cases h; exact ⟨_, nw_X10⟩
  | n + 10, h => simp [am_cl, vwCl] at h
theorem st_cl {s : State} {args : Array Value} (hts : ∀ w ∈ am_B, w.before args s = true) : ∃ D : va_G, ∀ (c : Nat) (q : vw_C), am_cl[c]? = some q → u_Kn s q.1 q.2.1 q.2.2 (D.1 c) (D.2 c) := by
  have h : ∀ c : Nat, ∃ z : ClassId × (Nat → Nat), ∀ q : vw_C, am_cl[c]? = some q → u_Kn s q.1 q.2.1 q.2.2 z.1 z.2 := fun c => by
    cases hq : am_cl[c]? with
    | none => exact ⟨((0 : Nat), fun _ => 0), fun q h => by cases h⟩
    | some r =>
      obtain ⟨n, hn⟩ := am_cl_nw hq
      obtain ⟨cC, iS, hk⟩ := u_known hts (am_cl_in hq) (hts _ hn)
      exact ⟨(cC, iS), fun q h => by cases h; exact hk⟩
  exact ⟨(fun c => (Classical.choose (h c)).1, fun c => (Classical.choose (h c)).2), fun c q hq => Classical.choose_spec (h c) q hq⟩
theorem st_arr {s : State} {args : Array Value} {ty : FieldType} (h : (Cond.arrayClass ty).before args s = true) : ∃ cA : ClassId, ArrOfT s cA ty ∧ s.vm.findClass ("[" ++ ty.toString) = some cA := by
  obtain ⟨c, k, comp, h1, h2, h3⟩ := Cond.arrayClass_spec h
  exact ⟨c, fun n z => ⟨fun k h => (by cases h), k, h2, comp, h3⟩, h1⟩
theorem st_over {s : State} {args : Array Value} {C : String} (h : (Cond.arrayOver (.object C)).before args s = true) : ∃ cA : ClassId, ArrOfT s cA (.object C) ∧ va_RA s cA (.object C) := by
  obtain ⟨comp, c, k, h1, h2, h3, h4, h5⟩ := Cond.arrayOver_spec h
  exact ⟨c, fun n z => ⟨fun k h => (by cases h), k, h3, comp, h4⟩, k, comp, h3, h4, h1, h5⟩
theorem st_K {s : State} {args : Array Value} (hts : ∀ w ∈ am_B, w.before args s = true) (hi : (Cond.arrayClass .int).before args s = true) (hl : (Cond.arrayClass .long).before args s = true) (hz : (Cond.arrayClass .boolean).before args s = true) (ho : (Cond.arrayOver (.object "OwedDays$Shelf")).before args s = true) : ∃ (D : va_G) (cA : Nat → ClassId), va_K D am_cl (am_tys cA) s := by
  obtain ⟨D, hD⟩ := st_cl hts
  obtain ⟨c0, a0, b0⟩ := st_arr hi
  obtain ⟨c1, a1, b1⟩ := st_arr hl
  obtain ⟨c2, a2, b2⟩ := st_arr hz
  obtain ⟨c3, a3, b3⟩ := st_over ho
  refine ⟨D, fun k => match k with | 0 => c0 | 1 => c1 | 2 => c2 | _ => c3, hD, fun k q hk => ?_⟩
  match k, hk with
  | 0, hk => cases hk; exact ⟨a0, b0⟩
  | 1, hk => cases hk; exact ⟨a1, b1⟩
  | 2, hk => cases hk; exact ⟨a2, b2⟩
  | 3, hk => cases hk; exact ⟨a3, b3⟩
  | n + 4, hk => simp [am_tys] at hk
abbrev st_OWN : Term := .static "OwedDays$Bodies" "OWN" "[I"
abbrev st_ABOVE : Term := .static "OwedDays$Bodies" "ABOVE" "[I"
abbrev st_pre : List Cond := flatC (Jvm.Cond.and given_1 narrow_1)
theorem st_w1 : Cond.arrayOf st_OWN .int ∈ st_pre ∧ Cond.eq (.length st_OWN) (.int 32) ∈ st_pre ∧ Cond.arrayOf st_ABOVE .int ∈ st_pre ∧ Cond.eq (.length st_ABOVE) (.int 8) ∈ st_pre := ⟨by decide +kernel, by decide +kernel, by decide +kernel, by decide +kernel⟩
theorem st_w2 : ∀ j : Fin 32, Cond.eq (.elem st_OWN (.int (Int32.ofNat j.val))) (.int (Int32.ofInt (am_own j.val))) ∈ st_pre := by decide +kernel
theorem st_w3 : ∀ j : Fin 8, Cond.eq (.elem st_ABOVE (.int (Int32.ofNat j.val))) (.int (Int32.ofInt (am_above j.val))) ∈ st_pre := by decide +kernel
theorem st_w4 : Cond.arrayClass .int ∈ lw_tbl ∧ Cond.arrayClass .long ∈ lw_tbl ∧ Cond.arrayClass .boolean ∈ lw_tbl ∧ Cond.arrayOver (.object "OwedDays$Shelf") ∈ lw_tbl ∧ Cond.laysStatic RX0 "OWN" "[I" ∈ lw_tbl ∧ Cond.laysStatic RX0 "ABOVE" "[I" ∈ lw_tbl ∧ Cond.initialized RX0 ∈ lw_tbl := ⟨by decide +kernel, by decide +kernel, by decide +kernel, by decide +kernel, by decide +kernel, by decide +kernel, by decide +kernel⟩
theorem st_w5 : ∀ w ∈ am_N, w ∈ lw_tbl := by decide +kernel
theorem st_w6 : ∀ w ∈ am_N, w.onTables = true := by decide +kernel
/-- the two static tables -/
theorem st_T {s : State} {args : Array Value} {A : Nat → Prop} (hts : ∀ w ∈ lw_tbl, w.before args s = true) (hs : ∀ w ∈ st_pre, w.before args s = true) (hA : ∀ a : Nat, a < s.heap.size → ¬ A a) : ∃ t0 t1 : Nat, va_Z RX0 "OWN" "[I" (.ref t0) A s s.heap ∧ va_T .int t0 32 (fun j => .int (Int32.ofInt (am_own j))) A s s.heap ∧ va_Z RX0 "ABOVE" "[I" (.ref t1) A s s.heap ∧ va_T .int t1 8 (fun j => .int (Int32.ofInt (am_above j))) A s s.heap := by
  obtain ⟨t0, e0, h0⟩ := va_Tof (tm := st_OWN) (ty := .int) (N := 32) (f := fun j => .int (Int32.ofInt (am_own j))) (by decide) (hs _ st_w1.1) (va_eqt (hs _ st_w1.2.1)) (fun j hj => va_eqt (hs _ (st_w2 ⟨j, hj⟩))) hA
  obtain ⟨t1, e1, h1⟩ := va_Tof (tm := st_ABOVE) (ty := .int) (N := 8) (f := fun j => .int (Int32.ofInt (am_above j))) (by decide) (hs _ st_w1.2.2.1) (va_eqt (hs _ st_w1.2.2.2)) (fun j hj => va_eqt (hs _ (st_w3 ⟨j, hj⟩))) hA
  exact ⟨t0, t1, va_Zref (hts _ st_w4.2.2.2.2.1) (hts _ st_w4.2.2.2.2.2.2) e0 hA, h0, va_Zref (hts _ st_w4.2.2.2.2.2.1) (hts _ st_w4.2.2.2.2.2.2) e1 hA, h1⟩
