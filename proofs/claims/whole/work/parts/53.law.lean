/-! the law's text: a reader over lists, what its code works out, and how a parse by levels makes it run -/
def lx_rank (x : Int) : Int := if x = 33 ∨ x = 126 then 6 else if x = 42 ∨ x = 47 ∨ x = 37 then 5 else if x = 43 ∨ x = 45 then 4 else if x = 60 ∨ x = 61 ∨ x = 62 then 3 else if x = 38 then 2 else if x = 124 then 1 else 0
def lx_name (x : Int) : Int := if x = 100 then 0 else if x = 109 then 1 else if x = 108 then 2 else if x = 115 then 3 else if x = 112 then 4 else if x = 113 then 5 else -1
theorem lx_rank_bd (x : Int) : 0 ≤ lx_rank x ∧ lx_rank x ≤ 6 := by
  unfold lx_rank; (repeat' split) <;> omega
theorem lx_name_bd (x : Int) : -1 ≤ lx_name x ∧ lx_name x ≤ 5 := by
  unfold lx_name; (repeat' split) <;> omega
/-- code (newest first), operators that wait (top first), how many signs and brackets wait, brackets, digits to come, an operand is due, a condition is behind -/
abbrev lx_S : Type := List Int × List Int × Int × Int × Int × Int × Int
def lx_set (r : Int) : List Int → List Int → Int → List Int × List Int × Int
  | c, [], o => (c, [], o)
  | c, p :: ps, o => if r ≤ lx_rank p then lx_set r ((20000 + p) :: c) ps (if lx_rank p = 6 then o - 1 else o) else (c, p :: ps, o)
def lx_step : lx_S → Int → Option lx_S
  | (c, ops, o, b, g, due, cd), x =>
    if due ≠ 0 then
      (if 48 ≤ x ∧ x ≤ 57 then some ((x - 48) :: c, ops, o, b, 3, 0, cd)
      else if 0 ≤ lx_name x then some ((10000 + lx_name x) :: c, ops, o, b, 0, 0, cd)
      else if ¬ (x = 40 ∨ x = 33 ∨ x = 45) ∨ 6 ≤ o then none
      else some (c, (if x = 45 then 126 else x) :: ops, o + 1, (if x = 40 then b + 1 else b), g, due, cd))
    else
      (if 48 ≤ x ∧ x ≤ 57 then (if g = 0 then none else some ((c.headD 0 * 10 + (x - 48)) :: c.tail, ops, o, b, g - 1, due, cd))
      else if x = 41 then (if b = 0 then none else some ((lx_set 1 c ops o).1, (lx_set 1 c ops o).2.1.tail, (lx_set 1 c ops o).2.2 - 1, b - 1, 0, due, cd))
      else if x = 59 ∨ x = 63 then (if 0 < b ∨ (x = 63 ∧ cd ≠ 0) then none else some ((20000 + x) :: (lx_set 1 c ops o).1, (lx_set 1 c ops o).2.1, (lx_set 1 c ops o).2.2, b, g, 1, (if x = 63 then 1 else 0)))
      else if lx_rank x = 0 ∨ lx_rank x = 6 then none
      else if lx_rank x = 3 ∧ lx_rank ((lx_set (if lx_rank x = 3 then 4 else lx_rank x) c ops o).2.1.headD 0) = 3 then none
      else some ((lx_set (if lx_rank x = 3 then 4 else lx_rank x) c ops o).1, x :: (lx_set (if lx_rank x = 3 then 4 else lx_rank x) c ops o).2.1, (lx_set (if lx_rank x = 3 then 4 else lx_rank x) c ops o).2.2, b, g, 1, cd))
def lx_run (T : Nat → Int) : Nat → Nat → lx_S → Option lx_S
  | 0, _, S => some S
  | k + 1, i, S => match lx_step S (T i) with
    | none => none
    | some S' => lx_run T k (i + 1) S'
def lx_due (S : lx_S) : Int := S.2.2.2.2.2.1
def lx_brk (S : lx_S) : Int := S.2.2.2.1
def lx_0 : lx_S := ([], [], 0, 0, 0, 1, 0)
def lx_end (S : Option lx_S) : Option (List Int) := match S with
  | none => none
  | some (c, ops, o, b, _, due, _) => if due ≠ 0 ∨ 0 < b then none else some (20059 :: (lx_set 1 c ops o).1)
/-- the code (newest first) of a text of n bytes -/
def lx_cmp (T : Nat → Int) (n : Nat) : Option (List Int) := lx_end (lx_run T n 0 lx_0)
/-- the place of the first byte with which no text goes on -/
def lx_bad (T : Nat → Int) (n f : Nat) : Prop := f ≤ n ∧ ∃ S, lx_run T f 0 lx_0 = some S ∧ ((f < n ∧ lx_step S (T f) = none) ∨ (f = n ∧ (lx_due S ≠ 0 ∨ 0 < lx_brk S)))
def lx_op1 (k a : Int) : Int := if k = 33 then (if a = 0 then 1 else 0) else w32 (-a)
def lx_op2 (k a b : Int) : Int :=
  if k = 42 then w32 (a * b) else if k = 47 then (if b = 0 then 0 else w32 (a.tdiv b)) else if k = 37 then (if b = 0 then 0 else w32 (a.tmod b))
  else if k = 43 then w32 (a + b) else if k = 45 then w32 (a - b) else if k = 60 then (if a < b then 1 else 0) else if k = 61 then (if a = b then 1 else 0)
  else if k = 62 then (if b < a then 1 else 0) else if k = 38 then (if a ≠ 0 ∧ b ≠ 0 then 1 else 0) else (if a ≠ 0 ∨ b ≠ 0 then 1 else 0)
/-- what the code works out: N the names, then values (top first), then whether the line is passed -/
def lx_ex (N : Nat → Int) : List Int → List Int → Int → Option Int
  | [], _, _ => some 0
  | c :: cs, s, p =>
    if p ≠ 0 then lx_ex N cs s (if c ≠ 20059 then 1 else 0)
    else if c < 10000 then lx_ex N cs (c :: s) 0
    else if c < 10006 then lx_ex N cs (N (c - 10000).toNat :: s) 0
    else if c < 20000 then none
    else if c = 20059 then s.head?
    else if c = 20063 then (match s with
      | [] => none
      | x :: s => lx_ex N cs s (if x = 0 then 1 else 0))
    else if lx_rank (c - 20000) = 6 then (match s with
      | [] => none
      | x :: s => lx_ex N cs (lx_op1 (c - 20000) x :: s) 0)
    else (match s with
      | y :: x :: s => lx_ex N cs (lx_op2 (c - 20000) x y :: s) 0
      | _ => none)
theorem lx_ex_c (N : Nat → Int) (c : Int) (cs s : List Int) (p : Int) : lx_ex N (c :: cs) s p = (if p ≠ 0 then lx_ex N cs s (if c ≠ 20059 then 1 else 0)
    else if c < 10000 then lx_ex N cs (c :: s) 0
    else if c < 10006 then lx_ex N cs (N (c - 10000).toNat :: s) 0
    else if c < 20000 then none
    else if c = 20059 then s.head?
    else if c = 20063 then (match s with
      | [] => none
      | x :: s => lx_ex N cs s (if x = 0 then 1 else 0))
    else if lx_rank (c - 20000) = 6 then (match s with
      | [] => none
      | x :: s => lx_ex N cs (lx_op1 (c - 20000) x :: s) 0)
    else (match s with
      | y :: x :: s => lx_ex N cs (lx_op2 (c - 20000) x y :: s) 0
      | _ => none)) := by
  rw [lx_ex.eq_def]
def lx_CV (c : List Int) (F : (Nat → Int) → Int) : Prop := (∀ (N : Nat → Int) (cs s : List Int), lx_ex N (c.reverse ++ cs) s 0 = lx_ex N cs (F N :: s) 0) ∧ (20059 : Int) ∉ c
def lx_sg : List Int → Int
  | [] => 0
  | p :: ps => (if lx_rank p = 6 then 1 else 0) + lx_sg ps
def lx_em : List Int → List Int → List Int
  | [], c => c
  | p :: ps, c => lx_em ps ((20000 + p) :: c)
theorem lx_sg_app : ∀ E E' : List Int, lx_sg (E ++ E') = lx_sg E + lx_sg E'
  | [], E' => by simp [lx_sg]
  | p :: ps, E' => by
    have ih := lx_sg_app ps E'
    show (if lx_rank p = 6 then 1 else 0) + lx_sg (ps ++ E') = (if lx_rank p = 6 then 1 else 0) + lx_sg ps + lx_sg E'
    rw [ih]; omega
theorem lx_em_app : ∀ E E' c : List Int, lx_em (E ++ E') c = lx_em E' (lx_em E c)
  | [], E', c => rfl
  | p :: ps, E', c => lx_em_app ps E' ((20000 + p) :: c)
theorem lx_em_c : ∀ E c d : List Int, lx_em E (c ++ d) = lx_em E c ++ d
  | [], c, d => rfl
  | p :: ps, c, d => lx_em_c ps ((20000 + p) :: c) d
theorem lx_set_all {r : Int} : ∀ (E ops c : List Int) (o : Int), (∀ p ∈ E, r ≤ lx_rank p) → lx_set r c (E ++ ops) o = lx_set r (lx_em E c) ops (o - lx_sg E)
  | [], ops, c, o, _ => by
    show lx_set r c ops o = lx_set r c ops (o - 0)
    rw [Int.sub_zero]
  | p :: ps, ops, c, o, h => by
    show (if r ≤ lx_rank p then lx_set r ((20000 + p) :: c) (ps ++ ops) (if lx_rank p = 6 then o - 1 else o) else (c, p :: (ps ++ ops), o)) = lx_set r (lx_em ps ((20000 + p) :: c)) ops (o - ((if lx_rank p = 6 then 1 else 0) + lx_sg ps))
    rw [if_pos (h p List.mem_cons_self), lx_set_all ps ops _ _ (fun q hq => h q (List.mem_cons_of_mem _ hq))]
    congr 1
    split <;> omega
theorem lx_set_stop {r : Int} {ops : List Int} (h : lx_rank (ops.headD 0) < r) (c : List Int) (o : Int) : lx_set r c ops o = (c, ops, o) := by
  cases ops with
  | nil => rfl
  | cons p ps =>
    show (if r ≤ lx_rank p then _ else (c, p :: ps, o)) = _
    have h : lx_rank p < r := h
    rw [if_neg (by omega)]
theorem lx_set_E {r : Int} {E ops : List Int} (c : List Int) (o : Int) (hE : ∀ p ∈ E, r ≤ lx_rank p) (h : lx_rank (ops.headD 0) < r) : lx_set r c (E ++ ops) (o + lx_sg E) = (lx_em E c, ops, o) := by
  rw [lx_set_all E ops c _ hE, lx_set_stop h]
  congr 2
  omega
theorem lx_run_add {T : Nat → Int} : ∀ (a b i : Nat) (S S' : lx_S), lx_run T a i S = some S' → lx_run T (a + b) i S = lx_run T b (i + a) S'
  | 0, b, i, S, S', h => by
    cases h
    rw [Nat.zero_add]; rfl
  | a + 1, b, i, S, S', h => by
    rw [show a + 1 + b = (a + b) + 1 by omega, lx_run]
    rw [lx_run] at h
    cases hs : lx_step S (T i) with
    | none => rw [hs] at h; cases h
    | some U =>
      rw [hs] at h
      have h : lx_run T a (i + 1) U = some S' := h
      show lx_run T (a + b) (i + 1) U = _
      rw [lx_run_add a b (i + 1) U S' h, show i + 1 + a = i + (a + 1) by omega]
theorem lx_run_to {T : Nat → Int} {i j k : Nat} {S S' S'' : lx_S} (hij : i ≤ j) (hjk : j ≤ k) (h : lx_run T (j - i) i S = some S') (h2 : lx_run T (k - j) j S' = some S'') : lx_run T (k - i) i S = some S'' := by
  rw [show k - i = (j - i) + (k - j) by omega, lx_run_add _ _ _ _ _ h, show i + (j - i) = j by omega, h2]
theorem lx_run_1 {T : Nat → Int} {i : Nat} {S S' : lx_S} (h : lx_step S (T i) = some S') : lx_run T (i + 1 - i) i S = some S' := by
  rw [show i + 1 - i = 0 + 1 by omega]
  show (match lx_step S (T i) with | none => none | some S' => lx_run T 0 (i + 1) S') = _
  rw [h]; rfl
/-- the level L's parse from i on, with o signs and brackets about it, comes to j with the value F; M: with which letters it can't go on -/
def lx_Sim (T : Nat → Int) (n : Nat) (L M o : Int) (i j : Nat) (F : (Nat → Int) → Int) : Prop :=
  (i ≤ j ∧ j ≤ n) ∧ ∀ (c ops : List Int) (b g cd : Int), 0 ≤ b → (L ≤ 5 → lx_rank (ops.headD 0) < L) →
    ∃ (c' E : List Int) (g' : Int), lx_run T (j - i) i (c, ops, o, b, g, 1, cd) = some (c' ++ c, E ++ ops, o + lx_sg E, b, g', 0, cd) ∧ (∀ p ∈ E, L ≤ lx_rank p) ∧ lx_CV (lx_em E c') F ∧
      (j < n → ((48 ≤ T j ∧ T j ≤ 57) ∨ (M ≤ lx_rank (T j) ∧ lx_rank (T j) ≤ 5)) → lx_step (c' ++ c, E ++ ops, o + lx_sg E, b, g', 0, cd) (T j) = none)
def lx_Flt (T : Nat → Int) (n : Nat) (L o : Int) (i f : Nat) : Prop :=
  (i ≤ f ∧ f ≤ n) ∧ ∀ (c ops : List Int) (b g cd : Int), 0 ≤ b → (L ≤ 5 → lx_rank (ops.headD 0) < L) →
    ∃ S, lx_run T (f - i) i (c, ops, o, b, g, 1, cd) = some S ∧ ((f < n ∧ lx_step S (T f) = none) ∨ (f = n ∧ (lx_due S ≠ 0 ∨ 0 < lx_brk S)))
theorem lx_Sim_up {T : Nat → Int} {n : Nat} {L L' M o : Int} {i j : Nat} {F : (Nat → Int) → Int} (h : lx_Sim T n L M o i j F) (hl : L' ≤ L) (h5 : L' ≤ 5) : lx_Sim T n L' M o i j F := by
  refine ⟨h.1, fun c ops b g cd hb hr => ?_⟩
  obtain ⟨c', E, g', h1, h2, h3, h4⟩ := h.2 c ops b g cd hb (fun _ => by have := hr h5; omega)
  exact ⟨c', E, g', h1, fun p hp => by have := h2 p hp; omega, h3, h4⟩
theorem lx_Sim_stop {T : Nat → Int} {n : Nat} {L M M' o : Int} {i j : Nat} {F : (Nat → Int) → Int} (h : lx_Sim T n L M o i j F) (hn : j < n → ¬ (M' ≤ lx_rank (T j) ∧ lx_rank (T j) < M)) : lx_Sim T n L M' o i j F := by
  refine ⟨h.1, fun c ops b g cd hb hr => ?_⟩
  obtain ⟨c', E, g', h1, h2, h3, h4⟩ := h.2 c ops b g cd hb hr
  refine ⟨c', E, g', h1, h2, h3, fun hj hd => h4 hj ?_⟩
  have := hn hj
  omega
theorem lx_Flt_up {T : Nat → Int} {n : Nat} {L L' o : Int} {i f : Nat} (h : lx_Flt T n L o i f) (hl : L' ≤ L) (h5 : L' ≤ 5) : lx_Flt T n L' o i f :=
  ⟨h.1, fun c ops b g cd hb hr => h.2 c ops b g cd hb (fun _ => by have := hr h5; omega)⟩
theorem lx_rank_no {x : Int} (h : 1 ≤ lx_rank x) : ¬ (48 ≤ x ∧ x ≤ 57) ∧ x ≠ 41 ∧ ¬ (x = 59 ∨ x = 63) := by
  refine ⟨fun q => ?_, fun q => ?_, fun q => ?_⟩
  · unfold lx_rank at h
    (repeat' split at h) <;> omega
  · subst q; revert h; decide
  · rcases q with rfl | rfl <;> revert h <;> decide
/-- an operator of two behind an operand -/
theorem lx_step_2 {x o b g cd : Int} {c ops E : List Int} (h1 : 1 ≤ lx_rank x) (h5 : lx_rank x ≤ 5) (h3 : lx_rank x ≠ 3) (hE : ∀ p ∈ E, lx_rank x ≤ lx_rank p) (hr : lx_rank (ops.headD 0) < lx_rank x) : lx_step (c, E ++ ops, o + lx_sg E, b, g, 0, cd) x = some (lx_em E c, x :: ops, o, b, g, 1, cd) := by
  have hn := lx_rank_no h1
  rw [lx_step]
  rw [if_neg (by decide), if_neg hn.1, if_neg hn.2.1, if_neg hn.2.2, if_neg (by omega), if_neg (fun q => h3 q.1), if_neg h3, lx_set_E c o hE hr]
theorem lx_step_3 {x o b g cd : Int} {c ops E : List Int} (h3 : lx_rank x = 3) (hE : ∀ p ∈ E, 4 ≤ lx_rank p) (hr : lx_rank (ops.headD 0) < 3) : lx_step (c, E ++ ops, o + lx_sg E, b, g, 0, cd) x = some (lx_em E c, x :: ops, o, b, g, 1, cd) := by
  have hn := lx_rank_no (x := x) (by omega)
  rw [lx_step]
  rw [if_neg (by decide), if_neg hn.1, if_neg hn.2.1, if_neg hn.2.2, if_neg (by omega), if_pos h3, lx_set_E c o hE (by omega), if_neg (fun q => by have := q.2; simp only at this; omega)]
theorem lx_step_33 {x y o b g cd : Int} {c ops E : List Int} (h3 : lx_rank x = 3) (hy : lx_rank y = 3) (hE : ∀ p ∈ E, 4 ≤ lx_rank p) : lx_step (c, E ++ y :: ops, o + lx_sg E, b, g, 0, cd) x = none := by
  have hn := lx_rank_no (x := x) (by omega)
  rw [lx_step]
  rw [if_neg (by decide), if_neg hn.1, if_neg hn.2.1, if_neg hn.2.2, if_neg (by omega), if_pos h3, lx_set_E (ops := y :: ops) c o hE (by show lx_rank y < 4; omega), if_pos ⟨h3, hy⟩]
theorem lx_CV_2 {c1 c2 : List Int} {x : Int} {F G : (Nat → Int) → Int} (h1 : 1 ≤ lx_rank x) (h5 : lx_rank x ≤ 5) (hF : lx_CV c1 F) (hG : lx_CV c2 G) : lx_CV ((20000 + x) :: (c2 ++ c1)) (fun N => lx_op2 x (F N) (G N)) := by
  have hx : 0 < x ∧ x ≠ 59 ∧ x ≠ 63 := by
    refine ⟨?_, ?_, ?_⟩
    · unfold lx_rank at h1; (repeat' split at h1) <;> omega
    · intro q; subst q; revert h1; decide
    · intro q; subst q; revert h1; decide
  refine ⟨fun N cs s => ?_, ?_⟩
  · rw [List.reverse_cons, List.reverse_append, List.append_assoc, List.append_assoc, hF.1, hG.1]
    show lx_ex N ((20000 + x) :: cs) (G N :: F N :: s) 0 = _
    rw [lx_ex_c, if_neg (by decide), if_neg (by omega), if_neg (by omega), if_neg (by omega), if_neg (by omega), if_neg (by omega), show 20000 + x - 20000 = x by omega, if_neg (by omega)]
  · simp only [List.mem_cons, List.mem_append, not_or]
    exact ⟨by omega, hG.2, hF.2⟩
theorem lx_CV_1 {c1 : List Int} {x : Int} {F : (Nat → Int) → Int} (hx : x = 33 ∨ x = 126) (hF : lx_CV c1 F) : lx_CV ((20000 + x) :: c1) (fun N => lx_op1 x (F N)) := by
  have hr : lx_rank x = 6 := by rcases hx with rfl | rfl <;> rfl
  refine ⟨fun N cs s => ?_, ?_⟩
  · rw [List.reverse_cons, List.append_assoc, hF.1]
    show lx_ex N ((20000 + x) :: cs) (F N :: s) 0 = _
    rw [lx_ex_c, if_neg (by decide), if_neg (by omega), if_neg (by omega), if_neg (by omega), if_neg (by omega), if_neg (by omega), show 20000 + x - 20000 = x by omega, if_pos hr]
  · simp only [List.mem_cons, not_or]
    exact ⟨by omega, hF.2⟩
theorem lx_Sim_bin {T : Nat → Int} {n : Nat} {L M M' o : Int} {i j k : Nat} {F G : (Nat → Int) → Int} (hL : 1 ≤ L ∧ L ≤ 5 ∧ L ≠ 3) (h : lx_Sim T n L M o i j F) (hj : j < n) (hr : lx_rank (T j) = L) (h2 : lx_Sim T n (L + 1) M' o (j + 1) k G) : lx_Sim T n L M' o i k (fun N => lx_op2 (T j) (F N) (G N)) := by
  refine ⟨⟨by have := h.1; have := h2.1; omega, h2.1.2⟩, fun c ops b g cd hb hp => ?_⟩
  obtain ⟨c1, E1, g1, a1, a2, a3, a4⟩ := h.2 c ops b g cd hb hp
  have hs := lx_step_2 (x := T j) (o := o) (b := b) (g := g1) (cd := cd) (c := c1 ++ c) (ops := ops) (E := E1) (by omega) (by omega) (by omega) (fun p hp => by have := a2 p hp; omega) (by have := hp hL.2.1; omega)
  rw [lx_em_c] at hs
  obtain ⟨c2, E2, g2, b1, b2, b3, b4⟩ := h2.2 (lx_em E1 c1 ++ c) (T j :: ops) b g1 cd hb (fun _ => by show lx_rank (T j) < L + 1; omega)
  have hrun := lx_run_to h.1.1 (by have := h2.1.1; omega) a1 (lx_run_to (Nat.le_succ j) h2.1.1 (lx_run_1 hs) b1)
  have hsg : lx_sg (E2 ++ [T j]) = lx_sg E2 := by
    rw [lx_sg_app]
    show _ + ((if lx_rank (T j) = 6 then 1 else 0) + 0) = _
    rw [if_neg (by omega)]; omega
  refine ⟨c2 ++ lx_em E1 c1, E2 ++ [T j], g2, ?_, ?_, ?_, ?_⟩
  · rw [hrun, hsg, List.append_assoc, List.append_assoc]; rfl
  · intro p hp
    rcases List.mem_append.mp hp with hp | hp
    · have := b2 p hp; omega
    · rw [List.mem_singleton.mp hp]; omega
  · rw [lx_em_app, lx_em_c]
    exact lx_CV_2 (by omega) (by omega) a3 b3
  · intro hk hd
    have := b4 hk hd
    rw [hsg, List.append_assoc, List.append_assoc]
    exact this
theorem lx_Flt_bin {T : Nat → Int} {n : Nat} {L M o : Int} {i j f : Nat} {F : (Nat → Int) → Int} (hL : 1 ≤ L ∧ L ≤ 5 ∧ L ≠ 3) (h : lx_Sim T n L M o i j F) (hj : j < n) (hr : lx_rank (T j) = L) (h2 : lx_Flt T n (L + 1) o (j + 1) f) : lx_Flt T n L o i f := by
  refine ⟨⟨by have := h.1; have := h2.1; omega, h2.1.2⟩, fun c ops b g cd hb hp => ?_⟩
  obtain ⟨c1, E1, g1, a1, a2, a3, a4⟩ := h.2 c ops b g cd hb hp
  have hs := lx_step_2 (x := T j) (o := o) (b := b) (g := g1) (cd := cd) (c := c1 ++ c) (ops := ops) (E := E1) (by omega) (by omega) (by omega) (fun p hp => by have := a2 p hp; omega) (by have := hp hL.2.1; omega)
  obtain ⟨S, b1, b2⟩ := h2.2 (lx_em E1 (c1 ++ c)) (T j :: ops) b g1 cd hb (fun _ => by show lx_rank (T j) < L + 1; omega)
  exact ⟨S, lx_run_to h.1.1 (by have := h2.1.1; omega) a1 (lx_run_to (Nat.le_succ j) h2.1.1 (lx_run_1 hs) b1), b2⟩
theorem lx_Sim_cmp {T : Nat → Int} {n : Nat} {M o : Int} {i j k : Nat} {F G : (Nat → Int) → Int} (h : lx_Sim T n 4 M o i j F) (hj : j < n) (hr : lx_rank (T j) = 3) (h2 : lx_Sim T n 4 4 o (j + 1) k G) : lx_Sim T n 3 3 o i k (fun N => lx_op2 (T j) (F N) (G N)) := by
  refine ⟨⟨by have := h.1; have := h2.1; omega, h2.1.2⟩, fun c ops b g cd hb hp => ?_⟩
  have hp3 := hp (by decide)
  obtain ⟨c1, E1, g1, a1, a2, a3, a4⟩ := h.2 c ops b g cd hb (fun _ => by omega)
  have hs := lx_step_3 (x := T j) (o := o) (b := b) (g := g1) (cd := cd) (c := c1 ++ c) (ops := ops) (E := E1) hr a2 hp3
  rw [lx_em_c] at hs
  obtain ⟨c2, E2, g2, b1, b2, b3, b4⟩ := h2.2 (lx_em E1 c1 ++ c) (T j :: ops) b g1 cd hb (fun _ => by show lx_rank (T j) < 4; omega)
  have hrun := lx_run_to h.1.1 (by have := h2.1.1; omega) a1 (lx_run_to (Nat.le_succ j) h2.1.1 (lx_run_1 hs) b1)
  have hsg : lx_sg (E2 ++ [T j]) = lx_sg E2 := by
    rw [lx_sg_app]
    show _ + ((if lx_rank (T j) = 6 then 1 else 0) + 0) = _
    rw [if_neg (by omega)]; omega
  refine ⟨c2 ++ lx_em E1 c1, E2 ++ [T j], g2, ?_, ?_, ?_, ?_⟩
  · rw [hrun, hsg, List.append_assoc, List.append_assoc]; rfl
  · intro p hp
    rcases List.mem_append.mp hp with hp | hp
    · have := b2 p hp; omega
    · rw [List.mem_singleton.mp hp]; omega
  · rw [lx_em_app, lx_em_c]
    exact lx_CV_2 (by omega) (by omega) a3 b3
  · intro hk hd
    rw [hsg, List.append_assoc, List.append_assoc]
    by_cases h3 : lx_rank (T k) = 3
    · exact lx_step_33 h3 hr b2
    · exact b4 hk (by omega)
theorem lx_Flt_cmp {T : Nat → Int} {n : Nat} {M o : Int} {i j f : Nat} {F : (Nat → Int) → Int} (h : lx_Sim T n 4 M o i j F) (hj : j < n) (hr : lx_rank (T j) = 3) (h2 : lx_Flt T n 4 o (j + 1) f) : lx_Flt T n 3 o i f := by
  refine ⟨⟨by have := h.1; have := h2.1; omega, h2.1.2⟩, fun c ops b g cd hb hp => ?_⟩
  have hp3 := hp (by decide)
  obtain ⟨c1, E1, g1, a1, a2, a3, a4⟩ := h.2 c ops b g cd hb (fun _ => by omega)
  have hs := lx_step_3 (x := T j) (o := o) (b := b) (g := g1) (cd := cd) (c := c1 ++ c) (ops := ops) (E := E1) hr a2 hp3
  obtain ⟨S, b1, b2⟩ := h2.2 (lx_em E1 (c1 ++ c)) (T j :: ops) b g1 cd hb (fun _ => by show lx_rank (T j) < 4; omega)
  exact ⟨S, lx_run_to h.1.1 (by have := h2.1.1; omega) a1 (lx_run_to (Nat.le_succ j) h2.1.1 (lx_run_1 hs) b1), b2⟩
theorem lx_name_no {x : Int} (h : x = 40 ∨ x = 33 ∨ x = 45) : ¬ 0 ≤ lx_name x := by
  rcases h with rfl | rfl | rfl <;> decide
/-- a sign or a bracket ahead of an operand -/
theorem lx_step_s {x o b g cd : Int} {c ops : List Int} (hx : x = 40 ∨ x = 33 ∨ x = 45) (ho : o < 6) : lx_step (c, ops, o, b, g, 1, cd) x = some (c, (if x = 45 then 126 else x) :: ops, o + 1, (if x = 40 then b + 1 else b), g, 1, cd) := by
  rw [lx_step]
  rw [if_pos (by decide), if_neg (by omega), if_neg (lx_name_no hx), if_neg (by omega)]
theorem lx_Sim_sign {T : Nat → Int} {n : Nat} {M o : Int} {i j : Nat} {F : (Nat → Int) → Int} (hx : T i = 33 ∨ T i = 45) (ho : o < 6) (h : lx_Sim T n 6 M (o + 1) (i + 1) j F) : lx_Sim T n 6 M o i j (fun N => lx_op1 (if T i = 45 then 126 else T i) (F N)) := by
  refine ⟨⟨by have := h.1; omega, h.1.2⟩, fun c ops b g cd hb hp => ?_⟩
  have hs := lx_step_s (x := T i) (o := o) (b := b) (g := g) (cd := cd) (c := c) (ops := ops) (by omega) ho
  rw [if_neg (show ¬ T i = 40 by omega)] at hs
  have hx2 : (if T i = 45 then 126 else T i) = 33 ∨ (if T i = 45 then 126 else T i) = 126 := by
    split <;> omega
  generalize (if T i = 45 then 126 else T i) = x at hs hx2 ⊢
  have hr6 : lx_rank x = 6 := by rcases hx2 with rfl | rfl <;> rfl
  obtain ⟨c', E, g', h1, h2, h3, h4⟩ := h.2 c (x :: ops) b g cd hb (fun q => absurd q (by decide))
  have hrun := lx_run_to (Nat.le_succ i) h.1.1 (lx_run_1 hs) h1
  have hsg : o + lx_sg (E ++ [x]) = o + 1 + lx_sg E := by
    rw [lx_sg_app]
    show _ + (_ + ((if lx_rank x = 6 then 1 else 0) + 0)) = _
    rw [if_pos hr6]; omega
  refine ⟨c', E ++ [x], g', ?_, ?_, ?_, ?_⟩
  · rw [hrun, hsg, List.append_assoc]; rfl
  · intro p hp
    rcases List.mem_append.mp hp with hp | hp
    · exact h2 p hp
    · rw [List.mem_singleton.mp hp]; omega
  · rw [lx_em_app]
    exact lx_CV_1 hx2 h3
  · intro hk hd
    rw [hsg, List.append_assoc]
    exact h4 hk hd
theorem lx_Flt_sign {T : Nat → Int} {n : Nat} {o : Int} {i f : Nat} (hx : T i = 33 ∨ T i = 45) (ho : o < 6) (h : lx_Flt T n 6 (o + 1) (i + 1) f) : lx_Flt T n 6 o i f := by
  refine ⟨⟨by have := h.1; omega, h.1.2⟩, fun c ops b g cd hb hp => ?_⟩
  have hs := lx_step_s (x := T i) (o := o) (b := b) (g := g) (cd := cd) (c := c) (ops := ops) (by omega) ho
  rw [if_neg (show ¬ T i = 40 by omega)] at hs
  obtain ⟨S, b1, b2⟩ := h.2 c _ b g cd hb (fun q => absurd q (by decide))
  exact ⟨S, lx_run_to (Nat.le_succ i) h.1.1 (lx_run_1 hs) b1, b2⟩
theorem lx_Sim_brk {T : Nat → Int} {n : Nat} {o : Int} {i j : Nat} {F : (Nat → Int) → Int} (hx : T i = 40) (ho : o < 6) (h : lx_Sim T n 1 1 (o + 1) (i + 1) j F) (hj : j < n) (hy : T j = 41) : lx_Sim T n 6 6 o i (j + 1) F := by
  refine ⟨⟨by have := h.1; omega, by omega⟩, fun c ops b g cd hb hp => ?_⟩
  have hs := lx_step_s (x := T i) (o := o) (b := b) (g := g) (cd := cd) (c := c) (ops := ops) (by omega) ho
  rw [if_pos hx, if_neg (show ¬ T i = 45 by omega), hx] at hs
  obtain ⟨c', E, g', h1, h2, h3, h4⟩ := h.2 c (40 :: ops) (b + 1) g cd (by omega) (fun _ => show lx_rank 40 < 1 by decide)
  have hrun := lx_run_to (Nat.le_succ i) h.1.1 (lx_run_1 (by rw [hx]; exact hs)) h1
  have hset := lx_set_E (r := 1) (E := E) (ops := 40 :: ops) (c' ++ c) (o + 1) h2 (show lx_rank 40 < 1 by decide)
  have hs2 : lx_step (c' ++ c, E ++ 40 :: ops, o + 1 + lx_sg E, b + 1, g', 0, cd) (T j) = some (lx_em E c' ++ c, ops, o, b, 0, 0, cd) := by
    rw [hy]
    rw [lx_step]
    rw [if_neg (by decide), if_neg (by decide), if_pos rfl, if_neg (by omega), hset, lx_em_c]
    show some (_, _, o + 1 - 1, b + 1 - 1, _, _, _) = _
    rw [show o + 1 - 1 = o by omega, show b + 1 - 1 = b by omega]; rfl
  have hrun2 := lx_run_to (by have := h.1.1; omega) (Nat.le_succ j) hrun (lx_run_1 hs2)
  refine ⟨lx_em E c', [], 0, ?_, ?_, h3, ?_⟩
  · rw [hrun2]
    show _ = some (_, ops, o + 0, _, _, _, _)
    rw [Int.add_zero]
  · intro p hp; cases hp
  · intro _ hd
    show lx_step (_, ops, o + 0, b, 0, 0, cd) _ = none
    rcases hd with hd | hd
    · rw [lx_step]
      rw [if_neg (by decide), if_pos hd, if_pos rfl]
    · omega
theorem lx_Flt_brk {T : Nat → Int} {n : Nat} {o : Int} {i f : Nat} (hx : T i = 40) (ho : o < 6) (h : lx_Flt T n 1 (o + 1) (i + 1) f) : lx_Flt T n 6 o i f := by
  refine ⟨⟨by have := h.1; omega, h.1.2⟩, fun c ops b g cd hb hp => ?_⟩
  have hs := lx_step_s (x := T i) (o := o) (b := b) (g := g) (cd := cd) (c := c) (ops := ops) (by omega) ho
  rw [if_pos hx, if_neg (show ¬ T i = 45 by omega), hx] at hs
  obtain ⟨S, b1, b2⟩ := h.2 c (40 :: ops) (b + 1) g cd (by omega) (fun _ => show lx_rank 40 < 1 by decide)
  exact ⟨S, lx_run_to (Nat.le_succ i) h.1.1 (lx_run_1 (by rw [hx]; exact hs)) b1, b2⟩
/-- a byte that is no operator, no digit, no bracket's end, no line's end is refused behind an operand -/
theorem lx_step_no {x o b g cd : Int} {c ops : List Int} (hd : ¬ (48 ≤ x ∧ x ≤ 57)) (h41 : x ≠ 41) (h59 : ¬ (x = 59 ∨ x = 63)) (hr : lx_rank x = 0 ∨ lx_rank x = 6) : lx_step (c, ops, o, b, g, 0, cd) x = none := by
  rw [lx_step]
  rw [if_neg (by decide), if_neg hd, if_neg h41, if_neg h59, if_pos hr]
theorem lx_Flt_brk2 {T : Nat → Int} {n : Nat} {o : Int} {i j : Nat} {F : (Nat → Int) → Int} (hx : T i = 40) (ho : o < 6) (h : lx_Sim T n 1 1 (o + 1) (i + 1) j F) (hy : j < n → T j ≠ 41) : lx_Flt T n 6 o i j := by
  refine ⟨⟨by have := h.1; omega, h.1.2⟩, fun c ops b g cd hb hp => ?_⟩
  have hs := lx_step_s (x := T i) (o := o) (b := b) (g := g) (cd := cd) (c := c) (ops := ops) (by omega) ho
  rw [if_pos hx, if_neg (show ¬ T i = 45 by omega), hx] at hs
  obtain ⟨c', E, g', h1, h2, h3, h4⟩ := h.2 c (40 :: ops) (b + 1) g cd (by omega) (fun _ => show lx_rank 40 < 1 by decide)
  have hrun := lx_run_to (Nat.le_succ i) h.1.1 (lx_run_1 (by rw [hx]; exact hs)) h1
  refine ⟨_, hrun, ?_⟩
  by_cases hj : j < n
  · refine Or.inl ⟨hj, ?_⟩
    by_cases hd : (48 ≤ T j ∧ T j ≤ 57) ∨ (1 ≤ lx_rank (T j) ∧ lx_rank (T j) ≤ 5)
    · exact h4 hj hd
    · by_cases h59 : T j = 59 ∨ T j = 63
      · rw [lx_step]
        rw [if_neg (by decide), if_neg (fun q => hd (Or.inl q)), if_neg (hy hj), if_pos h59, if_pos (Or.inl (by omega))]
      · have hb6 := lx_rank_bd (T j)
        exact lx_step_no (fun q => hd (Or.inl q)) (hy hj) h59 (by omega)
  · exact Or.inr ⟨by have := h.1.2; omega, Or.inr (by show 0 < b + 1; omega)⟩
theorem lx_Flt_one {T : Nat → Int} {n i : Nat} {o : Int} (hi : i ≤ n) (h : i < n → ¬ (48 ≤ T i ∧ T i ≤ 57) ∧ ¬ 0 ≤ lx_name (T i) ∧ (¬ (T i = 40 ∨ T i = 33 ∨ T i = 45) ∨ 6 ≤ o)) : lx_Flt T n 6 o i i := by
  refine ⟨⟨Nat.le_refl _, hi⟩, fun c ops b g cd hb hp => ⟨(c, ops, o, b, g, 1, cd), by rw [Nat.sub_self]; rfl, ?_⟩⟩
  by_cases hn : i < n
  · obtain ⟨h1, h2, h3⟩ := h hn
    refine Or.inl ⟨hn, ?_⟩
    rw [lx_step]
    rw [if_pos (by decide), if_neg h1, if_neg h2, if_pos h3]
  · exact Or.inr ⟨by omega, Or.inl (show (1 : Int) ≠ 0 by decide)⟩
theorem lx_Sim_nam {T : Nat → Int} {n i : Nat} {o k : Int} (hi : i < n) (hk : lx_name (T i) = k) (h0 : 0 ≤ k) : lx_Sim T n 6 6 o i (i + 1) (fun N => N k.toNat) := by
  subst hk
  have hd : ¬ (48 ≤ T i ∧ T i ≤ 57) := by
    intro q
    unfold lx_name at h0
    (repeat' split at h0) <;> omega
  refine ⟨⟨by omega, by omega⟩, fun c ops b g cd hb hp => ⟨[10000 + lx_name (T i)], [], 0, ?_, ?_, ?_, ?_⟩⟩
  · refine (lx_run_1 (S' := ((10000 + lx_name (T i)) :: c, ops, o, b, 0, 0, cd)) ?_).trans ?_
    · rw [lx_step]
      rw [if_pos (by decide), if_neg hd, if_pos h0]
    · show _ = some (_, ops, o + 0, _, _, _, _)
      rw [Int.add_zero]; rfl
  · intro p hp; cases hp
  · have hb5 := lx_name_bd (T i)
    refine ⟨fun N cs s => ?_, ?_⟩
    · show lx_ex N ((10000 + lx_name (T i)) :: cs) s 0 = _
      rw [lx_ex_c, if_neg (by decide), if_neg (by omega), if_pos (by omega), show 10000 + lx_name (T i) - 10000 = lx_name (T i) by omega]
    · show (20059 : Int) ∉ [10000 + lx_name (T i)]
      simp only [List.mem_singleton]
      omega
  · intro _ hd
    show lx_step (_, ops, o + 0, b, 0, 0, cd) _ = none
    rcases hd with hd | hd
    · rw [lx_step]
      rw [if_neg (by decide), if_pos hd, if_pos rfl]
    · omega
/-- m digits of a number -/
def lx_Num (T : Nat → Int) (n i m : Nat) (v : Int) : Prop := i + m ≤ n ∧ m ≤ 4 ∧ (0 ≤ v ∧ (m = 0 → v = 0) ∧ (m = 1 → v ≤ 9) ∧ (m = 2 → v ≤ 99) ∧ (m = 3 → v ≤ 999) ∧ v ≤ 9999) ∧ (1 ≤ m → ∀ (c ops : List Int) (o b g cd : Int), lx_run T m i (c, ops, o, b, g, 1, cd) = some (v :: c, ops, o, b, 4 - (m : Int), 0, cd))
theorem lx_Num_0 {T : Nat → Int} {n i : Nat} (h : i ≤ n) : lx_Num T n i 0 0 := ⟨by omega, by omega, by omega, fun q => absurd q (by omega)⟩
theorem lx_Num_s {T : Nat → Int} {n i m : Nat} {v : Int} (h : lx_Num T n i m v) (hm : m < 4) (hn : i + m < n) (hd : 48 ≤ T (i + m) ∧ T (i + m) ≤ 57) : lx_Num T n i (m + 1) (10 * v + T (i + m) - 48) := by
  obtain ⟨h1, h2, h3, h4⟩ := h
  refine ⟨by omega, by omega, ?_, fun _ c ops o b g cd => ?_⟩
  · have : m = 0 ∨ m = 1 ∨ m = 2 ∨ m = 3 := by omega
    omega
  · by_cases hm0 : m = 0
    · subst hm0
      have hv : v = 0 := h3.2.1 rfl
      subst hv
      show (match lx_step _ (T i) with | none => none | some S' => lx_run T 0 (i + 1) S') = _
      have hd : 48 ≤ T i ∧ T i ≤ 57 := hd
      have hs : lx_step (c, ops, o, b, g, 1, cd) (T i) = some ((T i - 48) :: c, ops, o, b, 3, 0, cd) := by
        rw [lx_step]
        rw [if_pos (by decide), if_pos hd]
      rw [hs]
      show some _ = some _
      rw [show 10 * 0 + T (i + 0) - 48 = T i - 48 by simp]; rfl
    · rw [lx_run_add m 1 i _ _ (h4 (by omega) c ops o b g cd)]
      show (match lx_step _ (T (i + m)) with | none => none | some S' => lx_run T 0 (i + m + 1) S') = _
      have hs : lx_step (v :: c, ops, o, b, 4 - (m : Int), 0, cd) (T (i + m)) = some ((v * 10 + (T (i + m) - 48)) :: c, ops, o, b, 4 - (m : Int) - 1, 0, cd) := by
        rw [lx_step]
        rw [if_neg (by decide), if_pos hd, if_neg (by omega)]; rfl
      rw [hs]
      show some _ = some _
      rw [show v * 10 + (T (i + m) - 48) = 10 * v + T (i + m) - 48 by omega, show 4 - (m : Int) - 1 = 4 - ((m + 1 : Nat) : Int) by omega]
theorem lx_Sim_num {T : Nat → Int} {n i m : Nat} {o v : Int} (h : lx_Num T n i m v) (hm : 1 ≤ m) (hs : m = 4 ∨ (i + m < n → ¬ (48 ≤ T (i + m) ∧ T (i + m) ≤ 57))) : lx_Sim T n 6 6 o i (i + m) (fun _ => v) := by
  obtain ⟨h1, h2, h3, h4⟩ := h
  refine ⟨⟨by omega, by omega⟩, fun c ops b g cd hb hp => ⟨[v], [], 4 - (m : Int), ?_, ?_, ?_, ?_⟩⟩
  · rw [show i + m - i = m by omega, h4 hm]
    show _ = some (_, ops, o + 0, _, _, _, _)
    rw [Int.add_zero]; rfl
  · intro p hp; cases hp
  · refine ⟨fun N cs s => ?_, ?_⟩
    · show lx_ex N (v :: cs) s 0 = _
      rw [lx_ex_c, if_neg (by decide), if_pos (by omega)]
    · show (20059 : Int) ∉ [v]
      simp only [List.mem_singleton]
      omega
  · intro hn hd
    show lx_step (_, ops, o + 0, b, 4 - (m : Int), 0, cd) _ = none
    rcases hd with hd | hd
    · rcases hs with hs | hs
      · rw [lx_step]
        rw [if_neg (by decide), if_pos hd, if_pos (by omega)]
      · exact absurd hd (hs hn)
    · omega
