/-! lines of the law's text, and that its reading is one -/
/-- a line (or what stands behind its condition: cd is 1 then) begins at i: G what counts so far, P whether the condition holds -/
def lx_Lin (T : Nat → Int) (n i : Nat) (cd : Int) (G : (Nat → Int) → Option Int) (P : (Nat → Int) → Bool) : Prop :=
  i ≤ n ∧ ∃ (c : List Int) (g : Int), lx_run T i 0 lx_0 = some (c, [], 0, 0, g, 1, cd) ∧ ∀ (N : Nat → Int) (e cs : List Int), (20059 : Int) ∉ e →
    lx_ex N (c.reverse ++ (e ++ 20059 :: cs)) [] 0 = match G N with
      | some v => some v
      | none => if P N = true then lx_ex N (e ++ 20059 :: cs) [] 0 else lx_ex N cs [] 0
def lx_G (G : (Nat → Int) → Option Int) (P : (Nat → Int) → Bool) (F : (Nat → Int) → Int) (N : Nat → Int) : Option Int := match G N with
  | some v => some v
  | none => if P N = true then some (F N) else none
theorem lx_Lin_0 (T : Nat → Int) (n : Nat) : lx_Lin T n 0 0 (fun _ => none) (fun _ => true) :=
  ⟨Nat.zero_le _, [], 0, rfl, fun N e cs _ => by rfl⟩
theorem lx_ex_skip {N : Nat → Int} : ∀ (e cs s : List Int), (20059 : Int) ∉ e → lx_ex N (e ++ 20059 :: cs) s 1 = lx_ex N cs s 0
  | [], cs, s, _ => by
    show lx_ex N (20059 :: cs) s 1 = _
    rw [lx_ex_c, if_pos (by decide), if_neg (by decide)]
  | c :: e, cs, s, h => by
    show lx_ex N (c :: (e ++ 20059 :: cs)) s 1 = _
    rw [lx_ex_c, if_pos (by decide), if_pos (fun q => h (by rw [q]; exact List.mem_cons_self))]
    exact lx_ex_skip e cs s (fun q => h (List.mem_cons_of_mem _ q))
theorem lx_ex_end {N : Nat → Int} {v : Int} {cs s : List Int} : lx_ex N (20059 :: cs) (v :: s) 0 = some v := by
  rw [lx_ex_c, if_neg (by decide), if_neg (by decide), if_neg (by decide), if_neg (by decide), if_pos rfl]; rfl
theorem lx_ex_if {N : Nat → Int} {v : Int} {cs s : List Int} : lx_ex N (20063 :: cs) (v :: s) 0 = lx_ex N cs s (if v = 0 then 1 else 0) := by
  rw [lx_ex_c, if_neg (by decide), if_neg (by decide), if_neg (by decide), if_neg (by decide), if_neg (by decide), if_pos rfl]
section LIN
variable {T : Nat → Int} {n i j : Nat} {cd : Int} {G : (Nat → Int) → Option Int} {P : (Nat → Int) → Bool} {F : (Nat → Int) → Int}
theorem lx_Lin_run (h : lx_Lin T n i cd G P) (hs : lx_Sim T n 1 1 0 i j F) : ∃ (c E d : List Int) (g : Int), lx_run T j 0 lx_0 = some (d ++ c, E, lx_sg E, 0, g, 0, cd) ∧ (∀ p ∈ E, 1 ≤ lx_rank p) ∧ lx_CV (lx_em E d) F ∧
    (j < n → ((48 ≤ T j ∧ T j ≤ 57) ∨ (1 ≤ lx_rank (T j) ∧ lx_rank (T j) ≤ 5)) → lx_step (d ++ c, E, lx_sg E, 0, g, 0, cd) (T j) = none) ∧
    ∀ (N : Nat → Int) (e cs : List Int), (20059 : Int) ∉ e → lx_ex N (c.reverse ++ (e ++ 20059 :: cs)) [] 0 = match G N with
      | some v => some v
      | none => if P N = true then lx_ex N (e ++ 20059 :: cs) [] 0 else lx_ex N cs [] 0 := by
  obtain ⟨hi, c, g, h1, h2⟩ := h
  obtain ⟨d, E, g', a1, a2, a3, a4⟩ := hs.2 c [] 0 g cd (Int.le_refl _) (fun _ => by decide)
  rw [List.append_nil, Int.zero_add] at a1 a4
  refine ⟨c, E, d, g', ?_, a2, a3, a4, h2⟩
  have := lx_run_to (i := 0) (Nat.zero_le _) hs.1.1 (by rw [Nat.sub_zero]; exact h1) a1
  rw [Nat.sub_zero] at this
  exact this
theorem lx_set_nil {E c : List Int} (hE : ∀ p ∈ E, 1 ≤ lx_rank p) : lx_set 1 c E (lx_sg E) = (lx_em E c, [], 0) := by
  have h := lx_set_E (r := 1) (ops := []) c 0 hE (by decide)
  rw [List.append_nil, Int.zero_add] at h
  exact h
theorem lx_ex_line {N : Nat → Int} {c d : List Int} (hF : lx_CV d F) (h2 : ∀ (N : Nat → Int) (e cs : List Int), (20059 : Int) ∉ e → lx_ex N (c.reverse ++ (e ++ 20059 :: cs)) [] 0 = match G N with
      | some v => some v
      | none => if P N = true then lx_ex N (e ++ 20059 :: cs) [] 0 else lx_ex N cs [] 0) (cs : List Int) : lx_ex N ((20059 :: (d ++ c)).reverse ++ cs) [] 0 = match lx_G G P F N with
      | some v => some v
      | none => lx_ex N cs [] 0 := by
  rw [List.reverse_cons, List.reverse_append, List.append_assoc, List.append_assoc]
  show lx_ex N (c.reverse ++ (d.reverse ++ 20059 :: cs)) [] 0 = _
  rw [h2 N _ _ (fun q => hF.2 (List.mem_reverse.mp q))]
  unfold lx_G
  cases G N with
  | some v => rfl
  | none =>
    show (if P N = true then _ else _) = _
    by_cases hp : P N = true
    · rw [if_pos hp, hF.1, lx_ex_end]
      show _ = (match (if P N = true then some (F N) else none) with | some v => some v | none => _)
      rw [if_pos hp]
    · rw [if_neg hp]
      show _ = (match (if P N = true then some (F N) else none) with | some v => some v | none => _)
      rw [if_neg hp]
theorem lx_Lin_next (h : lx_Lin T n i cd G P) (hs : lx_Sim T n 1 1 0 i j F) (hj : j < n) (hx : T j = 59) : lx_Lin T n (j + 1) 0 (lx_G G P F) (fun _ => true) := by
  obtain ⟨c, E, d, g, h1, h2, h3, h4, h5⟩ := lx_Lin_run h hs
  have hst : lx_step (d ++ c, E, lx_sg E, 0, g, 0, cd) (T j) = some (20059 :: (lx_em E d ++ c), [], 0, 0, g, 1, 0) := by
    rw [hx]
    rw [lx_step]
    rw [if_neg (by decide), if_neg (by decide), if_neg (by decide), if_pos (by decide), if_neg (by omega), lx_set_nil h2, lx_em_c]; rfl
  have hr := lx_run_to (i := 0) (Nat.zero_le _) (Nat.le_succ j) (by rw [Nat.sub_zero]; exact h1) (lx_run_1 hst)
  rw [Nat.sub_zero] at hr
  refine ⟨by omega, _, g, hr, fun N e cs he => ?_⟩
  rw [lx_ex_line h3 h5]
  cases lx_G G P F N <;> rfl
theorem lx_Lin_cond (h : lx_Lin T n i 0 G (fun _ => true)) (hs : lx_Sim T n 1 1 0 i j F) (hj : j < n) (hx : T j = 63) : lx_Lin T n (j + 1) 1 G (fun N => decide (F N ≠ 0)) := by
  obtain ⟨c, E, d, g, h1, h2, h3, h4, h5⟩ := lx_Lin_run h hs
  have hst : lx_step (d ++ c, E, lx_sg E, 0, g, 0, 0) (T j) = some (20063 :: (lx_em E d ++ c), [], 0, 0, g, 1, 1) := by
    rw [hx]
    rw [lx_step]
    rw [if_neg (by decide), if_neg (by decide), if_neg (by decide), if_pos (by decide), if_neg (by decide), lx_set_nil h2, lx_em_c]; rfl
  have hr := lx_run_to (i := 0) (Nat.zero_le _) (Nat.le_succ j) (by rw [Nat.sub_zero]; exact h1) (lx_run_1 hst)
  rw [Nat.sub_zero] at hr
  refine ⟨by omega, _, g, hr, fun N e cs he => ?_⟩
  have h6 := h5 N ((20063 :: lx_em E d).reverse ++ e) cs (fun q => by
    rcases List.mem_append.mp q with q | q
    · have q := List.mem_reverse.mp q
      rcases List.mem_cons.mp q with q | q
      · exact absurd q (by decide)
      · exact h3.2 q
    · exact he q)
  rw [show (20063 :: (lx_em E d ++ c)).reverse ++ (e ++ 20059 :: cs) = c.reverse ++ ((20063 :: lx_em E d).reverse ++ e ++ 20059 :: cs) by simp [List.append_assoc], h6]
  cases G N with
  | some v => rfl
  | none =>
    show (if true = true then _ else _) = (if decide (F N ≠ 0) = true then _ else _)
    rw [if_pos rfl, List.reverse_cons, List.append_assoc, List.append_assoc, h3.1]
    show lx_ex N (20063 :: (e ++ 20059 :: cs)) _ 0 = _
    rw [lx_ex_if]
    by_cases hF : F N = 0
    · rw [if_pos hF, if_neg (by simp [hF]), lx_ex_skip e cs _ he]
    · rw [if_neg hF, if_pos (by simp [hF])]
theorem lx_Lin_cmp (h : lx_Lin T n i cd G P) (hs : lx_Sim T n 1 1 0 i j F) (hj : j = n) : ∃ c, lx_cmp T n = some c ∧ ∀ N, lx_ex N c.reverse [] 0 = some ((lx_G G P F N).getD 0) := by
  subst hj
  obtain ⟨c, E, d, g, h1, h2, h3, h4, h5⟩ := lx_Lin_run h hs
  refine ⟨20059 :: (lx_em E d ++ c), ?_, fun N => ?_⟩
  · unfold lx_cmp
    rw [h1]
    show (if (0 : Int) ≠ 0 ∨ (0 : Int) < 0 then none else some (20059 :: (lx_set 1 (d ++ c) E (lx_sg E)).1)) = _
    rw [if_neg (by decide), lx_set_nil h2, lx_em_c]
  · have := lx_ex_line (N := N) h3 h5 []
    rw [List.append_nil] at this
    rw [this]
    cases lx_G G P F N <;> rfl
theorem lx_Lin_bad (h : lx_Lin T n i cd G P) (hs : lx_Sim T n 1 1 0 i j F) (hj : j < n) (h59 : T j ≠ 59) (h63 : T j = 63 → cd ≠ 0) : lx_bad T n j := by
  obtain ⟨c, E, d, g, h1, h2, h3, h4, h5⟩ := lx_Lin_run h hs
  refine ⟨by omega, _, h1, Or.inl ⟨hj, ?_⟩⟩
  by_cases hd : (48 ≤ T j ∧ T j ≤ 57) ∨ (1 ≤ lx_rank (T j) ∧ lx_rank (T j) ≤ 5)
  · exact h4 hj hd
  · by_cases h41 : T j = 41
    · rw [lx_step]
      rw [if_neg (by decide), if_neg (fun q => hd (Or.inl q)), if_pos h41, if_pos rfl]
    · by_cases hq : T j = 59 ∨ T j = 63
      · have h6 : T j = 63 := by omega
        rw [lx_step]
        rw [if_neg (by decide), if_neg (fun q => hd (Or.inl q)), if_neg h41, if_pos hq, if_pos (Or.inr ⟨h6, h63 h6⟩)]
      · have hb6 := lx_rank_bd (T j)
        exact lx_step_no (fun q => hd (Or.inl q)) h41 hq (by omega)
theorem lx_Lin_flt {f : Nat} (h : lx_Lin T n i cd G P) (hf : lx_Flt T n 1 0 i f) : lx_bad T n f := by
  obtain ⟨hi, c, g, h1, h2⟩ := h
  obtain ⟨S, b1, b2⟩ := hf.2 c [] 0 g cd (Int.le_refl _) (fun _ => by decide)
  have := lx_run_to (i := 0) (Nat.zero_le _) hf.1.1 (by rw [Nat.sub_zero]; exact h1) b1
  rw [Nat.sub_zero] at this
  exact ⟨hf.1.2, S, this, b2⟩
end LIN
theorem lx_run_cut {T : Nat → Int} {f g : Nat} {S U : lx_S} (hfg : f < g) (h : lx_run T g 0 S = some U) : ∃ V, lx_run T f 0 S = some V ∧ lx_step V (T f) ≠ none := by
  suffices hh : ∀ (f d i : Nat) (S : lx_S), lx_run T (f + (d + 1)) i S = some U → ∃ V, lx_run T f i S = some V ∧ lx_step V (T (i + f)) ≠ none by
    obtain ⟨V, h1, h2⟩ := hh f (g - f - 1) 0 S (by rw [show f + (g - f - 1 + 1) = g by omega]; exact h)
    rw [Nat.zero_add] at h2
    exact ⟨V, h1, h2⟩
  intro f
  induction f with
  | zero =>
    intro d i S h
    refine ⟨S, rfl, fun q => ?_⟩
    rw [show 0 + (d + 1) = d + 1 by omega] at h
    unfold lx_run at h
    rw [Nat.add_zero] at q
    rw [q] at h
    cases h
  | succ f ih =>
    intro d i S h
    rw [show f + 1 + (d + 1) = (f + (d + 1)) + 1 by omega] at h
    unfold lx_run at h ⊢
    cases hs : lx_step S (T i) with
    | none => rw [hs] at h; cases h
    | some V =>
      rw [hs] at h
      have h : lx_run T (f + (d + 1)) (i + 1) V = some U := h
      obtain ⟨W, h1, h2⟩ := ih d (i + 1) V h
      rw [show i + 1 + f = i + (f + 1) by omega] at h2
      exact ⟨W, h1, h2⟩
theorem lx_bad_un {T : Nat → Int} {n f g : Nat} (hf : lx_bad T n f) (hg : lx_bad T n g) : f = g := by
  obtain ⟨f1, S, f2, f3⟩ := hf
  obtain ⟨g1, U, g2, g3⟩ := hg
  rcases Nat.lt_trichotomy f g with h | h | h
  · obtain ⟨V, h1, h2⟩ := lx_run_cut h g2
    cases f2.symm.trans h1
    rcases f3 with f3 | f3
    · exact absurd f3.2 h2
    · omega
  · exact h
  · obtain ⟨V, h1, h2⟩ := lx_run_cut h f2
    cases g2.symm.trans h1
    rcases g3 with g3 | g3
    · exact absurd g3.2 h2
    · omega
theorem lx_bad_cmp {T : Nat → Int} {n f : Nat} {c : List Int} (hf : lx_bad T n f) (h : lx_cmp T n = some c) : False := by
  obtain ⟨f1, S, f2, f3⟩ := hf
  unfold lx_cmp at h
  cases hr : lx_run T n 0 lx_0 with
  | none => rw [hr] at h; cases h
  | some U =>
    rcases f3 with f3 | f3
    · obtain ⟨V, h1, h2⟩ := lx_run_cut f3.1 hr
      cases f2.symm.trans h1
      exact absurd f3.2 h2
    · obtain ⟨rfl, f4⟩ := f3
      cases f2.symm.trans hr
      rw [f2] at h
      obtain ⟨c1, ops, o, b, g, due, cd⟩ := S
      have h : (if due ≠ 0 ∨ 0 < b then none else some (20059 :: (lx_set 1 c1 ops o).1)) = some c := h
      have f4 : due ≠ 0 ∨ 0 < b := f4
      rw [if_pos f4] at h
      cases h
theorem lx_run_congr {T T' : Nat → Int} : ∀ (k i : Nat) (S : lx_S), (∀ j, i ≤ j → j < i + k → T j = T' j) → lx_run T k i S = lx_run T' k i S
  | 0, _, _, _ => rfl
  | k + 1, i, S, h => by
    unfold lx_run
    rw [h i (Nat.le_refl _) (by omega)]
    cases lx_step S (T' i) with
    | none => rfl
    | some U => exact lx_run_congr k (i + 1) U (fun j h1 h2 => h j (by omega) (by omega))
theorem lx_cmp_congr {T T' : Nat → Int} {n : Nat} (h : ∀ j, j < n → T j = T' j) : lx_cmp T n = lx_cmp T' n := by
  unfold lx_cmp
  rw [lx_run_congr n 0 lx_0 (fun j _ hj => h j (by omega))]
theorem lx_bad_congr {T T' : Nat → Int} {n f : Nat} (h : ∀ j, j < n → T j = T' j) (hb : lx_bad T n f) : lx_bad T' n f := by
  obtain ⟨f1, S, f2, f3⟩ := hb
  refine ⟨f1, S, ?_, ?_⟩
  · rw [← f2]; exact (lx_run_congr f 0 lx_0 (fun j _ hj => h j (by omega))).symm
  · rcases f3 with f3 | f3
    · exact Or.inl ⟨f3.1, by rw [← h f f3.1]; exact f3.2⟩
    · exact Or.inr f3
