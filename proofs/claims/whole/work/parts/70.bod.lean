/-! acts: what they note -/
def bn (l : List Int) (σ : am_H) : am_H := l.foldl bd_note σ
theorem bd_note_at {σ : am_H} {n : Int} {c k : Nat} (h : c ≠ 48) (h2 : c ≠ 46 ∨ k ≠ 3) : bd_note σ n c k = σ c k := by
  unfold bd_note
  rw [am_up_k (by omega)]
  split
  · exact am_up_k (by omega)
  · rfl
theorem bd_note_3 {σ : am_H} {n : Int} : bd_note σ n 46 3 = σ 46 3 + 1 := by
  unfold bd_note
  rw [am_up_eq]
theorem bn_at : ∀ (l : List Int) {σ : am_H} {c k : Nat} (_ : c ≠ 48) (_ : c ≠ 46 ∨ k ≠ 3), bn l σ c k = σ c k
  | [], _, _, _, _, _ => rfl
  | x :: l, σ, c, k, h, h2 => by
    show bn l (bd_note σ x) c k = _
    rw [bn_at l h h2, bd_note_at h h2]
theorem bn_3 : ∀ (l : List Int) {σ : am_H}, bn l σ 46 3 = σ 46 3 + (l.length : Int)
  | [], σ => by show σ 46 3 = σ 46 3 + 0; omega
  | x :: l, σ => by
    show bn l (bd_note σ x) 46 3 = σ 46 3 + ((l.length + 1 : Nat) : Int)
    rw [bn_3 l, bd_note_3]; omega
def md_note (σ : am_H) (n : Int) : am_H := am_up (if σ 63 42 < 24 then am_up σ 85 (σ 63 42).toNat n else σ) 63 42 (σ 63 42 + 1)
def mn (l : List Int) (σ : am_H) : am_H := l.foldl md_note σ
theorem md_note_at {σ : am_H} {n : Int} {c k : Nat} (h : c ≠ 85) (h2 : c ≠ 63 ∨ k ≠ 42) : md_note σ n c k = σ c k := by
  unfold md_note
  rw [am_up_k (by omega)]
  split
  · exact am_up_k (by omega)
  · rfl
theorem md_note_3 {σ : am_H} {n : Int} : md_note σ n 63 42 = σ 63 42 + 1 := by
  unfold md_note
  rw [am_up_eq]
theorem mn_at : ∀ (l : List Int) {σ : am_H} {c k : Nat} (_ : c ≠ 85) (_ : c ≠ 63 ∨ k ≠ 42), mn l σ c k = σ c k
  | [], _, _, _, _, _ => rfl
  | x :: l, σ, c, k, h, h2 => by
    show mn l (md_note σ x) c k = _
    rw [mn_at l h h2, md_note_at h h2]
theorem mn_3 : ∀ (l : List Int) {σ : am_H}, mn l σ 63 42 = σ 63 42 + (l.length : Int)
  | [], σ => by show σ 63 42 = σ 63 42 + 0; omega
  | x :: l, σ => by
    show mn l (md_note σ x) 63 42 = σ 63 42 + ((l.length + 1 : Nat) : Int)
    rw [mn_3 l, md_note_3]; omega
theorem bn_app (l l' : List Int) (σ : am_H) : bn l' (bn l σ) = bn (l ++ l') σ := by
  unfold bn
  rw [List.foldl_append]
theorem mn_app (l l' : List Int) (σ : am_H) : mn l' (mn l σ) = mn (l ++ l') σ := by
  unfold mn
  rw [List.foldl_append]
/-- an act's method of a body of kind K, with what stands ahead of x and the depth: it notes l, it answers v of x and the body's number -/
def bC (y : MethodName) (b : ByteArray) (maxL d h : Nat) (pre : List am_V) (K : Int) (l : List Int) (v : Int → Int → Int) : Prop := l.length ≤ 100 ∧ ∀ (x dp : Int) (ac : Nat) (σ : am_H), 0 ≤ dp → dp + (h : Int) ≤ 40 → σ 46 4 = (ac : Int) → ac < 50 → σ 47 ac = K → (0 ≤ σ 46 3 ∧ σ 46 3 + (l.length : Int) ≤ 1000) → am_Mi y b maxL (some .int) d 0 0 (vr 46 :: (pre ++ [vi x, vi dp])) SH σ (fun r sh' σ' => SH = sh' ∧ bn l σ = σ' ∧ r = v x (ac : Int))
abbrev bCf (k a K : Int) (d h : Nat) (l : List Int) (v : Int → Int → Int) : Prop := bC yX0_from cX0_from 7 d h [vi k, vi a] K l v
abbrev bCo (a K : Int) (d h : Nat) (l : List Int) (v : Int → Int → Int) : Prop := bC yX0_own cX0_own 4 d h [vi a] K l v
abbrev bCr (n K : Int) (d h : Nat) (l : List Int) (v : Int → Int → Int) : Prop := bC yX0_runOfDay cX0_runOfDay 4 d h [vi n] K l v
abbrev bCu (n k K : Int) (d h : Nat) (l : List Int) (v : Int → Int → Int) : Prop := bC yX0_runUnderDay cX0_runUnderDay 5 d h [vi n, vi k] K l v
