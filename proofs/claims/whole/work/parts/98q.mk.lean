/-! objects in the making: a block, the object first, its arrays behind it -/
theorem ap_0 {pre U : List am_S} {a : am_S} {N : Nat} (hN : pre.length = N) : (pre ++ (a :: U))[N]? = some a := by
  subst hN
  rw [List.getElem?_append_right (Nat.le_refl _), Nat.sub_self]; rfl
theorem ap_j {pre U : List am_S} {a : am_S} {N : Nat} (hN : pre.length = N) (j : Nat) : (pre ++ (a :: U))[N + (j + 1)]? = U[j]? := by
  subst hN
  rw [List.getElem?_append_right (by omega), show pre.length + (j + 1) - pre.length = j + 1 by omega]; rfl
theorem ap_set {pre U : List am_S} {a b : am_S} {N : Nat} (hN : pre.length = N) : (pre ++ (a :: U)).set N b = pre ++ (b :: U) := by
  subst hN
  rw [List.set_append_right _ _ (Nat.le_refl _), Nat.sub_self]; rfl
theorem ap_len {pre U : List am_S} {a : am_S} {N : Nat} (hN : pre.length = N) : (pre ++ (a :: U)).length = N + 1 + U.length := by
  rw [List.length_append, hN, List.length_cons]; omega
theorem ap_sl (pre l : List am_S) : am_sl (pre ++ l) = am_sl pre + am_sl l := by
  unfold am_sl
  rw [List.map_append, List.sum_append]
theorem nw_id {σ : am_H} {c : Nat} (h : ∀ k, σ c k = 0) : am_nw σ c = σ := by
  funext c' k
  unfold am_nw
  by_cases e : c' = c
  · rw [if_pos e, e, h k]
  · rw [if_neg e]
def mk_fill (σ : am_H) (d : Nat) (v : Int) (m : Nat) : am_H := fun c k => if c = d ∧ k < m then v else σ c k
theorem mk_fill_0 (σ : am_H) (d : Nat) (v : Int) : mk_fill σ d v 0 = σ := by
  funext c k; unfold mk_fill; rw [if_neg (by omega)]
theorem mk_fill_s (σ : am_H) (d : Nat) (v : Int) (m : Nat) : am_up (mk_fill σ d v m) d m v = mk_fill σ d v (m + 1) := by
  funext c k
  unfold am_up mk_fill
  by_cases h1 : c = d ∧ k = m
  · rw [if_pos h1, if_pos (by omega)]
  · rw [if_neg h1]
    by_cases h2 : c = d ∧ k < m
    · rw [if_pos h2, if_pos (by omega)]
    · rw [if_neg h2, if_neg (by omega)]
theorem mk_fill_k {σ : am_H} {d m c k : Nat} {v : Int} (h : c ≠ d) : mk_fill σ d v m c k = σ c k := by
  unfold mk_fill; rw [if_neg (fun q => h q.1)]
def mk_two (σ : am_H) (d1 d2 : Nat) (v : Int) (m : Nat) : am_H := fun c k => if (c = d1 ∨ c = d2) ∧ k < m then v else σ c k
theorem mk_two_0 (σ : am_H) (d1 d2 : Nat) (v : Int) : mk_two σ d1 d2 v 0 = σ := by
  funext c k; unfold mk_two; rw [if_neg (by omega)]
theorem mk_two_s (σ : am_H) (d1 d2 : Nat) (v : Int) (m : Nat) : am_up (am_up (mk_two σ d1 d2 v m) d1 m v) d2 m v = mk_two σ d1 d2 v (m + 1) := by
  funext c k
  unfold am_up mk_two
  by_cases h1 : c = d2 ∧ k = m
  · rw [if_pos h1, if_pos (by omega)]
  · rw [if_neg h1]
    by_cases h3 : c = d1 ∧ k = m
    · rw [if_pos h3, if_pos (by omega)]
    · rw [if_neg h3]
      by_cases h2 : (c = d1 ∨ c = d2) ∧ k < m
      · rw [if_pos h2, if_pos (by omega)]
      · rw [if_neg h2, if_neg (by omega)]
theorem mk_two_k {σ : am_H} {d1 d2 m c k : Nat} {v : Int} (h : c ≠ d1 ∧ c ≠ d2) : mk_two σ d1 d2 v m c k = σ c k := by
  unfold mk_two; rw [if_neg (by omega)]
section MK
variable {K : am_K} {cc : ByteArray} {own : String} {pc : Nat} {L : List (Option am_V)} {st : List am_V} {σ : am_H}
theorem mk_newI (X : am_X K cc own) {dd mc S : Nat} {pre U U' : List am_S} {a : am_S} {N M n : Nat} (hY : am_Y K dd (N + 1 + mc) (am_sl pre + S)) (hN : pre.length = N) (hM : N + 1 + U.length = M) (hU : U ++ [(0, n, [])] = U') (hz : ∀ k, σ M k = 0) (hNN : U.length + 1 ≤ mc) (hSS : am_sl (a :: U) + n ≤ S) (hl1 : M < 1000) (hn : n < 60000) (hd : decode cc pc = .ok (.newarray .int, 2)) (k : am_G K (pc + 2) L (vr M :: st) (pre ++ (a :: U')) σ) : am_G K pc L (vi (Int.ofNat n) :: st) (pre ++ (a :: U)) σ := by
  have hl := ap_len (a := a) (U := U) hN
  have hM' : (pre ++ (a :: U)).length = M := by rw [hl, hM]
  refine am_newI X hY (by rw [hl]; omega) (by rw [ap_sl]; omega) (by rw [hM']; exact hl1) hn hd ?_
  rw [hM', nw_id hz, List.append_assoc, List.cons_append, hU]
  exact k
theorem mk_newL (X : am_X K cc own) {dd mc S : Nat} {pre U U' : List am_S} {a : am_S} {N M n : Nat} (hY : am_Y K dd (N + 1 + mc) (am_sl pre + S)) (hN : pre.length = N) (hM : N + 1 + U.length = M) (hU : U ++ [(1, n, [])] = U') (hz : ∀ k, σ M k = 0) (hNN : U.length + 1 ≤ mc) (hSS : am_sl (a :: U) + n ≤ S) (hl1 : M < 1000) (hn : n < 60000) (hd : decode cc pc = .ok (.newarray .long, 2)) (k : am_G K (pc + 2) L (vr M :: st) (pre ++ (a :: U')) σ) : am_G K pc L (vi (Int.ofNat n) :: st) (pre ++ (a :: U)) σ := by
  have hl := ap_len (a := a) (U := U) hN
  have hM' : (pre ++ (a :: U)).length = M := by rw [hl, hM]
  refine am_newL X hY (by rw [hl]; omega) (by rw [ap_sl]; omega) (by rw [hM']; exact hl1) hn hd ?_
  rw [hM', nw_id hz, List.append_assoc, List.cons_append, hU]
  exact k
theorem mk_newZ (X : am_X K cc own) {dd mc S : Nat} {pre U U' : List am_S} {a : am_S} {N M n : Nat} (hY : am_Y K dd (N + 1 + mc) (am_sl pre + S)) (hN : pre.length = N) (hM : N + 1 + U.length = M) (hU : U ++ [(2, n, [])] = U') (hz : ∀ k, σ M k = 0) (hNN : U.length + 1 ≤ mc) (hSS : am_sl (a :: U) + n ≤ S) (hl1 : M < 1000) (hn : n < 60000) (hd : decode cc pc = .ok (.newarray .boolean, 2)) (k : am_G K (pc + 2) L (vr M :: st) (pre ++ (a :: U')) σ) : am_G K pc L (vi (Int.ofNat n) :: st) (pre ++ (a :: U)) σ := by
  have hl := ap_len (a := a) (U := U) hN
  have hM' : (pre ++ (a :: U)).length = M := by rw [hl, hM]
  refine am_newZ X hY (by rw [hl]; omega) (by rw [ap_sl]; omega) (by rw [hM']; exact hl1) hn hd ?_
  rw [hM', nw_id hz, List.append_assoc, List.cons_append, hU]
  exact k
theorem mk_newQ (X : am_X K cc own) {i dd mc S : Nat} {pre U U' : List am_S} {a : am_S} {N M n : Nat} (hcl : Cond.classLink own i "OwedDays$Shelf" ∈ am_B) (hY : am_Y K dd (N + 1 + mc) (am_sl pre + S)) (hN : pre.length = N) (hM : N + 1 + U.length = M) (hU : U ++ [(3, n, List.replicate n none)] = U') (hz : ∀ k, σ M k = 0) (hNN : U.length + 1 ≤ mc) (hSS : am_sl (a :: U) + n ≤ S) (hl1 : M < 1000) (hn : n < 60000) (hd : decode cc pc = .ok (.anewarray i, 3)) (k : am_G K (pc + 3) L (vr M :: st) (pre ++ (a :: U')) σ) : am_G K pc L (vi (Int.ofNat n) :: st) (pre ++ (a :: U)) σ := by
  have hl := ap_len (a := a) (U := U) hN
  have hM' : (pre ++ (a :: U)).length = M := by rw [hl, hM]
  refine am_newQ X hY hcl (by rw [hl]; omega) (by rw [ap_sl]; omega) (by rw [hM']; exact hl1) hn hd ?_
  rw [hM', nw_id hz, List.append_assoc, List.cons_append, hU]
  exact k
theorem mk_newO (X : am_X K cc own) {i ci dd mc S : Nat} {C : String} {T : u_T} {pre U U' : List am_S} {a : am_S} {N M n : Nat} (hc : am_cl[ci]? = some (C, T, n)) (hcl : Cond.classLink own i C ∈ am_B) (hin : Cond.instantiable C n ∈ am_B) (hini : Cond.initialized C ∈ am_B) (hY : am_Y K dd (N + 1 + mc) (am_sl pre + S)) (hN : pre.length = N) (hM : N + 1 + U.length = M) (hU : U ++ [(10 + ci, n, List.replicate n none)] = U') (hz : ∀ k, σ M k = 0) (hNN : U.length + 1 ≤ mc) (hSS : am_sl (a :: U) + n ≤ S) (hl1 : M < 1000) (hd : decode cc pc = .ok (.new i, 3)) (k : am_G K (pc + 3) L (vr M :: st) (pre ++ (a :: U')) σ) : am_G K pc L st (pre ++ (a :: U)) σ := by
  have hl := ap_len (a := a) (U := U) hN
  have hM' : (pre ++ (a :: U)).length = M := by rw [hl, hM]
  refine am_new X hY hc hcl hin hini (by rw [hl]; omega) (by rw [ap_sl]; omega) (by rw [hM']; exact hl1) hd ?_
  rw [hM', nw_id hz, List.append_assoc, List.cons_append, hU]
  exact k
/-- a reference into a field of the object itself -/
theorem mk_putr (X : am_X K cc own) (hI : am_init K) {i ci k0 n c1 : Nat} {pre U : List am_S} {rs rs' : List (Option Nat)} {N : Nat} (hN : pre.length = N) (hf : am_lf own i ci k0) (hdo : ((am_cl.getD ci (RX0, TX0, 5)).2.1 k0).1 = own) (ht : am_isref (am_ty ci k0) = true) (hfn : am_fin ci k0 = true) (hn : k0 < n) (hrl : rs.length = n) (hc1 : c1 < N + 1 + U.length) (hrs : rs.set k0 (some c1) = rs') (hd : decode cc pc = .ok (.putfield i, 3)) (k : am_G K (pc + 3) L st (pre ++ ((10 + ci, n, rs') :: U)) σ) : am_G K pc L (vr c1 :: vr N :: st) (pre ++ ((10 + ci, n, rs) :: U)) σ :=
  am_putr X hI N hf hdo ht hfn (ap_0 hN) hn hrl (by rw [ap_len hN]; exact hc1) (by rw [ap_set hN, hrs]) hd k
end MK
