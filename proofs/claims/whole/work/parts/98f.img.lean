/-! the coupling: image and back -/
theorem am_cp_k {σ : am_H} {c0 c1 sp dp n c k : Nat} (h : c ≠ c1) : am_cp σ c0 c1 sp dp n c k = σ c k := by
  unfold am_cp; rw [if_neg (fun q => h q.1)]
theorem RDeb_cp {σ τ σ' τ' : am_H} {b f d b' f' d' : Nat} (h1 : ∀ n : Nat, n < 20 → σ' (b' + 1) n = σ (b + 1) n ∧ σ' (b' + 2) n = σ (b + 2) n ∧ σ' (b' + 3) n = σ (b + 3) n ∧ σ' (b' + 4) n = σ (b + 4) n ∧ σ' (b' + 5) n = σ (b + 5) n) (h2 : σ' b' 5 = σ b 5) (h3 : σ' 1 2 = σ 1 2) (h4 : τ' 63 f' = τ 63 f) (h5 : ∀ k : Nat, k < 100 → τ' d' k = τ d k) (h : RDeb σ τ b f d) : RDeb σ' τ' b' f' d' := by
  unfold RDeb
  rw [h2, h3, h4]
  refine ⟨h.1, fun n hn => ?_⟩
  have hb := h.1.2.2
  have q := h1 n (by omega)
  rw [q.1, q.2.1, q.2.2.1, q.2.2.2.1, q.2.2.2.2, h5 _ (by omega), h5 _ (by omega), h5 _ (by omega), h5 _ (by omega), h5 _ (by omega)]
  exact h.2 n hn
theorem RDia_cp {σ τ σ' τ' : am_H} {b bl fa fn a g l o b' bl' fa' fn' a' g' l' o' : Nat} (h1 : ∀ n : Nat, n < 30 → σ' (b' + 1) n = σ (b + 1) n ∧ σ' (b' + 2) n = σ (b + 2) n ∧ σ' (b' + 3) n = σ (b + 3) n) (h1b : ∀ n : Nat, n < 384 → σ' (b' + 4) n = σ (b + 4) n ∧ σ' (b' + 5) n = σ (b + 5) n) (h1c : ∀ n : Nat, n < 8 → σ' (b' + 6) n = σ (b + 6) n) (h2 : σ' b' 6 = σ b 6) (h2b : σ' b' 7 = σ b 7) (h3 : σ' bl' 5 = σ bl 5) (h4 : τ' 63 fa' = τ 63 fa) (h4b : τ' 63 fn' = τ 63 fn) (h5 : ∀ k : Nat, k < 90 → τ' a' k = τ a k) (h6 : ∀ k : Nat, k < 8 → τ' g' k = τ g k) (h7 : ∀ k : Nat, k < 384 → τ' l' k = τ l k ∧ τ' o' k = τ o k) (h : RDia σ τ b bl fa fn a g l o) : RDia σ' τ' b' bl' fa' fn' a' g' l' o' := by
  unfold RDia
  rw [h2, h2b, h3, h4, h4b]
  obtain ⟨k1, k2, k3, k4, k5, k6⟩ := h
  refine ⟨k1, k2, fun k hk => ?_, fun p hp => ?_, fun k hk => ?_, fun k hk hk2 => ?_⟩
  · have q := h1 k (by omega)
    rw [q.1, q.2.1, q.2.2, h5 _ (by omega), h5 _ (by omega), h5 _ (by omega)]; exact k3 k hk
  · rw [h1c p hp, h6 p hp]; exact k4 p hp
  · have q := h1b k (by omega)
    have q2 := h7 k (by omega)
    rw [q.1, q.2, q2.1, q2.2]; exact k5 k hk
  · have q := h1b k (by omega)
    rw [q.1, q.2]; exact k6 k hk hk2
theorem cq_img {σ τ : am_H} (h : RR σ τ) : RR (am_up (dia_copy (led_copy σ 16 29) 22 35) 0 11 1) (md_img τ) := by
  have hs : ∀ c k : Nat, (c < 29 ∨ 41 < c) ∧ (c ≠ 0 ∨ k ≠ 11) → am_up (dia_copy (led_copy σ 16 29) 22 35) 0 11 1 c k = σ c k := fun c k hc => by
    unfold dia_copy led_copy; rw [am_up_k (by omega), am_up_k (by omega), am_up_k (by omega), am_cp_k (by omega), am_cp_k (by omega), am_cp_k (by omega), am_cp_k (by omega), am_cp_k (by omega), am_cp_k (by omega), am_up_k (by omega), am_cp_k (by omega), am_cp_k (by omega), am_cp_k (by omega), am_cp_k (by omega), am_cp_k (by omega)]
  have ht : ∀ c k : Nat, (c < 79 ∨ 83 < c) ∧ (c ≠ 63 ∨ k < 30 ∨ 33 < k) → md_img τ c k = τ c k := fun c k hc => by
    unfold md_img; rw [am_cp_k (by omega), am_cp_k (by omega), am_cp_k (by omega), am_cp_k (by omega), am_cp_k (by omega), am_up_k (by omega), am_up_k (by omega), am_up_k (by omega), am_up_k (by omega)]
  have s1 : ∀ n : Nat, n < 20 → am_up (dia_copy (led_copy σ 16 29) 22 35) 0 11 1 30 n = σ 17 n ∧ am_up (dia_copy (led_copy σ 16 29) 22 35) 0 11 1 31 n = σ 18 n ∧ am_up (dia_copy (led_copy σ 16 29) 22 35) 0 11 1 32 n = σ 19 n ∧ am_up (dia_copy (led_copy σ 16 29) 22 35) 0 11 1 33 n = σ 20 n ∧ am_up (dia_copy (led_copy σ 16 29) 22 35) 0 11 1 34 n = σ 21 n := fun n hn => by
    simp [dia_copy, led_copy, am_up, am_cp, hn]
  have s2 : am_up (dia_copy (led_copy σ 16 29) 22 35) 0 11 1 29 5 = σ 16 5 ∧ am_up (dia_copy (led_copy σ 16 29) 22 35) 0 11 1 35 6 = σ 22 6 ∧ am_up (dia_copy (led_copy σ 16 29) 22 35) 0 11 1 35 7 = σ 22 7 ∧ am_up (dia_copy (led_copy σ 16 29) 22 35) 0 11 1 0 11 = 1 := by
    simp [dia_copy, led_copy, am_up, am_cp]
  have s3 : ∀ n : Nat, n < 30 → am_up (dia_copy (led_copy σ 16 29) 22 35) 0 11 1 36 n = σ 23 n ∧ am_up (dia_copy (led_copy σ 16 29) 22 35) 0 11 1 37 n = σ 24 n ∧ am_up (dia_copy (led_copy σ 16 29) 22 35) 0 11 1 38 n = σ 25 n := fun n hn => by
    simp [dia_copy, led_copy, am_up, am_cp, hn]
  have s4 : ∀ n : Nat, n < 384 → am_up (dia_copy (led_copy σ 16 29) 22 35) 0 11 1 39 n = σ 26 n ∧ am_up (dia_copy (led_copy σ 16 29) 22 35) 0 11 1 40 n = σ 27 n := fun n hn => by
    simp [dia_copy, led_copy, am_up, am_cp, hn]
  have s5 : ∀ n : Nat, n < 8 → am_up (dia_copy (led_copy σ 16 29) 22 35) 0 11 1 41 n = σ 28 n := fun n hn => by
    simp [dia_copy, led_copy, am_up, am_cp, hn]
  have t1 : md_img τ 63 30 = 1 ∧ md_img τ 63 31 = τ 63 7 ∧ md_img τ 63 32 = τ 63 20 ∧ md_img τ 63 33 = τ 63 9 := by
    simp [md_img, am_up, am_cp]
  have t2 : ∀ k : Nat, k < 100 → md_img τ 79 k = τ 68 k := fun k hk => by simp [md_img, am_up, am_cp, hk]
  have t3 : ∀ k : Nat, k < 90 → md_img τ 80 k = τ 72 k := fun k hk => by simp [md_img, am_up, am_cp, hk]
  have t4 : ∀ k : Nat, k < 8 → md_img τ 81 k = τ 73 k := fun k hk => by simp [md_img, am_up, am_cp, hk]
  have t5 : ∀ k : Nat, k < 384 → md_img τ 82 k = τ 74 k ∧ md_img τ 83 k = τ 75 k := fun k hk => by simp [md_img, am_up, am_cp, hk]
  generalize am_up (dia_copy (led_copy σ 16 29) 22 35) 0 11 1 = σ' at *
  generalize md_img τ = τ' at *
  obtain ⟨g1, g2, g3, g4, g5, g6, g7, g8, g9, g10⟩ := h
  refine ⟨RSet_of (fun c k hc => hs c k (by omega)) (fun c k hc => ht c k (by omega)) g1,
    RChg_of (fun c k hc => hs c k (by omega)) (fun c k hc => ht c k (by omega)) g2,
    RLaw_of (fun c k hc => hs c k (by omega)) (fun c k hc => ht c k (by omega)) g3,
    RDeb_of (fun c k hc => hs c k (by omega)) (fun c k hc => ht c k (by omega)) g4,
    RDia_of (fun c k hc => hs c k (by omega)) (fun c k hc => ht c k (by omega)) g5,
    fun j hj => ?_,
    ⟨⟨t1.1.trans s2.2.2.2.symm, Or.inr s2.2.2.2⟩, fun _ => ⟨?_, ?_⟩⟩,
    RBod_of (fun c k hc => hs c k (by omega)) (fun c k hc => ht c k (by omega)) g8,
    RShe_of (fun c k hc => hs c k (by omega)) (fun c k hc => ht c k (by omega)) g9,
    ⟨(hs 44 0 (by omega)).trans g10.1, (hs 45 0 (by omega)).trans g10.2⟩⟩
  · rw [hs 25 j (by omega), (s3 j hj).2.2]; exact ⟨(g6 j hj).1, (g6 j hj).1⟩
  · exact RDeb_cp s1 s2.1 (hs 1 2 (by omega)) t1.2.1 t2 g4
  · exact RDia_cp s3 s4 s5 s2.2.1 s2.2.2.1 s2.1 t1.2.2.1 t1.2.2.2 t3 t4 t5 g5
theorem cq_bck {σ τ : am_H} (h : RR σ τ) (hi : σ 0 11 = 1) : RR (dia_copy (led_copy σ 29 16) 35 22) (md_bck τ) := by
  have hs : ∀ c k : Nat, (c < 16 ∨ 28 < c) → dia_copy (led_copy σ 29 16) 35 22 c k = σ c k := fun c k hc => by
    unfold dia_copy led_copy; rw [am_up_k (by omega), am_up_k (by omega), am_cp_k (by omega), am_cp_k (by omega), am_cp_k (by omega), am_cp_k (by omega), am_cp_k (by omega), am_cp_k (by omega), am_up_k (by omega), am_cp_k (by omega), am_cp_k (by omega), am_cp_k (by omega), am_cp_k (by omega), am_cp_k (by omega)]
  have ht : ∀ c k : Nat, c ≠ 68 ∧ c ≠ 72 ∧ c ≠ 73 ∧ c ≠ 74 ∧ c ≠ 75 ∧ (c ≠ 63 ∨ (k ≠ 7 ∧ k ≠ 20 ∧ k ≠ 9)) → md_bck τ c k = τ c k := fun c k hc => by
    unfold md_bck; rw [am_cp_k (by omega), am_cp_k (by omega), am_cp_k (by omega), am_cp_k (by omega), am_cp_k (by omega), am_up_k (by omega), am_up_k (by omega), am_up_k (by omega)]
  have s1 : ∀ n : Nat, n < 20 → dia_copy (led_copy σ 29 16) 35 22 17 n = σ 30 n ∧ dia_copy (led_copy σ 29 16) 35 22 18 n = σ 31 n ∧ dia_copy (led_copy σ 29 16) 35 22 19 n = σ 32 n ∧ dia_copy (led_copy σ 29 16) 35 22 20 n = σ 33 n ∧ dia_copy (led_copy σ 29 16) 35 22 21 n = σ 34 n := fun n hn => by
    simp [dia_copy, led_copy, am_up, am_cp, hn]
  have s2 : dia_copy (led_copy σ 29 16) 35 22 16 5 = σ 29 5 ∧ dia_copy (led_copy σ 29 16) 35 22 22 6 = σ 35 6 ∧ dia_copy (led_copy σ 29 16) 35 22 22 7 = σ 35 7 := by
    simp [dia_copy, led_copy, am_up, am_cp]
  have s3 : ∀ n : Nat, n < 30 → dia_copy (led_copy σ 29 16) 35 22 23 n = σ 36 n ∧ dia_copy (led_copy σ 29 16) 35 22 24 n = σ 37 n ∧ dia_copy (led_copy σ 29 16) 35 22 25 n = σ 38 n := fun n hn => by
    simp [dia_copy, led_copy, am_up, am_cp, hn]
  have s4 : ∀ n : Nat, n < 384 → dia_copy (led_copy σ 29 16) 35 22 26 n = σ 39 n ∧ dia_copy (led_copy σ 29 16) 35 22 27 n = σ 40 n := fun n hn => by
    simp [dia_copy, led_copy, am_up, am_cp, hn]
  have s5 : ∀ n : Nat, n < 8 → dia_copy (led_copy σ 29 16) 35 22 28 n = σ 41 n := fun n hn => by
    simp [dia_copy, led_copy, am_up, am_cp, hn]
  have t1 : md_bck τ 63 7 = τ 63 31 ∧ md_bck τ 63 20 = τ 63 32 ∧ md_bck τ 63 9 = τ 63 33 := by
    simp [md_bck, am_up, am_cp]
  have t2 : ∀ k : Nat, k < 100 → md_bck τ 68 k = τ 79 k := fun k hk => by simp [md_bck, am_up, am_cp, hk]
  have t3 : ∀ k : Nat, k < 90 → md_bck τ 72 k = τ 80 k := fun k hk => by simp [md_bck, am_up, am_cp, hk]
  have t4 : ∀ k : Nat, k < 8 → md_bck τ 73 k = τ 81 k := fun k hk => by simp [md_bck, am_up, am_cp, hk]
  have t5 : ∀ k : Nat, k < 384 → md_bck τ 74 k = τ 82 k ∧ md_bck τ 75 k = τ 83 k := fun k hk => by simp [md_bck, am_up, am_cp, hk]
  generalize dia_copy (led_copy σ 29 16) 35 22 = σ' at *
  generalize md_bck τ = τ' at *
  obtain ⟨g1, g2, g3, g4, g5, g6, g7, g8, g9, g10⟩ := h
  have gi := g7.2 hi
  refine ⟨RSet_of (fun c k hc => hs c k (by omega)) (fun c k hc => ht c k (by omega)) g1,
    RChg_of (fun c k hc => hs c k (by omega)) (fun c k hc => ht c k (by omega)) g2,
    RLaw_of (fun c k hc => hs c k (by omega)) (fun c k hc => ht c k (by omega)) g3,
    RDeb_cp s1 s2.1 (hs 1 2 (by omega)) t1.1 t2 gi.1,
    RDia_cp s3 s4 s5 s2.2.1 s2.2.2 s2.1 t1.2.1 t1.2.2 t3 t4 t5 gi.2,
    fun j hj => ?_,
    RImg_of (fun c k hc => hs c k (by omega)) (fun c k hc => ht c k (by omega)) g7,
    RBod_of (fun c k hc => hs c k (by omega)) (fun c k hc => ht c k (by omega)) g8,
    RShe_of (fun c k hc => hs c k (by omega)) (fun c k hc => ht c k (by omega)) g9,
    ⟨(hs 44 0 (by omega)).trans g10.1, (hs 45 0 (by omega)).trans g10.2⟩⟩
  rw [hs 38 j (by omega), (s3 j hj).2.2]; exact ⟨(g6 j hj).2, (g6 j hj).2⟩
