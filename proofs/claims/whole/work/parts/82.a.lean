
theorem rg_ls_or {x y : Nat} (h : x = 0 ∨ y = 0) : x ||| y = rg_ls x y := by
  unfold rg_ls
  rcases h with h | h
  · rw [h, Nat.zero_or, if_pos rfl]
  · rw [h, Nat.or_zero]; by_cases e : x = 0
    · rw [if_pos e, e]
    · rw [if_neg e, if_pos rfl]
def c_R (σ : am_H) (l : List Nat) : Prop := rg_R (c_o σ) (c_w σ) (σ 20) (fun k => 0 < σ 19 k) (σ 16 5).toNat true l
def CIn (σ : am_H) (m f x : Nat) : Prop := rg_mp x (fun l => (∃ j es, l = j :: es ∧ j < f) ∧ l.length = m + 1 ∧ c_R σ l) rg_V0
def COu (σ : am_H) (z x : Nat) : Prop := (x = 0 ∧ ∀ l, c_R σ l → 2 ≤ l.length → z ≤ l.length) ∨ (∃ l, c_R σ l ∧ 2 ≤ l.length ∧ l.length ≤ 5 ∧ x = rg_V0 l ∧ 0 < x ∧ ∀ l', c_R σ l' → 2 ≤ l'.length → l.length < l'.length ∨ (l'.length = l.length ∧ x ≤ rg_V0 l'))
def c_rg (σ : am_H) (r : Int) : Prop := ∃ x : Nat, r = (x : Int) ∧ x < 1048576 ∧ COu σ 6 x
theorem rg_V0_pos {o w : Nat → Nat} {kd : Nat → Int} {op : Nat → Prop} {n : Nat} {b : Bool} {l : List Nat} (h : rg_R o w kd op n b l) : 0 < rg_V0 l := by
  cases l with
  | nil => exact h.elim
  | cons a es => exact Nat.lt_of_lt_of_le (Nat.two_pow_pos a) (rg_V_ge es _)
theorem CIn_0 {σ : am_H} {m : Nat} : CIn σ m 0 0 := Or.inl ⟨rfl, fun es q => by obtain ⟨⟨j, es', -, hj⟩, -⟩ := q; exact absurd hj (Nat.not_lt_zero _)⟩
theorem CIn_no {σ : am_H} {m f x : Nat} (h : CIn σ m f x) (hn : ¬ 0 < σ 19 f) : CIn σ m (f + 1) x := by
  refine rg_mp_congr h (fun es => ⟨?_, ?_⟩)
  · rintro ⟨⟨j, es', rfl, hj⟩, q, q2⟩
    refine ⟨⟨j, es', rfl, ?_⟩, q, q2⟩
    by_cases e : j = f
    · exact absurd (e ▸ q2.1.2) hn
    · omega
  · rintro ⟨⟨j, es', rfl, hj⟩, q⟩
    exact ⟨⟨j, es', rfl, by omega⟩, q⟩
theorem CIn_yes {σ : am_H} {m f x : Nat} {r : Int} (h : CIn σ m f x) (hf : f < (σ 16 5).toNat) (h3 : 0 < σ 19 f) (hx : CFo σ m f f (2 ^ f) (2 ^ c_o σ f) r) : CIn σ m (f + 1) (rg_ls x r.toNat) := by
  obtain ⟨y, rfl, -, hx⟩ := hx
  refine rg_mp_or (e := fun es => f :: es) (fun es q => rg_V0_pos q.2.2) h hx (fun es => ⟨?_, ?_⟩) (fun es' => rfl)
  · rintro ⟨⟨j, es', rfl, hj⟩, q, q2⟩
    by_cases e : j = f
    · subst e
      exact Or.inr ⟨es', rfl, by simpa using q, q2.2⟩
    · exact Or.inl ⟨⟨j, es', rfl, by omega⟩, q, q2⟩
  · rintro (⟨⟨j, es', rfl, hj⟩, q⟩ | ⟨es', rfl, q, q2⟩)
    · exact ⟨⟨j, es', rfl, by omega⟩, q⟩
    · exact ⟨⟨f, es', rfl, Nat.lt_succ_self f⟩, by simp [q], ⟨hf, h3⟩, q2⟩
theorem COu_2 {σ : am_H} : COu σ 2 0 := Or.inl ⟨rfl, fun _ _ h => h⟩
theorem COu_s {σ : am_H} {z m x y : Nat} (h : COu σ z x) (hx : x = 0) (hm : m + 1 = z) (hz : 2 ≤ z ∧ z ≤ 5) (hi : CIn σ m (σ 16 5).toNat y) : COu σ (z + 1) y := by
  rcases h with ⟨-, h⟩ | ⟨l, -, -, -, -, h, -⟩
  · have hh : ∀ l : List Nat, c_R σ l → ∃ j es, l = j :: es ∧ j < (σ 16 5).toNat := fun l hl => by
      cases l with
      | nil => exact hl.elim
      | cons a es => exact ⟨a, es, rfl, hl.1.1⟩
    rcases hi with ⟨h1, h2⟩ | ⟨l, h1, h2, h3⟩
    · refine Or.inl ⟨h1, fun l hl h2l => ?_⟩
      have := h l hl h2l
      by_cases e : l.length = z
      · exact absurd ⟨hh l hl, by omega, hl⟩ (h2 l)
      · omega
    · refine Or.inr ⟨l, h1.2.2, by have := h1.2.1; omega, by have := h1.2.1; omega, h2, by rw [h2]; exact rg_V0_pos h1.2.2, fun l' hl' h2' => ?_⟩
      have := h l' hl' h2'
      have h1l := h1.2.1
      by_cases e : l'.length = z
      · exact Or.inr ⟨by omega, by rw [h2]; exact h3 l' ⟨hh l' hl', by omega, hl'⟩⟩
      · exact Or.inl (by omega)
  · omega
theorem c_rg_of {σ : am_H} {z x : Nat} {r : Int} (h : COu σ z x) (hr : r = (x : Int)) (hx : x < 1048576) (he : 5 < z ∨ x ≠ 0) (hz : z ≤ 6) : c_rg σ r := by
  refine ⟨x, hr, hx, ?_⟩
  rcases h with ⟨h1, h⟩ | h
  · exact Or.inl ⟨h1, fun l hl h2 => by have := h l hl h2; omega⟩
  · exact Or.inr h

set_option maxHeartbeats 4000000 in
set_option maxRecDepth 100000 in
theorem m_X5_lesser (σ : am_H) (a b : Int) (x y : Nat) (hx : a = (x : Int)) (hy : b = (y : Int)) (hxl : x < 1048576) (hyl : y < 1048576) : am_Mi yX5_lesser cX5_lesser 2 (some .int) 1 0 0 [vi a, vi b] SH σ (fun r sh' σ' => SH = sh' ∧ σ = σ' ∧ r = ((rg_ls x y : Nat) : Int)) := by
  refine am_Mi_of (by decide +kernel) (Nat.le_of_ble_eq_true rfl) (fun K X hY hI hret => ?_)
  show am_G K 0 [some (vi a), some (vi b)] [] SH σ
  refine am_iload_n (x := a) X (by rfl) dX5_lesser_0 ?_
  refine am_if_eq (tgt := 8) X dX5_lesser_1 (by decide) (fun h1 => ?_) (fun h1 => ?_)
  · skip
    refine am_iload_n (x := a) X (by rfl) dX5_lesser_8 ?_
    refine am_iload_n (x := b) X (by rfl) dX5_lesser_9 ?_
    refine am_ior X dX5_lesser_10 ?_
    refine am_goto (tgt := 19) X dX5_lesser_11 (by decide) ?_
    exact hret _ _ _ _ _ dX5_lesser_19 rfl rfl (⟨rfl, rfl, by rw [hx, hy, rg_or _ _ (by omega) (by omega), rg_ls_or (by omega)]⟩)
  · skip
    refine am_iload_n (x := b) X (by rfl) dX5_lesser_4 ?_
    refine am_if_ne (tgt := 14) X dX5_lesser_5 (by decide) (fun h5 => ?_) (fun h5 => ?_)
    · skip
      refine am_iload_n (x := a) X (by rfl) dX5_lesser_14 ?_
      refine am_iload_n (x := b) X (by rfl) dX5_lesser_15 ?_
      refine am_mmin X hY lk_X5_39 (by decide) (Nat.le_add_right _ _) (Nat.le_add_right _ _) (Nat.le_of_ble_eq_true rfl) dX5_lesser_16 ?_
      refine am_topi (fun y16 hy16 => ?_)
      exact hret _ _ _ _ _ dX5_lesser_19 rfl rfl (⟨rfl, rfl, by unfold rg_ls; (repeat' split) <;> omega⟩)
    · skip
      refine am_iload_n (x := a) X (by rfl) dX5_lesser_8 ?_
      refine am_iload_n (x := b) X (by rfl) dX5_lesser_9 ?_
      refine am_ior X dX5_lesser_10 ?_
      refine am_goto (tgt := 19) X dX5_lesser_11 (by decide) ?_
      exact hret _ _ _ _ _ dX5_lesser_19 rfl rfl (⟨rfl, rfl, by rw [hx, hy, rg_or _ _ (by omega) (by omega), rg_ls_or (by omega)]⟩)

set_option maxHeartbeats 4000000 in
set_option maxRecDepth 100000 in
theorem m_X5_follow_0 (σ : am_H) (first last s v : Nat) (bits ow : Int) (hb : bits = (s : Int)) (ho : ow = (v : Int)) (hs : 0 < s ∧ s < 1048576) (hv : v < 256) (hf : (first : Int) < σ 16 5) (hl : (last : Int) < σ 16 5) (hc : 0 ≤ σ 16 5 ∧ σ 16 5 ≤ 20) (hp : 0 ≤ σ 1 2 ∧ σ 1 2 ≤ 8) (hdeb : DebV σ) : am_Mi yX5_follow cX5_follow 9 (some .int) 3 0 0 [vr 16, vi (first : Int), vi (last : Int), vi bits, vi ow, vi 0] SH σ (fun r sh' σ' => SH = sh' ∧ σ = σ' ∧ CFo σ 0 first last s v r) := by
  refine am_Mi_of (by decide +kernel) (Nat.le_of_ble_eq_true rfl) (fun K X hY hI hret => ?_)
  show am_G K 0 [some (vr 16), some (vi (first : Int)), some (vi (last : Int)), some (vi bits), some (vi ow), some (vi 0), none, none, none] [] SH σ
  have hdl := hdeb last hl
  have hdf := hdeb first hf
  have hpw : c_w σ last < 8 := by unfold c_w; omega
  have hpi : σ 18 last = (c_w σ last : Int) := by unfold c_w; omega
  have hofi : σ 17 first = (c_o σ first : Int) := by unfold c_o; omega
  obtain ⟨hv1, hv2, hv3⟩ := rg_orv ho hv hpw hpi
  refine am_aload_n (x := 16) X (by rfl) dX5_follow_0 ?_
  refine am_getr (c1 := 18) X 16 fl_X5_33 (by decide) sh_16 (by decide) (by rfl) dX5_follow_1 ?_
  refine am_iload_n (x := (last : Int)) X (by rfl) dX5_follow_4 ?_
  refine am_ald (v := σ 18 last) X 18 last sh_18 (by omega) (by omega) (rfl) dX5_follow_5 ?_
  refine am_istore (i := 6) (L' := [some (vr 16), some (vi (first : Int)), some (vi (last : Int)), some (vi bits), some (vi ow), some (vi 0), some (vi (σ 18 last)), none, none]) X (Nat.le_of_ble_eq_true rfl) (by rfl) dX5_follow_6 ?_
  refine am_iload (x := 0) X (by rfl) dX5_follow_8 ?_
  refine am_if_gt (tgt := 30) X dX5_follow_10 (by decide) (fun h => absurd h (by decide)) (fun _ => ?_)
  refine am_iload (x := σ 18 last) X (by rfl) dX5_follow_13 ?_
  refine am_aload_n (x := 16) X (by rfl) dX5_follow_15 ?_
  refine am_getr (c1 := 17) X 16 fl_X5_19 (by decide) sh_16 (by decide) (by rfl) dX5_follow_16 ?_
  refine am_iload_n (x := (first : Int)) X (by rfl) dX5_follow_19 ?_
  refine am_ald (v := σ 17 first) X 17 first sh_17 (by omega) (by omega) (rfl) dX5_follow_20 ?_
  refine am_icmp_ne (tgt := 28) X dX5_follow_21 (by decide) (fun h21 => ?_) (fun h21 => ?_)
  · skip
    refine am_ic X (by decide) dX5_follow_28 ?_
    exact hret _ _ _ _ _ dX5_follow_29 rfl rfl (⟨rfl, rfl, CFo_0 hs.2 hs.1 (by rw [if_neg (by omega)])⟩)
  · skip
    refine am_iload_n (x := bits) X (by rfl) dX5_follow_24 ?_
    refine am_goto (tgt := 29) X dX5_follow_25 (by decide) ?_
    exact hret _ _ _ _ _ dX5_follow_29 rfl rfl (⟨rfl, rfl, CFo_0 hs.2 hs.1 (by rw [if_pos (by omega)]; exact hb)⟩)

set_option maxHeartbeats 4000000 in
set_option maxRecDepth 100000 in
theorem m_X5_follow_1 (σ : am_H) (first last s v : Nat) (bits ow : Int) (hb : bits = (s : Int)) (ho : ow = (v : Int)) (hs : 0 < s ∧ s < 1048576) (hv : v < 256) (hf : (first : Int) < σ 16 5) (hl : (last : Int) < σ 16 5) (hc : 0 ≤ σ 16 5 ∧ σ 16 5 ≤ 20) (hp : 0 ≤ σ 1 2 ∧ σ 1 2 ≤ 8) (hdeb : DebV σ) : am_Mi yX5_follow cX5_follow 9 (some .int) 4 0 0 [vr 16, vi (first : Int), vi (last : Int), vi bits, vi ow, vi 1] SH σ (fun r sh' σ' => SH = sh' ∧ σ = σ' ∧ CFo σ 1 first last s v r) := by
  refine am_Mi_of (by decide +kernel) (Nat.le_of_ble_eq_true rfl) (fun K X hY hI hret => ?_)
  show am_G K 0 [some (vr 16), some (vi (first : Int)), some (vi (last : Int)), some (vi bits), some (vi ow), some (vi 1), none, none, none] [] SH σ
  have hdl := hdeb last hl
  have hdf := hdeb first hf
  have hpw : c_w σ last < 8 := by unfold c_w; omega
  have hpi : σ 18 last = (c_w σ last : Int) := by unfold c_w; omega
  have hofi : σ 17 first = (c_o σ first : Int) := by unfold c_o; omega
  obtain ⟨hv1, hv2, hv3⟩ := rg_orv ho hv hpw hpi
  refine am_aload_n (x := 16) X (by rfl) dX5_follow_0 ?_
  refine am_getr (c1 := 18) X 16 fl_X5_33 (by decide) sh_16 (by decide) (by rfl) dX5_follow_1 ?_
  refine am_iload_n (x := (last : Int)) X (by rfl) dX5_follow_4 ?_
  refine am_ald (v := σ 18 last) X 18 last sh_18 (by omega) (by omega) (rfl) dX5_follow_5 ?_
  refine am_istore (i := 6) (L' := [some (vr 16), some (vi (first : Int)), some (vi (last : Int)), some (vi bits), some (vi ow), some (vi 1), some (vi (σ 18 last)), none, none]) X (Nat.le_of_ble_eq_true rfl) (by rfl) dX5_follow_6 ?_
  refine am_iload (x := 1) X (by rfl) dX5_follow_8 ?_
  refine am_if_gt (tgt := 30) X dX5_follow_10 (by decide) (fun _ => ?_) (fun h => absurd h (by decide))
  refine am_iload (x := ow) X (by rfl) dX5_follow_30 ?_
  refine am_iload (x := σ 18 last) X (by rfl) dX5_follow_32 ?_
  refine am_ishr X dX5_follow_34 ?_
  refine am_ic X (by decide) dX5_follow_35 ?_
  refine am_iand X dX5_follow_36 ?_
  refine am_if_eq (tgt := 42) X dX5_follow_37 (by decide) (fun h37 => ?_) (fun h37 => ?_)
  · skip
    have hbit : v.testBit (c_w σ last) = false := by
      rw [hv3] at h37
      cases e : v.testBit (c_w σ last)
      · rfl
      · rw [e] at h37; exact absurd h37 (by decide)
    refine am_ic X (by decide) dX5_follow_42 ?_
    refine am_istore (i := 7) (L' := [some (vr 16), some (vi (first : Int)), some (vi (last : Int)), some (vi bits), some (vi ow), some (vi 1), some (vi (σ 18 last)), some (vi 0), none]) X (Nat.le_of_ble_eq_true rfl) (by rfl) dX5_follow_43 ?_
    refine am_iload_n (x := (first : Int)) X (by rfl) dX5_follow_45 ?_
    refine am_ic X (by decide) dX5_follow_46 ?_
    refine am_add (v := ((first : Int) + 1)) X (by first | rfl | omega) (by omega) dX5_follow_47 ?_
    refine am_istore (i := 8) (L' := [some (vr 16), some (vi (first : Int)), some (vi (last : Int)), some (vi bits), some (vi ow), some (vi 1), some (vi (σ 18 last)), some (vi 0), some (vi ((first : Int) + 1))]) X (Nat.le_of_ble_eq_true rfl) (by rfl) dX5_follow_48 ?_
    have hL50 : ∀ (m50 : Nat) (k : Nat) (L : Nat) (lv : Int) (hk : first + 1 ≤ k ∧ (k : Int) ≤ σ 16 5) (hL : L < 1048576) (hlv : lv = (L : Int)) (hmp : CLo σ 1 first last s v k L) (hm50 : 20 - k = m50), am_G K 50 [some (vr 16), some (vi (first : Int)), some (vi (last : Int)), some (vi bits), some (vi ow), some (vi 1), some (vi (σ 18 last)), some (vi lv), some (vi (k : Int))] [] SH σ := by
      intro m50
      induction m50 using Nat.strongRecOn with
      | ind m50 ih50 =>
      intro k L lv hk hL hlv hmp hm50
      refine am_iload (x := (k : Int)) X (by rfl) dX5_follow_50 ?_
      refine am_aload_n (x := 16) X (by rfl) dX5_follow_52 ?_
      refine am_get (v := σ 16 5) X 16 fl_X5_9 (by decide) sh_16 (by decide) (rfl) dX5_follow_53 ?_
      refine am_icmp_ge (tgt := 133) X dX5_follow_56 (by decide) (fun h56 => ?_) (fun h56 => ?_)
      · skip
        refine am_iload (x := lv) X (by rfl) dX5_follow_133 ?_
        exact hret _ _ _ _ _ dX5_follow_135 rfl rfl (⟨rfl, rfl, CFo_end (by rw [show (σ 16 5).toNat = k by omega]; exact hmp) hlv hL⟩)
      · skip
        have hdk := hdeb k (by omega)
        have hok : σ 17 k = (c_o σ k : Int) := by unfold c_o; omega
        refine am_aload_n (x := 16) X (by rfl) dX5_follow_59 ?_
        refine am_getr (c1 := 17) X 16 fl_X5_19 (by decide) sh_16 (by decide) (by rfl) dX5_follow_60 ?_
        refine am_iload (x := (k : Int)) X (by rfl) dX5_follow_63 ?_
        refine am_ald (v := σ 17 k) X 17 k sh_17 (by omega) (by omega) (rfl) dX5_follow_65 ?_
        refine am_iload (x := σ 18 last) X (by rfl) dX5_follow_66 ?_
        refine am_icmp_ne (tgt := 127) X dX5_follow_68 (by decide) (fun h68 => ?_) (fun h68 => ?_)
        · skip
          refine am_inc (x := (k : Int)) (v := ((k : Int) + 1)) (L' := [some (vr 16), some (vi (first : Int)), some (vi (last : Int)), some (vi bits), some (vi ow), some (vi 1), some (vi (σ 18 last)), some (vi lv), some (vi ((k : Int) + 1))]) X (by rfl) (by omega) (by omega) (by rfl) dX5_follow_127 ?_
          refine am_goto (tgt := 50) X dX5_follow_130 (by decide) ?_
          exact ih50 _ (by omega) (k + 1) L lv (by omega) (hL) (hlv) (CLo_no hmp (fun q => by have q3 := q.2.2; have q2 := q.2.1; have q1 := q.1; omega)) rfl
        · skip
          refine am_aload_n (x := 16) X (by rfl) dX5_follow_71 ?_
          refine am_getr (c1 := 20) X 16 fl_X5_36 (by decide) sh_16 (by decide) (by rfl) dX5_follow_72 ?_
          refine am_iload (x := (k : Int)) X (by rfl) dX5_follow_75 ?_
          refine am_ald (v := σ 20 k) X 20 k sh_20 (by omega) (by omega) (rfl) dX5_follow_77 ?_
          refine am_aload_n (x := 16) X (by rfl) dX5_follow_78 ?_
          refine am_getr (c1 := 20) X 16 fl_X5_36 (by decide) sh_16 (by decide) (by rfl) dX5_follow_79 ?_
          refine am_iload_n (x := (first : Int)) X (by rfl) dX5_follow_82 ?_
          refine am_ald (v := σ 20 first) X 20 first sh_20 (by omega) (by omega) (rfl) dX5_follow_83 ?_
          refine am_icmp_ne (tgt := 127) X dX5_follow_84 (by decide) (fun h84 => ?_) (fun h84 => ?_)
          · skip
            refine am_inc (x := (k : Int)) (v := ((k : Int) + 1)) (L' := [some (vr 16), some (vi (first : Int)), some (vi (last : Int)), some (vi bits), some (vi ow), some (vi 1), some (vi (σ 18 last)), some (vi lv), some (vi ((k : Int) + 1))]) X (by rfl) (by omega) (by omega) (by rfl) dX5_follow_127 ?_
            refine am_goto (tgt := 50) X dX5_follow_130 (by decide) ?_
            exact ih50 _ (by omega) (k + 1) L lv (by omega) (hL) (hlv) (CLo_no hmp (fun q => by have q3 := q.2.2; have q2 := q.2.1; have q1 := q.1; omega)) rfl
          · skip
            refine am_aload_n (x := 16) X (by rfl) dX5_follow_87 ?_
            refine am_iload (x := (k : Int)) X (by rfl) dX5_follow_88 ?_
            refine am_callVi (ci := 4) X hY lk_X5_15 mf_X4_isOpen (m_X4_isOpen (k : Int) k rfl σ hc) (by decide) (by decide) (Nat.le_refl _) (Nat.le_refl _) sh_16 rfl rfl rfl (Nat.le_of_ble_eq_true rfl) dX5_follow_90 (fun r90 sh90 σ90 hr90 hp90 => ?_)
            obtain ⟨rfl, rfl, hq90⟩ := hp90
            refine am_if_eq (tgt := 127) X dX5_follow_93 (by decide) (fun h93 => ?_) (fun h93 => ?_)
            · skip
              refine am_inc (x := (k : Int)) (v := ((k : Int) + 1)) (L' := [some (vr 16), some (vi (first : Int)), some (vi (last : Int)), some (vi bits), some (vi ow), some (vi 1), some (vi (σ 18 last)), some (vi lv), some (vi ((k : Int) + 1))]) X (by rfl) (by omega) (by omega) (by rfl) dX5_follow_127 ?_
              refine am_goto (tgt := 50) X dX5_follow_130 (by decide) ?_
              exact ih50 _ (by omega) (k + 1) L lv (by omega) (hL) (hlv) (CLo_no hmp (fun q => by have q3 := q.2.2; have q2 := q.2.1; have q1 := q.1; omega)) rfl
            · skip
              refine am_iload (x := lv) X (by rfl) dX5_follow_96 ?_
              refine am_aload_n (x := 16) X (by rfl) dX5_follow_98 ?_
              refine am_iload_n (x := (first : Int)) X (by rfl) dX5_follow_99 ?_
              refine am_iload (x := (k : Int)) X (by rfl) dX5_follow_100 ?_
              refine am_iload_n (x := bits) X (by rfl) dX5_follow_102 ?_
              refine am_ic X (by decide) dX5_follow_103 ?_
              refine am_iload (x := (k : Int)) X (by rfl) dX5_follow_104 ?_
              refine am_ishl X dX5_follow_106 ?_
              refine am_ior X dX5_follow_107 ?_
              refine am_iload (x := ow) X (by rfl) dX5_follow_108 ?_
              refine am_ic X (by decide) dX5_follow_110 ?_
              refine am_iload (x := σ 18 last) X (by rfl) dX5_follow_111 ?_
              refine am_ishl X dX5_follow_113 ?_
              refine am_ior X dX5_follow_114 ?_
              refine am_iload (x := 1) X (by rfl) dX5_follow_115 ?_
              refine am_ic X (by decide) dX5_follow_117 ?_
              refine am_sub (v := 0) X (by first | rfl | omega) (by omega) dX5_follow_118 ?_
              refine am_callSi X hY lk_X5_23 mf_X5_follow (m_X5_follow_0 σ first k (s ||| 2 ^ k) (v ||| 2 ^ c_w σ last) (am_or bits (am_shl 1 (k : Int))) (am_or ow (am_shl 1 (σ 18 last))) (rg_orl hb hs.2 (k := k) (by omega) rfl).1 hv1 ⟨Nat.lt_of_lt_of_le hs.1 Nat.left_le_or, (rg_orl hb hs.2 (k := k) (by omega) rfl).2⟩ hv2 hf (by omega) hc hp hdeb) (by decide) (by decide) (Nat.le_refl _) (Nat.le_refl _) rfl rfl (Nat.le_of_ble_eq_true rfl) dX5_follow_119 (fun r119 sh119 σ119 hr119 hp119 => ?_)
              obtain ⟨rfl, rfl, hq119⟩ := hp119
              have hlt := CFo_lt hq119
              refine am_callSi X hY lk_X5_29 mf_X5_lesser (m_X5_lesser σ lv r119 L r119.toNat hlv hlt.1 hL hlt.2) (by decide) (by decide) (Nat.le_refl _) (Nat.le_refl _) rfl rfl (Nat.le_of_ble_eq_true rfl) dX5_follow_122 (fun r122 sh122 σ122 hr122 hp122 => ?_)
              obtain ⟨rfl, rfl, hq122⟩ := hp122
              refine am_istore (i := 7) (L' := [some (vr 16), some (vi (first : Int)), some (vi (last : Int)), some (vi bits), some (vi ow), some (vi 1), some (vi (σ 18 last)), some (vi r122), some (vi (k : Int))]) X (Nat.le_of_ble_eq_true rfl) (by rfl) dX5_follow_125 ?_
              refine am_inc (x := (k : Int)) (v := ((k : Int) + 1)) (L' := [some (vr 16), some (vi (first : Int)), some (vi (last : Int)), some (vi bits), some (vi ow), some (vi 1), some (vi (σ 18 last)), some (vi r122), some (vi ((k : Int) + 1))]) X (by rfl) (by omega) (by omega) (by rfl) dX5_follow_127 ?_
              refine am_goto (tgt := 50) X dX5_follow_130 (by decide) ?_
              exact ih50 _ (by omega) (k + 1) (rg_ls L r119.toNat) r122 (by omega) (rg_ls_lt hL hlt.2) (hq122) (CLo_yes hmp hs.1 (by omega) (by omega) hbit (by unfold c_o c_w; rw [h68]) (by omega) (by omega) hq119) rfl
    exact hL50 _ (first + 1) 0 0 (by omega) (by decide) (rfl) (CLo_0) rfl
  · skip
    refine am_ic X (by decide) dX5_follow_40 ?_
    exact hret _ _ _ _ _ dX5_follow_41 rfl rfl (⟨rfl, rfl, CFo_vis (by rw [hv3] at h37; by_cases e : v.testBit (c_w σ last) = true; exact e; exact absurd (if_neg e) h37)⟩)

set_option maxHeartbeats 4000000 in
set_option maxRecDepth 100000 in
theorem m_X5_follow_2 (σ : am_H) (first last s v : Nat) (bits ow : Int) (hb : bits = (s : Int)) (ho : ow = (v : Int)) (hs : 0 < s ∧ s < 1048576) (hv : v < 256) (hf : (first : Int) < σ 16 5) (hl : (last : Int) < σ 16 5) (hc : 0 ≤ σ 16 5 ∧ σ 16 5 ≤ 20) (hp : 0 ≤ σ 1 2 ∧ σ 1 2 ≤ 8) (hdeb : DebV σ) : am_Mi yX5_follow cX5_follow 9 (some .int) 5 0 0 [vr 16, vi (first : Int), vi (last : Int), vi bits, vi ow, vi 2] SH σ (fun r sh' σ' => SH = sh' ∧ σ = σ' ∧ CFo σ 2 first last s v r) := by
  refine am_Mi_of (by decide +kernel) (Nat.le_of_ble_eq_true rfl) (fun K X hY hI hret => ?_)
  show am_G K 0 [some (vr 16), some (vi (first : Int)), some (vi (last : Int)), some (vi bits), some (vi ow), some (vi 2), none, none, none] [] SH σ
  have hdl := hdeb last hl
  have hdf := hdeb first hf
  have hpw : c_w σ last < 8 := by unfold c_w; omega
  have hpi : σ 18 last = (c_w σ last : Int) := by unfold c_w; omega
  have hofi : σ 17 first = (c_o σ first : Int) := by unfold c_o; omega
  obtain ⟨hv1, hv2, hv3⟩ := rg_orv ho hv hpw hpi
  refine am_aload_n (x := 16) X (by rfl) dX5_follow_0 ?_
  refine am_getr (c1 := 18) X 16 fl_X5_33 (by decide) sh_16 (by decide) (by rfl) dX5_follow_1 ?_
  refine am_iload_n (x := (last : Int)) X (by rfl) dX5_follow_4 ?_
  refine am_ald (v := σ 18 last) X 18 last sh_18 (by omega) (by omega) (rfl) dX5_follow_5 ?_
  refine am_istore (i := 6) (L' := [some (vr 16), some (vi (first : Int)), some (vi (last : Int)), some (vi bits), some (vi ow), some (vi 2), some (vi (σ 18 last)), none, none]) X (Nat.le_of_ble_eq_true rfl) (by rfl) dX5_follow_6 ?_
  refine am_iload (x := 2) X (by rfl) dX5_follow_8 ?_
  refine am_if_gt (tgt := 30) X dX5_follow_10 (by decide) (fun _ => ?_) (fun h => absurd h (by decide))
  refine am_iload (x := ow) X (by rfl) dX5_follow_30 ?_
  refine am_iload (x := σ 18 last) X (by rfl) dX5_follow_32 ?_
  refine am_ishr X dX5_follow_34 ?_
  refine am_ic X (by decide) dX5_follow_35 ?_
  refine am_iand X dX5_follow_36 ?_
  refine am_if_eq (tgt := 42) X dX5_follow_37 (by decide) (fun h37 => ?_) (fun h37 => ?_)
  · skip
    have hbit : v.testBit (c_w σ last) = false := by
      rw [hv3] at h37
      cases e : v.testBit (c_w σ last)
      · rfl
      · rw [e] at h37; exact absurd h37 (by decide)
    refine am_ic X (by decide) dX5_follow_42 ?_
    refine am_istore (i := 7) (L' := [some (vr 16), some (vi (first : Int)), some (vi (last : Int)), some (vi bits), some (vi ow), some (vi 2), some (vi (σ 18 last)), some (vi 0), none]) X (Nat.le_of_ble_eq_true rfl) (by rfl) dX5_follow_43 ?_
    refine am_iload_n (x := (first : Int)) X (by rfl) dX5_follow_45 ?_
    refine am_ic X (by decide) dX5_follow_46 ?_
    refine am_add (v := ((first : Int) + 1)) X (by first | rfl | omega) (by omega) dX5_follow_47 ?_
    refine am_istore (i := 8) (L' := [some (vr 16), some (vi (first : Int)), some (vi (last : Int)), some (vi bits), some (vi ow), some (vi 2), some (vi (σ 18 last)), some (vi 0), some (vi ((first : Int) + 1))]) X (Nat.le_of_ble_eq_true rfl) (by rfl) dX5_follow_48 ?_
    have hL50 : ∀ (m50 : Nat) (k : Nat) (L : Nat) (lv : Int) (hk : first + 1 ≤ k ∧ (k : Int) ≤ σ 16 5) (hL : L < 1048576) (hlv : lv = (L : Int)) (hmp : CLo σ 2 first last s v k L) (hm50 : 20 - k = m50), am_G K 50 [some (vr 16), some (vi (first : Int)), some (vi (last : Int)), some (vi bits), some (vi ow), some (vi 2), some (vi (σ 18 last)), some (vi lv), some (vi (k : Int))] [] SH σ := by
      intro m50
      induction m50 using Nat.strongRecOn with
      | ind m50 ih50 =>
      intro k L lv hk hL hlv hmp hm50
      refine am_iload (x := (k : Int)) X (by rfl) dX5_follow_50 ?_
      refine am_aload_n (x := 16) X (by rfl) dX5_follow_52 ?_
      refine am_get (v := σ 16 5) X 16 fl_X5_9 (by decide) sh_16 (by decide) (rfl) dX5_follow_53 ?_
      refine am_icmp_ge (tgt := 133) X dX5_follow_56 (by decide) (fun h56 => ?_) (fun h56 => ?_)
      · skip
        refine am_iload (x := lv) X (by rfl) dX5_follow_133 ?_
        exact hret _ _ _ _ _ dX5_follow_135 rfl rfl (⟨rfl, rfl, CFo_end (by rw [show (σ 16 5).toNat = k by omega]; exact hmp) hlv hL⟩)
      · skip
        have hdk := hdeb k (by omega)
        have hok : σ 17 k = (c_o σ k : Int) := by unfold c_o; omega
        refine am_aload_n (x := 16) X (by rfl) dX5_follow_59 ?_
        refine am_getr (c1 := 17) X 16 fl_X5_19 (by decide) sh_16 (by decide) (by rfl) dX5_follow_60 ?_
        refine am_iload (x := (k : Int)) X (by rfl) dX5_follow_63 ?_
        refine am_ald (v := σ 17 k) X 17 k sh_17 (by omega) (by omega) (rfl) dX5_follow_65 ?_
        refine am_iload (x := σ 18 last) X (by rfl) dX5_follow_66 ?_
        refine am_icmp_ne (tgt := 127) X dX5_follow_68 (by decide) (fun h68 => ?_) (fun h68 => ?_)
        · skip
          refine am_inc (x := (k : Int)) (v := ((k : Int) + 1)) (L' := [some (vr 16), some (vi (first : Int)), some (vi (last : Int)), some (vi bits), some (vi ow), some (vi 2), some (vi (σ 18 last)), some (vi lv), some (vi ((k : Int) + 1))]) X (by rfl) (by omega) (by omega) (by rfl) dX5_follow_127 ?_
          refine am_goto (tgt := 50) X dX5_follow_130 (by decide) ?_
          exact ih50 _ (by omega) (k + 1) L lv (by omega) (hL) (hlv) (CLo_no hmp (fun q => by have q3 := q.2.2; have q2 := q.2.1; have q1 := q.1; omega)) rfl
        · skip
          refine am_aload_n (x := 16) X (by rfl) dX5_follow_71 ?_
          refine am_getr (c1 := 20) X 16 fl_X5_36 (by decide) sh_16 (by decide) (by rfl) dX5_follow_72 ?_
          refine am_iload (x := (k : Int)) X (by rfl) dX5_follow_75 ?_
          refine am_ald (v := σ 20 k) X 20 k sh_20 (by omega) (by omega) (rfl) dX5_follow_77 ?_
          refine am_aload_n (x := 16) X (by rfl) dX5_follow_78 ?_
          refine am_getr (c1 := 20) X 16 fl_X5_36 (by decide) sh_16 (by decide) (by rfl) dX5_follow_79 ?_
          refine am_iload_n (x := (first : Int)) X (by rfl) dX5_follow_82 ?_
          refine am_ald (v := σ 20 first) X 20 first sh_20 (by omega) (by omega) (rfl) dX5_follow_83 ?_
          refine am_icmp_ne (tgt := 127) X dX5_follow_84 (by decide) (fun h84 => ?_) (fun h84 => ?_)
          · skip
            refine am_inc (x := (k : Int)) (v := ((k : Int) + 1)) (L' := [some (vr 16), some (vi (first : Int)), some (vi (last : Int)), some (vi bits), some (vi ow), some (vi 2), some (vi (σ 18 last)), some (vi lv), some (vi ((k : Int) + 1))]) X (by rfl) (by omega) (by omega) (by rfl) dX5_follow_127 ?_
            refine am_goto (tgt := 50) X dX5_follow_130 (by decide) ?_
            exact ih50 _ (by omega) (k + 1) L lv (by omega) (hL) (hlv) (CLo_no hmp (fun q => by have q3 := q.2.2; have q2 := q.2.1; have q1 := q.1; omega)) rfl
          · skip
            refine am_aload_n (x := 16) X (by rfl) dX5_follow_87 ?_
            refine am_iload (x := (k : Int)) X (by rfl) dX5_follow_88 ?_
            refine am_callVi (ci := 4) X hY lk_X5_15 mf_X4_isOpen (m_X4_isOpen (k : Int) k rfl σ hc) (by decide) (by decide) (Nat.le_refl _) (Nat.le_refl _) sh_16 rfl rfl rfl (Nat.le_of_ble_eq_true rfl) dX5_follow_90 (fun r90 sh90 σ90 hr90 hp90 => ?_)
            obtain ⟨rfl, rfl, hq90⟩ := hp90
            refine am_if_eq (tgt := 127) X dX5_follow_93 (by decide) (fun h93 => ?_) (fun h93 => ?_)
            · skip
              refine am_inc (x := (k : Int)) (v := ((k : Int) + 1)) (L' := [some (vr 16), some (vi (first : Int)), some (vi (last : Int)), some (vi bits), some (vi ow), some (vi 2), some (vi (σ 18 last)), some (vi lv), some (vi ((k : Int) + 1))]) X (by rfl) (by omega) (by omega) (by rfl) dX5_follow_127 ?_
              refine am_goto (tgt := 50) X dX5_follow_130 (by decide) ?_
              exact ih50 _ (by omega) (k + 1) L lv (by omega) (hL) (hlv) (CLo_no hmp (fun q => by have q3 := q.2.2; have q2 := q.2.1; have q1 := q.1; omega)) rfl
            · skip
              refine am_iload (x := lv) X (by rfl) dX5_follow_96 ?_
              refine am_aload_n (x := 16) X (by rfl) dX5_follow_98 ?_
              refine am_iload_n (x := (first : Int)) X (by rfl) dX5_follow_99 ?_
              refine am_iload (x := (k : Int)) X (by rfl) dX5_follow_100 ?_
              refine am_iload_n (x := bits) X (by rfl) dX5_follow_102 ?_
              refine am_ic X (by decide) dX5_follow_103 ?_
              refine am_iload (x := (k : Int)) X (by rfl) dX5_follow_104 ?_
              refine am_ishl X dX5_follow_106 ?_
              refine am_ior X dX5_follow_107 ?_
              refine am_iload (x := ow) X (by rfl) dX5_follow_108 ?_
              refine am_ic X (by decide) dX5_follow_110 ?_
              refine am_iload (x := σ 18 last) X (by rfl) dX5_follow_111 ?_
              refine am_ishl X dX5_follow_113 ?_
              refine am_ior X dX5_follow_114 ?_
              refine am_iload (x := 2) X (by rfl) dX5_follow_115 ?_
              refine am_ic X (by decide) dX5_follow_117 ?_
              refine am_sub (v := 1) X (by first | rfl | omega) (by omega) dX5_follow_118 ?_
              refine am_callSi X hY lk_X5_23 mf_X5_follow (m_X5_follow_1 σ first k (s ||| 2 ^ k) (v ||| 2 ^ c_w σ last) (am_or bits (am_shl 1 (k : Int))) (am_or ow (am_shl 1 (σ 18 last))) (rg_orl hb hs.2 (k := k) (by omega) rfl).1 hv1 ⟨Nat.lt_of_lt_of_le hs.1 Nat.left_le_or, (rg_orl hb hs.2 (k := k) (by omega) rfl).2⟩ hv2 hf (by omega) hc hp hdeb) (by decide) (by decide) (Nat.le_refl _) (Nat.le_refl _) rfl rfl (Nat.le_of_ble_eq_true rfl) dX5_follow_119 (fun r119 sh119 σ119 hr119 hp119 => ?_)
              obtain ⟨rfl, rfl, hq119⟩ := hp119
              have hlt := CFo_lt hq119
              refine am_callSi X hY lk_X5_29 mf_X5_lesser (m_X5_lesser σ lv r119 L r119.toNat hlv hlt.1 hL hlt.2) (by decide) (by decide) (Nat.le_refl _) (Nat.le_refl _) rfl rfl (Nat.le_of_ble_eq_true rfl) dX5_follow_122 (fun r122 sh122 σ122 hr122 hp122 => ?_)
              obtain ⟨rfl, rfl, hq122⟩ := hp122
              refine am_istore (i := 7) (L' := [some (vr 16), some (vi (first : Int)), some (vi (last : Int)), some (vi bits), some (vi ow), some (vi 2), some (vi (σ 18 last)), some (vi r122), some (vi (k : Int))]) X (Nat.le_of_ble_eq_true rfl) (by rfl) dX5_follow_125 ?_
              refine am_inc (x := (k : Int)) (v := ((k : Int) + 1)) (L' := [some (vr 16), some (vi (first : Int)), some (vi (last : Int)), some (vi bits), some (vi ow), some (vi 2), some (vi (σ 18 last)), some (vi r122), some (vi ((k : Int) + 1))]) X (by rfl) (by omega) (by omega) (by rfl) dX5_follow_127 ?_
              refine am_goto (tgt := 50) X dX5_follow_130 (by decide) ?_
              exact ih50 _ (by omega) (k + 1) (rg_ls L r119.toNat) r122 (by omega) (rg_ls_lt hL hlt.2) (hq122) (CLo_yes hmp hs.1 (by omega) (by omega) hbit (by unfold c_o c_w; rw [h68]) (by omega) (by omega) hq119) rfl
    exact hL50 _ (first + 1) 0 0 (by omega) (by decide) (rfl) (CLo_0) rfl
  · skip
    refine am_ic X (by decide) dX5_follow_40 ?_
    exact hret _ _ _ _ _ dX5_follow_41 rfl rfl (⟨rfl, rfl, CFo_vis (by rw [hv3] at h37; by_cases e : v.testBit (c_w σ last) = true; exact e; exact absurd (if_neg e) h37)⟩)

set_option maxHeartbeats 4000000 in
set_option maxRecDepth 100000 in
theorem m_X5_follow_3 (σ : am_H) (first last s v : Nat) (bits ow : Int) (hb : bits = (s : Int)) (ho : ow = (v : Int)) (hs : 0 < s ∧ s < 1048576) (hv : v < 256) (hf : (first : Int) < σ 16 5) (hl : (last : Int) < σ 16 5) (hc : 0 ≤ σ 16 5 ∧ σ 16 5 ≤ 20) (hp : 0 ≤ σ 1 2 ∧ σ 1 2 ≤ 8) (hdeb : DebV σ) : am_Mi yX5_follow cX5_follow 9 (some .int) 6 0 0 [vr 16, vi (first : Int), vi (last : Int), vi bits, vi ow, vi 3] SH σ (fun r sh' σ' => SH = sh' ∧ σ = σ' ∧ CFo σ 3 first last s v r) := by
  refine am_Mi_of (by decide +kernel) (Nat.le_of_ble_eq_true rfl) (fun K X hY hI hret => ?_)
  show am_G K 0 [some (vr 16), some (vi (first : Int)), some (vi (last : Int)), some (vi bits), some (vi ow), some (vi 3), none, none, none] [] SH σ
  have hdl := hdeb last hl
  have hdf := hdeb first hf
  have hpw : c_w σ last < 8 := by unfold c_w; omega
  have hpi : σ 18 last = (c_w σ last : Int) := by unfold c_w; omega
  have hofi : σ 17 first = (c_o σ first : Int) := by unfold c_o; omega
  obtain ⟨hv1, hv2, hv3⟩ := rg_orv ho hv hpw hpi
  refine am_aload_n (x := 16) X (by rfl) dX5_follow_0 ?_
  refine am_getr (c1 := 18) X 16 fl_X5_33 (by decide) sh_16 (by decide) (by rfl) dX5_follow_1 ?_
  refine am_iload_n (x := (last : Int)) X (by rfl) dX5_follow_4 ?_
  refine am_ald (v := σ 18 last) X 18 last sh_18 (by omega) (by omega) (rfl) dX5_follow_5 ?_
  refine am_istore (i := 6) (L' := [some (vr 16), some (vi (first : Int)), some (vi (last : Int)), some (vi bits), some (vi ow), some (vi 3), some (vi (σ 18 last)), none, none]) X (Nat.le_of_ble_eq_true rfl) (by rfl) dX5_follow_6 ?_
  refine am_iload (x := 3) X (by rfl) dX5_follow_8 ?_
  refine am_if_gt (tgt := 30) X dX5_follow_10 (by decide) (fun _ => ?_) (fun h => absurd h (by decide))
  refine am_iload (x := ow) X (by rfl) dX5_follow_30 ?_
  refine am_iload (x := σ 18 last) X (by rfl) dX5_follow_32 ?_
  refine am_ishr X dX5_follow_34 ?_
  refine am_ic X (by decide) dX5_follow_35 ?_
  refine am_iand X dX5_follow_36 ?_
  refine am_if_eq (tgt := 42) X dX5_follow_37 (by decide) (fun h37 => ?_) (fun h37 => ?_)
  · skip
    have hbit : v.testBit (c_w σ last) = false := by
      rw [hv3] at h37
      cases e : v.testBit (c_w σ last)
      · rfl
      · rw [e] at h37; exact absurd h37 (by decide)
    refine am_ic X (by decide) dX5_follow_42 ?_
    refine am_istore (i := 7) (L' := [some (vr 16), some (vi (first : Int)), some (vi (last : Int)), some (vi bits), some (vi ow), some (vi 3), some (vi (σ 18 last)), some (vi 0), none]) X (Nat.le_of_ble_eq_true rfl) (by rfl) dX5_follow_43 ?_
    refine am_iload_n (x := (first : Int)) X (by rfl) dX5_follow_45 ?_
    refine am_ic X (by decide) dX5_follow_46 ?_
    refine am_add (v := ((first : Int) + 1)) X (by first | rfl | omega) (by omega) dX5_follow_47 ?_
    refine am_istore (i := 8) (L' := [some (vr 16), some (vi (first : Int)), some (vi (last : Int)), some (vi bits), some (vi ow), some (vi 3), some (vi (σ 18 last)), some (vi 0), some (vi ((first : Int) + 1))]) X (Nat.le_of_ble_eq_true rfl) (by rfl) dX5_follow_48 ?_
    have hL50 : ∀ (m50 : Nat) (k : Nat) (L : Nat) (lv : Int) (hk : first + 1 ≤ k ∧ (k : Int) ≤ σ 16 5) (hL : L < 1048576) (hlv : lv = (L : Int)) (hmp : CLo σ 3 first last s v k L) (hm50 : 20 - k = m50), am_G K 50 [some (vr 16), some (vi (first : Int)), some (vi (last : Int)), some (vi bits), some (vi ow), some (vi 3), some (vi (σ 18 last)), some (vi lv), some (vi (k : Int))] [] SH σ := by
      intro m50
      induction m50 using Nat.strongRecOn with
      | ind m50 ih50 =>
      intro k L lv hk hL hlv hmp hm50
      refine am_iload (x := (k : Int)) X (by rfl) dX5_follow_50 ?_
      refine am_aload_n (x := 16) X (by rfl) dX5_follow_52 ?_
      refine am_get (v := σ 16 5) X 16 fl_X5_9 (by decide) sh_16 (by decide) (rfl) dX5_follow_53 ?_
      refine am_icmp_ge (tgt := 133) X dX5_follow_56 (by decide) (fun h56 => ?_) (fun h56 => ?_)
      · skip
        refine am_iload (x := lv) X (by rfl) dX5_follow_133 ?_
        exact hret _ _ _ _ _ dX5_follow_135 rfl rfl (⟨rfl, rfl, CFo_end (by rw [show (σ 16 5).toNat = k by omega]; exact hmp) hlv hL⟩)
      · skip
        have hdk := hdeb k (by omega)
        have hok : σ 17 k = (c_o σ k : Int) := by unfold c_o; omega
        refine am_aload_n (x := 16) X (by rfl) dX5_follow_59 ?_
        refine am_getr (c1 := 17) X 16 fl_X5_19 (by decide) sh_16 (by decide) (by rfl) dX5_follow_60 ?_
        refine am_iload (x := (k : Int)) X (by rfl) dX5_follow_63 ?_
        refine am_ald (v := σ 17 k) X 17 k sh_17 (by omega) (by omega) (rfl) dX5_follow_65 ?_
        refine am_iload (x := σ 18 last) X (by rfl) dX5_follow_66 ?_
        refine am_icmp_ne (tgt := 127) X dX5_follow_68 (by decide) (fun h68 => ?_) (fun h68 => ?_)
        · skip
          refine am_inc (x := (k : Int)) (v := ((k : Int) + 1)) (L' := [some (vr 16), some (vi (first : Int)), some (vi (last : Int)), some (vi bits), some (vi ow), some (vi 3), some (vi (σ 18 last)), some (vi lv), some (vi ((k : Int) + 1))]) X (by rfl) (by omega) (by omega) (by rfl) dX5_follow_127 ?_
          refine am_goto (tgt := 50) X dX5_follow_130 (by decide) ?_
          exact ih50 _ (by omega) (k + 1) L lv (by omega) (hL) (hlv) (CLo_no hmp (fun q => by have q3 := q.2.2; have q2 := q.2.1; have q1 := q.1; omega)) rfl
        · skip
          refine am_aload_n (x := 16) X (by rfl) dX5_follow_71 ?_
          refine am_getr (c1 := 20) X 16 fl_X5_36 (by decide) sh_16 (by decide) (by rfl) dX5_follow_72 ?_
          refine am_iload (x := (k : Int)) X (by rfl) dX5_follow_75 ?_
          refine am_ald (v := σ 20 k) X 20 k sh_20 (by omega) (by omega) (rfl) dX5_follow_77 ?_
          refine am_aload_n (x := 16) X (by rfl) dX5_follow_78 ?_
          refine am_getr (c1 := 20) X 16 fl_X5_36 (by decide) sh_16 (by decide) (by rfl) dX5_follow_79 ?_
          refine am_iload_n (x := (first : Int)) X (by rfl) dX5_follow_82 ?_
          refine am_ald (v := σ 20 first) X 20 first sh_20 (by omega) (by omega) (rfl) dX5_follow_83 ?_
          refine am_icmp_ne (tgt := 127) X dX5_follow_84 (by decide) (fun h84 => ?_) (fun h84 => ?_)
          · skip
            refine am_inc (x := (k : Int)) (v := ((k : Int) + 1)) (L' := [some (vr 16), some (vi (first : Int)), some (vi (last : Int)), some (vi bits), some (vi ow), some (vi 3), some (vi (σ 18 last)), some (vi lv), some (vi ((k : Int) + 1))]) X (by rfl) (by omega) (by omega) (by rfl) dX5_follow_127 ?_
            refine am_goto (tgt := 50) X dX5_follow_130 (by decide) ?_
            exact ih50 _ (by omega) (k + 1) L lv (by omega) (hL) (hlv) (CLo_no hmp (fun q => by have q3 := q.2.2; have q2 := q.2.1; have q1 := q.1; omega)) rfl
          · skip
            refine am_aload_n (x := 16) X (by rfl) dX5_follow_87 ?_
            refine am_iload (x := (k : Int)) X (by rfl) dX5_follow_88 ?_
            refine am_callVi (ci := 4) X hY lk_X5_15 mf_X4_isOpen (m_X4_isOpen (k : Int) k rfl σ hc) (by decide) (by decide) (Nat.le_refl _) (Nat.le_refl _) sh_16 rfl rfl rfl (Nat.le_of_ble_eq_true rfl) dX5_follow_90 (fun r90 sh90 σ90 hr90 hp90 => ?_)
            obtain ⟨rfl, rfl, hq90⟩ := hp90
            refine am_if_eq (tgt := 127) X dX5_follow_93 (by decide) (fun h93 => ?_) (fun h93 => ?_)
            · skip
              refine am_inc (x := (k : Int)) (v := ((k : Int) + 1)) (L' := [some (vr 16), some (vi (first : Int)), some (vi (last : Int)), some (vi bits), some (vi ow), some (vi 3), some (vi (σ 18 last)), some (vi lv), some (vi ((k : Int) + 1))]) X (by rfl) (by omega) (by omega) (by rfl) dX5_follow_127 ?_
              refine am_goto (tgt := 50) X dX5_follow_130 (by decide) ?_
              exact ih50 _ (by omega) (k + 1) L lv (by omega) (hL) (hlv) (CLo_no hmp (fun q => by have q3 := q.2.2; have q2 := q.2.1; have q1 := q.1; omega)) rfl
            · skip
              refine am_iload (x := lv) X (by rfl) dX5_follow_96 ?_
              refine am_aload_n (x := 16) X (by rfl) dX5_follow_98 ?_
              refine am_iload_n (x := (first : Int)) X (by rfl) dX5_follow_99 ?_
              refine am_iload (x := (k : Int)) X (by rfl) dX5_follow_100 ?_
              refine am_iload_n (x := bits) X (by rfl) dX5_follow_102 ?_
              refine am_ic X (by decide) dX5_follow_103 ?_
              refine am_iload (x := (k : Int)) X (by rfl) dX5_follow_104 ?_
              refine am_ishl X dX5_follow_106 ?_
              refine am_ior X dX5_follow_107 ?_
              refine am_iload (x := ow) X (by rfl) dX5_follow_108 ?_
              refine am_ic X (by decide) dX5_follow_110 ?_
              refine am_iload (x := σ 18 last) X (by rfl) dX5_follow_111 ?_
              refine am_ishl X dX5_follow_113 ?_
              refine am_ior X dX5_follow_114 ?_
              refine am_iload (x := 3) X (by rfl) dX5_follow_115 ?_
              refine am_ic X (by decide) dX5_follow_117 ?_
              refine am_sub (v := 2) X (by first | rfl | omega) (by omega) dX5_follow_118 ?_
              refine am_callSi X hY lk_X5_23 mf_X5_follow (m_X5_follow_2 σ first k (s ||| 2 ^ k) (v ||| 2 ^ c_w σ last) (am_or bits (am_shl 1 (k : Int))) (am_or ow (am_shl 1 (σ 18 last))) (rg_orl hb hs.2 (k := k) (by omega) rfl).1 hv1 ⟨Nat.lt_of_lt_of_le hs.1 Nat.left_le_or, (rg_orl hb hs.2 (k := k) (by omega) rfl).2⟩ hv2 hf (by omega) hc hp hdeb) (by decide) (by decide) (Nat.le_refl _) (Nat.le_refl _) rfl rfl (Nat.le_of_ble_eq_true rfl) dX5_follow_119 (fun r119 sh119 σ119 hr119 hp119 => ?_)
              obtain ⟨rfl, rfl, hq119⟩ := hp119
              have hlt := CFo_lt hq119
              refine am_callSi X hY lk_X5_29 mf_X5_lesser (m_X5_lesser σ lv r119 L r119.toNat hlv hlt.1 hL hlt.2) (by decide) (by decide) (Nat.le_refl _) (Nat.le_refl _) rfl rfl (Nat.le_of_ble_eq_true rfl) dX5_follow_122 (fun r122 sh122 σ122 hr122 hp122 => ?_)
              obtain ⟨rfl, rfl, hq122⟩ := hp122
              refine am_istore (i := 7) (L' := [some (vr 16), some (vi (first : Int)), some (vi (last : Int)), some (vi bits), some (vi ow), some (vi 3), some (vi (σ 18 last)), some (vi r122), some (vi (k : Int))]) X (Nat.le_of_ble_eq_true rfl) (by rfl) dX5_follow_125 ?_
              refine am_inc (x := (k : Int)) (v := ((k : Int) + 1)) (L' := [some (vr 16), some (vi (first : Int)), some (vi (last : Int)), some (vi bits), some (vi ow), some (vi 3), some (vi (σ 18 last)), some (vi r122), some (vi ((k : Int) + 1))]) X (by rfl) (by omega) (by omega) (by rfl) dX5_follow_127 ?_
              refine am_goto (tgt := 50) X dX5_follow_130 (by decide) ?_
              exact ih50 _ (by omega) (k + 1) (rg_ls L r119.toNat) r122 (by omega) (rg_ls_lt hL hlt.2) (hq122) (CLo_yes hmp hs.1 (by omega) (by omega) hbit (by unfold c_o c_w; rw [h68]) (by omega) (by omega) hq119) rfl
    exact hL50 _ (first + 1) 0 0 (by omega) (by decide) (rfl) (CLo_0) rfl
  · skip
    refine am_ic X (by decide) dX5_follow_40 ?_
    exact hret _ _ _ _ _ dX5_follow_41 rfl rfl (⟨rfl, rfl, CFo_vis (by rw [hv3] at h37; by_cases e : v.testBit (c_w σ last) = true; exact e; exact absurd (if_neg e) h37)⟩)

set_option maxHeartbeats 4000000 in
set_option maxRecDepth 100000 in
theorem m_X5_follow_4 (σ : am_H) (first last s v : Nat) (bits ow : Int) (hb : bits = (s : Int)) (ho : ow = (v : Int)) (hs : 0 < s ∧ s < 1048576) (hv : v < 256) (hf : (first : Int) < σ 16 5) (hl : (last : Int) < σ 16 5) (hc : 0 ≤ σ 16 5 ∧ σ 16 5 ≤ 20) (hp : 0 ≤ σ 1 2 ∧ σ 1 2 ≤ 8) (hdeb : DebV σ) : am_Mi yX5_follow cX5_follow 9 (some .int) 7 0 0 [vr 16, vi (first : Int), vi (last : Int), vi bits, vi ow, vi 4] SH σ (fun r sh' σ' => SH = sh' ∧ σ = σ' ∧ CFo σ 4 first last s v r) := by
  refine am_Mi_of (by decide +kernel) (Nat.le_of_ble_eq_true rfl) (fun K X hY hI hret => ?_)
  show am_G K 0 [some (vr 16), some (vi (first : Int)), some (vi (last : Int)), some (vi bits), some (vi ow), some (vi 4), none, none, none] [] SH σ
  have hdl := hdeb last hl
  have hdf := hdeb first hf
  have hpw : c_w σ last < 8 := by unfold c_w; omega
  have hpi : σ 18 last = (c_w σ last : Int) := by unfold c_w; omega
  have hofi : σ 17 first = (c_o σ first : Int) := by unfold c_o; omega
  obtain ⟨hv1, hv2, hv3⟩ := rg_orv ho hv hpw hpi
  refine am_aload_n (x := 16) X (by rfl) dX5_follow_0 ?_
  refine am_getr (c1 := 18) X 16 fl_X5_33 (by decide) sh_16 (by decide) (by rfl) dX5_follow_1 ?_
  refine am_iload_n (x := (last : Int)) X (by rfl) dX5_follow_4 ?_
  refine am_ald (v := σ 18 last) X 18 last sh_18 (by omega) (by omega) (rfl) dX5_follow_5 ?_
  refine am_istore (i := 6) (L' := [some (vr 16), some (vi (first : Int)), some (vi (last : Int)), some (vi bits), some (vi ow), some (vi 4), some (vi (σ 18 last)), none, none]) X (Nat.le_of_ble_eq_true rfl) (by rfl) dX5_follow_6 ?_
  refine am_iload (x := 4) X (by rfl) dX5_follow_8 ?_
  refine am_if_gt (tgt := 30) X dX5_follow_10 (by decide) (fun _ => ?_) (fun h => absurd h (by decide))
  refine am_iload (x := ow) X (by rfl) dX5_follow_30 ?_
  refine am_iload (x := σ 18 last) X (by rfl) dX5_follow_32 ?_
  refine am_ishr X dX5_follow_34 ?_
  refine am_ic X (by decide) dX5_follow_35 ?_
  refine am_iand X dX5_follow_36 ?_
  refine am_if_eq (tgt := 42) X dX5_follow_37 (by decide) (fun h37 => ?_) (fun h37 => ?_)
  · skip
    have hbit : v.testBit (c_w σ last) = false := by
      rw [hv3] at h37
      cases e : v.testBit (c_w σ last)
      · rfl
      · rw [e] at h37; exact absurd h37 (by decide)
    refine am_ic X (by decide) dX5_follow_42 ?_
    refine am_istore (i := 7) (L' := [some (vr 16), some (vi (first : Int)), some (vi (last : Int)), some (vi bits), some (vi ow), some (vi 4), some (vi (σ 18 last)), some (vi 0), none]) X (Nat.le_of_ble_eq_true rfl) (by rfl) dX5_follow_43 ?_
    refine am_iload_n (x := (first : Int)) X (by rfl) dX5_follow_45 ?_
    refine am_ic X (by decide) dX5_follow_46 ?_
    refine am_add (v := ((first : Int) + 1)) X (by first | rfl | omega) (by omega) dX5_follow_47 ?_
    refine am_istore (i := 8) (L' := [some (vr 16), some (vi (first : Int)), some (vi (last : Int)), some (vi bits), some (vi ow), some (vi 4), some (vi (σ 18 last)), some (vi 0), some (vi ((first : Int) + 1))]) X (Nat.le_of_ble_eq_true rfl) (by rfl) dX5_follow_48 ?_
    have hL50 : ∀ (m50 : Nat) (k : Nat) (L : Nat) (lv : Int) (hk : first + 1 ≤ k ∧ (k : Int) ≤ σ 16 5) (hL : L < 1048576) (hlv : lv = (L : Int)) (hmp : CLo σ 4 first last s v k L) (hm50 : 20 - k = m50), am_G K 50 [some (vr 16), some (vi (first : Int)), some (vi (last : Int)), some (vi bits), some (vi ow), some (vi 4), some (vi (σ 18 last)), some (vi lv), some (vi (k : Int))] [] SH σ := by
      intro m50
      induction m50 using Nat.strongRecOn with
      | ind m50 ih50 =>
      intro k L lv hk hL hlv hmp hm50
      refine am_iload (x := (k : Int)) X (by rfl) dX5_follow_50 ?_
      refine am_aload_n (x := 16) X (by rfl) dX5_follow_52 ?_
      refine am_get (v := σ 16 5) X 16 fl_X5_9 (by decide) sh_16 (by decide) (rfl) dX5_follow_53 ?_
      refine am_icmp_ge (tgt := 133) X dX5_follow_56 (by decide) (fun h56 => ?_) (fun h56 => ?_)
      · skip
        refine am_iload (x := lv) X (by rfl) dX5_follow_133 ?_
        exact hret _ _ _ _ _ dX5_follow_135 rfl rfl (⟨rfl, rfl, CFo_end (by rw [show (σ 16 5).toNat = k by omega]; exact hmp) hlv hL⟩)
      · skip
        have hdk := hdeb k (by omega)
        have hok : σ 17 k = (c_o σ k : Int) := by unfold c_o; omega
        refine am_aload_n (x := 16) X (by rfl) dX5_follow_59 ?_
        refine am_getr (c1 := 17) X 16 fl_X5_19 (by decide) sh_16 (by decide) (by rfl) dX5_follow_60 ?_
        refine am_iload (x := (k : Int)) X (by rfl) dX5_follow_63 ?_
        refine am_ald (v := σ 17 k) X 17 k sh_17 (by omega) (by omega) (rfl) dX5_follow_65 ?_
        refine am_iload (x := σ 18 last) X (by rfl) dX5_follow_66 ?_
        refine am_icmp_ne (tgt := 127) X dX5_follow_68 (by decide) (fun h68 => ?_) (fun h68 => ?_)
        · skip
          refine am_inc (x := (k : Int)) (v := ((k : Int) + 1)) (L' := [some (vr 16), some (vi (first : Int)), some (vi (last : Int)), some (vi bits), some (vi ow), some (vi 4), some (vi (σ 18 last)), some (vi lv), some (vi ((k : Int) + 1))]) X (by rfl) (by omega) (by omega) (by rfl) dX5_follow_127 ?_
          refine am_goto (tgt := 50) X dX5_follow_130 (by decide) ?_
          exact ih50 _ (by omega) (k + 1) L lv (by omega) (hL) (hlv) (CLo_no hmp (fun q => by have q3 := q.2.2; have q2 := q.2.1; have q1 := q.1; omega)) rfl
        · skip
          refine am_aload_n (x := 16) X (by rfl) dX5_follow_71 ?_
          refine am_getr (c1 := 20) X 16 fl_X5_36 (by decide) sh_16 (by decide) (by rfl) dX5_follow_72 ?_
          refine am_iload (x := (k : Int)) X (by rfl) dX5_follow_75 ?_
          refine am_ald (v := σ 20 k) X 20 k sh_20 (by omega) (by omega) (rfl) dX5_follow_77 ?_
          refine am_aload_n (x := 16) X (by rfl) dX5_follow_78 ?_
          refine am_getr (c1 := 20) X 16 fl_X5_36 (by decide) sh_16 (by decide) (by rfl) dX5_follow_79 ?_
          refine am_iload_n (x := (first : Int)) X (by rfl) dX5_follow_82 ?_
          refine am_ald (v := σ 20 first) X 20 first sh_20 (by omega) (by omega) (rfl) dX5_follow_83 ?_
          refine am_icmp_ne (tgt := 127) X dX5_follow_84 (by decide) (fun h84 => ?_) (fun h84 => ?_)
          · skip
            refine am_inc (x := (k : Int)) (v := ((k : Int) + 1)) (L' := [some (vr 16), some (vi (first : Int)), some (vi (last : Int)), some (vi bits), some (vi ow), some (vi 4), some (vi (σ 18 last)), some (vi lv), some (vi ((k : Int) + 1))]) X (by rfl) (by omega) (by omega) (by rfl) dX5_follow_127 ?_
            refine am_goto (tgt := 50) X dX5_follow_130 (by decide) ?_
            exact ih50 _ (by omega) (k + 1) L lv (by omega) (hL) (hlv) (CLo_no hmp (fun q => by have q3 := q.2.2; have q2 := q.2.1; have q1 := q.1; omega)) rfl
          · skip
            refine am_aload_n (x := 16) X (by rfl) dX5_follow_87 ?_
            refine am_iload (x := (k : Int)) X (by rfl) dX5_follow_88 ?_
            refine am_callVi (ci := 4) X hY lk_X5_15 mf_X4_isOpen (m_X4_isOpen (k : Int) k rfl σ hc) (by decide) (by decide) (Nat.le_refl _) (Nat.le_refl _) sh_16 rfl rfl rfl (Nat.le_of_ble_eq_true rfl) dX5_follow_90 (fun r90 sh90 σ90 hr90 hp90 => ?_)
            obtain ⟨rfl, rfl, hq90⟩ := hp90
            refine am_if_eq (tgt := 127) X dX5_follow_93 (by decide) (fun h93 => ?_) (fun h93 => ?_)
            · skip
              refine am_inc (x := (k : Int)) (v := ((k : Int) + 1)) (L' := [some (vr 16), some (vi (first : Int)), some (vi (last : Int)), some (vi bits), some (vi ow), some (vi 4), some (vi (σ 18 last)), some (vi lv), some (vi ((k : Int) + 1))]) X (by rfl) (by omega) (by omega) (by rfl) dX5_follow_127 ?_
              refine am_goto (tgt := 50) X dX5_follow_130 (by decide) ?_
              exact ih50 _ (by omega) (k + 1) L lv (by omega) (hL) (hlv) (CLo_no hmp (fun q => by have q3 := q.2.2; have q2 := q.2.1; have q1 := q.1; omega)) rfl
            · skip
              refine am_iload (x := lv) X (by rfl) dX5_follow_96 ?_
              refine am_aload_n (x := 16) X (by rfl) dX5_follow_98 ?_
              refine am_iload_n (x := (first : Int)) X (by rfl) dX5_follow_99 ?_
              refine am_iload (x := (k : Int)) X (by rfl) dX5_follow_100 ?_
              refine am_iload_n (x := bits) X (by rfl) dX5_follow_102 ?_
              refine am_ic X (by decide) dX5_follow_103 ?_
              refine am_iload (x := (k : Int)) X (by rfl) dX5_follow_104 ?_
              refine am_ishl X dX5_follow_106 ?_
              refine am_ior X dX5_follow_107 ?_
              refine am_iload (x := ow) X (by rfl) dX5_follow_108 ?_
              refine am_ic X (by decide) dX5_follow_110 ?_
              refine am_iload (x := σ 18 last) X (by rfl) dX5_follow_111 ?_
              refine am_ishl X dX5_follow_113 ?_
              refine am_ior X dX5_follow_114 ?_
              refine am_iload (x := 4) X (by rfl) dX5_follow_115 ?_
              refine am_ic X (by decide) dX5_follow_117 ?_
              refine am_sub (v := 3) X (by first | rfl | omega) (by omega) dX5_follow_118 ?_
              refine am_callSi X hY lk_X5_23 mf_X5_follow (m_X5_follow_3 σ first k (s ||| 2 ^ k) (v ||| 2 ^ c_w σ last) (am_or bits (am_shl 1 (k : Int))) (am_or ow (am_shl 1 (σ 18 last))) (rg_orl hb hs.2 (k := k) (by omega) rfl).1 hv1 ⟨Nat.lt_of_lt_of_le hs.1 Nat.left_le_or, (rg_orl hb hs.2 (k := k) (by omega) rfl).2⟩ hv2 hf (by omega) hc hp hdeb) (by decide) (by decide) (Nat.le_refl _) (Nat.le_refl _) rfl rfl (Nat.le_of_ble_eq_true rfl) dX5_follow_119 (fun r119 sh119 σ119 hr119 hp119 => ?_)
              obtain ⟨rfl, rfl, hq119⟩ := hp119
              have hlt := CFo_lt hq119
              refine am_callSi X hY lk_X5_29 mf_X5_lesser (m_X5_lesser σ lv r119 L r119.toNat hlv hlt.1 hL hlt.2) (by decide) (by decide) (Nat.le_refl _) (Nat.le_refl _) rfl rfl (Nat.le_of_ble_eq_true rfl) dX5_follow_122 (fun r122 sh122 σ122 hr122 hp122 => ?_)
              obtain ⟨rfl, rfl, hq122⟩ := hp122
              refine am_istore (i := 7) (L' := [some (vr 16), some (vi (first : Int)), some (vi (last : Int)), some (vi bits), some (vi ow), some (vi 4), some (vi (σ 18 last)), some (vi r122), some (vi (k : Int))]) X (Nat.le_of_ble_eq_true rfl) (by rfl) dX5_follow_125 ?_
              refine am_inc (x := (k : Int)) (v := ((k : Int) + 1)) (L' := [some (vr 16), some (vi (first : Int)), some (vi (last : Int)), some (vi bits), some (vi ow), some (vi 4), some (vi (σ 18 last)), some (vi r122), some (vi ((k : Int) + 1))]) X (by rfl) (by omega) (by omega) (by rfl) dX5_follow_127 ?_
              refine am_goto (tgt := 50) X dX5_follow_130 (by decide) ?_
              exact ih50 _ (by omega) (k + 1) (rg_ls L r119.toNat) r122 (by omega) (rg_ls_lt hL hlt.2) (hq122) (CLo_yes hmp hs.1 (by omega) (by omega) hbit (by unfold c_o c_w; rw [h68]) (by omega) (by omega) hq119) rfl
    exact hL50 _ (first + 1) 0 0 (by omega) (by decide) (rfl) (CLo_0) rfl
  · skip
    refine am_ic X (by decide) dX5_follow_40 ?_
    exact hret _ _ _ _ _ dX5_follow_41 rfl rfl (⟨rfl, rfl, CFo_vis (by rw [hv3] at h37; by_cases e : v.testBit (c_w σ last) = true; exact e; exact absurd (if_neg e) h37)⟩)

theorem m_X5_follow_x (m : Nat) (hm : 1 ≤ m ∧ m ≤ 4) (mm : Int) (hmm : mm = (m : Int)) (σ : am_H) (first last s v : Nat) (bits ow : Int) (hb : bits = (s : Int)) (ho : ow = (v : Int)) (hs : 0 < s ∧ s < 1048576) (hv : v < 256) (hf : (first : Int) < σ 16 5) (hl : (last : Int) < σ 16 5) (hc : 0 ≤ σ 16 5 ∧ σ 16 5 ≤ 20) (hp : 0 ≤ σ 1 2 ∧ σ 1 2 ≤ 8) (hdeb : DebV σ) : ∃ d, d ≤ 7 ∧ am_Mi yX5_follow cX5_follow 9 (some .int) d 0 0 [vr 16, vi (first : Int), vi (last : Int), vi bits, vi ow, vi mm] SH σ (fun r sh' σ' => SH = sh' ∧ σ = σ' ∧ CFo σ m first last s v r) := by
  subst hmm
  rcases (show m = 1 ∨ m = 2 ∨ m = 3 ∨ m = 4 by omega) with rfl | rfl | rfl | rfl
  · exact ⟨4, by decide, m_X5_follow_1 σ first last s v bits ow hb ho hs hv hf hl hc hp hdeb⟩
  · exact ⟨5, by decide, m_X5_follow_2 σ first last s v bits ow hb ho hs hv hf hl hc hp hdeb⟩
  · exact ⟨6, by decide, m_X5_follow_3 σ first last s v bits ow hb ho hs hv hf hl hc hp hdeb⟩
  · exact ⟨7, by decide, m_X5_follow_4 σ first last s v bits ow hb ho hs hv hf hl hc hp hdeb⟩

set_option maxHeartbeats 4000000 in
set_option maxRecDepth 100000 in
theorem m_X5_least (σ : am_H) (hc : 0 ≤ σ 16 5 ∧ σ 16 5 ≤ 20) (hp : 0 ≤ σ 1 2 ∧ σ 1 2 ≤ 8) (hdeb : DebV σ) : am_Mi yX5_least cX5_least 4 (some .int) 8 0 0 [vr 16] SH σ (fun r sh' σ' => SH = sh' ∧ σ = σ' ∧ c_rg σ r) := by
  refine am_Mi_of (by decide +kernel) (Nat.le_of_ble_eq_true rfl) (fun K X hY hI hret => ?_)
  show am_G K 0 [some (vr 16), none, none, none] [] SH σ
  refine am_ic X (by decide) dX5_least_0 ?_
  refine am_istore_n (i := 1) (L' := [some (vr 16), some (vi 0), none, none]) X rfl (Nat.le_of_ble_eq_true rfl) (by rfl) dX5_least_1 ?_
  refine am_ic X (by decide) dX5_least_2 ?_
  refine am_istore_n (i := 2) (L' := [some (vr 16), some (vi 0), some (vi 2), none]) X rfl (Nat.le_of_ble_eq_true rfl) (by rfl) dX5_least_3 ?_
  have hL4 : ∀ (m4 : Nat) (z : Nat) (x : Nat) (xv : Int) (hz : 2 ≤ z ∧ z ≤ 6) (hx : x < 1048576) (hxv : xv = (x : Int)) (hou : COu σ z x) (hm4 : 6 - z = m4), am_G K 4 [some (vr 16), some (vi xv), some (vi (z : Int)), none] [] SH σ := by
    intro m4
    induction m4 using Nat.strongRecOn with
    | ind m4 ih4 =>
    intro z x xv hz hx hxv hou hm4
    refine am_iload_n (x := (z : Int)) X (by rfl) dX5_least_4 ?_
    refine am_ic X (by decide) dX5_least_5 ?_
    refine am_icmp_gt (tgt := 68) X dX5_least_6 (by decide) (fun h6 => ?_) (fun h6 => ?_)
    · skip
      refine am_iload_n (x := xv) X (by rfl) dX5_least_68 ?_
      exact hret _ _ _ _ _ dX5_least_69 rfl rfl (⟨rfl, rfl, c_rg_of hou hxv hx (by omega) (by omega)⟩)
    · skip
      refine am_iload_n (x := xv) X (by rfl) dX5_least_9 ?_
      refine am_if_ne (tgt := 68) X dX5_least_10 (by decide) (fun h10 => ?_) (fun h10 => ?_)
      · skip
        refine am_iload_n (x := xv) X (by rfl) dX5_least_68 ?_
        exact hret _ _ _ _ _ dX5_least_69 rfl rfl (⟨rfl, rfl, c_rg_of hou hxv hx (by omega) (by omega)⟩)
      · skip
        refine am_ic X (by decide) dX5_least_13 ?_
        refine am_istore_n (i := 3) (L' := [some (vr 16), some (vi xv), some (vi (z : Int)), some (vi 0)]) X rfl (Nat.le_of_ble_eq_true rfl) (by rfl) dX5_least_14 ?_
        have hL15 : ∀ (m15 : Nat) (f : Nat) (y : Nat) (yv : Int) (hfk : (f : Int) ≤ σ 16 5) (hy : y < 1048576) (hyv : yv = (y : Int)) (hin : CIn σ (z - 1) f y) (hm15 : 20 - f = m15), am_G K 15 [some (vr 16), some (vi yv), some (vi (z : Int)), some (vi (f : Int))] [] SH σ := by
          intro m15
          induction m15 using Nat.strongRecOn with
          | ind m15 ih15 =>
          intro f y yv hfk hy hyv hin hm15
          refine am_iload_n (x := (f : Int)) X (by rfl) dX5_least_15 ?_
          refine am_aload_n (x := 16) X (by rfl) dX5_least_16 ?_
          refine am_get (v := σ 16 5) X 16 fl_X5_9 (by decide) sh_16 (by decide) (rfl) dX5_least_17 ?_
          refine am_icmp_ge (tgt := 62) X dX5_least_20 (by decide) (fun h20 => ?_) (fun h20 => ?_)
          · skip
            refine am_inc (x := (z : Int)) (v := ((z : Int) + 1)) (L' := [some (vr 16), some (vi yv), some (vi ((z : Int) + 1)), some (vi (f : Int))]) X (by rfl) (by omega) (by omega) (by rfl) dX5_least_62 ?_
            refine am_goto (tgt := 4) X dX5_least_65 (by decide) ?_
            refine am_fg [true, true, true, false] rfl (L' := [some (vr 16), some (vi yv), some (vi ((z : Int) + 1)), none]) rfl ?_
            exact ih4 _ (by omega) (z + 1) y yv (by omega) (hy) (hyv) (COu_s hou (by omega) (show z - 1 + 1 = z by omega) (by omega) (by rw [show (σ 16 5).toNat = f by omega]; exact hin)) rfl
          · skip
            refine am_aload_n (x := 16) X (by rfl) dX5_least_23 ?_
            refine am_iload_n (x := (f : Int)) X (by rfl) dX5_least_24 ?_
            refine am_callVi (ci := 4) X hY lk_X5_15 mf_X4_isOpen (m_X4_isOpen (f : Int) f rfl σ hc) (by omega) (by decide) (Nat.le_refl _) (Nat.le_refl _) sh_16 rfl rfl rfl (Nat.le_of_ble_eq_true rfl) dX5_least_25 (fun r25 sh25 σ25 hr25 hp25 => ?_)
            obtain ⟨rfl, rfl, hq25⟩ := hp25
            refine am_if_eq (tgt := 56) X dX5_least_28 (by decide) (fun h28 => ?_) (fun h28 => ?_)
            · skip
              refine am_inc (x := (f : Int)) (v := ((f : Int) + 1)) (L' := [some (vr 16), some (vi yv), some (vi (z : Int)), some (vi ((f : Int) + 1))]) X (by rfl) (by omega) (by omega) (by rfl) dX5_least_56 ?_
              refine am_goto (tgt := 15) X dX5_least_59 (by decide) ?_
              exact ih15 _ (by omega) (f + 1) y yv (by omega) (hy) (hyv) (CIn_no hin (by omega)) rfl
            · skip
              have hdf := hdeb f (by omega)
              have hof : σ 17 f = (c_o σ f : Int) := by unfold c_o; omega
              have hoff : c_o σ f < 8 := by omega
              have hp1 := rg_shl' f (by omega)
              have hp2 := rg_shl' (c_o σ f) (by omega)
              have hp3 : 2 ^ c_o σ f < 256 := (show (2 : Nat) ^ c_o σ f < 2 ^ 8 from Nat.pow_lt_pow_right (by decide) hoff)
              refine am_iload_n (x := yv) X (by rfl) dX5_least_31 ?_
              refine am_aload_n (x := 16) X (by rfl) dX5_least_32 ?_
              refine am_iload_n (x := (f : Int)) X (by rfl) dX5_least_33 ?_
              refine am_iload_n (x := (f : Int)) X (by rfl) dX5_least_34 ?_
              refine am_ic X (by decide) dX5_least_35 ?_
              refine am_iload_n (x := (f : Int)) X (by rfl) dX5_least_36 ?_
              refine am_ishl X dX5_least_37 ?_
              refine am_ic X (by decide) dX5_least_38 ?_
              refine am_aload_n (x := 16) X (by rfl) dX5_least_39 ?_
              refine am_getr (c1 := 17) X 16 fl_X5_19 (by decide) sh_16 (by decide) (by rfl) dX5_least_40 ?_
              refine am_iload_n (x := (f : Int)) X (by rfl) dX5_least_43 ?_
              refine am_ald (v := σ 17 f) X 17 f sh_17 (by omega) (by omega) (rfl) dX5_least_44 ?_
              refine am_ishl X dX5_least_45 ?_
              refine am_iload_n (x := (z : Int)) X (by rfl) dX5_least_46 ?_
              refine am_ic X (by decide) dX5_least_47 ?_
              refine am_sub (v := ((z : Int) - 1)) X (by first | rfl | omega) (by omega) dX5_least_48 ?_
              obtain ⟨dq, hdq, hMq⟩ := m_X5_follow_x (z - 1) (by omega) ((z : Int) - 1) (by omega) σ f f (2 ^ f) (2 ^ c_o σ f) (am_shl 1 (f : Int)) (am_shl 1 (σ 17 f)) hp1.1 (by rw [hof]; exact hp2.1) ⟨hp1.2.2, hp1.2.1⟩ hp3 (by omega) (by omega) hc hp hdeb
              refine am_callSi X hY lk_X5_23 mf_X5_follow hMq (by omega) (by decide) (Nat.le_refl _) (Nat.le_refl _) rfl rfl (Nat.le_of_ble_eq_true rfl) dX5_least_49 (fun r49 sh49 σ49 hr49 hp49 => ?_)
              obtain ⟨rfl, rfl, hq49⟩ := hp49
              have hlt := CFo_lt hq49
              refine am_callSi X hY lk_X5_29 mf_X5_lesser (m_X5_lesser σ yv r49 y r49.toNat hyv hlt.1 hy hlt.2) (by omega) (by decide) (Nat.le_refl _) (Nat.le_refl _) rfl rfl (Nat.le_of_ble_eq_true rfl) dX5_least_52 (fun r52 sh52 σ52 hr52 hp52 => ?_)
              obtain ⟨rfl, rfl, hq52⟩ := hp52
              refine am_istore_n (i := 1) (L' := [some (vr 16), some (vi r52), some (vi (z : Int)), some (vi (f : Int))]) X rfl (Nat.le_of_ble_eq_true rfl) (by rfl) dX5_least_55 ?_
              refine am_inc (x := (f : Int)) (v := ((f : Int) + 1)) (L' := [some (vr 16), some (vi r52), some (vi (z : Int)), some (vi ((f : Int) + 1))]) X (by rfl) (by omega) (by omega) (by rfl) dX5_least_56 ?_
              refine am_goto (tgt := 15) X dX5_least_59 (by decide) ?_
              exact ih15 _ (by omega) (f + 1) (rg_ls y r49.toNat) r52 (by omega) (rg_ls_lt hy hlt.2) (hq52) (CIn_yes hin (by omega) (by omega) hq49) rfl
        exact hL15 _ 0 0 xv (by omega) (by decide) (by omega) (CIn_0) rfl
  exact hL4 _ 2 0 0 (by omega) (by decide) (rfl) (COu_2) rfl

set_option maxHeartbeats 4000000 in
set_option maxRecDepth 100000 in
theorem m_X9_ring (σ : am_H) (hc : 0 ≤ σ 16 5 ∧ σ 16 5 ≤ 20) (hp : 0 ≤ σ 1 2 ∧ σ 1 2 ≤ 8) (hdeb : DebV σ) : am_Mi yX9_ring cX9_ring 2 (some .int) 9 0 0 [vr 0] SH σ (fun r sh' σ' => SH = sh' ∧ σ = σ' ∧ ∃ x, c_rg σ x ∧ r = (if x = 0 then -2 else x)) := by
  refine am_Mi_of (by decide +kernel) (Nat.le_of_ble_eq_true rfl) (fun K X hY hI hret => ?_)
  show am_G K 0 [some (vr 0), none] [] SH σ
  refine am_aload_n (x := 0) X (by rfl) dX9_ring_0 ?_
  refine am_getr (c1 := 16) X 0 fl_X9_33 (by decide) sh_0 (by decide) (by rfl) dX9_ring_1 ?_
  refine am_callSi X hY lk_X9_227 mf_X5_least (m_X5_least σ hc hp hdeb) (by decide) (by decide) (Nat.le_refl _) (Nat.le_refl _) rfl rfl (Nat.le_of_ble_eq_true rfl) dX9_ring_4 (fun r4 sh4 σ4 hr4 hp4 => ?_)
  obtain ⟨rfl, rfl, hq4⟩ := hp4
  refine am_istore_n (i := 1) (L' := [some (vr 0), some (vi r4)]) X rfl (Nat.le_of_ble_eq_true rfl) (by rfl) dX9_ring_7 ?_
  refine am_iload_n (x := r4) X (by rfl) dX9_ring_8 ?_
  refine am_if_ne (tgt := 17) X dX9_ring_9 (by decide) (fun h9 => ?_) (fun h9 => ?_)
  · skip
    refine am_iload_n (x := r4) X (by rfl) dX9_ring_17 ?_
    exact hret _ _ _ _ _ dX9_ring_18 rfl rfl (⟨rfl, rfl, r4, hq4, by rw [if_neg (by omega)]⟩)
  · skip
    refine am_bipush X (by decide) dX9_ring_12 ?_
    refine am_goto (tgt := 18) X dX9_ring_14 (by decide) ?_
    exact hret _ _ _ _ _ dX9_ring_18 rfl rfl (⟨rfl, rfl, r4, hq4, by rw [if_pos (by omega)]⟩)

set_option maxHeartbeats 4000000 in
set_option maxRecDepth 100000 in
theorem m_X9_strike (σ : am_H) (hc : 0 ≤ σ 16 5 ∧ σ 16 5 ≤ 20) (hd : ∀ n : Nat, (n : Int) < σ 16 5 → 0 ≤ σ 19 n ∧ σ 19 n ≤ 9) (hp : 0 ≤ σ 1 2 ∧ σ 1 2 ≤ 8) (hdeb : DebV σ) : am_Mi yX9_strike cX9_strike 2 (some .int) 9 0 0 [vr 0] SH σ (fun r sh' σ' => SH = sh' ∧ ∃ x, c_rg σ x ∧ ((x = 0 ∧ σ = σ' ∧ r = -2) ∨ (x ≠ 0 ∧ led_strike x (led_least σ x (σ 16 5).toNat) (σ 16 5).toNat σ = σ' ∧ r = led_least σ x (σ 16 5).toNat))) := by
  refine am_Mi_of (by decide +kernel) (Nat.le_of_ble_eq_true rfl) (fun K X hY hI hret => ?_)
  show am_G K 0 [some (vr 0), none] [] SH σ
  refine am_aload_n (x := 0) X (by rfl) dX9_strike_0 ?_
  refine am_getr (c1 := 16) X 0 fl_X9_33 (by decide) sh_0 (by decide) (by rfl) dX9_strike_1 ?_
  refine am_callSi X hY lk_X9_227 mf_X5_least (m_X5_least σ hc hp hdeb) (by decide) (by decide) (Nat.le_refl _) (Nat.le_refl _) rfl rfl (Nat.le_of_ble_eq_true rfl) dX9_strike_4 (fun r4 sh4 σ4 hr4 hp4 => ?_)
  obtain ⟨rfl, rfl, hq4⟩ := hp4
  refine am_istore_n (i := 1) (L' := [some (vr 0), some (vi r4)]) X rfl (Nat.le_of_ble_eq_true rfl) (by rfl) dX9_strike_7 ?_
  refine am_iload_n (x := r4) X (by rfl) dX9_strike_8 ?_
  refine am_if_ne (tgt := 17) X dX9_strike_9 (by decide) (fun h9 => ?_) (fun h9 => ?_)
  · skip
    refine am_aload_n (x := 0) X (by rfl) dX9_strike_17 ?_
    refine am_getr (c1 := 16) X 0 fl_X9_33 (by decide) sh_0 (by decide) (by rfl) dX9_strike_18 ?_
    refine am_iload_n (x := r4) X (by rfl) dX9_strike_21 ?_
    refine am_callVi (ci := 4) X hY lk_X9_243 mf_X4_strikeOut (m_X4_strikeOut r4 σ hc hd) (by decide) (by decide) (Nat.le_refl _) (Nat.le_refl _) sh_16 rfl rfl rfl (Nat.le_of_ble_eq_true rfl) dX9_strike_22 (fun r22 sh22 σ22 hr22 hp22 => ?_)
    obtain ⟨rfl, rfl, hq22⟩ := hp22
    exact hret _ _ _ _ _ dX9_strike_25 rfl rfl (⟨rfl, r4, hq4, Or.inr ⟨by omega, rfl, hq22⟩⟩)
  · skip
    refine am_bipush X (by decide) dX9_strike_12 ?_
    refine am_goto (tgt := 25) X dX9_strike_14 (by decide) ?_
    exact hret _ _ _ _ _ dX9_strike_25 rfl rfl (⟨rfl, r4, hq4, Or.inl ⟨by omega, rfl, rfl⟩⟩)
