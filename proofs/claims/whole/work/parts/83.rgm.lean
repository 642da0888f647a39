/-! rings of the reference -/
theorem rg_pc_le : ∀ m x : Nat, rg_pc m x ≤ m
  | 0, _ => Nat.le_refl _
  | m + 1, x => by
    show x % 2 + rg_pc m (x / 2) ≤ m + 1
    have := rg_pc_le m (x / 2); omega
def m_o (σ : am_H) (k : Nat) : Nat := (σ 68 (5 * k)).toNat
def m_w (σ : am_H) (k : Nat) : Nat := (σ 68 (5 * k + 1)).toNat
def m_kd (σ : am_H) (k : Nat) : Int := σ 68 (5 * k + 3)
def m_op (σ : am_H) (k : Nat) : Prop := 0 < σ 68 (5 * k + 2)
def m_W (σ : am_H) (first last v : Nat) (es : List Nat) : Prop := rg_wy (m_o σ) (m_w σ) (m_kd σ) (m_op σ) (σ 63 7).toNat 0 first last v es
abbrev md_frr (σ τ : am_H) : Prop := ∀ c k : Nat, (c ≠ 63 ∨ k ≠ 27) → τ c k = σ c k
theorem m_W_fr {σ τ : am_H} (h : md_frr σ τ) : m_W τ = m_W σ := by
  funext first last v es
  unfold m_W
  rw [h 63 7 (by decide), show m_o τ = m_o σ from funext fun k => by unfold m_o; rw [h 68 _ (Or.inl (by decide))], show m_w τ = m_w σ from funext fun k => by unfold m_w; rw [h 68 _ (Or.inl (by decide))], show m_kd τ = m_kd σ from funext fun k => by unfold m_kd; rw [h 68 _ (Or.inl (by decide))], show m_op τ = m_op σ from funext fun k => by unfold m_op; rw [h 68 _ (Or.inl (by decide))]]
theorem md_deb_frr {σ τ : am_H} (h : md_frr σ τ) (hs : MdeV σ) : MdeV τ := fun n hn => by
  rw [h 63 7 (by decide)] at hn
  rw [h 68 _ (Or.inl (by decide)), h 68 _ (Or.inl (by decide)), h 68 _ (Or.inl (by decide)), h 63 6 (by decide)]
  exact hs n hn
def rg_bl (x y : Int) : Prop := y < 0 ∨ (0 ≤ x ∧ (rg_pc 20 x.toNat < rg_pc 20 y.toNat ∨ (rg_pc 20 x.toNat = rg_pc 20 y.toNat ∧ x ≤ y)))
theorem rg_bl_t {x y z : Int} (h : rg_bl x y) (g : rg_bl y z) : rg_bl x z := by
  unfold rg_bl at *; omega
theorem rg_bl_r (x : Int) : rg_bl x x := by unfold rg_bl; omega
theorem rg_bl_1 {s : Nat} {b : Int} (h : b < 0 ∨ rg_pc 20 s < rg_pc 20 b.toNat ∨ (rg_pc 20 s = rg_pc 20 b.toNat ∧ (s : Int) ≤ b)) : rg_bl (s : Int) b := by
  unfold rg_bl; rw [Int.toNat_natCast]; omega
theorem rg_bl_2 {s : Nat} {b : Int} (h : 0 ≤ b ∧ (rg_pc 20 b.toNat < rg_pc 20 s ∨ (rg_pc 20 b.toNat = rg_pc 20 s ∧ b ≤ (s : Int)))) : rg_bl b (s : Int) := by
  unfold rg_bl; rw [Int.toNat_natCast]; omega
def rg_mb (b b' : Int) (Q : List Nat → Prop) (V : List Nat → Nat) : Prop := (b' = b ∨ ∃ es, Q es ∧ b' = (V es : Int)) ∧ rg_bl b' b ∧ ∀ es, Q es → rg_bl b' (V es : Int)
theorem rg_mb_no {b : Int} {Q : List Nat → Prop} {V : List Nat → Nat} (h : ∀ es, ¬ Q es) : rg_mb b b Q V := ⟨Or.inl rfl, rg_bl_r b, fun es q => absurd q (h es)⟩
theorem rg_mb_congr {b b' : Int} {Q Q' : List Nat → Prop} {V : List Nat → Nat} (h : rg_mb b b' Q V) (hq : ∀ es, Q' es ↔ Q es) : rg_mb b b' Q' V := ⟨h.1.elim Or.inl (fun ⟨es, q, e⟩ => Or.inr ⟨es, (hq es).mpr q, e⟩), h.2.1, fun es q => h.2.2 es ((hq es).mp q)⟩
theorem rg_mb_or {b b1 b2 : Int} {Q Q' Q'' : List Nat → Prop} {V V' : List Nat → Nat} {e : List Nat → List Nat} (h : rg_mb b b1 Q V) (h' : rg_mb b1 b2 Q' V') (hq : ∀ es, Q'' es ↔ Q es ∨ ∃ es', es = e es' ∧ Q' es') (hv : ∀ es', V (e es') = V' es') : rg_mb b b2 Q'' V := by
  refine ⟨?_, rg_bl_t h'.2.1 h.2.1, fun es q => ?_⟩
  · rcases h'.1 with g | ⟨es, q, g⟩
    · rcases h.1 with g2 | ⟨es, q, g2⟩
      · exact Or.inl (g.trans g2)
      · exact Or.inr ⟨es, (hq es).mpr (Or.inl q), g.trans g2⟩
    · exact Or.inr ⟨e es, (hq _).mpr (Or.inr ⟨es, rfl, q⟩), by rw [hv]; exact g⟩
  · rcases (hq es).mp q with q1 | ⟨es', rfl, q1⟩
    · exact rg_bl_t h'.2.1 (h.2.2 es q1)
    · rw [hv]; exact h'.2.2 es' q1
def MFo (σ : am_H) (d first last s v : Nat) (b b' : Int) : Prop := rg_mb b b' (fun es => es.length ≤ d ∧ m_W σ first last v es) (rg_V s)
def MLo (σ : am_H) (d first last s v k : Nat) (b b' : Int) : Prop := rg_mb b b' (fun es => (∃ j es', es = j :: es' ∧ j < k) ∧ es.length ≤ d ∧ m_W σ first last v es) (rg_V s)
/-- who has been met -/
def MVi (σ : am_H) (first s v : Nat) : Prop := v.testBit (m_o σ first) = true ∧ ∀ k, s.testBit k = true → v.testBit (m_o σ k) = true
theorem MVi_fr {σ τ : am_H} (h : md_frr σ τ) {first s v : Nat} (hv : MVi σ first s v) : MVi τ first s v := by
  unfold MVi at *
  rw [show m_o τ = m_o σ from funext fun k => by unfold m_o; rw [h 68 _ (Or.inl (by decide))]]; exact hv
theorem MFo_fr {σ τ : am_H} (h : md_frr σ τ) {d first last s v : Nat} {b b' : Int} (hm : MFo τ d first last s v b b') : MFo σ d first last s v b b' := by
  unfold MFo at *
  rw [m_W_fr h] at hm; exact hm
theorem m_W_cons {σ : am_H} {first last v k : Nat} {es : List Nat} : m_W σ first last v (k :: es) ↔ v.testBit (m_w σ last) = false ∧ rg_ok (m_kd σ) (m_op σ) (σ 63 7).toNat 0 first k ∧ m_o σ k = m_w σ last ∧ m_W σ first k (v ||| 2 ^ m_w σ last) es := Iff.rfl
theorem MFo_cl {σ : am_H} {d first last s v : Nat} {b b' : Int} (hw : m_w σ last = m_o σ first) (hv : MVi σ first s v) (hb : (b' = (s : Int) ∧ rg_bl (s : Int) b) ∨ (b' = b ∧ rg_bl b (s : Int))) : MFo σ d first last s v b b' := by
  have hq : ∀ es, (es.length ≤ d ∧ m_W σ first last v es) → es = [] := fun es q => by
    cases es with
    | nil => rfl
    | cons k es => have h1 := (m_W_cons.mp q.2).1; rw [hw, hv.1] at h1; exact absurd h1 (by decide)
  have h0 : m_W σ first last v [] := hw
  rcases hb with ⟨rfl, hb⟩ | ⟨rfl, hb⟩
  · exact ⟨Or.inr ⟨[], ⟨Nat.zero_le _, h0⟩, rfl⟩, hb, fun es q => by rw [hq es q]; exact rg_bl_r _⟩
  · exact ⟨Or.inl rfl, rg_bl_r _, fun es q => by rw [hq es q]; exact hb⟩
theorem MFo_5 {σ : am_H} {first last s v : Nat} {b : Int} (hw : ¬ m_w σ last = m_o σ first) : MFo σ 0 first last s v b b := rg_mb_no (fun es q => by
  have h2 := q.2
  rw [List.eq_nil_of_length_eq_zero (Nat.le_zero.mp q.1)] at h2; exact hw h2)
theorem MLo_0 {σ : am_H} {d first last s v : Nat} {b : Int} : MLo σ d first last s v 0 b b := rg_mb_no (fun es q => by obtain ⟨⟨j, es', -, hj⟩, -⟩ := q; exact absurd hj (Nat.not_lt_zero _))
theorem MLo_no {σ : am_H} {d first last s v k : Nat} {b b' : Int} (h : MLo σ d first last s v k b b') (hn : ¬ (0 < σ 68 (5 * k + 2) ∧ m_kd σ k = m_kd σ first ∧ m_o σ k = m_w σ last ∧ v.testBit (m_w σ last) = false)) : MLo σ d first last s v (k + 1) b b' := by
  refine rg_mb_congr h (fun es => ⟨?_, ?_⟩)
  · rintro ⟨⟨j, es', rfl, hj⟩, q, q2⟩
    refine ⟨⟨j, es', rfl, ?_⟩, q, q2⟩
    have h2 := m_W_cons.mp q2
    by_cases e : j = k
    · subst e; exact absurd ⟨h2.2.1.2.2.1, h2.2.1.2.2.2, h2.2.2.1, h2.1⟩ hn
    · omega
  · rintro ⟨⟨j, es', rfl, hj⟩, q⟩
    exact ⟨⟨j, es', rfl, by omega⟩, q⟩
theorem MLo_yes {σ : am_H} {d first last s v k : Nat} {b b1 b2 : Int} (h : MLo σ (d + 1) first last s v k b b1) (hk : k < (σ 63 7).toNat) (h3 : 0 < σ 68 (5 * k + 2)) (h2 : m_kd σ k = m_kd σ first) (h1 : m_o σ k = m_w σ last) (hb : v.testBit (m_w σ last) = false) (hx : MFo σ d first k (s ||| 2 ^ k) (v ||| 2 ^ m_o σ k) b1 b2) : MLo σ (d + 1) first last s v (k + 1) b b2 := by
  rw [h1] at hx
  refine rg_mb_or (e := fun es => k :: es) h hx (fun es => ⟨?_, ?_⟩) (fun es' => rfl)
  · rintro ⟨⟨j, es', rfl, hj⟩, q, q2⟩
    by_cases e : j = k
    · subst e
      exact Or.inr ⟨es', rfl, by simpa using q, (m_W_cons.mp q2).2.2.2⟩
    · exact Or.inl ⟨⟨j, es', rfl, by omega⟩, q, q2⟩
  · rintro (⟨⟨j, es', rfl, hj⟩, q⟩ | ⟨es', rfl, q, q2⟩)
    · exact ⟨⟨j, es', rfl, by omega⟩, q⟩
    · exact ⟨⟨k, es', rfl, Nat.lt_succ_self k⟩, by simpa using q, m_W_cons.mpr ⟨hb, ⟨hk, Nat.zero_le _, h3, h2⟩, h1, q2⟩⟩
theorem MFo_end {σ : am_H} {d first last s v : Nat} {b b' : Int} (h : MLo σ d first last s v (σ 63 7).toNat b b') (hw : ¬ m_w σ last = m_o σ first) : MFo σ d first last s v b b' :=
  rg_mb_congr h (fun es => ⟨fun q => ⟨by
    cases es with
    | nil => exact absurd q.2 hw
    | cons k es => exact ⟨k, es, rfl, (m_W_cons.mp q.2).2.1.1⟩, q⟩, fun q => q.2⟩)
theorem MVi_s {σ : am_H} {first last s v k : Nat} (h : MVi σ first s v) (h1 : m_o σ k = m_w σ last) (hb : v.testBit (m_w σ last) = false) : MVi σ first (s ||| 2 ^ k) (v ||| 2 ^ m_o σ k) ∧ s.testBit k = false := by
  refine ⟨⟨by rw [Nat.testBit_or, h.1]; rfl, fun j hj => ?_⟩, ?_⟩
  · rw [Nat.testBit_or, Bool.or_eq_true] at hj ⊢
    rcases hj with q | q
    · exact Or.inl (h.2 j q)
    · rw [Nat.testBit_two_pow, decide_eq_true_iff] at q
      rw [← q, Nat.testBit_two_pow]; exact Or.inr (decide_eq_true rfl)
  · cases e : s.testBit k with
    | false => rfl
    | true => have := h.2 k e; rw [h1, hb] at this; exact absurd this (by decide)
theorem rg_pc_s {d s k : Nat} (hk : k < 20) (hb : s.testBit k = false) (h : rg_pc 20 s + (d + 1) = 5) : rg_pc 20 (s ||| 2 ^ k) + d = 5 := by
  rw [rg_pc_or 20 s k hk hb]; omega
theorem rg_pc_1 {k : Nat} (hk : k < 20) : rg_pc 20 (2 ^ k) + 4 = 5 := by
  have := rg_pc_or 20 0 k hk (Nat.zero_testBit k)
  rw [Nat.zero_or, rg_pc_0] at this; omega
theorem MVi_1 {σ : am_H} {k : Nat} : MVi σ k (2 ^ k) (2 ^ m_o σ k) := by
  refine ⟨by rw [Nat.testBit_two_pow]; exact decide_eq_true rfl, fun j hj => ?_⟩
  rw [Nat.testBit_two_pow, decide_eq_true_iff] at hj
  rw [← hj, Nat.testBit_two_pow]; exact decide_eq_true rfl
theorem MFo_bd {σ : am_H} {d first last s v : Nat} {b b' : Int} (h : MFo σ d first last s v b b') (hs : s < 1048576) (hb : b < 1048576) (hn : σ 63 7 ≤ 20) : b' < 1048576 := by
  rcases h.1 with q | ⟨es, q, e⟩
  · omega
  · have h2 : ∀ k, k ∈ es → k < 20 := fun k hk => by
      have hw := q.2
      unfold m_W at hw
      rw [rg_wy_iff] at hw
      have := (hw.1 k hk).1.1; omega
    have := rg_V_lt es s hs h2; omega
/-- over all first debts -/
def m_R (σ : am_H) (l : List Nat) : Prop := rg_R (m_o σ) (m_w σ) (m_kd σ) (m_op σ) (σ 63 7).toNat false l
def MIn (σ : am_H) (f : Nat) (b : Int) : Prop := rg_mb (-2) b (fun l => (∃ j es, l = j :: es ∧ j < f) ∧ l.length ≤ 5 ∧ m_R σ l) rg_V0
theorem MIn_0 {σ : am_H} : MIn σ 0 (-2) := rg_mb_no (fun es q => by obtain ⟨⟨j, es', -, hj⟩, -⟩ := q; exact absurd hj (Nat.not_lt_zero _))
theorem MIn_no {σ : am_H} {f : Nat} {b : Int} (h : MIn σ f b) (hn : ¬ 0 < σ 68 (5 * f + 2)) : MIn σ (f + 1) b := by
  refine rg_mb_congr h (fun es => ⟨?_, ?_⟩)
  · rintro ⟨⟨j, es', rfl, hj⟩, q, q2⟩
    refine ⟨⟨j, es', rfl, ?_⟩, q, q2⟩
    by_cases e : j = f
    · subst e; exact absurd q2.1.2 hn
    · omega
  · rintro ⟨⟨j, es', rfl, hj⟩, q⟩
    exact ⟨⟨j, es', rfl, by omega⟩, q⟩
theorem MIn_yes {σ : am_H} {f : Nat} {b b2 : Int} (h : MIn σ f b) (hf : f < (σ 63 7).toNat) (h3 : 0 < σ 68 (5 * f + 2)) (hx : MFo σ 4 f f (2 ^ f) (2 ^ m_o σ f) b b2) : MIn σ (f + 1) b2 := by
  refine rg_mb_or (e := fun es => f :: es) h hx (fun es => ⟨?_, ?_⟩) (fun es' => rfl)
  · rintro ⟨⟨j, es', rfl, hj⟩, q, q2⟩
    by_cases e : j = f
    · subst e
      exact Or.inr ⟨es', rfl, by simpa using q, q2.2⟩
    · exact Or.inl ⟨⟨j, es', rfl, by omega⟩, q, q2⟩
  · rintro (⟨⟨j, es', rfl, hj⟩, q⟩ | ⟨es', rfl, q, q2⟩)
    · exact ⟨⟨j, es', rfl, by omega⟩, q⟩
    · exact ⟨⟨f, es', rfl, Nat.lt_succ_self f⟩, by simpa using q, ⟨hf, h3⟩, q2⟩
def m_rg (σ : am_H) (r : Int) : Prop := rg_mb (-2) r (fun l => l.length ≤ 5 ∧ m_R σ l) rg_V0
theorem m_rg_of {σ : am_H} {b : Int} (h : MIn σ (σ 63 7).toNat b) : m_rg σ b := rg_mb_congr h (fun es => ⟨fun q => ⟨by
    cases es with
    | nil => exact q.2.elim
    | cons a es => exact ⟨a, es, rfl, q.2.1.1⟩, q⟩, fun q => q.2⟩)
