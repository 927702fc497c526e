/-! the least square of a set -/
theorem abr.low {w : Int64} {p : Nat → Bool} (h : abr w p) : abr (w &&& (-w)) (fun q => p q && !ab_any p q) := fun q => by
  rw [ab_and, h q]
  by_cases hq : q < 36
  · show (_ && (-w).toBitVec.getLsbD q) = _
    rw [Int64.toBitVec_neg, BitVec.getLsbD_neg]
    have e : w.toBitVec.getLsbD q = p q := h.at hq
    rw [e]
    have h64 : q < 64 := by omega
    have ea : decide (∃ j, j < q ∧ w.toBitVec.getLsbD j = true) = ab_any p q := by
      rw [Bool.eq_iff_iff, decide_eq_true_eq, ab_any_iff]
      constructor
      · rintro ⟨j, hj, hp⟩
        exact ⟨j, hj, by rw [← h.at (by omega : j < 36)]; exact hp⟩
      · rintro ⟨j, hj, hp⟩
        exact ⟨j, hj, by rw [← h.at (by omega : j < 36)] at hp; exact hp⟩
    rw [ea]
    simp only [hq, h64, decide_true, Bool.true_and]
    cases p q <;> cases ab_any p q <;> rfl
  · simp [hq]
theorem low_at {p : Nat → Bool} {j : Nat} (hp : p j = true) (hf : ∀ i, i < j → p i = false) (q : Nat) : (p q && !ab_any p q) = decide (q = j) := by
  rw [Bool.eq_iff_iff, decide_eq_true_eq, Bool.and_eq_true, Bool.not_eq_true']
  constructor
  · rintro ⟨h1, h2⟩
    rcases Nat.lt_trichotomy q j with h | h | h
    · rw [hf q h] at h1; cases h1
    · exact h
    · have : ab_any p q = true := ab_any_iff.mpr ⟨j, h, hp⟩
      rw [this] at h2; cases h2
  · rintro rfl
    refine ⟨hp, ?_⟩
    cases ha : ab_any p q
    · rfl
    · obtain ⟨k, hk, h⟩ := ab_any_iff.mp ha
      rw [hf k hk] at h; cases h
theorem abr.low_eq {w : Int64} {p : Nat → Bool} (h : abr w p) {j : Nat} (hj : j < 36) (hp : p j = true) (hf : ∀ i, i < j → p i = false) : w &&& (-w) = am_bit (nI j) :=
  (h.low.congr (fun q _ => low_at hp hf q)).uniq (abr_bit hj)
theorem low_ct : ∀ j, j < 36 → fb_ct (fun q => decide (q < j)) 40 = j := by decide +kernel
theorem abr.least {w : Int64} {p : Nat → Bool} (h : abr w p) {j : Nat} (hj : j < 36) (hp : p j = true) (hf : ∀ i, i < j → p i = false) : am_least w = nI j := by
  unfold am_least
  rw [if_neg, h.low_eq hj hp hf, am_bit_n hj]
  · show am_bc (lN (2 ^ j) - lN 1) = _
    have h1 : 1 ≤ 2 ^ j := Nat.one_le_two_pow
    have h2 : 2 ^ j ≤ 2 ^ 36 := Nat.pow_le_pow_right (by decide) (by omega)
    rw [lN_sub h1, am_bc_lN (by omega)]
    congr 1
    rw [← low_ct j hj]
    exact fb_ct_cong (fun k _ => by rw [low_ct j hj]; exact Nat.testBit_two_pow_sub_one j k)
  · rw [h.zero]
    intro hz
    rw [hz j hj] at hp
    cases hp
theorem abr.least0 {w : Int64} {p : Nat → Bool} (h : abr w p) (hz : ∀ q, q < 36 → p q = false) : am_least w = -9 := if_pos (h.zero.mpr hz)
theorem ab_first (p : Nat → Bool) (n : Nat) : (∃ j, j < n ∧ p j = true ∧ ∀ i, i < j → p i = false) ∨ ∀ q, q < n → p q = false := by
  by_cases h : ∃ i, i < n ∧ p i = true
  · obtain ⟨j, hj, hp, hf⟩ := fb_first (p := fun i => p i = true) h
    exact Or.inl ⟨j, hj, hp, fun i hi => by have := hf i hi; simpa using this⟩
  · refine Or.inr (fun q hq => ?_)
    cases hp : p q
    · rfl
    · exact absurd ⟨q, hq, hp⟩ h
theorem am_least_cases {w : Int64} {p : Nat → Bool} (h : abr w p) : (∃ j, j < 36 ∧ p j = true ∧ (∀ i, i < j → p i = false) ∧ am_least w = nI j) ∨ ((∀ q, q < 36 → p q = false) ∧ am_least w = -9) := by
  rcases ab_first p 36 with ⟨j, hj, hp, hf⟩ | hz
  · exact Or.inl ⟨j, hj, hp, hf, h.least hj hp hf⟩
  · exact Or.inr ⟨hz, h.least0 hz⟩
theorem lg_cmp0 (w : Int64) : lg_cmp w 0 = 0 ↔ w = 0 := by
  unfold lg_cmp
  constructor
  · intro h
    split at h
    · cases h
    · split at h
      · rename_i h1 h2
        first | exact h2 | (exact of_decide_eq_true h2) | skip
      · cases h
  · rintro rfl
    decide
/-- a loop that goes up: F fuel i state -/
theorem am_for {σ ρ : Type} (F : Nat → Nat → σ → Option ρ) (N : Nat) (P : Nat → σ → Prop) (Q : ρ → Prop)
    (hs : ∀ n i s, i < N → P i s → (∃ s', P (i + 1) s' ∧ F (n + 1) i s = F n (i + 1) s') ∨ (∃ r, F (n + 1) i s = some r ∧ Q r))
    (he : ∀ n s, P N s → ∃ r, F (n + 1) N s = some r ∧ Q r) :
    ∀ n i s, i ≤ N → N < i + n → P i s → ∃ r, F n i s = some r ∧ Q r := by
  intro n
  induction n with
  | zero => intro i s h1 h2; omega
  | succ n ih =>
    intro i s h1 h2 hp
    by_cases e : i = N
    · subst e; exact he n s hp
    · rcases hs n i s (by omega) hp with ⟨s', hp', hF⟩ | h
      · rw [hF]; exact ih (i + 1) s' (by omega) (by omega) hp'
      · exact h
/-- a loop that comes to rest: a measure -/
theorem am_rest {σ ρ : Type} (F : Nat → σ → Option ρ) (m : σ → Nat) (P : σ → Prop) (Q : ρ → Prop)
    (hs : ∀ n s, P s → (∃ s', P s' ∧ m s' < m s ∧ F (n + 1) s = F n s') ∨ (∃ r, F (n + 1) s = some r ∧ Q r)) :
    ∀ n s, m s < n → P s → ∃ r, F n s = some r ∧ Q r := by
  intro n
  induction n with
  | zero => intro s h; omega
  | succ n ih =>
    intro s h hp
    rcases hs n s hp with ⟨s', hp', hm, hF⟩ | hr
    · rw [hF]; exact ih s' (by omega) hp'
    · exact hr
