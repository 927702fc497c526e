/-! words as sets of squares -/
def ab (w : Int64) (q : Nat) : Bool := w.toBitVec.getLsbD q
theorem ab_ext {a b : Int64} (h : ∀ q, q < 64 → ab a q = ab b q) : a = b := Int64.toBitVec_inj.mp (BitVec.eq_of_getLsbD_eq (fun i hi => h i hi))
theorem ab_and (a b : Int64) (q : Nat) : ab (a &&& b) q = (ab a q && ab b q) := by unfold ab; rw [Int64.toBitVec_and, BitVec.getLsbD_and]
theorem ab_or (a b : Int64) (q : Nat) : ab (a ||| b) q = (ab a q || ab b q) := by unfold ab; rw [Int64.toBitVec_or, BitVec.getLsbD_or]
theorem ab_xor (a b : Int64) (q : Nat) : ab (a ^^^ b) q = (ab a q ^^ ab b q) := by unfold ab; rw [Int64.toBitVec_xor, BitVec.getLsbD_xor]
theorem ab_big {w : Int64} {q : Nat} (h : 64 ≤ q) : ab w q = false := BitVec.getLsbD_of_ge _ _ h
theorem ab_lN (n q : Nat) : ab (lN n) q = (decide (q < 64) && n.testBit q) := by
  show (BitVec.ofNat 64 n).getLsbD q = _
  rw [BitVec.getLsbD_ofNat]
theorem ab_m1 (q : Nat) : ab (-1) q = decide (q < 64) := by
  by_cases h : q < 64
  · have : ∀ q, q < 64 → ab (-1) q = true := by decide +kernel
    rw [this q h]; simp [h]
  · rw [ab_big (by omega)]; simp [h]
theorem ab_not (a : Int64) (q : Nat) : ab (a ^^^ (-1)) q = (decide (q < 64) && !ab a q) := by
  rw [ab_xor, ab_m1]
  by_cases h : q < 64
  · simp [h]
  · rw [ab_big (by omega)]; simp [h]
theorem ab_0 (q : Nat) : ab 0 q = false := BitVec.getLsbD_zero
/-- w is the set p of squares -/
def abr (w : Int64) (p : Nat → Bool) : Prop := ∀ q, ab w q = (decide (q < 36) && p q)
theorem abr.at {w : Int64} {p : Nat → Bool} (h : abr w p) {q : Nat} (hq : q < 36) : ab w q = p q := by rw [h q]; simp [hq]
theorem abr.uniq {a b : Int64} {p : Nat → Bool} (h : abr a p) (h' : abr b p) : a = b := ab_ext (fun q _ => by rw [h q, h' q])
theorem abr.congr {a : Int64} {p r : Nat → Bool} (h : abr a p) (e : ∀ q, q < 36 → p q = r q) : abr a r := fun q => by
  rw [h q]
  by_cases hq : q < 36
  · rw [e q hq]
  · simp [hq]
theorem abr.eqv {a : Int64} {p r : Nat → Bool} (h : abr a p) (h' : abr a r) {q : Nat} (hq : q < 36) : p q = r q := by rw [← h.at hq, h'.at hq]
theorem abr_0 : abr 0 (fun _ => false) := fun q => by rw [ab_0]; simp
theorem abr_all : abr 68719476735 (fun _ => true) := fun q => by
  by_cases h : q < 64
  · have : ∀ q, q < 64 → ab 68719476735 q = (decide (q < 36) && true) := by decide +kernel
    exact this q h
  · rw [ab_big (by omega)]
    have : ¬ q < 36 := by omega
    simp [this]
theorem abr.and {a b : Int64} {p r : Nat → Bool} (h : abr a p) (h' : abr b r) : abr (a &&& b) (fun q => p q && r q) := fun q => by
  rw [ab_and, h q, h' q]
  cases decide (q < 36) <;> simp
theorem abr.or {a b : Int64} {p r : Nat → Bool} (h : abr a p) (h' : abr b r) : abr (a ||| b) (fun q => p q || r q) := fun q => by
  rw [ab_or, h q, h' q]
  cases decide (q < 36) <;> simp
theorem abr.andn {a b : Int64} {p r : Nat → Bool} (h : abr a p) (h' : abr b r) : abr (a &&& (b ^^^ (-1))) (fun q => p q && !r q) := fun q => by
  rw [ab_and, ab_not, h q, h' q]
  by_cases hq : q < 36
  · have : q < 64 := by omega
    simp [hq, this]
  · simp [hq]
theorem abr.xor {a b : Int64} {p r : Nat → Bool} (h : abr a p) (h' : abr b r) : abr (a ^^^ b) (fun q => p q ^^ r q) := fun q => by
  rw [ab_xor, h q, h' q]
  cases decide (q < 36) <;> simp
theorem abr.zero {a : Int64} {p : Nat → Bool} (h : abr a p) : a = 0 ↔ ∀ q, q < 36 → p q = false := by
  constructor
  · rintro rfl q hq
    rw [← h.at hq, ab_0]
  · intro hp
    exact ab_ext (fun q _ => by
      rw [h q, ab_0]
      by_cases hq : q < 36
      · rw [hp q hq]; simp
      · simp [hq])
theorem am_bit_n {j : Nat} (h : j < 36) : am_bit (nI j) = lN (2 ^ j) := by
  have : ∀ j, j < 36 → am_bit (nI j) = lN (2 ^ j) := by decide +kernel
  exact this j h
theorem abr_bit {j : Nat} (h : j < 36) : abr (am_bit (nI j)) (fun q => decide (q = j)) := fun q => by
  rw [am_bit_n h, ab_lN, Nat.testBit_two_pow]
  by_cases hq : q = j
  · subst hq
    have : q < 64 := by omega
    simp [h, this]
  · have : ¬ j = q := fun e => hq e.symm
    simp [hq, this]
theorem am_bit_out {q : Int32} (h : ¬ am_sq q) : am_bit q = 0 := if_neg h
theorem abr_bitI {q : Int32} : abr (am_bit q) (fun j => decide (q = nI j)) := by
  by_cases h : am_sq q
  · obtain ⟨j, hj', rfl⟩ := vp_in_of (n := 36) (vp_in_iff.mpr h) (by decide)
    have hj : j < 36 := hj'
    refine (abr_bit hj).congr (fun q hq => ?_)
    by_cases e : q = j
    · simp [e]
    · have : ¬ nI j = nI q := fun e' => e ((nI_eq (by omega) (by omega)).mp e').symm
      simp [e, this]
  · rw [am_bit_out h]
    refine abr_0.congr (fun j hj => ?_)
    have : ¬ q = nI j := by
      rintro rfl
      exact h (vp_in_iff.mp (by unfold vp_in; have := nI_in hj (by decide : 36 < 2 ^ 31); exact this))
    simp [this]
theorem abr.hasb {w : Int64} {p : Nat → Bool} (h : abr w p) {j : Nat} (hj : j < 36) : am_hasb w (nI j) ↔ p j = true := by
  unfold am_hasb
  rw [(h.and (abr_bit hj)).zero]
  constructor
  · intro hn
    cases hp : p j
    · exact absurd (fun q hq => by
        by_cases e : q = j
        · subst e; simp [hp]
        · simp [e]) hn
    · rfl
  · intro hp hn
    have := hn j hj
    simp [hp] at this
theorem hasb_out {w : Int64} {q : Int32} (h : ¬ am_sq q) : ¬ am_hasb w q := by
  unfold am_hasb
  rw [am_bit_out h]
  simp
theorem ab_shr (w : Int64) {k : Nat} (hk : k < 64) (q : Nat) : ab (am_lushr w (nI k)) q = ab w (q + k) := by
  obtain ⟨n, hn, rfl⟩ := wb_of w
  unfold am_lushr
  rw [wb_shr hn hk, ab_lN, ab_lN, Nat.testBit_div_two_pow]
  by_cases h : q + k < 64
  · have : q < 64 := by omega
    simp [h, this]
  · rw [Nat.testBit_lt_two_pow (Nat.lt_of_lt_of_le hn (Nat.pow_le_pow_right (by decide) (by omega : 64 ≤ q + k)))]
    simp
theorem ab_shl (w : Int64) {k : Nat} (hk : k < 64) (q : Nat) : ab (w <<< ((nI k).toInt64 &&& 63)) q = (decide (q < 64) && decide (k ≤ q) && ab w (q - k)) := by
  obtain ⟨n, hn, rfl⟩ := wb_of w
  rw [wb_shl n hk, ab_lN, ab_lN, Nat.testBit_mul_two_pow]
  by_cases h : q < 64
  · have : q - k < 64 := by omega
    simp [h, this]
  · simp [h]
theorem abr_mvU {w : Int64} {p : Nat → Bool} (h : abr w p) : abr (am_mvU w) (fun q => decide (q + 6 < 36) && p (q + 6)) := fun q => by
  show ab (am_lushr w (nI 6)) q = _
  rw [ab_shr w (by decide), h (q + 6)]
  by_cases hq : q + 6 < 36
  · have : q < 36 := by omega
    simp [hq, this]
  · simp [hq]
theorem abr_mvD {w : Int64} {p : Nat → Bool} (h : abr w p) : abr (am_mvD w) (fun q => decide (6 ≤ q) && p (q - 6)) := fun q => by
  show ab ((w <<< ((nI 6).toInt64 &&& 63)) &&& 68719476735) q = _
  rw [ab_and, ab_shl w (by decide), abr_all q, h (q - 6)]
  by_cases hq : q < 36
  · have : q < 64 := by omega
    have : q - 6 < 36 := by omega
    simp [*]
  · simp [hq]
theorem abr_mvL {w : Int64} {p : Nat → Bool} (h : abr w p) : abr (am_mvL w) (fun q => decide ((q + 1) % 6 ≠ 0) && p (q + 1)) := fun q => by
  show ab (am_lushr (w &&& (-1090785346)) (nI 1)) q = _
  rw [ab_shr _ (by decide), ab_and, h (q + 1)]
  have hm : ∀ q, q < 37 → ab (-1090785346) q = decide (q % 6 ≠ 0 ∨ q = 36) := by decide +kernel
  by_cases hq : q < 36
  · rw [hm (q + 1) (by omega)]
    by_cases h35 : q = 35
    · subst h35; simp
    · have h1 : q + 1 < 36 := by omega
      have h2 : ¬ q + 1 = 36 := by omega
      simp only [hq, h1, h2, or_false, decide_true, Bool.true_and, Bool.and_comm]
  · have : ¬ q + 1 < 36 := by omega
    simp [hq, this]
theorem abr_mvR {w : Int64} {p : Nat → Bool} (h : abr w p) : abr (am_mvR w) (fun q => decide (q % 6 ≠ 0) && p (q - 1)) := fun q => by
  show ab ((w &&& (-34905131041)) <<< ((nI 1).toInt64 &&& 63)) q = _
  rw [ab_shl _ (by decide), ab_and, h (q - 1)]
  have hm : ∀ q, q < 36 → ab (-34905131041) q = decide (q % 6 ≠ 5) := by decide +kernel
  by_cases hq : q < 36
  · rw [hm (q - 1) (by omega)]
    have h1 : q < 64 := by omega
    have h2 : q - 1 < 36 := by omega
    by_cases h0 : q % 6 = 0
    · by_cases hz : q = 0
      · subst hz; simp
      · have : (q - 1) % 6 = 5 := by omega
        simp [h0, this]
    · have h3 : 1 ≤ q := by omega
      have h4 : (q - 1) % 6 ≠ 5 := by omega
      simp [hq, h1, h2, h3, h4, h0]
  · by_cases h36 : q = 36
    · subst h36
      rw [hm 35 (by decide)]
      simp
    · have h1 : ¬ q - 1 < 36 := by omega
      simp [hq, h1]
/-- the squares beside one -/
def ab_nb (q p : Nat) : Bool := (decide (p = q + 6)) || (decide (p = q + 1 ∧ p % 6 ≠ 0)) || (decide (q = p + 6)) || (decide (q = p + 1 ∧ q % 6 ≠ 0))
def ab_any (p : Nat → Bool) : Nat → Bool
  | 0 => false
  | n + 1 => ab_any p n || p n
theorem ab_any_iff {p : Nat → Bool} : ∀ {n : Nat}, ab_any p n = true ↔ ∃ k, k < n ∧ p k = true
  | 0 => by simp [ab_any]
  | n + 1 => by
    rw [ab_any, Bool.or_eq_true, ab_any_iff]
    constructor
    · rintro (⟨k, hk, h⟩ | h)
      · exact ⟨k, by omega, h⟩
      · exact ⟨n, by omega, h⟩
    · rintro ⟨k, hk, h⟩
      by_cases e : k = n
      · subst e; exact Or.inr h
      · exact Or.inl ⟨k, by omega, h⟩
theorem ab_nb_sym (q p : Nat) : ab_nb q p = ab_nb p q := by
  unfold ab_nb
  rw [Bool.eq_iff_iff]
  simp only [Bool.or_eq_true, decide_eq_true_eq]
  omega
/-- the set of squares beside one of a set -/
def ab_bs (p : Nat → Bool) (q : Nat) : Bool := ab_any (fun r => ab_nb q r && p r) 36
theorem ab_bs_iff {p : Nat → Bool} {q : Nat} : ab_bs p q = true ↔ ∃ r, r < 36 ∧ ab_nb q r = true ∧ p r = true := by
  unfold ab_bs
  rw [ab_any_iff]
  simp only [Bool.and_eq_true]
theorem abr_bes {w : Int64} {p : Nat → Bool} (h : abr w p) : abr (am_bes w) (ab_bs p) := by
  unfold am_bes
  refine ((((abr_mvU h).or (abr_mvL h)).or (abr_mvD h)).or (abr_mvR h)).congr (fun q hq => ?_)
  rw [Bool.eq_iff_iff, ab_bs_iff]
  simp only [Bool.or_eq_true, Bool.and_eq_true, decide_eq_true_eq]
  constructor
  · rintro (((⟨h1, h2⟩ | ⟨h1, h2⟩) | ⟨h1, h2⟩) | ⟨h1, h2⟩)
    · exact ⟨q + 6, h1, by simp [ab_nb], h2⟩
    · exact ⟨q + 1, by omega, by simp [ab_nb, h1], h2⟩
    · exact ⟨q - 6, by omega, by have : q = q - 6 + 6 := by omega
                                 simp [ab_nb, ← this], h2⟩
    · exact ⟨q - 1, by omega, by have : q = q - 1 + 1 := by omega
                                 simp [ab_nb, ← this, h1], h2⟩
  · rintro ⟨r, hr, hn, hp⟩
    simp only [ab_nb, Bool.or_eq_true, decide_eq_true_eq] at hn
    rcases hn with ((rfl | ⟨rfl, h2⟩) | rfl) | ⟨rfl, h2⟩
    · exact Or.inl (Or.inl (Or.inl ⟨hr, hp⟩))
    · exact Or.inl (Or.inl (Or.inr ⟨h2, hp⟩))
    · exact Or.inl (Or.inr ⟨by omega, by simpa using hp⟩)
    · exact Or.inr ⟨h2, by simpa using hp⟩
theorem am_nIsq {q : Int32} (h : am_sq q) : ∃ j, j < 36 ∧ q = nI j := vp_in_of (n := 36) (vp_in_iff.mpr h) (by decide)
theorem am_sqn {j : Nat} (h : j < 36) : am_sq (nI j) := by
  have : ∀ j, j < 36 → am_sq (nI j) := by decide +kernel
  exact this j h
