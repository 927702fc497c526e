/-! the reference reads a statement: figures, the sign behind, all -/
def dgN (lt : Nat → Nat) (b : Nat) : Nat := lt b - 48
def prN (lt : Nat → Nat) (b : Nat) : Nat := 10 * dgN lt b + dgN lt (b + 1)
theorem st_iff {n : Nat} {lt : Nat → Nat} {s : Nat} {p : Nat × Bool} (h : (stepW n lt s p).2 = true) : p.2 = true ∧ p.1 < n ∧ fitN s (lt p.1) = true ∧ stepW n lt s p = (p.1 + 1, true) := by
  unfold stepW at h ⊢
  by_cases c : p.2 = true ∧ p.1 < n ∧ fitN s (lt p.1) = true
  · rw [if_pos c]; exact ⟨c.1, c.2.1, c.2.2, rfl⟩
  · rw [if_neg c] at h; cases h
theorem st_lt {n : Nat} {lt : Nat → Nat} {s : Nat} {p : Nat × Bool} (h : p.1 ≤ n) : (stepW n lt s p).1 ≤ n := by
  unfold stepW
  by_cases c : p.2 = true ∧ p.1 < n ∧ fitN s (lt p.1) = true
  · rw [if_pos c]; show p.1 + 1 ≤ n; omega
  · rw [if_neg c]; exact h
theorem fit_68 (c : Nat) : fitN 68 c = true ↔ 48 ≤ c ∧ c ≤ 57 := by unfold fitN; rw [if_pos rfl, decide_eq_true_eq]
theorem fit_75 (c : Nat) : fitN 75 c = true ↔ ixN lkN c < 6 := by unfold fitN; rw [if_neg (by decide), if_pos rfl, decide_eq_true_eq]
theorem fit_83 (c : Nat) : fitN 83 c = true ↔ ixN lsN c < 5 := by unfold fitN; rw [if_neg (by decide), if_neg (by decide), if_pos rfl, decide_eq_true_eq]
theorem fit_59 (c : Nat) : fitN 59 c = true ↔ c = 59 := by unfold fitN; rw [if_neg (by decide), if_neg (by decide), if_neg (by decide), decide_eq_true_eq]
section
variable {x : am_X} {n : Nat} {lt : Nat → Nat} {now f : Nat → Int32} {s : Int32}
theorem pk33 (R : RPn x n lt) {p : Nat × Bool} (hp : p.1 ≤ n) : ∃ v, G_X8_oneOf_33 (rx x now p.1 p.2 s f) = some (v, rx x now (stepW n lt 75 p).1 (stepW n lt 75 p).2 s f) ∧ ((stepW n lt 75 p).2 = true → v = nI (ixN lkN (lt p.1))) := by
  obtain ⟨h1, h2⟩ := one33 (now := now) (f := f) (w := p.2) (s := s) R hp
  by_cases c : p.2 = true ∧ p.1 < n ∧ fitN 75 (lt p.1) = true
  · have e : stepW n lt 75 p = (p.1 + 1, true) := if_pos c
    rw [fit_75] at c
    rw [e, h1 c, c.1]
    exact ⟨_, rfl, fun _ => rfl⟩
  · have e : stepW n lt 75 p = (p.1, false) := if_neg c
    rw [fit_75] at c
    rw [e, h2 c]
    exact ⟨_, rfl, fun h => by cases h⟩
theorem pk34 (R : RPn x n lt) {p : Nat × Bool} (hp : p.1 ≤ n) : ∃ v, G_X8_oneOf_34 (rx x now p.1 p.2 s f) = some (v, rx x now (stepW n lt 83 p).1 (stepW n lt 83 p).2 s f) ∧ ((stepW n lt 83 p).2 = true → v = nI (ixN lsN (lt p.1))) := by
  obtain ⟨h1, h2⟩ := one34 (now := now) (f := f) (w := p.2) (s := s) R hp
  by_cases c : p.2 = true ∧ p.1 < n ∧ fitN 83 (lt p.1) = true
  · have e : stepW n lt 83 p = (p.1 + 1, true) := if_pos c
    rw [fit_83] at c
    rw [e, h1 c, c.1]
    exact ⟨_, rfl, fun _ => rfl⟩
  · have e : stepW n lt 83 p = (p.1, false) := if_neg c
    rw [fit_83] at c
    rw [e, h2 c]
    exact ⟨_, rfl, fun h => by cases h⟩
theorem ten_n {v c : Nat} (hv : v < 10) (h48 : 48 ≤ c) (hc : c < 256) : ((10 : Int32) * nI v + nI c) - 48 = nI (10 * v + (c - 48)) := by
  have h1 : ∀ v, v < 10 → (10 : Int32) * nI v = nI (10 * v) := by decide +kernel
  rw [h1 v hv, nI_add]
  have := nI_sub' (i := 10 * v + c) (k := 48) (by omega) (by omega)
  rw [show (48 : Int32) = nI 48 from rfl, this]
  congr 1
  omega
theorem fg_st (R : RPn x n lt) {p : Nat × Bool} (hp : p.1 ≤ n) {m k v F : Nat} (hk : k < m) (hm : m ≤ 2) (hv : v < 10) : L_X8_figures_4 (F + 1) (nI m) (nI v) (nI k) (rx x now p.1 p.2 s f) = if (stepW n lt 68 p).2 = true then L_X8_figures_4 F (nI m) (nI (10 * v + dgN lt p.1)) (nI (k + 1)) (rx x now (stepW n lt 68 p).1 (stepW n lt 68 p).2 s f) else L_X8_figures_4 F (nI m) (nI v) (nI (k + 1)) (rx x now (stepW n lt 68 p).1 (stepW n lt 68 p).2 s f) := by
  obtain ⟨n96, e1, hl, _⟩ := R
  have h1 : ¬ nI m ≤ nI k := nI_ge hk (by omega)
  have off : am_uI (rx x now p.1 p.2 s f) 871 0 = rx x now p.1 false s f := rx_871 (w := p.2) false
  rw [L_X8_figures_4, if_neg h1, nI_1]
  by_cases c : p.2 = true ∧ p.1 < n ∧ fitN 68 (lt p.1) = true
  · have e : stepW n lt 68 p = (p.1 + 1, true) := if_pos c
    obtain ⟨cw, ca, cf⟩ := c
    rw [fit_68] at cf
    obtain ⟨l256, hva⟩ := hl p.1 ca
    have w1 : ¬ (rx x now p.1 p.2 s f).1 871 = 0 := by show ¬ b01 p.2 = 0; rw [cw]; decide
    have t1 : ¬ (rx x now p.1 p.2 s f).1 869 ≤ (rx x now p.1 p.2 s f).1 870 := by
      show ¬ x.1 869 ≤ nI p.1
      rw [e1]; exact nI_ge ca (by omega)
    have t2 : 0 ≤ ((rx x now p.1 p.2 s f).1 870).toInt ∧ ((rx x now p.1 p.2 s f).1 870).toInt < 96 := show 0 ≤ (nI p.1).toInt ∧ (nI p.1).toInt < 96 from nIr (b := 96) (by omega) (by decide)
    have t3 : (rx x now p.1 p.2 s f).2.2.1 31 ((rx x now p.1 p.2 s f).1 870).toNatClampNeg = nI (lt p.1) := by
      show x.2.2.1 31 (nI p.1).toNatClampNeg = _
      rw [nI_clamp (by omega), hva]
    rw [if_neg w1, if_neg t1, if_pos t2, t3, if_neg (show ¬ nI (lt p.1) < (48 : Int32) from nI_nlt (b := 48) cf.1 (by omega)), if_neg (show ¬ (57 : Int32) < nI (lt p.1) from nI_nlt (a := 57) cf.2 (by decide)), ten_n hv cf.1 l256, show (rx x now p.1 p.2 s f).1 870 = nI p.1 from rfl, nI_1, rx_870, e, if_pos rfl, cw]
    rfl
  · have e : stepW n lt 68 p = (p.1, false) := if_neg c
    rw [e, if_neg (show ¬ ((p.1, false) : Nat × Bool).2 = true from fun d => by cases d)]
    by_cases w1 : (rx x now p.1 p.2 s f).1 871 = 0
    · rw [if_pos w1, off]
    · rw [if_neg w1]
      have cw : p.2 = true := by
        cases d : p.2
        · exact absurd (show b01 p.2 = 0 by rw [d]; rfl) w1
        · rfl
      by_cases ca : p.1 < n
      · obtain ⟨l256, hva⟩ := hl p.1 ca
        have t1 : ¬ (rx x now p.1 p.2 s f).1 869 ≤ (rx x now p.1 p.2 s f).1 870 := by
          show ¬ x.1 869 ≤ nI p.1
          rw [e1]; exact nI_ge ca (by omega)
        have t2 : 0 ≤ ((rx x now p.1 p.2 s f).1 870).toInt ∧ ((rx x now p.1 p.2 s f).1 870).toInt < 96 := show 0 ≤ (nI p.1).toInt ∧ (nI p.1).toInt < 96 from nIr (b := 96) (by omega) (by decide)
        have t3 : (rx x now p.1 p.2 s f).2.2.1 31 ((rx x now p.1 p.2 s f).1 870).toNatClampNeg = nI (lt p.1) := by
          show x.2.2.1 31 (nI p.1).toNatClampNeg = _
          rw [nI_clamp (by omega), hva]
        rw [if_neg t1, if_pos t2, t3]
        by_cases c48 : lt p.1 < 48
        · rw [if_pos (show nI (lt p.1) < (48 : Int32) from nI_lt (b := 48) c48 (by decide)), off]
        · have c57 : 57 < lt p.1 := by
            by_cases d : lt p.1 ≤ 57
            · exact absurd ⟨cw, ca, (fit_68 _).mpr ⟨by omega, d⟩⟩ c
            · omega
          rw [if_neg (show ¬ nI (lt p.1) < (48 : Int32) from nI_nlt (b := 48) (by omega) (by omega)), if_pos (show (57 : Int32) < nI (lt p.1) from nI_lt (a := 57) c57 (by omega)), off]
      · have t1 : (rx x now p.1 p.2 s f).1 869 ≤ (rx x now p.1 p.2 s f).1 870 := by
          show x.1 869 ≤ nI p.1
          rw [e1]; exact nI_le (by omega) (by omega)
        rw [if_pos t1, off]
theorem fig1 (R : RPn x n lt) {p : Nat × Bool} (hp : p.1 ≤ n) : ∃ v, G_X8_figures 1 (rx x now p.1 p.2 s f) = some (v, rx x now (stepW n lt 68 p).1 (stepW n lt 68 p).2 s f) ∧ ((stepW n lt 68 p).2 = true → v = nI (dgN lt p.1)) := by
  have h := fg_st (now := now) (f := f) (s := s) R hp (m := 1) (k := 0) (v := 0) (F := 999) (by decide) (by decide) (by decide)
  have h' : L_X8_figures_4 1000 1 0 0 (rx x now p.1 p.2 s f) = _ := h
  have fin : ∀ v y, L_X8_figures_4 999 (nI 1) v (nI (0 + 1)) y = some (nI 1, v, nI (0 + 1), y) := fun v y => by
    rw [L_X8_figures_4, if_pos (by decide)]
  unfold G_X8_figures
  rw [h', fin, fin]
  by_cases c : (stepW n lt 68 p).2 = true
  · rw [if_pos c]
    exact ⟨_, rfl, fun _ => by rw [Nat.mul_zero, Nat.zero_add]⟩
  · rw [if_neg c]
    exact ⟨_, rfl, fun d => absurd d c⟩
theorem fig2 (R : RPn x n lt) {p : Nat × Bool} (hp : p.1 ≤ n) : ∃ v, G_X8_figures 2 (rx x now p.1 p.2 s f) = some (v, rx x now (stepW n lt 68 (stepW n lt 68 p)).1 (stepW n lt 68 (stepW n lt 68 p)).2 s f) ∧ ((stepW n lt 68 (stepW n lt 68 p)).2 = true → v = nI (prN lt p.1)) := by
  have h := fg_st (now := now) (f := f) (s := s) R hp (m := 2) (k := 0) (v := 0) (F := 999) (by decide) (by decide) (by decide)
  have h' : L_X8_figures_4 1000 2 0 0 (rx x now p.1 p.2 s f) = _ := h
  have fin : ∀ v y, L_X8_figures_4 998 (nI 2) v (nI (0 + 1 + 1)) y = some (nI 2, v, nI (0 + 1 + 1), y) := fun v y => by
    rw [L_X8_figures_4, if_pos (by decide)]
  unfold G_X8_figures
  rw [h']
  by_cases c : (stepW n lt 68 p).2 = true
  · obtain ⟨c1, c2, c3, c4⟩ := st_iff c
    rw [fit_68] at c3
    have h2 := fg_st (now := now) (f := f) (s := s) R (p := stepW n lt 68 p) (st_lt hp) (m := 2) (k := 0 + 1) (v := 10 * 0 + dgN lt p.1) (F := 998) (by decide) (by decide) (by unfold dgN; omega)
    rw [if_pos c, h2, fin, fin]
    by_cases d : (stepW n lt 68 (stepW n lt 68 p)).2 = true
    · rw [if_pos d]
      refine ⟨_, rfl, fun _ => ?_⟩
      rw [c4]
      unfold prN
      rw [Nat.mul_zero, Nat.zero_add]
    · rw [if_neg d]
      exact ⟨_, rfl, fun e => absurd e d⟩
  · have h2 := fg_st (now := now) (f := f) (s := s) R (p := stepW n lt 68 p) (st_lt hp) (m := 2) (k := 0 + 1) (v := 0) (F := 998) (by decide) (by decide) (by decide)
    have d : ¬ (stepW n lt 68 (stepW n lt 68 p)).2 = true := fun e => c (st_iff e).1
    rw [if_neg c, h2, fin, fin, if_neg d]
    exact ⟨_, rfl, fun e => absurd e d⟩
/-- the sign behind -/
theorem semi (R : RPn x n lt) {p : Nat × Bool} (hp : p.1 ≤ n) {g : Nat → Int32} {X Y : am_X} (hX : X = rx x now p.1 p.2 s f) (hY : Y = rx x now p.1 p.2 s g) : (if X.1 871 = 0 then some ((), am_uI Y 871 0) else (if X.1 869 ≤ X.1 870 then some ((), am_uI Y 871 0) else (if 0 ≤ (X.1 870).toInt ∧ (X.1 870).toInt < 96 then (if X.2.2.1 31 (X.1 870).toNatClampNeg = 59 then some ((), am_uI Y 870 (X.1 870 + 1)) else some ((), am_uI Y 871 0)) else none))) = some ((), rx x now (stepW n lt 59 p).1 (stepW n lt 59 p).2 s g) := by
  obtain ⟨n96, e1, hl, _⟩ := R
  subst hX hY
  have off : am_uI (rx x now p.1 p.2 s g) 871 0 = rx x now p.1 false s g := rx_871 (w := p.2) false
  rw [show (rx x now p.1 p.2 s f).1 870 = nI p.1 from rfl, show (rx x now p.1 p.2 s f).1 869 = x.1 869 from rfl, show (rx x now p.1 p.2 s f).1 871 = b01 p.2 from rfl, show (rx x now p.1 p.2 s f).2.2.1 31 = x.2.2.1 31 from rfl, off, nI_1, rx_870, e1]
  by_cases c : p.2 = true ∧ p.1 < n ∧ fitN 59 (lt p.1) = true
  · have e : stepW n lt 59 p = (p.1 + 1, true) := if_pos c
    obtain ⟨cw, ca, cf⟩ := c
    rw [fit_59] at cf
    rw [e, cw, if_neg (show ¬ b01 true = 0 by decide), if_neg (nI_ge ca (by omega)), if_pos (show 0 ≤ (nI p.1).toInt ∧ (nI p.1).toInt < 96 from nIr (b := 96) (by omega) (by decide)), nI_clamp (by omega), (hl p.1 ca).2, if_pos (show nI (lt p.1) = (59 : Int32) by rw [cf]; rfl)]
  · have e : stepW n lt 59 p = (p.1, false) := if_neg c
    rw [e]
    cases cw : p.2
    · rw [if_pos (show b01 false = 0 from rfl)]
    · rw [if_neg (show ¬ b01 true = 0 by decide)]
      by_cases ca : p.1 < n
      · have cf : ¬ lt p.1 = 59 := fun d => c ⟨cw, ca, (fit_59 _).mpr d⟩
        have l256 := (hl p.1 ca).1
        rw [if_neg (nI_ge ca (by omega)), if_pos (show 0 ≤ (nI p.1).toInt ∧ (nI p.1).toInt < 96 from nIr (b := 96) (by omega) (by decide)), nI_clamp (by omega), (hl p.1 ca).2, if_neg (show ¬ nI (lt p.1) = (59 : Int32) from nI_nat (m := 59) (by omega) (by decide) cf)]
      · rw [if_pos (nI_le (by omega) (by omega))]
end
/-- what is read: the sort and its fields -/
def FIn (lt : Nat → Nat) (a : Nat) (s : Int32) (f : Nat → Int32) : Prop :=
  (lt a = 107 ∧ s = 0 ∧ f 0 = nI (ixN lkN (lt (a + 1))) ∧ f 1 = nI (prN lt (a + 2)) ∧ f 2 = nI (prN lt (a + 2))) ∨
  (lt a = 118 ∧ s = 1 ∧ f 0 = nI (ixN lkN (lt (a + 1))) ∧ f 1 = nI (prN lt (a + 2)) ∧ f 2 = nI (prN lt (a + 4))) ∨
  (lt a = 104 ∧ s = 2 ∧ f 0 = nI (prN lt (a + 1))) ∨
  (lt a = 112 ∧ s = 3 ∧ f 0 = nI (dgN lt (a + 1))) ∨
  (lt a = 119 ∧ s = 4 ∧ f 0 = nI (dgN lt (a + 1))) ∨
  (lt a = 115 ∧ s = 5 ∧ f 0 = nI (ixN lsN (lt (a + 1))) ∧ f 1 = nI (prN lt (a + 2)))
theorem sh_ix : ∀ c, c < 256 → (shN c ≠ 1000 ↔ ixN lbN c < 6) := by decide +kernel
theorem ix_hd : ∀ c, c < 256 → (ixN lbN c < 6 → (c = 107 ∧ ixN lbN c = 0) ∨ (c = 118 ∧ ixN lbN c = 1) ∨ (c = 104 ∧ ixN lbN c = 2) ∨ (c = 112 ∧ ixN lbN c = 3) ∨ (c = 119 ∧ ixN lbN c = 4) ∨ (c = 115 ∧ ixN lbN c = 5)) := by decide +kernel
