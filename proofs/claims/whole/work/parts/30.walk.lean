/-! walks: from h over squares that may be left (ex) onto squares that may be entered (cb), of p steps off p -/
def wkn (ex cb : Nat → Bool) (fo : Nat → Nat) (h : Nat) : Nat → Nat → Nat → Prop
  | 0, q, c => q = h ∧ c = 0 ∧ cb h = true
  | n + 1, q, c => ∃ p c0, p < 36 ∧ q < 36 ∧ wkn ex cb fo h n p c0 ∧ ab_nb p q = true ∧ ex p = true ∧ cb q = true ∧ c = c0 + fo p
def wk (ex cb : Nat → Bool) (fo : Nat → Nat) (h q c : Nat) : Prop := ∃ n, wkn ex cb fo h n q c
def mn (ex cb : Nat → Bool) (fo : Nat → Nat) (h q c : Nat) : Prop := wk ex cb fo h q c ∧ ∀ c', wk ex cb fo h q c' → c ≤ c'
theorem wk_st {ex cb : Nat → Bool} {fo : Nat → Nat} {h : Nat} (e : cb h = true) : wk ex cb fo h h 0 := ⟨0, rfl, rfl, e⟩
theorem wk_go {ex cb : Nat → Bool} {fo : Nat → Nat} {h p q c : Nat} (w : wk ex cb fo h p c) (hp : p < 36) (hq : q < 36) (n : ab_nb p q = true) (e : ex p = true) (b : cb q = true) : wk ex cb fo h q (c + fo p) := by
  obtain ⟨m, w⟩ := w
  exact ⟨m + 1, p, c, hp, hq, w, n, e, b, rfl⟩
theorem wk_inv {ex cb : Nat → Bool} {fo : Nat → Nat} {h q c : Nat} (w : wk ex cb fo h q c) : (q = h ∧ c = 0 ∧ cb h = true) ∨ ∃ p c0, p < 36 ∧ q < 36 ∧ wk ex cb fo h p c0 ∧ ab_nb p q = true ∧ ex p = true ∧ cb q = true ∧ c = c0 + fo p := by
  obtain ⟨n, w⟩ := w
  cases n with
  | zero => exact Or.inl w
  | succ n =>
    obtain ⟨p, c0, h1, h2, h3, h4⟩ := w
    exact Or.inr ⟨p, c0, h1, h2, ⟨n, h3⟩, h4⟩
theorem wk_cb {ex cb : Nat → Bool} {fo : Nat → Nat} {h q c : Nat} (w : wk ex cb fo h q c) : cb q = true := by
  rcases wk_inv w with ⟨rfl, _, h⟩ | ⟨p, c0, _, _, _, _, _, h, _⟩ <;> exact h
theorem wk_lt {ex cb : Nat → Bool} {fo : Nat → Nat} {h q c : Nat} (hh : h < 36) (w : wk ex cb fo h q c) : q < 36 := by
  rcases wk_inv w with ⟨rfl, _, _⟩ | ⟨p, c0, _, h, _⟩
  · exact hh
  · exact h
theorem wk_ind {ex cb : Nat → Bool} {fo : Nat → Nat} {h : Nat} {P : Nat → Nat → Prop} (h0 : cb h = true → P h 0) (h1 : ∀ p q c, p < 36 → q < 36 → P p c → ab_nb p q = true → ex p = true → cb q = true → P q (c + fo p)) {q c : Nat} (w : wk ex cb fo h q c) : P q c := by
  obtain ⟨n, w⟩ := w
  induction n generalizing q c with
  | zero =>
    obtain ⟨rfl, rfl, e⟩ := w
    exact h0 e
  | succ n ih =>
    obtain ⟨p, c0, a1, a2, a3, a4, a5, a6, rfl⟩ := w
    exact h1 p q c0 a1 a2 (ih a3) a4 a5 a6
theorem wk_mn {ex cb : Nat → Bool} {fo : Nat → Nat} {h q : Nat} : ∀ {c : Nat}, wk ex cb fo h q c → ∃ c', c' ≤ c ∧ mn ex cb fo h q c' := by
  intro c
  induction c using Nat.strongRecOn with
  | ind c ih =>
    intro w
    by_cases e : ∃ c', c' < c ∧ wk ex cb fo h q c'
    · obtain ⟨c', h1, h2⟩ := e
      obtain ⟨d, h3, h4⟩ := ih c' h1 h2
      exact ⟨d, by omega, h4⟩
    · refine ⟨c, Nat.le_refl _, w, fun c' w' => ?_⟩
      by_cases l : c ≤ c'
      · exact l
      · exact absurd ⟨c', by omega, w'⟩ e
theorem mn_uniq {ex cb : Nat → Bool} {fo : Nat → Nat} {h q c d : Nat} (a : mn ex cb fo h q c) (b : mn ex cb fo h q d) : c = d := Nat.le_antisymm (a.2 _ b.1) (b.2 _ a.1)
theorem mn_0 {ex cb : Nat → Bool} {fo : Nat → Nat} {h : Nat} (e : cb h = true) : mn ex cb fo h h 0 := ⟨wk_st e, fun _ _ => Nat.zero_le _⟩
theorem mn_inv {ex cb : Nat → Bool} {fo : Nat → Nat} {h q c : Nat} (m : mn ex cb fo h q c) : (q = h ∧ c = 0 ∧ cb h = true) ∨ ∃ p c0, p < 36 ∧ q < 36 ∧ mn ex cb fo h p c0 ∧ ab_nb p q = true ∧ ex p = true ∧ cb q = true ∧ c = c0 + fo p := by
  rcases wk_inv m.1 with h | ⟨p, c0, h1, h2, h3, h4, h5, h6, h7⟩
  · exact Or.inl h
  · refine Or.inr ⟨p, c0, h1, h2, ⟨h3, fun c' w' => ?_⟩, h4, h5, h6, h7⟩
    have := m.2 _ (wk_go w' h1 h2 h4 h5 h6)
    omega
noncomputable def cd (p : Prop) : Bool := @decide p (Classical.propDecidable p)
theorem cd_iff {p : Prop} : cd p = true ↔ p := by unfold cd; exact @decide_eq_true_iff p (Classical.propDecidable p)
theorem cd_no {p : Prop} (h : ¬ p) : cd p = false := by unfold cd; exact @decide_eq_false p (Classical.propDecidable p) h
/-- all is reached within 140 -/
theorem mn_ct {ex cb : Nat → Bool} {fo : Nat → Nat} {h : Nat} (hh : h < 36) (hf : ∀ p, 1 ≤ fo p ∧ fo p ≤ 4) : ∀ (c q : Nat), mn ex cb fo h q c → c ≤ 4 * fb_ct (fun p => cd (∃ c', c' < c ∧ mn ex cb fo h p c')) 36 := by
  intro c
  induction c using Nat.strongRecOn with
  | ind c ih =>
    intro q m
    rcases mn_inv m with ⟨_, rfl, _⟩ | ⟨p, c0, h1, h2, h3, h4, h5, h6, rfl⟩
    · exact Nat.zero_le _
    · have := hf p
      have i := ih c0 (by omega) p h3
      have l : fb_ct (fun r => cd (∃ c', c' < c0 ∧ mn ex cb fo h r c')) 36 + 1 ≤ fb_ct (fun r => cd (∃ c', c' < c0 + fo p ∧ mn ex cb fo h r c')) 36 := by
        have u := fb_ct_upd (fun r => cd (∃ c', c' < c0 ∧ mn ex cb fo h r c')) true h1
        have np : ¬ ∃ c', c' < c0 ∧ mn ex cb fo h p c' := by
          rintro ⟨c', h, m'⟩
          have := mn_uniq h3 m'
          omega
        rw [cd_no np, if_neg (by decide), if_pos rfl, Nat.add_zero] at u
        rw [← u]
        refine fb_ct_sub (fun k hk e => ?_)
        by_cases ek : k = p
        · subst ek
          exact cd_iff.mpr ⟨c0, by omega, h3⟩
        · rw [if_neg ek] at e
          obtain ⟨c', l, m'⟩ := cd_iff.mp e
          exact cd_iff.mpr ⟨c', by omega, m'⟩
      omega
theorem mn_140 {ex cb : Nat → Bool} {fo : Nat → Nat} {h q c : Nat} (hh : h < 36) (hf : ∀ p, 1 ≤ fo p ∧ fo p ≤ 4) (m : mn ex cb fo h q c) : c ≤ 140 := by
  have a := mn_ct hh hf c q m
  have hq := wk_lt hh m.1
  have u := fb_ct_upd (fun r => cd (∃ c', c' < c ∧ mn ex cb fo h r c')) true hq
  have nq : ¬ ∃ c', c' < c ∧ mn ex cb fo h q c' := by
    rintro ⟨c', l, m'⟩
    have := mn_uniq m m'
    omega
  rw [cd_no nq, if_neg (by decide), if_pos rfl, Nat.add_zero] at u
  have := fb_ct_le (fun k => if k = q then true else cd (∃ c', c' < c ∧ mn ex cb fo h k c')) 36
  omega
/-- a row that is at rest holds the least costs -/
theorem mn_far {ex cb : Nat → Bool} {fo far : Nat → Nat} {h : Nat} (hh : h < 36) (hf : ∀ p, 1 ≤ fo p ∧ fo p ≤ 4) (f0 : cb h = true → far h = 0) (f1 : ∀ q, q < 36 → far q ≤ 100000) (f2 : ∀ q, q < 36 → far q < 100000 → wk ex cb fo h q (far q)) (f3 : ∀ p q, p < 36 → q < 36 → far p < 100000 → ex p = true → ab_nb p q = true → cb q = true → far q ≤ far p + fo p) {q : Nat} (hq : q < 36) : (mn ex cb fo h q (far q) ∧ far q ≤ 140) ∨ (far q = 100000 ∧ ∀ c, ¬ wk ex cb fo h q c) := by
  have key : ∀ q c, wk ex cb fo h q c → far q ≤ c := by
    intro q c w
    refine wk_ind (P := fun q c => far q ≤ c) (fun e => by rw [f0 e]; exact Nat.le_refl _) (fun p q c hp hq i n e b => ?_) w
    by_cases l : far p < 100000
    · have := f3 p q hp hq l e n b
      omega
    · have := f1 q hq
      omega
  by_cases l : far q < 100000
  · have m : mn ex cb fo h q (far q) := ⟨f2 q hq l, fun c' w' => key q c' w'⟩
    exact Or.inl ⟨m, mn_140 hh hf m⟩
  · refine Or.inr ⟨by have := f1 q hq; omega, fun c w => ?_⟩
    obtain ⟨c', _, m⟩ := wk_mn w
    have := key q c' m.1
    have := mn_140 hh hf m
    omega
