/-! the reference reads a statement -/
theorem am_uIc {x : am_X} {k l : Nat} {v w : Int32} (h : k ≠ l) : am_uI (am_uI x k v) l w = am_uI (am_uI x l w) k v := by
  have e : am_up (am_up x.1 k v) l w = am_up (am_up x.1 l w) k v := by
    funext j
    unfold am_up
    by_cases a : j = k
    · have : ¬ j = l := fun e => h (a.symm.trans e)
      simp [a, h]
    · simp [a]
  show (am_up (am_up x.1 k v) l w, x.2.1, x.2.2.1, x.2.2.2) = (am_up (am_up x.1 l w) k v, x.2.1, x.2.2.1, x.2.2.2)
  rw [e]
def rx (x : am_X) (now : Nat → Int32) (a : Nat) (w : Bool) (s : Int32) (f : Nat → Int32) : am_X := am_uI (am_uI (am_uI (am_sA (am_sA x 29 now) 35 f) 875 s) 871 (b01 w)) 870 (nI a)
section
variable {x : am_X} {n : Nat} {lt : Nat → Nat} {now f : Nat → Int32} {a : Nat} {w : Bool} {s : Int32}
theorem rx_870 (b : Nat) : am_uI (rx x now a w s f) 870 (nI b) = rx x now b w s f := by unfold rx; rw [am_uII]
theorem rx_871 (v : Bool) : am_uI (rx x now a w s f) 871 (b01 v) = rx x now a v s f := by unfold rx; rw [am_uIc (show (870 : Nat) ≠ 871 by decide), am_uII]
theorem rx_875 (t : Int32) : am_uI (rx x now a w s f) 875 t = rx x now a w t f := by unfold rx; rw [am_uIc (show (870 : Nat) ≠ 875 by decide), am_uIc (show (871 : Nat) ≠ 875 by decide), am_uII]
theorem rx_35 (g : Nat → Int32) : am_sA (rx x now a w s f) 35 g = rx x now a w s g := by
  show am_uI (am_uI (am_uI (am_sA (am_sA (am_sA x 29 now) 35 f) 35 g) 875 s) 871 (b01 w)) 870 (nI a) = _
  rw [am_sAA]; rfl
theorem rx_29 (g : Nat → Int32) : am_sA (rx x now a w s f) 29 g = rx x g a w s f := by
  show am_uI (am_uI (am_uI (am_sA (am_sA (am_sA x 29 now) 35 f) 29 g) 875 s) 871 (b01 w)) 870 (nI a) = _
  rw [am_sAc (show (35 : Nat) ≠ 29 by decide), am_sAA]; rfl
def RPn (x : am_X) (n : Nat) (lt : Nat → Nat) : Prop := n ≤ 96 ∧ x.1 869 = nI n ∧ (∀ i, i < n → lt i < 256 ∧ x.2.2.1 31 i = nI (lt i)) ∧ (∀ k, k < 6 → x.2.2.1 32 k = nI (lbN.getD k 0)) ∧ (∀ k, k < 6 → x.2.2.1 33 k = nI (lkN.getD k 0)) ∧ ∀ k, k < 5 → x.2.2.1 34 k = nI (lsN.getD k 0)

theorem ix_lbN : ∀ c, c < 256 → (∀ k, k < 6 → k < ixN lbN c → lbN.getD k 0 ≠ c) ∧ (ixN lbN c < 6 → lbN.getD (ixN lbN c) 0 = c) ∧ ixN lbN c ≤ 6 := by decide +kernel
theorem lb_lbN : ∀ k, k < 6 → lbN.getD k 0 < 256 := by decide +kernel
theorem one32 (R : RPn x n lt) (han : a ≤ n) : (w = true ∧ a < n ∧ ixN lbN (lt a) < 6 → G_X8_oneOf_32 (rx x now a w s f) = some (nI (ixN lbN (lt a)), rx x now (a + 1) w s f)) ∧ (¬ (w = true ∧ a < n ∧ ixN lbN (lt a) < 6) → G_X8_oneOf_32 (rx x now a w s f) = some (0, rx x now a false s f)) := by
  obtain ⟨n96, e1, hl, _⟩ := id R
  have hA := R.2.2.2.1
  have endl : ∀ F, L_X8_oneOf_32_2 (F + 1) (nI 6) (rx x now a w s f) = some (0, rx x now a false s f) := fun F => by
    rw [L_X8_oneOf_32_2, if_pos (by decide)]
    show some ((0 : Int32), am_uI (rx x now a w s f) 871 (b01 false)) = _
    rw [rx_871]
  cases w with
  | false =>
    refine ⟨(fun c => by cases c.1), fun _ => ?_⟩
    obtain ⟨r, hF, rfl⟩ := am_for (fun F i (_ : Unit) => L_X8_oneOf_32_2 F (nI i) (rx x now a false s f)) 6 (fun _ _ => True) (fun r => r = (0, rx x now a false s f))
      (fun F i _ hi _ => Or.inl ⟨(), trivial, by
        have h1 : ¬ (6 : Int32) ≤ nI i := nI_ge (b := 6) hi (by decide)
        rw [L_X8_oneOf_32_2, if_neg h1, if_pos (show (rx x now a false s f).1 871 = 0 from rfl), nI_1]⟩)
      (fun F _ _ => ⟨_, endl F, rfl⟩)
      1000 0 () (by decide) (by decide) trivial
    exact hF
  | true =>
    have w1 : ¬ (rx x now a true s f).1 871 = 0 := show ¬ b01 true = 0 by decide
    by_cases ha : a < n
    · obtain ⟨l256, hv⟩ := hl a ha
      obtain ⟨i1, i2, i3⟩ := ix_lbN (lt a) l256
      have t1 : ¬ (rx x now a true s f).1 869 ≤ (rx x now a true s f).1 870 := by
        show ¬ x.1 869 ≤ nI a
        rw [e1]; exact nI_ge ha (by omega)
      have t2 : 0 ≤ ((rx x now a true s f).1 870).toInt ∧ ((rx x now a true s f).1 870).toInt < 96 := show 0 ≤ (nI a).toInt ∧ (nI a).toInt < 96 from nIr (b := 96) (by omega) (by decide)
      have t3 : (rx x now a true s f).2.2.1 31 ((rx x now a true s f).1 870).toNatClampNeg = nI (lt a) := by
        show x.2.2.1 31 (nI a).toNatClampNeg = _
        rw [nI_clamp (by omega), hv]
      have E : ∀ F i, i < 6 → L_X8_oneOf_32_2 (F + 1) (nI i) (rx x now a true s f) = if lt a = lbN.getD i 0 then some (nI i, rx x now (a + 1) true s f) else L_X8_oneOf_32_2 F (nI (i + 1)) (rx x now a true s f) := by
        intro F i hi
        have h1 : ¬ (6 : Int32) ≤ nI i := nI_ge (b := 6) hi (by decide)
        have h2 : 0 ≤ (nI i).toInt ∧ (nI i).toInt < 6 := nIr (b := 6) hi (by decide)
        have lb := lb_lbN i hi
        rw [L_X8_oneOf_32_2, if_neg h1, if_neg w1, if_neg t1, if_pos t2, if_pos h2, t3, nI_clamp (by omega), show (rx x now a true s f).2.2.1 32 i = nI (lbN.getD i 0) from hA i hi, show (rx x now a true s f).1 870 = nI a from rfl, nI_1, nI_1, rx_870]
        by_cases e : lt a = lbN.getD i 0
        · rw [if_pos (by rw [e]), if_pos e]
        · rw [if_neg (fun c => e ((nI_eq (by omega) (by omega)).mp c)), if_neg e]
      refine ⟨fun c => ?_, fun c => ?_⟩
      · obtain ⟨r, hF, rfl⟩ := am_for (fun F i (_ : Unit) => L_X8_oneOf_32_2 F (nI i) (rx x now a true s f)) (ixN lbN (lt a)) (fun _ _ => True) (fun r => r = (nI (ixN lbN (lt a)), rx x now (a + 1) true s f))
          (fun F i _ hi _ => Or.inl ⟨(), trivial, by rw [E F i (by omega), if_neg (fun d => i1 i (by omega) hi d.symm)]⟩)
          (fun F _ _ => ⟨_, by rw [E F _ c.2.2, if_pos (i2 c.2.2).symm], rfl⟩)
          1000 0 () (by omega) (by omega) trivial
        exact hF
      · have e6 : ixN lbN (lt a) = 6 := by
          by_cases d : ixN lbN (lt a) < 6
          · exact absurd ⟨rfl, ha, d⟩ c
          · omega
        obtain ⟨r, hF, rfl⟩ := am_for (fun F i (_ : Unit) => L_X8_oneOf_32_2 F (nI i) (rx x now a true s f)) 6 (fun _ _ => True) (fun r => r = (0, rx x now a false s f))
          (fun F i _ hi _ => Or.inl ⟨(), trivial, by rw [E F i hi, if_neg (fun d => i1 i hi (by omega) d.symm)]⟩)
          (fun F _ _ => ⟨_, endl F, rfl⟩)
          1000 0 () (by decide) (by decide) trivial
        exact hF
    · refine ⟨fun c => absurd c.2.1 ha, fun _ => ?_⟩
      have t1 : (rx x now a true s f).1 869 ≤ (rx x now a true s f).1 870 := by
        show x.1 869 ≤ nI a
        rw [e1]; exact nI_le (by omega) (by omega)
      obtain ⟨r, hF, rfl⟩ := am_for (fun F i (_ : Unit) => L_X8_oneOf_32_2 F (nI i) (rx x now a true s f)) 6 (fun _ _ => True) (fun r => r = (0, rx x now a false s f))
        (fun F i _ hi _ => Or.inl ⟨(), trivial, by
          have h1 : ¬ (6 : Int32) ≤ nI i := nI_ge (b := 6) hi (by decide)
          rw [L_X8_oneOf_32_2, if_neg h1, if_neg w1, if_pos t1, nI_1]⟩)
        (fun F _ _ => ⟨_, endl F, rfl⟩)
        1000 0 () (by decide) (by decide) trivial
      exact hF

theorem ix_lkN : ∀ c, c < 256 → (∀ k, k < 6 → k < ixN lkN c → lkN.getD k 0 ≠ c) ∧ (ixN lkN c < 6 → lkN.getD (ixN lkN c) 0 = c) ∧ ixN lkN c ≤ 6 := by decide +kernel
theorem lb_lkN : ∀ k, k < 6 → lkN.getD k 0 < 256 := by decide +kernel
theorem one33 (R : RPn x n lt) (han : a ≤ n) : (w = true ∧ a < n ∧ ixN lkN (lt a) < 6 → G_X8_oneOf_33 (rx x now a w s f) = some (nI (ixN lkN (lt a)), rx x now (a + 1) w s f)) ∧ (¬ (w = true ∧ a < n ∧ ixN lkN (lt a) < 6) → G_X8_oneOf_33 (rx x now a w s f) = some (0, rx x now a false s f)) := by
  obtain ⟨n96, e1, hl, _⟩ := id R
  have hA := R.2.2.2.2.1
  have endl : ∀ F, L_X8_oneOf_33_2 (F + 1) (nI 6) (rx x now a w s f) = some (0, rx x now a false s f) := fun F => by
    rw [L_X8_oneOf_33_2, if_pos (by decide)]
    show some ((0 : Int32), am_uI (rx x now a w s f) 871 (b01 false)) = _
    rw [rx_871]
  cases w with
  | false =>
    refine ⟨(fun c => by cases c.1), fun _ => ?_⟩
    obtain ⟨r, hF, rfl⟩ := am_for (fun F i (_ : Unit) => L_X8_oneOf_33_2 F (nI i) (rx x now a false s f)) 6 (fun _ _ => True) (fun r => r = (0, rx x now a false s f))
      (fun F i _ hi _ => Or.inl ⟨(), trivial, by
        have h1 : ¬ (6 : Int32) ≤ nI i := nI_ge (b := 6) hi (by decide)
        rw [L_X8_oneOf_33_2, if_neg h1, if_pos (show (rx x now a false s f).1 871 = 0 from rfl), nI_1]⟩)
      (fun F _ _ => ⟨_, endl F, rfl⟩)
      1000 0 () (by decide) (by decide) trivial
    exact hF
  | true =>
    have w1 : ¬ (rx x now a true s f).1 871 = 0 := show ¬ b01 true = 0 by decide
    by_cases ha : a < n
    · obtain ⟨l256, hv⟩ := hl a ha
      obtain ⟨i1, i2, i3⟩ := ix_lkN (lt a) l256
      have t1 : ¬ (rx x now a true s f).1 869 ≤ (rx x now a true s f).1 870 := by
        show ¬ x.1 869 ≤ nI a
        rw [e1]; exact nI_ge ha (by omega)
      have t2 : 0 ≤ ((rx x now a true s f).1 870).toInt ∧ ((rx x now a true s f).1 870).toInt < 96 := show 0 ≤ (nI a).toInt ∧ (nI a).toInt < 96 from nIr (b := 96) (by omega) (by decide)
      have t3 : (rx x now a true s f).2.2.1 31 ((rx x now a true s f).1 870).toNatClampNeg = nI (lt a) := by
        show x.2.2.1 31 (nI a).toNatClampNeg = _
        rw [nI_clamp (by omega), hv]
      have E : ∀ F i, i < 6 → L_X8_oneOf_33_2 (F + 1) (nI i) (rx x now a true s f) = if lt a = lkN.getD i 0 then some (nI i, rx x now (a + 1) true s f) else L_X8_oneOf_33_2 F (nI (i + 1)) (rx x now a true s f) := by
        intro F i hi
        have h1 : ¬ (6 : Int32) ≤ nI i := nI_ge (b := 6) hi (by decide)
        have h2 : 0 ≤ (nI i).toInt ∧ (nI i).toInt < 6 := nIr (b := 6) hi (by decide)
        have lb := lb_lkN i hi
        rw [L_X8_oneOf_33_2, if_neg h1, if_neg w1, if_neg t1, if_pos t2, if_pos h2, t3, nI_clamp (by omega), show (rx x now a true s f).2.2.1 33 i = nI (lkN.getD i 0) from hA i hi, show (rx x now a true s f).1 870 = nI a from rfl, nI_1, nI_1, rx_870]
        by_cases e : lt a = lkN.getD i 0
        · rw [if_pos (by rw [e]), if_pos e]
        · rw [if_neg (fun c => e ((nI_eq (by omega) (by omega)).mp c)), if_neg e]
      refine ⟨fun c => ?_, fun c => ?_⟩
      · obtain ⟨r, hF, rfl⟩ := am_for (fun F i (_ : Unit) => L_X8_oneOf_33_2 F (nI i) (rx x now a true s f)) (ixN lkN (lt a)) (fun _ _ => True) (fun r => r = (nI (ixN lkN (lt a)), rx x now (a + 1) true s f))
          (fun F i _ hi _ => Or.inl ⟨(), trivial, by rw [E F i (by omega), if_neg (fun d => i1 i (by omega) hi d.symm)]⟩)
          (fun F _ _ => ⟨_, by rw [E F _ c.2.2, if_pos (i2 c.2.2).symm], rfl⟩)
          1000 0 () (by omega) (by omega) trivial
        exact hF
      · have e6 : ixN lkN (lt a) = 6 := by
          by_cases d : ixN lkN (lt a) < 6
          · exact absurd ⟨rfl, ha, d⟩ c
          · omega
        obtain ⟨r, hF, rfl⟩ := am_for (fun F i (_ : Unit) => L_X8_oneOf_33_2 F (nI i) (rx x now a true s f)) 6 (fun _ _ => True) (fun r => r = (0, rx x now a false s f))
          (fun F i _ hi _ => Or.inl ⟨(), trivial, by rw [E F i hi, if_neg (fun d => i1 i hi (by omega) d.symm)]⟩)
          (fun F _ _ => ⟨_, endl F, rfl⟩)
          1000 0 () (by decide) (by decide) trivial
        exact hF
    · refine ⟨fun c => absurd c.2.1 ha, fun _ => ?_⟩
      have t1 : (rx x now a true s f).1 869 ≤ (rx x now a true s f).1 870 := by
        show x.1 869 ≤ nI a
        rw [e1]; exact nI_le (by omega) (by omega)
      obtain ⟨r, hF, rfl⟩ := am_for (fun F i (_ : Unit) => L_X8_oneOf_33_2 F (nI i) (rx x now a true s f)) 6 (fun _ _ => True) (fun r => r = (0, rx x now a false s f))
        (fun F i _ hi _ => Or.inl ⟨(), trivial, by
          have h1 : ¬ (6 : Int32) ≤ nI i := nI_ge (b := 6) hi (by decide)
          rw [L_X8_oneOf_33_2, if_neg h1, if_neg w1, if_pos t1, nI_1]⟩)
        (fun F _ _ => ⟨_, endl F, rfl⟩)
        1000 0 () (by decide) (by decide) trivial
      exact hF

theorem ix_lsN : ∀ c, c < 256 → (∀ k, k < 5 → k < ixN lsN c → lsN.getD k 0 ≠ c) ∧ (ixN lsN c < 5 → lsN.getD (ixN lsN c) 0 = c) ∧ ixN lsN c ≤ 5 := by decide +kernel
theorem lb_lsN : ∀ k, k < 5 → lsN.getD k 0 < 256 := by decide +kernel
theorem one34 (R : RPn x n lt) (han : a ≤ n) : (w = true ∧ a < n ∧ ixN lsN (lt a) < 5 → G_X8_oneOf_34 (rx x now a w s f) = some (nI (ixN lsN (lt a)), rx x now (a + 1) w s f)) ∧ (¬ (w = true ∧ a < n ∧ ixN lsN (lt a) < 5) → G_X8_oneOf_34 (rx x now a w s f) = some (0, rx x now a false s f)) := by
  obtain ⟨n96, e1, hl, _⟩ := id R
  have hA := R.2.2.2.2.2
  have endl : ∀ F, L_X8_oneOf_34_2 (F + 1) (nI 5) (rx x now a w s f) = some (0, rx x now a false s f) := fun F => by
    rw [L_X8_oneOf_34_2, if_pos (by decide)]
    show some ((0 : Int32), am_uI (rx x now a w s f) 871 (b01 false)) = _
    rw [rx_871]
  cases w with
  | false =>
    refine ⟨(fun c => by cases c.1), fun _ => ?_⟩
    obtain ⟨r, hF, rfl⟩ := am_for (fun F i (_ : Unit) => L_X8_oneOf_34_2 F (nI i) (rx x now a false s f)) 5 (fun _ _ => True) (fun r => r = (0, rx x now a false s f))
      (fun F i _ hi _ => Or.inl ⟨(), trivial, by
        have h1 : ¬ (5 : Int32) ≤ nI i := nI_ge (b := 5) hi (by decide)
        rw [L_X8_oneOf_34_2, if_neg h1, if_pos (show (rx x now a false s f).1 871 = 0 from rfl), nI_1]⟩)
      (fun F _ _ => ⟨_, endl F, rfl⟩)
      1000 0 () (by decide) (by decide) trivial
    exact hF
  | true =>
    have w1 : ¬ (rx x now a true s f).1 871 = 0 := show ¬ b01 true = 0 by decide
    by_cases ha : a < n
    · obtain ⟨l256, hv⟩ := hl a ha
      obtain ⟨i1, i2, i3⟩ := ix_lsN (lt a) l256
      have t1 : ¬ (rx x now a true s f).1 869 ≤ (rx x now a true s f).1 870 := by
        show ¬ x.1 869 ≤ nI a
        rw [e1]; exact nI_ge ha (by omega)
      have t2 : 0 ≤ ((rx x now a true s f).1 870).toInt ∧ ((rx x now a true s f).1 870).toInt < 96 := show 0 ≤ (nI a).toInt ∧ (nI a).toInt < 96 from nIr (b := 96) (by omega) (by decide)
      have t3 : (rx x now a true s f).2.2.1 31 ((rx x now a true s f).1 870).toNatClampNeg = nI (lt a) := by
        show x.2.2.1 31 (nI a).toNatClampNeg = _
        rw [nI_clamp (by omega), hv]
      have E : ∀ F i, i < 5 → L_X8_oneOf_34_2 (F + 1) (nI i) (rx x now a true s f) = if lt a = lsN.getD i 0 then some (nI i, rx x now (a + 1) true s f) else L_X8_oneOf_34_2 F (nI (i + 1)) (rx x now a true s f) := by
        intro F i hi
        have h1 : ¬ (5 : Int32) ≤ nI i := nI_ge (b := 5) hi (by decide)
        have h2 : 0 ≤ (nI i).toInt ∧ (nI i).toInt < 5 := nIr (b := 5) hi (by decide)
        have lb := lb_lsN i hi
        rw [L_X8_oneOf_34_2, if_neg h1, if_neg w1, if_neg t1, if_pos t2, if_pos h2, t3, nI_clamp (by omega), show (rx x now a true s f).2.2.1 34 i = nI (lsN.getD i 0) from hA i hi, show (rx x now a true s f).1 870 = nI a from rfl, nI_1, nI_1, rx_870]
        by_cases e : lt a = lsN.getD i 0
        · rw [if_pos (by rw [e]), if_pos e]
        · rw [if_neg (fun c => e ((nI_eq (by omega) (by omega)).mp c)), if_neg e]
      refine ⟨fun c => ?_, fun c => ?_⟩
      · obtain ⟨r, hF, rfl⟩ := am_for (fun F i (_ : Unit) => L_X8_oneOf_34_2 F (nI i) (rx x now a true s f)) (ixN lsN (lt a)) (fun _ _ => True) (fun r => r = (nI (ixN lsN (lt a)), rx x now (a + 1) true s f))
          (fun F i _ hi _ => Or.inl ⟨(), trivial, by rw [E F i (by omega), if_neg (fun d => i1 i (by omega) hi d.symm)]⟩)
          (fun F _ _ => ⟨_, by rw [E F _ c.2.2, if_pos (i2 c.2.2).symm], rfl⟩)
          1000 0 () (by omega) (by omega) trivial
        exact hF
      · have e6 : ixN lsN (lt a) = 5 := by
          by_cases d : ixN lsN (lt a) < 5
          · exact absurd ⟨rfl, ha, d⟩ c
          · omega
        obtain ⟨r, hF, rfl⟩ := am_for (fun F i (_ : Unit) => L_X8_oneOf_34_2 F (nI i) (rx x now a true s f)) 5 (fun _ _ => True) (fun r => r = (0, rx x now a false s f))
          (fun F i _ hi _ => Or.inl ⟨(), trivial, by rw [E F i hi, if_neg (fun d => i1 i hi (by omega) d.symm)]⟩)
          (fun F _ _ => ⟨_, endl F, rfl⟩)
          1000 0 () (by decide) (by decide) trivial
        exact hF
    · refine ⟨fun c => absurd c.2.1 ha, fun _ => ?_⟩
      have t1 : (rx x now a true s f).1 869 ≤ (rx x now a true s f).1 870 := by
        show x.1 869 ≤ nI a
        rw [e1]; exact nI_le (by omega) (by omega)
      obtain ⟨r, hF, rfl⟩ := am_for (fun F i (_ : Unit) => L_X8_oneOf_34_2 F (nI i) (rx x now a true s f)) 5 (fun _ _ => True) (fun r => r = (0, rx x now a false s f))
        (fun F i _ hi _ => Or.inl ⟨(), trivial, by
          have h1 : ¬ (5 : Int32) ≤ nI i := nI_ge (b := 5) hi (by decide)
          rw [L_X8_oneOf_34_2, if_neg h1, if_neg w1, if_pos t1, nI_1]⟩)
        (fun F _ _ => ⟨_, endl F, rfl⟩)
        1000 0 () (by decide) (by decide) trivial
      exact hF

end
