/-! the reference reads a statement: all of it -/
section
variable {x : am_X} {n : Nat} {lt : Nat → Nat} {now f : Nat → Int32} {s : Int32}
theorem st_chain2 {p : Nat × Bool} {s1 s2 : Nat} (h : (stepW n lt s2 (stepW n lt s1 p)).2 = true) : (stepW n lt s1 p).2 = true ∧ stepW n lt s1 p = (p.1 + 1, true) := by
  have := (st_iff h).1
  exact ⟨this, (st_iff this).2.2.2⟩
/-- K D D ; -/
theorem row_k (R : RPn x n lt) {p : Nat × Bool} (hp : p.1 ≤ n) : ∃ (v1 : Int32) (v2 : (Nat → Int32) → Int32), (∃ y1, G_X8_oneOf_33 (rx x now p.1 p.2 s f) = some (v1, y1) ∧ y1 = rx x now (stepW n lt 75 p).1 (stepW n lt 75 p).2 s f) ∧ (∀ g : Nat → Int32, ∃ y2, G_X8_figures 2 (rx x now (stepW n lt 75 p).1 (stepW n lt 75 p).2 s g) = some (v2 g, y2) ∧ y2 = rx x now (stepW n lt 68 (stepW n lt 68 (stepW n lt 75 p))).1 (stepW n lt 68 (stepW n lt 68 (stepW n lt 75 p))).2 s g) ∧ ∀ g : Nat → Int32, (stepW n lt 68 (stepW n lt 68 (stepW n lt 75 p))).2 = true → v1 = nI (ixN lkN (lt p.1)) ∧ v2 g = nI (prN lt (p.1 + 1)) := by
  obtain ⟨v1, h1, k1⟩ := pk33 (now := now) (f := f) (s := s) R hp
  have h2 : ∀ g : Nat → Int32, ∃ v, G_X8_figures 2 (rx x now (stepW n lt 75 p).1 (stepW n lt 75 p).2 s g) = some (v, rx x now (stepW n lt 68 (stepW n lt 68 (stepW n lt 75 p))).1 (stepW n lt 68 (stepW n lt 68 (stepW n lt 75 p))).2 s g) ∧ ((stepW n lt 68 (stepW n lt 68 (stepW n lt 75 p))).2 = true → v = nI (prN lt (stepW n lt 75 p).1)) := fun g => fig2 R (st_lt hp)
  refine ⟨v1, fun g => Classical.choose (h2 g), ⟨_, h1, rfl⟩, fun g => ⟨_, (Classical.choose_spec (h2 g)).1, rfl⟩, fun g c => ?_⟩
  obtain ⟨c1, _⟩ := st_chain2 c
  obtain ⟨c2, c3⟩ := st_chain2 c1
  refine ⟨k1 c2, ?_⟩
  exact ((Classical.choose_spec (h2 g)).2 c).trans (by rw [c3])
theorem row_s (R : RPn x n lt) {p : Nat × Bool} (hp : p.1 ≤ n) : ∃ (v1 : Int32) (v2 : (Nat → Int32) → Int32), (∃ y1, G_X8_oneOf_34 (rx x now p.1 p.2 s f) = some (v1, y1) ∧ y1 = rx x now (stepW n lt 83 p).1 (stepW n lt 83 p).2 s f) ∧ (∀ g : Nat → Int32, ∃ y2, G_X8_figures 2 (rx x now (stepW n lt 83 p).1 (stepW n lt 83 p).2 s g) = some (v2 g, y2) ∧ y2 = rx x now (stepW n lt 68 (stepW n lt 68 (stepW n lt 83 p))).1 (stepW n lt 68 (stepW n lt 68 (stepW n lt 83 p))).2 s g) ∧ ∀ g : Nat → Int32, (stepW n lt 68 (stepW n lt 68 (stepW n lt 83 p))).2 = true → v1 = nI (ixN lsN (lt p.1)) ∧ v2 g = nI (prN lt (p.1 + 1)) := by
  obtain ⟨v1, h1, k1⟩ := pk34 (now := now) (f := f) (s := s) R hp
  have h2 : ∀ g : Nat → Int32, ∃ v, G_X8_figures 2 (rx x now (stepW n lt 83 p).1 (stepW n lt 83 p).2 s g) = some (v, rx x now (stepW n lt 68 (stepW n lt 68 (stepW n lt 83 p))).1 (stepW n lt 68 (stepW n lt 68 (stepW n lt 83 p))).2 s g) ∧ ((stepW n lt 68 (stepW n lt 68 (stepW n lt 83 p))).2 = true → v = nI (prN lt (stepW n lt 83 p).1)) := fun g => fig2 R (st_lt hp)
  refine ⟨v1, fun g => Classical.choose (h2 g), ⟨_, h1, rfl⟩, fun g => ⟨_, (Classical.choose_spec (h2 g)).1, rfl⟩, fun g c => ?_⟩
  obtain ⟨c1, _⟩ := st_chain2 c
  obtain ⟨c2, c3⟩ := st_chain2 c1
  refine ⟨k1 c2, ?_⟩
  exact ((Classical.choose_spec (h2 g)).2 c).trans (by rw [c3])
/-- a statement -/
theorem sta_ok (R : RPn x n lt) {a : Nat} (han : a ≤ n) : ∃ s' f', G_X8_statement (rx x now a true s f) = some ((), rx x now (stN n lt a).1 (stN n lt a).2 s' f') ∧ ((stN n lt a).2 = true → FIn lt a s' f') := by
  obtain ⟨o1, o2⟩ := one32 (now := now) (f := f) (w := true) (s := s) R han
  by_cases c : a < n ∧ ixN lbN (lt a) < 6
  · obtain ⟨ca, ci⟩ := c
    have l256 := (R.2.2.1 a ca).1
    have z := (sh_ix _ l256).mpr ci
    have h1 := o1 ⟨rfl, ca, ci⟩
    have es : stN n lt a = foW n lt (am_byt (shN (lt a))) (a + 1, true) := if_pos ⟨ca, z⟩
    have ha1 : ((a + 1, true) : Nat × Bool).1 ≤ n := by show a + 1 ≤ n; omega
    rcases ix_hd _ l256 ci with ⟨hc, hi⟩ | ⟨hc, hi⟩ | ⟨hc, hi⟩ | ⟨hc, hi⟩ | ⟨hc, hi⟩ | ⟨hc, hi⟩
    · -- k
      have eb : stN n lt a = stepW n lt 59 (stepW n lt 68 (stepW n lt 68 (stepW n lt 75 (a + 1, true)))) := by
        rw [es, hc, show shN 107 = 1001 from rfl, byt_1]; rfl
      obtain ⟨v1, v2, ⟨y1, g1, e1⟩, r2, rv⟩ := row_k (now := now) (f := f) (s := 0) R ha1
      obtain ⟨y2, g2, e2⟩ := r2 (upd f 0 v1)
      subst e1 e2
      have hp := st_lt (lt := lt) (s := 68) (st_lt (lt := lt) (s := 68) (st_lt (s := 75) (lt := lt) ha1))
      refine ⟨0, upd (upd (upd f 0 v1) 1 (v2 (upd f 0 v1))) 2 (v2 (upd f 0 v1)), ?_, fun ok => ?_⟩
      · unfold G_X8_statement
        rw [h1, hi]; dsimp only
        rw [if_neg (by decide), show nI 0 = (0 : Int32) from rfl, rx_875]
        rw [show rx x now (a + 1) true 0 f = rx x now ((a + 1, true) : Nat × Bool).1 ((a + 1, true) : Nat × Bool).2 0 f from rfl, g1]; dsimp only
        rw [rx_35, show (rx x now (stepW n lt 75 (a + 1, true)).1 (stepW n lt 75 (a + 1, true)).2 0 f).2.2.1 35 = f from rfl, g2]; dsimp only
        rw [if_pos (show (rx x now (stepW n lt 68 (stepW n lt 68 (stepW n lt 75 (a + 1, true)))).1 (stepW n lt 68 (stepW n lt 68 (stepW n lt 75 (a + 1, true)))).2 0 (upd f 0 v1)).1 875 = 0 from rfl), eb]
        exact semi R hp rfl (by rw [rx_35, rx_35]; rfl)
      · rw [eb] at ok
        obtain ⟨w1, w2⟩ := rv (upd f 0 v1) (st_iff ok).1
        refine Or.inl ⟨hc, rfl, ?_, ?_, ?_⟩
        · rw [upd_ne _ _ (by decide), upd_ne _ _ (by decide), upd_eq]; exact w1
        · rw [upd_ne _ _ (by decide), upd_eq]; exact w2
        · rw [upd_eq]; exact w2
    · -- v
      have eb : stN n lt a = stepW n lt 59 (stepW n lt 68 (stepW n lt 68 (stepW n lt 68 (stepW n lt 68 (stepW n lt 75 (a + 1, true)))))) := by
        rw [es, hc, show shN 118 = 1002 from rfl, byt_2]; rfl
      obtain ⟨v1, v2, ⟨y1, g1, e1⟩, r2, rv⟩ := row_k (now := now) (f := f) (s := 1) R ha1
      obtain ⟨y2, g2, e2⟩ := r2 (upd f 0 v1)
      subst e1 e2
      have hp := st_lt (lt := lt) (s := 68) (st_lt (lt := lt) (s := 68) (st_lt (s := 75) (lt := lt) ha1))
      obtain ⟨v3, g3, rv3⟩ := fig2 (now := now) (f := upd (upd f 0 v1) 1 (v2 (upd f 0 v1))) (s := 1) R hp
      refine ⟨1, upd (upd (upd f 0 v1) 1 (v2 (upd f 0 v1))) 2 v3, ?_, fun ok => ?_⟩
      · unfold G_X8_statement
        rw [h1, hi]; dsimp only
        rw [if_neg (by decide), show nI 1 = (1 : Int32) from rfl, rx_875]
        rw [show rx x now (a + 1) true 1 f = rx x now ((a + 1, true) : Nat × Bool).1 ((a + 1, true) : Nat × Bool).2 1 f from rfl, g1]; dsimp only
        rw [rx_35, show (rx x now (stepW n lt 75 (a + 1, true)).1 (stepW n lt 75 (a + 1, true)).2 1 f).2.2.1 35 = f from rfl, g2]; dsimp only
        rw [if_neg (show ¬ (rx x now (stepW n lt 68 (stepW n lt 68 (stepW n lt 75 (a + 1, true)))).1 (stepW n lt 68 (stepW n lt 68 (stepW n lt 75 (a + 1, true)))).2 1 (upd f 0 v1)).1 875 = 0 from show ¬ (1 : Int32) = 0 by decide), rx_35, show (rx x now (stepW n lt 68 (stepW n lt 68 (stepW n lt 75 (a + 1, true)))).1 (stepW n lt 68 (stepW n lt 68 (stepW n lt 75 (a + 1, true)))).2 1 (upd f 0 v1)).2.2.1 35 = upd f 0 v1 from rfl, g3, eb]; dsimp only
        exact semi R (st_lt (st_lt hp)) rfl (by rw [rx_35]; rfl)
      · rw [eb] at ok
        have k3 := (st_iff ok).1
        obtain ⟨k2, q2⟩ := st_chain2 k3
        obtain ⟨k1, q1⟩ := st_chain2 k2
        obtain ⟨w1, w2⟩ := rv (upd f 0 v1) k1
        have w3 := rv3 k3
        obtain ⟨j2, q0⟩ := st_chain2 k1
        obtain ⟨j1, q00⟩ := st_chain2 j2
        have ep : (stepW n lt 68 (stepW n lt 68 (stepW n lt 75 (a + 1, true)))).1 = a + 4 := by
          have e1 := (st_iff k1).2.2.2
          rw [e1, (st_iff j2).2.2.2, q00]
        rw [ep] at w3
        refine Or.inr (Or.inl ⟨hc, rfl, ?_, ?_, ?_⟩)
        · rw [upd_ne _ _ (by decide), upd_ne _ _ (by decide), upd_eq]; exact w1
        · rw [upd_ne _ _ (by decide), upd_eq]; exact w2
        · rw [upd_eq]; exact w3
    · -- h
      have eb : stN n lt a = stepW n lt 59 (stepW n lt 68 (stepW n lt 68 (a + 1, true))) := by
        rw [es, hc, show shN 104 = 1003 from rfl, byt_3]; rfl
      obtain ⟨v, g1, rv⟩ := fig2 (now := now) (f := f) (s := 2) R ha1
      have hp := st_lt (lt := lt) (s := 68) (st_lt (s := 68) (lt := lt) ha1)
      refine ⟨2, upd f 0 v, ?_, fun ok => ?_⟩
      · unfold G_X8_statement
        rw [h1, hi]; dsimp only
        rw [if_pos (by decide), if_neg (by decide), if_pos (by decide), show nI 2 = (2 : Int32) from rfl, rx_875]
        rw [show rx x now (a + 1) true 2 f = rx x now ((a + 1, true) : Nat × Bool).1 ((a + 1, true) : Nat × Bool).2 2 f from rfl, g1, eb]; dsimp only
        exact semi R hp rfl (by rw [rx_35]; rfl)
      · rw [eb] at ok
        have k := (st_iff ok).1
        exact Or.inr (Or.inr (Or.inl ⟨hc, rfl, by rw [upd_eq]; exact rv k⟩))
    · -- p
      have eb : stN n lt a = stepW n lt 59 (stepW n lt 68 (a + 1, true)) := by
        rw [es, hc, show shN 112 = 1004 from rfl, byt_4]; rfl
      obtain ⟨v, g1, rv⟩ := fig1 (now := now) (f := f) (s := 3) R ha1
      have hp := st_lt (s := 68) (lt := lt) ha1
      refine ⟨3, upd f 0 v, ?_, fun ok => ?_⟩
      · unfold G_X8_statement
        rw [h1, hi]; dsimp only
        rw [if_pos (by decide), if_neg (by decide), if_neg (by decide), show nI 3 = (3 : Int32) from rfl, rx_875]
        rw [show rx x now (a + 1) true 3 f = rx x now ((a + 1, true) : Nat × Bool).1 ((a + 1, true) : Nat × Bool).2 3 f from rfl, g1, eb]; dsimp only
        exact semi R hp rfl (by rw [rx_35]; rfl)
      · rw [eb] at ok
        exact Or.inr (Or.inr (Or.inr (Or.inl ⟨hc, rfl, by rw [upd_eq]; exact rv (st_iff ok).1⟩)))
    · -- w
      have eb : stN n lt a = stepW n lt 59 (stepW n lt 68 (a + 1, true)) := by
        rw [es, hc, show shN 119 = 1004 from rfl, byt_4]; rfl
      obtain ⟨v, g1, rv⟩ := fig1 (now := now) (f := f) (s := 4) R ha1
      have hp := st_lt (s := 68) (lt := lt) ha1
      refine ⟨4, upd f 0 v, ?_, fun ok => ?_⟩
      · unfold G_X8_statement
        rw [h1, hi]; dsimp only
        rw [if_pos (by decide), if_neg (by decide), if_neg (by decide), show nI 4 = (4 : Int32) from rfl, rx_875]
        rw [show rx x now (a + 1) true 4 f = rx x now ((a + 1, true) : Nat × Bool).1 ((a + 1, true) : Nat × Bool).2 4 f from rfl, g1, eb]; dsimp only
        exact semi R hp rfl (by rw [rx_35]; rfl)
      · rw [eb] at ok
        exact Or.inr (Or.inr (Or.inr (Or.inr (Or.inl ⟨hc, rfl, by rw [upd_eq]; exact rv (st_iff ok).1⟩))))
    · -- s
      have eb : stN n lt a = stepW n lt 59 (stepW n lt 68 (stepW n lt 68 (stepW n lt 83 (a + 1, true)))) := by
        rw [es, hc, show shN 115 = 1005 from rfl, byt_5]; rfl
      obtain ⟨v1, v2, ⟨y1, g1, e1⟩, r2, rv⟩ := row_s (now := now) (f := f) (s := 5) R ha1
      obtain ⟨y2, g2, e2⟩ := r2 (upd f 0 v1)
      subst e1 e2
      have hp := st_lt (lt := lt) (s := 68) (st_lt (lt := lt) (s := 68) (st_lt (s := 83) (lt := lt) ha1))
      refine ⟨5, upd (upd f 0 v1) 1 (v2 (upd f 0 v1)), ?_, fun ok => ?_⟩
      · unfold G_X8_statement
        rw [h1, hi]; dsimp only
        rw [if_pos (by decide), if_pos (by decide), show nI 5 = (5 : Int32) from rfl, rx_875]
        rw [show rx x now (a + 1) true 5 f = rx x now ((a + 1, true) : Nat × Bool).1 ((a + 1, true) : Nat × Bool).2 5 f from rfl, g1]; dsimp only
        rw [rx_35, show (rx x now (stepW n lt 83 (a + 1, true)).1 (stepW n lt 83 (a + 1, true)).2 5 f).2.2.1 35 = f from rfl, g2, eb]; dsimp only
        exact semi R hp rfl (by rw [rx_35]; rfl)
      · rw [eb] at ok
        obtain ⟨w1, w2⟩ := rv (upd f 0 v1) (st_iff ok).1
        refine Or.inr (Or.inr (Or.inr (Or.inr (Or.inr ⟨hc, rfl, ?_, ?_⟩))))
        · rw [upd_ne _ _ (by decide), upd_eq]; exact w1
        · rw [upd_eq]; exact w2
  · have h1 := o2 (fun d => c ⟨d.2.1, d.2.2⟩)
    have es : stN n lt a = (a, false) := by
      unfold stN
      rw [if_neg]
      rintro ⟨d1, d2⟩
      exact c ⟨d1, (sh_ix _ (R.2.2.1 a d1).1).mp d2⟩
    obtain ⟨v1, v2, ⟨y1, g1, e1⟩, r2, rv⟩ := row_k (now := now) (f := f) (s := 0) R (p := (a, false)) han
    obtain ⟨y2, g2, e2⟩ := r2 (upd f 0 v1)
    subst e1 e2
    have f1 : ∀ t, stepW n lt t (a, false) = (a, false) := fun t => if_neg (fun d => by cases d.1)
    rw [f1, f1, f1] at g2
    rw [f1] at g1
    refine ⟨0, upd (upd (upd f 0 v1) 1 (v2 (upd f 0 v1))) 2 (v2 (upd f 0 v1)), ?_, fun ok => by rw [es] at ok; cases ok⟩
    unfold G_X8_statement
    rw [h1]; dsimp only
    rw [if_neg (by decide), rx_875]
    rw [show rx x now a false 0 f = rx x now ((a, false) : Nat × Bool).1 ((a, false) : Nat × Bool).2 0 f from rfl, g1]; dsimp only
    rw [rx_35, show (rx x now a false 0 f).2.2.1 35 = f from rfl, g2]; dsimp only
    rw [if_pos (show (rx x now a false 0 (upd f 0 v1)).1 875 = 0 from rfl), es]
    have := semi (now := now) (f := upd f 0 v1) (s := 0) R (p := (a, false)) han (g := upd (upd (upd f 0 v1) 1 (v2 (upd f 0 v1))) 2 (v2 (upd f 0 v1))) (X := rx x now a false 0 (upd f 0 v1)) rfl rfl
    rw [f1] at this
    rw [← this, rx_35, rx_35]
    rfl
end
