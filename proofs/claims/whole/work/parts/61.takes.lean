/-! what is read comes, in numbers; the reference takes it -/
def layF (now : Nat → Int32) (k p q : Nat) : Nat → Int32 := fun j => if 20 + p ≤ j ∧ j ≤ 20 + q then nI k else now j
def tkL (now : Nat → Int32) (k p q : Nat) : Option (Nat → Int32) := if q < 36 ∧ p ≤ q ∧ ¬ (k = 1 ∧ p ≤ (now 0).toNatClampNeg ∧ (now 0).toNatClampNeg ≤ q) then some (layF now k p q) else none
def tkS (now : Nat → Int32) (k q : Nat) : Option (Nat → Int32) := if q < 36 ∧ ¬ now 3 = 3 then some (upd (upd (upd now (10 + 2 * (now 3).toNatClampNeg) (nI k)) (10 + 2 * (now 3).toNatClampNeg + 1) (nI q)) 3 (nI ((now 3).toNatClampNeg + 1))) else none
def tkN (lt : Nat → Nat) (a : Nat) (now : Nat → Int32) : Option (Nat → Int32) :=
  if lt a = 107 then tkL now (ixN lkN (lt (a + 1))) (prN lt (a + 2)) (prN lt (a + 2))
  else if lt a = 118 then tkL now (ixN lkN (lt (a + 1))) (prN lt (a + 2)) (prN lt (a + 4))
  else if lt a = 104 then (if prN lt (a + 1) < 36 ∧ ¬ now (20 + prN lt (a + 1)) = 1 then some (upd now 0 (nI (prN lt (a + 1)))) else none)
  else if lt a = 112 then (if 0 < dgN lt (a + 1) then some (upd now 1 (nI (dgN lt (a + 1)))) else none)
  else if lt a = 119 then some (upd now 2 (nI (dgN lt (a + 1))))
  else tkS now (ixN lsN (lt (a + 1))) (prN lt (a + 2))
theorem fo_wf (n : Nat) (lt : Nat → Nat) : ∀ (l : List Nat) (b : Nat), (foW n lt l (b, true)).2 = true → (foW n lt l (b, true)).1 = b + l.length ∧ ∀ j, j < l.length → b + j < n ∧ fitN (l.getD j 0) (lt (b + j)) = true
  | [], b, _ => ⟨rfl, fun j hj => by cases hj⟩
  | s :: l, b, h => by
    rw [foW] at h ⊢
    by_cases c : b < n ∧ fitN s (lt b) = true
    · rw [st_y c.1 c.2] at h ⊢
      obtain ⟨h1, h2⟩ := fo_wf n lt l (b + 1) h
      refine ⟨by rw [h1]; show b + 1 + l.length = b + (l.length + 1); omega, fun j hj => ?_⟩
      cases j with
      | zero => exact c
      | succ j =>
        have hj' : j < l.length := by
          have : (s :: l).length = l.length + 1 := rfl
          omega
        have := h2 j hj'
        rw [show b + (j + 1) = b + 1 + j by omega]
        exact this
    · rw [st_n (fun d => c d.2), fo_f] at h
      cases h
/-- the letters of a statement, as they must be -/
def WFn (n : Nat) (lt : Nat → Nat) (a : Nat) : Prop :=
  a < n ∧ ((lt a = 107 ∧ (stN n lt a).1 = a + 5 ∧ a + 3 < n ∧ fitN 75 (lt (a + 1)) = true ∧ fitN 68 (lt (a + 2)) = true ∧ fitN 68 (lt (a + 3)) = true) ∨
  (lt a = 118 ∧ (stN n lt a).1 = a + 7 ∧ a + 5 < n ∧ fitN 75 (lt (a + 1)) = true ∧ fitN 68 (lt (a + 2)) = true ∧ fitN 68 (lt (a + 3)) = true ∧ fitN 68 (lt (a + 4)) = true ∧ fitN 68 (lt (a + 5)) = true) ∨
  (lt a = 104 ∧ (stN n lt a).1 = a + 4 ∧ a + 2 < n ∧ fitN 68 (lt (a + 1)) = true ∧ fitN 68 (lt (a + 2)) = true) ∨
  (lt a = 112 ∧ (stN n lt a).1 = a + 3 ∧ a + 1 < n ∧ fitN 68 (lt (a + 1)) = true) ∨
  (lt a = 119 ∧ (stN n lt a).1 = a + 3 ∧ a + 1 < n ∧ fitN 68 (lt (a + 1)) = true) ∨
  (lt a = 115 ∧ (stN n lt a).1 = a + 5 ∧ a + 3 < n ∧ fitN 83 (lt (a + 1)) = true ∧ fitN 68 (lt (a + 2)) = true ∧ fitN 68 (lt (a + 3)) = true))
theorem wf_ok {n : Nat} {lt : Nat → Nat} {a : Nat} (l256 : a < n → lt a < 256) (h : (stN n lt a).2 = true) : WFn n lt a := by
  have c : a < n ∧ shN (lt a) ≠ 1000 := by
    by_cases c : a < n ∧ shN (lt a) ≠ 1000
    · exact c
    · have : stN n lt a = (a, false) := if_neg c
      rw [this] at h; cases h
  have es : stN n lt a = foW n lt (am_byt (shN (lt a))) (a + 1, true) := if_pos c
  have ci := (sh_ix _ (l256 c.1)).mp c.2
  refine ⟨c.1, ?_⟩
  rcases ix_hd _ (l256 c.1) ci with ⟨hc, _⟩ | ⟨hc, _⟩ | ⟨hc, _⟩ | ⟨hc, _⟩ | ⟨hc, _⟩ | ⟨hc, _⟩
  · rw [hc, show shN 107 = 1001 from rfl, byt_1] at es
    rw [es] at h ⊢
    obtain ⟨h1, h2⟩ := fo_wf n lt _ _ h
    exact Or.inl ⟨hc, h1, by have := (h2 2 (by decide)).1; omega, (h2 0 (by decide)).2, (h2 1 (by decide)).2, (h2 2 (by decide)).2⟩
  · rw [hc, show shN 118 = 1002 from rfl, byt_2] at es
    rw [es] at h ⊢
    obtain ⟨h1, h2⟩ := fo_wf n lt _ _ h
    exact Or.inr (Or.inl ⟨hc, h1, by have := (h2 4 (by decide)).1; omega, (h2 0 (by decide)).2, (h2 1 (by decide)).2, (h2 2 (by decide)).2, (h2 3 (by decide)).2, (h2 4 (by decide)).2⟩)
  · rw [hc, show shN 104 = 1003 from rfl, byt_3] at es
    rw [es] at h ⊢
    obtain ⟨h1, h2⟩ := fo_wf n lt _ _ h
    exact Or.inr (Or.inr (Or.inl ⟨hc, h1, by have := (h2 1 (by decide)).1; omega, (h2 0 (by decide)).2, (h2 1 (by decide)).2⟩))
  · rw [hc, show shN 112 = 1004 from rfl, byt_4] at es
    rw [es] at h ⊢
    obtain ⟨h1, h2⟩ := fo_wf n lt _ _ h
    exact Or.inr (Or.inr (Or.inr (Or.inl ⟨hc, h1, by have := (h2 0 (by decide)).1; omega, (h2 0 (by decide)).2⟩)))
  · rw [hc, show shN 119 = 1004 from rfl, byt_4] at es
    rw [es] at h ⊢
    obtain ⟨h1, h2⟩ := fo_wf n lt _ _ h
    exact Or.inr (Or.inr (Or.inr (Or.inr (Or.inl ⟨hc, h1, by have := (h2 0 (by decide)).1; omega, (h2 0 (by decide)).2⟩))))
  · rw [hc, show shN 115 = 1005 from rfl, byt_5] at es
    rw [es] at h ⊢
    obtain ⟨h1, h2⟩ := fo_wf n lt _ _ h
    exact Or.inr (Or.inr (Or.inr (Or.inr (Or.inr ⟨hc, h1, by have := (h2 2 (by decide)).1; omega, (h2 0 (by decide)).2, (h2 1 (by decide)).2, (h2 2 (by decide)).2⟩))))
theorem dg_10 {lt : Nat → Nat} {b : Nat} (h : fitN 68 (lt b) = true) : dgN lt b < 10 := by
  rw [fit_68] at h
  unfold dgN
  omega
theorem pr_100 {lt : Nat → Nat} {b : Nat} (h1 : fitN 68 (lt b) = true) (h2 : fitN 68 (lt (b + 1)) = true) : prN lt b < 100 := by
  have := dg_10 h1
  have := dg_10 h2
  unfold prN
  omega
section
variable {x : am_X} {lt : Nat → Nat} {now f : Nat → Int32} {a : Nat} {w : Bool} {s : Int32}
theorem tk115 {k p q : Nat} (hf0 : f 0 = nI k) (hf2 : f 2 = nI q) (hq : q < 36) (hpq : p ≤ q) : ∃ u, L_X8_takes_115 1000 (nI p) (rx x now a w s f) = some (u, rx x (layF now k p q) a w s f) := by
  have H := am_for (fun F i (g : Nat → Int32) => L_X8_takes_115 F (nI (p + i)) (rx x g a w s f)) (q + 1 - p) (fun i g => ∀ j, g j = if 20 + p ≤ j ∧ j < 20 + p + i then nI k else now j)
    (fun r => ∃ u, r = (u, rx x (layF now k p q) a w s f))
    (fun F i g hi hg => by
      have h1 : ¬ nI q < nI (p + i) := nI_nlt (by omega) (by omega)
      have ix : 0 ≤ (nI (20 + (p + i))).toInt ∧ (nI (20 + (p + i))).toInt < 56 := nIr (b := 56) (by omega) (by decide)
      refine Or.inl ⟨upd g (20 + (p + i)) (nI k), fun j => ?_, ?_⟩
      · by_cases e : j = 20 + (p + i)
        · subst e; rw [upd_eq, if_pos (by omega)]
        · rw [upd_ne _ _ e, hg j]
          by_cases c : 20 + p ≤ j ∧ j < 20 + p + i
          · rw [if_pos c, if_pos (by omega)]
          · rw [if_neg c, if_neg (by omega)]
      · rw [L_X8_takes_115, show (rx x g a w s f).2.2.1 35 = f from rfl, hf2, if_neg h1, show (20 : Int32) + nI (p + i) = nI (20 + (p + i)) from nI_add 20 (p + i), if_pos ix, nI_clamp (by omega), hf0, show (rx x g a w s f).2.2.1 29 = g from rfl, rx_29, nI_1]
        rfl)
    (fun F g hg => ⟨_, by rw [L_X8_takes_115, show (rx x g a w s f).2.2.1 35 = f from rfl, hf2, if_pos (nI_lt (by omega) (by omega))], nI (p + (q + 1 - p)), by
      have : g = layF now k p q := funext (fun j => by
        rw [hg j]
        unfold layF
        by_cases c : 20 + p ≤ j ∧ j ≤ 20 + q
        · rw [if_pos c, if_pos (by omega)]
        · rw [if_neg c, if_neg (by omega)])
      rw [this]⟩)
    1000 0 now (Nat.zero_le _) (by omega) (fun j => by rw [if_neg (by omega)])
  obtain ⟨r, hF, u, rfl⟩ := H
  exact ⟨u, hF⟩
def nwP (now : Nat → Int32) : Prop := (∃ h, h < 36 ∧ now 0 = nI h) ∧ ∃ c, c ≤ 3 ∧ now 3 = nI c
/-- the two sorts that lay kinds down -/
theorem tkl_ok (hN : nwP now) {k p q : Nat} (hk : k < 6) (hp : p < 100) (hq : q < 100) (hf0 : f 0 = nI k) (hf1 : f 1 = nI p) (hf2 : f 2 = nI q) : ∃ m, (if (36 : Int32) ≤ f 2 then some ((0 : Int32), rx x now a w s f) else (if f 2 < f 1 then some ((0 : Int32), rx x now a w s f) else (if f 0 = 1 then (if now 0 < f 1 then (match L_X8_takes_115 1000 (f 1) (rx x now a w s f) with | none => none | some (v9, x8) => some ((1 : Int32), x8)) else (if f 2 < now 0 then (match L_X8_takes_115 1000 (f 1) (rx x now a w s f) with | none => none | some (v13, x12) => some ((1 : Int32), x12)) else some ((0 : Int32), rx x now a w s f))) else (match L_X8_takes_115 1000 (f 1) (rx x now a w s f) with | none => none | some (v16, x15) => some ((1 : Int32), x15))))) = some (b01 (tkL now k p q).isSome, rx x m a w s f) ∧ ∀ m', tkL now k p q = some m' → m = m' := by
  obtain ⟨⟨h, hh, eh⟩, _⟩ := hN
  have ehn : (now 0).toNatClampNeg = h := by rw [eh, nI_clamp (by omega)]
  unfold tkL
  rw [ehn, hf0, hf1, hf2, eh]
  by_cases c1 : q < 36
  case neg =>
    refine ⟨now, ?_, fun m' e => ?_⟩
    · rw [if_pos (show (36 : Int32) ≤ nI q from nI_le (a := 36) (by omega) (by omega)), if_neg (fun d => c1 d.1)]; rfl
    · rw [if_neg (fun d => c1 d.1)] at e; cases e
  rw [if_neg (show ¬ (36 : Int32) ≤ nI q from nI_ge (b := 36) c1 (by decide))]
  by_cases c2 : p ≤ q
  case neg =>
    refine ⟨now, ?_, fun m' e => ?_⟩
    · rw [if_pos (nI_lt (by omega) (by omega)), if_neg (fun d => c2 d.2.1)]; rfl
    · rw [if_neg (fun d => c2 d.2.1)] at e; cases e
  rw [if_neg (nI_nlt c2 (by omega))]
  obtain ⟨u, hu⟩ := tk115 (x := x) (now := now) (a := a) (w := w) (s := s) hf0 hf2 c1 c2
  by_cases c3 : k = 1 ∧ p ≤ h ∧ h ≤ q
  · refine ⟨now, ?_, fun m' e => ?_⟩
    · rw [if_pos (show nI k = 1 by rw [c3.1]; rfl), if_neg (nI_nlt c3.2.1 (by omega)), if_neg (nI_nlt c3.2.2 (by omega)), if_neg (fun d => d.2.2 c3)]; rfl
    · rw [if_neg (fun d => d.2.2 c3)] at e; cases e
  · refine ⟨layF now k p q, ?_, fun m' e => ?_⟩
    · rw [hu]; dsimp only
      rw [if_pos (show q < 36 ∧ p ≤ q ∧ ¬ (k = 1 ∧ p ≤ h ∧ h ≤ q) from ⟨c1, c2, c3⟩)]
      by_cases k1 : k = 1
      · rw [if_pos (show nI k = 1 by rw [k1]; rfl)]
        by_cases l1 : h < p
        · rw [if_pos (nI_lt l1 (by omega))]; rfl
        · rw [if_neg (nI_nlt (by omega) (by omega)), if_pos (nI_lt (by omega) (by omega))]; rfl
      · rw [if_neg (fun d => k1 ((nI_1e (by omega)).mp d))]; rfl
    · rw [if_pos ⟨c1, c2, c3⟩] at e; cases e; rfl
theorem tk_ok (hN : nwP now) {n : Nat} (W : WFn n lt a) {b : Nat} (hF : FIn lt a s f) : ∃ m, G_X8_takes (rx x now b w s f) = some (b01 (tkN lt a now).isSome, rx x m b w s f) ∧ ∀ m', tkN lt a now = some m' → m = m' := by
  obtain ⟨ha, W⟩ := W
  have r35 : (rx x now b w s f).2.2.1 35 = f := rfl
  have r29 : (rx x now b w s f).2.2.1 29 = now := rfl
  have r875 : (rx x now b w s f).1 875 = s := rfl
  have ne : ∀ {u v : Nat}, lt a = u → ¬ u = v → ¬ lt a = v := fun e n d => n (e.symm.trans d)
  unfold G_X8_takes
  rw [r35, r29, r875]
  rcases hF with ⟨hc, hs, f0, f1, f2⟩ | ⟨hc, hs, f0, f1, f2⟩ | ⟨hc, hs, f0⟩ | ⟨hc, hs, f0⟩ | ⟨hc, hs, f0⟩ | ⟨hc, hs, f0, f1⟩
  · have e : tkN lt a now = tkL now (ixN lkN (lt (a + 1))) (prN lt (a + 2)) (prN lt (a + 2)) := if_pos hc
    rcases W with ⟨_, _, _, w1, w2, w3⟩ | ⟨d, _⟩ | ⟨d, _⟩ | ⟨d, _⟩ | ⟨d, _⟩ | ⟨d, _⟩
    · rw [if_pos hs, e]
      exact tkl_ok hN ((fit_75 _).mp w1) (pr_100 w2 w3) (pr_100 w2 w3) f0 f1 f2
    all_goals (rw [hc] at d; cases d)
  · have e : tkN lt a now = tkL now (ixN lkN (lt (a + 1))) (prN lt (a + 2)) (prN lt (a + 4)) := by unfold tkN; rw [if_neg (ne hc (by decide)), if_pos hc]
    rcases W with ⟨d, _⟩ | ⟨_, _, _, w1, w2, w3, w4, w5⟩ | ⟨d, _⟩ | ⟨d, _⟩ | ⟨d, _⟩ | ⟨d, _⟩
    · rw [hc] at d; cases d
    · rw [if_neg (show ¬ s = 0 by rw [hs]; decide), if_pos hs, e]
      exact tkl_ok hN ((fit_75 _).mp w1) (pr_100 w2 w3) (pr_100 w4 w5) f0 f1 f2
    all_goals (rw [hc] at d; cases d)
  · have e : tkN lt a now = (if prN lt (a + 1) < 36 ∧ ¬ now (20 + prN lt (a + 1)) = 1 then some (upd now 0 (nI (prN lt (a + 1)))) else none) := by unfold tkN; rw [if_neg (ne hc (by decide)), if_neg (ne hc (by decide)), if_pos hc]
    have q100 : prN lt (a + 1) < 100 := by
      rcases W with ⟨d, _⟩ | ⟨d, _⟩ | ⟨_, _, _, w1, w2⟩ | ⟨d, _⟩ | ⟨d, _⟩ | ⟨d, _⟩
      · rw [hc] at d; cases d
      · rw [hc] at d; cases d
      · exact pr_100 w1 w2
      all_goals (rw [hc] at d; cases d)
    rw [if_neg (show ¬ s = 0 by rw [hs]; decide), if_neg (show ¬ s = 1 by rw [hs]; decide), if_pos hs, e, f0, rx_29]
    refine ⟨upd now 0 (nI (prN lt (a + 1))), ?_, fun m' e => ?_⟩
    · by_cases c1 : prN lt (a + 1) < 36
      · rw [if_neg (show ¬ (36 : Int32) ≤ nI (prN lt (a + 1)) from nI_ge (b := 36) c1 (by decide)), ko c1]; dsimp only
        have eu : (rx x (upd now 0 (nI (prN lt (a + 1)))) b w s f).2.2.1 29 (20 + prN lt (a + 1)) = now (20 + prN lt (a + 1)) := upd_ne _ _ (by omega)
        rw [eu]
        by_cases c2 : now (20 + prN lt (a + 1)) = 1
        · rw [if_pos c2, if_neg (fun d => d.2 c2)]; rfl
        · rw [if_neg c2, if_pos ⟨c1, c2⟩]; rfl
      · rw [if_pos (show (36 : Int32) ≤ nI (prN lt (a + 1)) from nI_le (a := 36) (by omega) (by omega)), if_neg (fun d => c1 d.1)]; rfl
    · by_cases c : prN lt (a + 1) < 36 ∧ ¬ now (20 + prN lt (a + 1)) = 1
      · rw [if_pos c] at e; cases e; rfl
      · rw [if_neg c] at e; cases e
  · have e : tkN lt a now = (if 0 < dgN lt (a + 1) then some (upd now 1 (nI (dgN lt (a + 1)))) else none) := by unfold tkN; rw [if_neg (ne hc (by decide)), if_neg (ne hc (by decide)), if_neg (ne hc (by decide)), if_pos hc]
    have d10 : dgN lt (a + 1) < 10 := by
      rcases W with ⟨d, _⟩ | ⟨d, _⟩ | ⟨d, _⟩ | ⟨_, _, _, w1⟩ | ⟨d, _⟩ | ⟨d, _⟩
      · rw [hc] at d; cases d
      · rw [hc] at d; cases d
      · rw [hc] at d; cases d
      · exact dg_10 w1
      all_goals (rw [hc] at d; cases d)
    rw [if_neg (show ¬ s = 0 by rw [hs]; decide), if_neg (show ¬ s = 1 by rw [hs]; decide), if_neg (show ¬ s = 2 by rw [hs]; decide), if_pos hs, e, f0, rx_29]
    refine ⟨upd now 1 (nI (dgN lt (a + 1))), ?_, fun m' e => ?_⟩
    · by_cases c1 : 0 < dgN lt (a + 1)
      · rw [if_neg (show ¬ nI (dgN lt (a + 1)) ≤ (0 : Int32) from nI_ge (a := 0) c1 (by omega)), if_pos c1]; rfl
      · rw [if_pos (show nI (dgN lt (a + 1)) ≤ (0 : Int32) from nI_le (b := 0) (by omega) (by decide)), if_neg c1]; rfl
    · by_cases c : 0 < dgN lt (a + 1)
      · rw [if_pos c] at e; cases e; rfl
      · rw [if_neg c] at e; cases e
  · have e : tkN lt a now = some (upd now 2 (nI (dgN lt (a + 1)))) := by unfold tkN; rw [if_neg (ne hc (by decide)), if_neg (ne hc (by decide)), if_neg (ne hc (by decide)), if_neg (ne hc (by decide)), if_pos hc]
    rw [if_neg (show ¬ s = 0 by rw [hs]; decide), if_neg (show ¬ s = 1 by rw [hs]; decide), if_neg (show ¬ s = 2 by rw [hs]; decide), if_neg (show ¬ s = 3 by rw [hs]; decide), if_pos hs, e, f0, rx_29]
    exact ⟨upd now 2 (nI (dgN lt (a + 1))), rfl, fun m' e => by cases e; rfl⟩
  · have e : tkN lt a now = tkS now (ixN lsN (lt (a + 1))) (prN lt (a + 2)) := by unfold tkN; rw [if_neg (ne hc (by decide)), if_neg (ne hc (by decide)), if_neg (ne hc (by decide)), if_neg (ne hc (by decide)), if_neg (ne hc (by decide))]
    have q100 : prN lt (a + 2) < 100 := by
      rcases W with ⟨d, _⟩ | ⟨d, _⟩ | ⟨d, _⟩ | ⟨d, _⟩ | ⟨d, _⟩ | ⟨_, _, _, _, w1, w2⟩
      · rw [hc] at d; cases d
      · rw [hc] at d; cases d
      · rw [hc] at d; cases d
      · rw [hc] at d; cases d
      · rw [hc] at d; cases d
      · exact pr_100 w1 w2
    obtain ⟨_, c, c3, ec⟩ := hN
    have ecn : (now 3).toNatClampNeg = c := by rw [ec, nI_clamp (by omega)]
    rw [if_neg (show ¬ s = 0 by rw [hs]; decide), if_neg (show ¬ s = 1 by rw [hs]; decide), if_neg (show ¬ s = 2 by rw [hs]; decide), if_neg (show ¬ s = 3 by rw [hs]; decide), if_neg (show ¬ s = 4 by rw [hs]; decide), e, f0, f1]
    unfold tkS
    rw [ecn, ec]
    by_cases c1 : prN lt (a + 2) < 36
    case neg =>
      refine ⟨now, ?_, fun m' e => ?_⟩
      · rw [if_pos (show (36 : Int32) ≤ nI (prN lt (a + 2)) from nI_le (a := 36) (by omega) (by omega)), if_neg (fun d => c1 d.1)]; rfl
      · rw [if_neg (fun d => c1 d.1)] at e; cases e
    rw [if_neg (show ¬ (36 : Int32) ≤ nI (prN lt (a + 2)) from nI_ge (b := 36) c1 (by decide))]
    by_cases c2 : c = 3
    · have e3 : nI c = (3 : Int32) := by rw [c2]; rfl
      refine ⟨now, ?_, fun m' e => ?_⟩
      · rw [if_pos e3, if_neg (fun d => d.2 e3)]; rfl
      · rw [if_neg (fun d => d.2 e3)] at e; cases e
    · have e3 : ¬ nI c = (3 : Int32) := nI_nat (m := 3) (by omega) (by decide) c2
      have ix0 : (10 : Int32) + ((2 : Int32) * nI c) = nI (10 + 2 * c) := sk_ix0 (by omega)
      have p0 : 0 ≤ (nI (10 + 2 * c)).toInt ∧ (nI (10 + 2 * c)).toInt < 56 := nIr (b := 56) (by omega) (by decide)
      have p1 : 0 ≤ (nI (10 + 2 * c + 1)).toInt ∧ (nI (10 + 2 * c + 1)).toInt < 56 := nIr (b := 56) (by omega) (by decide)
      have u3 : ∀ g : Nat → Int32, ∀ v, upd g (10 + 2 * c) v 3 = g 3 := fun g v => upd_ne _ _ (by omega)
      have u4 : ∀ g : Nat → Int32, ∀ v, upd g (10 + 2 * c + 1) v 3 = g 3 := fun g v => upd_ne _ _ (by omega)
      refine ⟨upd (upd (upd now (10 + 2 * c) (nI (ixN lsN (lt (a + 1))))) (10 + 2 * c + 1) (nI (prN lt (a + 2)))) 3 (nI (c + 1)), ?_, fun m' e => ?_⟩
      · rw [if_neg e3, if_pos (show prN lt (a + 2) < 36 ∧ ¬ nI c = (3 : Int32) from ⟨c1, e3⟩), ix0, if_pos p0, nI_clamp (by omega), u3, ec, ix0, nI_1, if_pos p1, nI_clamp (by omega), u4, u3, ec, nI_1, rx_29, rx_29, rx_29]; rfl
      · rw [if_pos ⟨c1, e3⟩] at e; cases e; rfl
end
