/-! FIRST GAP -/
/-- costs while the squares hs are held -/
def rh (x : am_X) (hs : Nat → Bool) (v h : Nat) : Nat → Nat → Prop := mn (gex (x.2.2.1 29)) (gcb (x.2.2.1 29) hs) (gfo (x.2.2.1 29) v) h
theorem rh_eq {x : am_X} {hs hs' : Nat → Bool} {v h : Nat} (hh : h < 36) (e : ∀ q, q < 36 → hs q = hs' q) : rh x hs v h = rh x hs' v h := mn_eq hh (fun q hq => by unfold gcb; rw [e q hq])
theorem rc_rh {x : am_X} {v h : Nat} : rc x v h = rh x (hsx x) v h := rfl
def rd5 (x : am_X) (q : Nat) : Bool := kd (x.2.2.1 29) q 5
noncomputable def ov (x : am_X) (hs : Nat → Bool) (v h : Nat) : Nat := lsv (rh x hs v h) (rd5 x)
/-- minutesOut of the reference, in numbers -/
theorem mo_ov {x : am_X} {v h : Nat} {hs : Nat → Bool} (hv : v ≤ 9) (ev : x.2.2.1 29 2 = nI v) (hh : h < 36) (e2 : x.2.2.1 29 0 = nI h) (nh : ¬ x.2.2.1 29 (20 + h) = 1) (hH : ∀ q, q < 36 → hsx x q = hs q) : ∃ f, (ov x hs v h ≤ 140 ∧ G_X8_minutesOut x = some (nI (ov x hs v h), am_sA x 38 f)) ∨ (ov x hs v h = 1000 ∧ G_X8_minutesOut x = some (100000, am_sA x 38 f)) := by
  obtain ⟨f, F, M⟩ := mo_ok hv ev hh e2 nh
  rw [show rc x v h = rh x hs v h from rh_eq hh hH] at M
  refine ⟨f, ?_⟩
  rcases M with ⟨c, l, m⟩ | ⟨l, m⟩
  · have e : ov x hs v h = c := lsv_c l
    rw [e]
    exact Or.inl ⟨l.1, m⟩
  · exact Or.inr ⟨lsv_0 l, m⟩
/-- the wave's way to the roads, in numbers -/
theorem wv_ov {x : am_X} (hI : am_Iv x) {v h : Nat} (hv : v ≤ 9) (v1 : x.1 38 = nI v) (hh : h < 36) {sh : Int64} {hs : Nat → Bool} (hsh : abr sh hs) : (ov x hs v h ≤ 140 ∧ G_X6_stepsTo_18 (am_sqo ((am_spx x (nI h) sh).2.2.2 2) 5) (am_spx x (nI h) sh) = some (nI (ov x hs v h), am_spx x (nI h) sh)) ∨ (ov x hs v h = 1000 ∧ G_X6_stepsTo_18 (am_sqo ((am_spx x (nI h) sh).2.2.2 2) 5) (am_spx x (nI h) sh) = some (-9, am_spx x (nI h) sh)) := by
  have W := wave_ok hI hh hv v1 hsh
  have hS : abr (am_sqo ((am_spx x (nI h) sh).2.2.2 2) 5) (rd5 x) := hI.g.road
  rcases wv_ls W hS with ⟨c, l, g, _⟩ | ⟨l, g⟩
  · have e : ov x hs v h = c := lsv_c l
    rw [e]
    exact Or.inl ⟨l.1, g⟩
  · exact Or.inr ⟨lsv_0 l, g⟩
/-- the best so far -/
def fgF (gap : Nat → Bool) (val : Nat → Nat) : Nat → Option Nat
  | 0 => none
  | i + 1 => if gap i = true then (match fgF gap val i with | none => some i | some q => if val i ≤ val q then some q else some i) else fgF gap val i
def fg7 (val : Nat → Nat) : Option Nat → Int32 × Int32
  | none => (-9, -1)
  | some q => (nI q, if val q = 1000 then 1000000 else nI (val q))
def fg8 (val : Nat → Nat) : Option Nat → Int32 × Int32
  | none => (-9, -9)
  | some q => (nI q, if val q = 1000 then 100000 else nI (val q))
theorem fg_one (val : Nat → Nat) (o : Option Nat) : (fg7 val o).1 = (fg8 val o).1 := by cases o <;> rfl
/-- kept alike, but for what waves and walks write -/
def am_sc (x y : am_X) : Prop := am_kp x y
theorem kp_now {x y : am_X} (k : am_kp x y) : y.2.2.1 29 = x.2.2.1 29 := k.a 29 (by decide)
theorem kp_w {x y : am_X} (k : am_kp x y) : y.2.2.2 2 = x.2.2.2 2 := k.b 2 (by decide)
theorem kp_hel {x y : am_X} (k : am_kp x y) : y.2.2.1 37 = x.2.2.1 37 := k.a 37 (by decide)
theorem kp_ov {x y : am_X} (k : am_kp x y) (hs : Nat → Bool) (v h : Nat) : ov y hs v h = ov x hs v h := by
  unfold ov rh rd5
  rw [kp_now k]
theorem neg_lt {c : Nat} (h : c < 2 ^ 31) : ¬ nI c ≤ (-1 : Int32) := fun l => by
  rw [ii_le, nI_toInt h, show (-1 : Int32).toInt = -1 by decide] at l; omega
theorem neg_lt9 {c : Nat} (h : c < 2 ^ 31) : ¬ nI c ≤ (-9 : Int32) := fun l => by
  rw [ii_le, nI_toInt h, show (-9 : Int32).toInt = -9 by decide] at l; omega
theorem neg_9lt {c : Nat} (h : c < 2 ^ 31) : (-9 : Int32) < nI c := by
  rw [ii_lt, nI_toInt h, show (-9 : Int32).toInt = -9 by decide]; omega
def one (j : Nat) (q : Nat) : Bool := decide (q = j)
theorem fg_class {x : am_X} (hI : am_Iv x) {v h : Nat} (hv : v ≤ 9) (v1 : x.1 38 = nI v) (hh : h < 36) (e1 : x.1 36 = nI h) : ∃ y, am_kp x y ∧ G_X7_firstGap x = some ((fg7 (fun i => ov x (one i) v h) (fgF (fun q => kd (x.2.2.1 29) q 2) (fun i => ov x (one i) v h) 36)).1, y) := by
  have H := am_for (fun n i (s : Option Nat × am_X) => L_X7_firstGap_18 n (am_sqo (x.2.2.2 2) 2) (fg7 (fun i => ov x (one i) v h) s.1).1 (fg7 (fun i => ov x (one i) v h) s.1).2 (nI i) s.2) 36
    (fun i s => am_kp x s.2 ∧ s.1 = fgF (fun q => kd (x.2.2.1 29) q 2) (fun i => ov x (one i) v h) i ∧ ∀ q, s.1 = some q → ov x (one q) v h ≤ 140 ∨ ov x (one q) v h = 1000) (fun r => ∃ y, am_kp x y ∧ r = ((fg7 (fun i => ov x (one i) v h) (fgF (fun q => kd (x.2.2.1 29) q 2) (fun i => ov x (one i) v h) 36)).1, y))
    (fun n i s hi hp => Or.inl (by
      obtain ⟨o, y⟩ := s
      obtain ⟨k, ho, hb⟩ := hp
      dsimp only at k ho hb ⊢
      have h1 : ¬ (36 : Int32) ≤ nI i := nI_ge (b := 36) hi (by decide)
      have hI' := hI.kp k
      have v1' : y.1 38 = nI v := (k.i 38 (by decide)).trans v1
      have e1' : y.1 36 = nI h := (k.i 36 (by decide)).trans e1
      have hg := (hI.g.gaps).hasb hi
      by_cases g : kd (x.2.2.1 29) i 2 = true
      · have hw := wv_ov hI' hv v1' hh (sh := am_bit (nI i)) (hs := one i) (abr_bit hi)
        rw [kp_ov k] at hw
        have k2 : am_kp x (am_spx y (nI h) (am_bit (nI i))) := k.trans (spx_kp _ _ _)
        rcases hw with ⟨c140, hw⟩ | ⟨c1000, hw⟩
        · have nn : ¬ ov x (one i) v h = 1000 := by omega
          have E : ∀ b l, L_X7_firstGap_18 (n + 1) (am_sqo (x.2.2.2 2) 2) b l (nI i) y = if nI (ov x (one i) v h) ≤ l then L_X7_firstGap_18 n (am_sqo (x.2.2.2 2) 2) b l (nI (i + 1)) (am_spx y (nI h) (am_bit (nI i))) else L_X7_firstGap_18 n (am_sqo (x.2.2.2 2) 2) (nI i) (nI (ov x (one i) v h)) (nI (i + 1)) (am_spx y (nI h) (am_bit (nI i))) := by
            intro b l
            rw [L_X7_firstGap_18, if_neg h1, if_pos (hg.mpr g), e1', hw]; dsimp only
            rw [if_pos (nI_mp (by omega)), nI_1]
          cases o with
          | none =>
            refine ⟨(some i, am_spx y (nI h) (am_bit (nI i))), ⟨k2, ?_, fun q hq => by cases hq; exact Or.inl c140⟩, ?_⟩
            · rw [fgF, if_pos g, ← ho]
            · dsimp only [fg7]
              rw [E, if_neg (neg_lt (by omega)), if_neg nn]
          | some q =>
            by_cases l : ov x (one i) v h ≤ ov x (one q) v h
            · refine ⟨(some q, am_spx y (nI h) (am_bit (nI i))), ⟨k2, ?_, hb⟩, ?_⟩
              · rw [fgF, if_pos g, ← ho]; dsimp only; rw [if_pos l]
              · dsimp only [fg7]
                rw [E, if_pos]
                split
                · exact nI_le (b := 1000000) (by omega) (by decide)
                · rename_i nq
                  rcases hb q rfl with a | a
                  · exact nI_le l (by omega)
                  · exact absurd a nq
            · refine ⟨(some i, am_spx y (nI h) (am_bit (nI i))), ⟨k2, ?_, fun q hq => by cases hq; exact Or.inl c140⟩, ?_⟩
              · rw [fgF, if_pos g, ← ho]; dsimp only; rw [if_neg l]
              · dsimp only [fg7]
                have nq : ¬ ov x (one q) v h = 1000 := by omega
                rw [E, if_neg nq, if_neg (nI_ge (by omega) (by omega)), if_neg nn]
        · have E : ∀ b l, L_X7_firstGap_18 (n + 1) (am_sqo (x.2.2.2 2) 2) b l (nI i) y = if (1000000 : Int32) ≤ l then L_X7_firstGap_18 n (am_sqo (x.2.2.2 2) 2) b l (nI (i + 1)) (am_spx y (nI h) (am_bit (nI i))) else L_X7_firstGap_18 n (am_sqo (x.2.2.2 2) 2) (nI i) 1000000 (nI (i + 1)) (am_spx y (nI h) (am_bit (nI i))) := by
            intro b l
            rw [L_X7_firstGap_18, if_neg h1, if_pos (hg.mpr g), e1', hw]; dsimp only
            rw [if_neg (by decide), nI_1]
          cases o with
          | none =>
            refine ⟨(some i, am_spx y (nI h) (am_bit (nI i))), ⟨k2, ?_, fun q hq => by cases hq; exact Or.inr c1000⟩, ?_⟩
            · rw [fgF, if_pos g, ← ho]
            · dsimp only [fg7]
              rw [E, if_neg (by decide), if_pos c1000]
          | some q =>
            by_cases l : ov x (one i) v h ≤ ov x (one q) v h
            · refine ⟨(some q, am_spx y (nI h) (am_bit (nI i))), ⟨k2, ?_, hb⟩, ?_⟩
              · rw [fgF, if_pos g, ← ho]; dsimp only; rw [if_pos l]
              · dsimp only [fg7]
                have nq : ov x (one q) v h = 1000 := by rcases hb q rfl with a | a <;> omega
                rw [E, if_pos nq, if_pos (by decide)]
            · refine ⟨(some i, am_spx y (nI h) (am_bit (nI i))), ⟨k2, ?_, fun q hq => by cases hq; exact Or.inr c1000⟩, ?_⟩
              · rw [fgF, if_pos g, ← ho]; dsimp only; rw [if_neg l]
              · dsimp only [fg7]
                have nq : ¬ ov x (one q) v h = 1000 := by omega
                have q140 : ov x (one q) v h ≤ 140 := by rcases hb q rfl with a | a <;> omega
                rw [E, if_neg nq, if_neg (show ¬ (1000000 : Int32) ≤ nI (ov x (one q) v h) from nI_ge (b := 1000000) (by omega) (by decide)), if_pos c1000]
      · refine ⟨(o, y), ⟨k, by rw [fgF, if_neg g]; exact ho, hb⟩, ?_⟩
        dsimp only
        rw [L_X7_firstGap_18, if_neg h1, if_neg (fun c => g (hg.mp c)), nI_1]))
    (fun n s hp => by
      obtain ⟨o, y⟩ := s
      obtain ⟨k, ho, hb⟩ := hp
      dsimp only at k ho hb ⊢
      exact ⟨_, by rw [L_X7_firstGap_18, if_pos (by decide)], y, k, by rw [ho]⟩)
    1000 0 (none, x) (by decide) (by decide) ⟨am_kp.rfl, rfl, fun q hq => by cases hq⟩
  obtain ⟨r, hF, y, k, rfl⟩ := H
  exact ⟨y, k, hF⟩
/-- held none, but one while it is asked for: the reference -/
theorem hel_one {x : am_X} (h0 : ∀ q, q < 36 → x.2.2.1 37 q = 0) {i : Nat} : ∀ q, q < 36 → hsx (am_sA x 37 (upd (x.2.2.1 37) i 1)) q = one i q := fun q hq => by
  show decide (¬ upd (x.2.2.1 37) i 1 q = 0) = decide (q = i)
  by_cases e : q = i
  · subst e; rw [upd_eq]; simp
  · rw [upd_ne _ _ e, h0 q hq]; simp [e]
/-- like x but for cells 37 (held none) and 38 -/
def am_h0 (x y : am_X) : Prop := ∃ a b, (∀ q, q < 36 → a q = 0) ∧ y = am_sA (am_sA x 38 b) 37 a
theorem am_h0.iv {x y : am_X} (h : am_h0 x y) (hI : am_Iv x) : am_Iv y := by
  obtain ⟨a, b, ha, rfl⟩ := h
  have hI1 : am_Iv (am_sA x 38 b) := hI.kp (am_kp.sA (by decide))
  obtain ⟨g, im, ltr, row, ref, hel, cb, ck, cs⟩ := hI1
  exact ⟨g, im, ltr, row, ref, ha, cb, ck, cs⟩
theorem fg_ref {x : am_X} (hI : am_Iv x) {v h : Nat} (hv : v ≤ 9) (v2 : x.2.2.1 29 2 = nI v) (hh : h < 36) (e2 : x.2.2.1 29 0 = nI h) (e3 : ¬ x.2.2.1 29 (20 + h) = 1) : ∃ y, am_h0 x y ∧ G_X8_firstGap x = some ((fg8 (fun i => ov x (one i) v h) (fgF (fun q => kd (x.2.2.1 29) q 2) (fun i => ov x (one i) v h) 36)).1, y) := by
  have H := am_for (fun n i (s : Option Nat × (Nat → Int32) × (Nat → Int32)) => L_X8_firstGap_8 n (fg8 (fun i => ov x (one i) v h) s.1).1 (fg8 (fun i => ov x (one i) v h) s.1).2 (nI i) (am_sA (am_sA x 38 s.2.2) 37 s.2.1)) 36
    (fun i s => (∀ q, q < 36 → s.2.1 q = 0) ∧ s.1 = fgF (fun q => kd (x.2.2.1 29) q 2) (fun i => ov x (one i) v h) i ∧ ∀ q, s.1 = some q → ov x (one q) v h ≤ 140 ∨ ov x (one q) v h = 1000) (fun r => ∃ w1 w2 y, am_h0 x y ∧ r = ((fg8 (fun i => ov x (one i) v h) (fgF (fun q => kd (x.2.2.1 29) q 2) (fun i => ov x (one i) v h) 36)).1, w1, w2, y))
    (fun n i s hi hp => Or.inl (by
      obtain ⟨o, a, b⟩ := s
      obtain ⟨k, ho, hb⟩ := hp
      dsimp only at k ho hb ⊢
      have h1 : ¬ (36 : Int32) ≤ nI i := nI_ge (b := 36) hi (by decide)
      by_cases g : kd (x.2.2.1 29) i 2 = true
      · obtain ⟨f, hw⟩ := mo_ov (x := am_sA (am_sA (am_sA x 38 b) 37 a) 37 (upd a i 1)) (hs := one i) hv v2 hh e2 e3 (hel_one (x := am_sA (am_sA x 38 b) 37 a) k)
        have ez : ∀ q, q < 36 → upd (upd a i 1) i 0 q = 0 := fun q hq => by
          by_cases e : q = i
          · subst e; rw [upd_eq]
          · rw [upd_ne _ _ e, upd_ne _ _ e]; exact k q hq
        have es : am_sA (am_sA (am_sA (am_sA (am_sA x 38 b) 37 a) 37 (upd a i 1)) 38 f) 37 (upd (upd a i 1) i 0) = am_sA (am_sA x 38 f) 37 (upd (upd a i 1) i 0) := by
          rw [am_sAA, am_sAc (show (37 : Nat) ≠ 38 by decide), am_sAA, am_sAA]
        have E : ∀ c l r7 y8, G_X8_minutesOut (am_sA (am_sA (am_sA x 38 b) 37 a) 37 (upd a i 1)) = some (r7, am_sA (am_sA (am_sA (am_sA x 38 b) 37 a) 37 (upd a i 1)) 38 f) → y8 = am_sA (am_sA x 38 f) 37 (upd (upd a i 1) i 0) → L_X8_firstGap_8 (n + 1) c l (nI i) (am_sA (am_sA x 38 b) 37 a) = if r7 ≤ l then L_X8_firstGap_8 n c (if l < r7 then r7 else l) (nI (i + 1)) y8 else L_X8_firstGap_8 n (nI i) (if l < r7 then r7 else l) (nI (i + 1)) y8 := by
          rintro c l r7 _ hm rfl
          rw [L_X8_firstGap_8, if_neg h1, ko hi]; dsimp only
          rw [if_pos (show (am_sA (am_sA x 38 b) 37 a).2.2.1 29 (20 + i) = 2 from (kd2 x i).mp g), if_pos (ns_e hi), nI_clamp (by omega), show (am_sA (am_sA x 38 b) 37 a).2.2.1 37 = a from rfl, hm]; dsimp only
          rw [nI_1, show (am_sA (am_sA (am_sA (am_sA x 38 b) 37 a) 37 (upd a i 1)) 38 f).2.2.1 37 = upd a i 1 from rfl, es]
        have cx : ov (am_sA (am_sA (am_sA x 38 b) 37 a) 37 (upd a i 1)) (one i) v h = ov x (one i) v h := rfl
        rw [cx] at hw
        rcases hw with ⟨c140, hw⟩ | ⟨c1000, hw⟩
        · have nn : ¬ ov x (one i) v h = 1000 := by omega
          cases o with
          | none =>
            refine ⟨(some i, upd (upd a i 1) i 0, f), ⟨ez, ?_, fun q hq => by cases hq; exact Or.inl c140⟩, ?_⟩
            · rw [fgF, if_pos g, ← ho]
            · dsimp only [fg8]
              rw [E _ _ _ _ hw rfl, if_neg (neg_lt9 (by omega)), if_pos (neg_9lt (by omega)), if_neg nn]
          | some q =>
            by_cases l : ov x (one i) v h ≤ ov x (one q) v h
            · refine ⟨(some q, upd (upd a i 1) i 0, f), ⟨ez, ?_, hb⟩, ?_⟩
              · rw [fgF, if_pos g, ← ho]; dsimp only; rw [if_pos l]
              · dsimp only [fg8]
                rcases hb q rfl with q140 | q1000
                · have nq : ¬ ov x (one q) v h = 1000 := by omega
                  rw [if_neg nq, E _ _ _ _ hw rfl, if_pos (nI_le l (by omega)), if_neg (nI_nlt l (by omega))]
                · rw [if_pos q1000, E _ _ _ _ hw rfl, if_pos (show nI (ov x (one i) v h) ≤ (100000 : Int32) from nI_le (b := 100000) (by omega) (by decide)), if_neg (show ¬ (100000 : Int32) < nI (ov x (one i) v h) from nI_nlt (a := 100000) (by omega) (by decide))]
            · refine ⟨(some i, upd (upd a i 1) i 0, f), ⟨ez, ?_, fun q hq => by cases hq; exact Or.inl c140⟩, ?_⟩
              · rw [fgF, if_pos g, ← ho]; dsimp only; rw [if_neg l]
              · dsimp only [fg8]
                have nq : ¬ ov x (one q) v h = 1000 := by omega
                rw [E _ _ _ _ hw rfl, if_neg nq, if_neg (nI_ge (by omega) (by omega)), if_pos (nI_lt (by omega) (by omega)), if_neg nn]
        · cases o with
          | none =>
            refine ⟨(some i, upd (upd a i 1) i 0, f), ⟨ez, ?_, fun q hq => by cases hq; exact Or.inr c1000⟩, ?_⟩
            · rw [fgF, if_pos g, ← ho]
            · dsimp only [fg8]
              rw [E _ _ _ _ hw rfl, if_neg (by decide), if_pos (by decide), if_pos c1000]
          | some q =>
            by_cases l : ov x (one i) v h ≤ ov x (one q) v h
            · refine ⟨(some q, upd (upd a i 1) i 0, f), ⟨ez, ?_, hb⟩, ?_⟩
              · rw [fgF, if_pos g, ← ho]; dsimp only; rw [if_pos l]
              · dsimp only [fg8]
                have nq : ov x (one q) v h = 1000 := by rcases hb q rfl with a | a <;> omega
                rw [if_pos nq, E _ _ _ _ hw rfl, if_pos (by decide), if_neg (by decide)]
            · refine ⟨(some i, upd (upd a i 1) i 0, f), ⟨ez, ?_, fun q hq => by cases hq; exact Or.inr c1000⟩, ?_⟩
              · rw [fgF, if_pos g, ← ho]; dsimp only; rw [if_neg l]
              · dsimp only [fg8]
                have nq : ¬ ov x (one q) v h = 1000 := by omega
                have q140 : ov x (one q) v h ≤ 140 := by rcases hb q rfl with a | a <;> omega
                rw [if_neg nq, E _ _ _ _ hw rfl, if_neg (show ¬ (100000 : Int32) ≤ nI (ov x (one q) v h) from nI_ge (b := 100000) (by omega) (by decide)), if_pos (show nI (ov x (one q) v h) < (100000 : Int32) from nI_lt (b := 100000) (by omega) (by decide)), if_pos c1000]
      · refine ⟨(o, a, b), ⟨k, by rw [fgF, if_neg g]; exact ho, hb⟩, ?_⟩
        dsimp only
        rw [L_X8_firstGap_8, if_neg h1, ko hi]; dsimp only
        rw [if_neg (show ¬ (am_sA (am_sA x 38 b) 37 a).2.2.1 29 (20 + i) = 2 from fun c => g ((kd2 x i).mpr c)), nI_1]))
    (fun n s hp => by
      obtain ⟨o, a, b⟩ := s
      obtain ⟨k, ho, hb⟩ := hp
      dsimp only at k ho hb ⊢
      subst ho
      exact ⟨_, by rw [L_X8_firstGap_8, if_pos (by decide)], _, _, _, ⟨a, b, k, rfl⟩, rfl⟩)
    1000 0 (none, x.2.2.1 37, x.2.2.1 38) (by decide) (by decide) ⟨hI.hel, rfl, fun q hq => by cases hq⟩
  obtain ⟨r, hF, w1, w2, y, k, rfl⟩ := H
  refine ⟨y, k, ?_⟩
  have hF' : L_X8_firstGap_8 1000 (-9) (-9) 0 (am_sA (am_sA x 38 (x.2.2.1 38)) 37 ((am_sA x 38 (x.2.2.1 38)).2.2.1 37)) = some ((fg8 (fun i => ov x (one i) v h) (fgF (fun q => kd (x.2.2.1 29) q 2) (fun i => ov x (one i) v h) 36)).1, w1, w2, y) := hF
  rw [am_sA_self, am_sA_self] at hF'
  unfold G_X8_firstGap
  rw [hF']
theorem ok_firstGap : am_ok (fun x => G_X7_firstGap x) (fun x => G_X8_firstGap x) := by
  intro x hI
  show ∃ r y z, G_X7_firstGap x = some (r, y) ∧ G_X8_firstGap y = some (r, z) ∧ am_Iv z
  obtain ⟨h, hh, e1, e2, e3⟩ := hI.g.home
  obtain ⟨v, hv, v1, v2⟩ := hI.g.warm
  obtain ⟨y, k, hy⟩ := fg_class hI hv v1 hh e1
  have hI1 := hI.kp k
  have en := kp_now k
  obtain ⟨z, kz, hz⟩ := fg_ref hI1 (v := v) (h := h) hv (by rw [en]; exact v2) hh (by rw [en]; exact e2) (by rw [en]; exact e3)
  refine ⟨_, y, z, hy, ?_, kz.iv hI1⟩
  rw [hz, fg_one]
  have : (fun i => ov y (one i) v h) = fun i => ov x (one i) v h := funext (fun i => kp_ov k _ _ _)
  rw [this, en]
