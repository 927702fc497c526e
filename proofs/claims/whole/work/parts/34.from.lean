/-! the reference's walkFrom -/
def bsE (a b : Int32) : Int32 := if b = 0 then (if a ≤ 5 then -9 else a - 6) else if b = 1 then (if (a - a / 6 * 6) ≤ 0 then -9 else a - 1) else if b = 2 then (if (5 : Int32) ≤ (a - a / 6 * 6) then -9 else a + 1) else (if (30 : Int32) ≤ a then -9 else a + 6)
theorem bs_ok (a b : Int32) (x : am_X) : G_X8_beside a b x = some (bsE a b, x) := by
  unfold G_X8_beside bsE
  repeat' split
  all_goals rfl
def bsd (q w : Nat) : Nat := if w = 0 then (if q ≤ 5 then 99 else q - 6) else if w = 1 then (if q % 6 = 0 then 99 else q - 1) else if w = 2 then (if 5 ≤ q % 6 then 99 else q + 1) else (if 30 ≤ q then 99 else q + 6)
theorem bsE_n : ∀ q, q < 36 → ∀ w, w < 4 → bsE (nI q) (nI w) = if bsd q w = 99 then -9 else nI (bsd q w) := by decide +kernel
theorem bsd_lt : ∀ q, q < 36 → ∀ w, w < 4 → bsd q w ≠ 99 → bsd q w < 36 ∧ ab_nb q (bsd q w) = true := by decide +kernel
theorem bsd_all : ∀ q, q < 36 → ∀ r, r < 36 → ab_nb q r = true → bsd q 0 = r ∨ bsd q 1 = r ∨ bsd q 2 = r ∨ bsd q 3 = r := by decide +kernel
theorem bsd_of {q r : Nat} (hq : q < 36) (hr : r < 36) (h : ab_nb q r = true) : ∃ w, w < 4 ∧ bsd q w = r := by
  rcases bsd_all q hq r hr h with e | e | e | e
  · exact ⟨0, by omega, e⟩
  · exact ⟨1, by omega, e⟩
  · exact ⟨2, by omega, e⟩
  · exact ⟨3, by omega, e⟩
def hsx (x : am_X) (q : Nat) : Bool := decide (¬ x.2.2.1 37 q = 0)
theorem cbe_ok (x : am_X) {r : Nat} (hr : r < 36) : G_X8_canBe (nI r) x = some (if gcb (x.2.2.1 29) (hsx x) r = true then 1 else 0, x) := by
  unfold G_X8_canBe
  have h36 : 0 ≤ (nI r).toInt ∧ (nI r).toInt < 36 := nIr (b := 36) hr (by decide)
  have e1 : nI 1 = (1 : Int32) := rfl
  rw [ko hr]; dsimp only
  by_cases k1 : x.2.2.1 29 (20 + r) = 1
  · rw [if_pos k1, if_neg]
    simp [gcb, kd, k1, e1]
  · rw [if_neg k1, if_pos h36, nI_clamp (by omega)]
    by_cases k2 : x.2.2.1 37 r = 0
    · rw [if_pos k2, if_pos]
      simp [gcb, kd, k1, e1, hsx, k2]
    · rw [if_neg k2, if_neg]
      simp [gcb, hsx, k2]
theorem kd_iff (now : Nat → Int32) (q k : Nat) : kd now q k = true ↔ now (20 + q) = nI k := by unfold kd; exact decide_eq_true_iff
theorem off_ok (x : am_X) {q v : Nat} (hq : q < 36) (hv : v ≤ 9) (ev : x.2.2.1 29 2 = nI v) : G_X8_off (nI q) x = some (nI (gfo (x.2.2.1 29) v q), x) := by
  unfold G_X8_off gfo
  have d3 : kd (x.2.2.1 29) q 3 = true ↔ x.2.2.1 29 (20 + q) = 3 := kd_iff _ _ _
  have d4 : kd (x.2.2.1 29) q 4 = true ↔ x.2.2.1 29 (20 + q) = 4 := kd_iff _ _ _
  rw [ko hq]; dsimp only
  by_cases k3 : x.2.2.1 29 (20 + q) = 3
  · rw [if_pos k3, if_pos (d3.mpr k3), ev]
    have := sun_v hv
    unfold am_sun at this
    rw [this]
  · rw [if_neg k3, if_neg (fun c => k3 (d3.mp c))]
    by_cases k4 : x.2.2.1 29 (20 + q) = 4
    · rw [if_pos k4, if_pos (d4.mpr k4)]; rfl
    · rw [if_neg k4, if_neg (fun c => k4 (d4.mp c))]; rfl
/-- the row far as numbers -/
def fa (f : Nat → Int32) (g : Nat → Nat) : Prop := ∀ q, q < 36 → f q = nI (g q) ∧ g q ≤ 100000
/-- one pass, begun with g0: where it stands -/
def fp (ex cb : Nat → Bool) (fo : Nat → Nat) (h : Nat) (g0 : Nat → Nat) (f : Nat → Int32) (m : Nat) (g : Nat → Nat) : Prop :=
  fa f g ∧ (∀ q, q < 36 → g q < 100000 → wk ex cb fo h q (g q)) ∧ (cb h = true → g h = 0) ∧ ((m = 0 ∧ ∀ q, q < 36 → g q = g0 q) ∨ (m = 1 ∧ fb_sm g 36 < fb_sm g0 36))
theorem fp_rel {ex cb : Nat → Bool} {fo : Nat → Nat} {h : Nat} {g0 : Nat → Nat} {f : Nat → Int32} {m : Nat} {g : Nat → Nat} (P : fp ex cb fo h g0 f m g) {q r : Nat} (hq : q < 36) (hr : r < 36) (gq : g q < 100000) (n : ab_nb q r = true) (e : ex q = true) (b : cb r = true) (l : g q + fo q < g r) (hf : 1 ≤ fo q ∧ fo q ≤ 4) : fp ex cb fo h g0 (upd f r (nI (g q) + nI (fo q))) 1 (fun k => if k = r then g q + fo q else g k) := by
  obtain ⟨p1, p2, p3, p4⟩ := P
  have rb := (p1 r hr).2
  refine ⟨fun k hk => ?_, fun k hk hl => ?_, fun e' => ?_, Or.inr ⟨rfl, ?_⟩⟩
  · dsimp only
    by_cases ek : k = r
    · subst ek
      rw [upd_eq, if_pos rfl, nI_add]
      exact ⟨rfl, by omega⟩
    · rw [upd_ne _ _ ek, if_neg ek]; exact p1 k hk
  · dsimp only at hl ⊢
    by_cases ek : k = r
    · subst ek
      rw [if_pos rfl]
      exact wk_go (p2 q hq gq) hq hr n e b
    · rw [if_neg ek] at hl ⊢; exact p2 k hk hl
  · dsimp only
    by_cases ek : h = r
    · subst ek
      have := p3 e'
      omega
    · rw [if_neg ek]; exact p3 e'
  · have u := fb_sm_upd g (g q + fo q) hr
    rcases p4 with ⟨_, p4⟩ | ⟨_, p4⟩
    · have : fb_sm g 36 = fb_sm g0 36 := fb_sm_cong p4
      omega
    · omega
section
variable {x : am_X} {v h : Nat}
theorem l59_ok (hv : v ≤ 9) (ev : x.2.2.1 29 2 = nI v) (g0 : Nat → Nat) {q : Nat} (hq : q < 36) : ∀ (f : Nat → Int32) (m : Nat) (g : Nat → Nat), fp (gex (x.2.2.1 29)) (gcb (x.2.2.1 29) (hsx x)) (gfo (x.2.2.1 29) v) h g0 f m g →
    ∃ m' w f' g', L_X8_walkFrom_59 1000 (nI m) (nI q) 0 (am_sA x 38 f) = some (nI m', nI q, w, am_sA x 38 f') ∧ fp (gex (x.2.2.1 29)) (gcb (x.2.2.1 29) (hsx x)) (gfo (x.2.2.1 29) v) h g0 f' m' g' ∧ (m' = 0 → m = 0 ∧ ∀ r, r < 36 → g0 q < 100000 → gex (x.2.2.1 29) q = true → ab_nb q r = true → gcb (x.2.2.1 29) (hsx x) r = true → g0 r ≤ g0 q + gfo (x.2.2.1 29) v q) := by
  intro f m g P0
  have hb := gfo_14 (x.2.2.1 29) hv q
  have H := am_for (fun n i (s : Nat × (Nat → Int32) × (Nat → Nat)) => L_X8_walkFrom_59 n (nI s.1) (nI q) (nI i) (am_sA x 38 s.2.1)) 4
    (fun i s => fp (gex (x.2.2.1 29)) (gcb (x.2.2.1 29) (hsx x)) (gfo (x.2.2.1 29) v) h g0 s.2.1 s.1 s.2.2 ∧ (s.1 = 0 → m = 0 ∧ ∀ w r, w < i → bsd q w = r → r < 36 → g0 q < 100000 → gex (x.2.2.1 29) q = true → gcb (x.2.2.1 29) (hsx x) r = true → g0 r ≤ g0 q + gfo (x.2.2.1 29) v q))
    (fun r => ∃ m' w f' g', r = (nI m', nI q, w, am_sA x 38 f') ∧ fp (gex (x.2.2.1 29)) (gcb (x.2.2.1 29) (hsx x)) (gfo (x.2.2.1 29) v) h g0 f' m' g' ∧ (m' = 0 → m = 0 ∧ ∀ r, r < 36 → g0 q < 100000 → gex (x.2.2.1 29) q = true → ab_nb q r = true → gcb (x.2.2.1 29) (hsx x) r = true → g0 r ≤ g0 q + gfo (x.2.2.1 29) v q))
    (fun n i s hi hp => by
      obtain ⟨m1, f1, g1⟩ := s
      obtain ⟨P, R⟩ := hp
      dsimp only at P R ⊢
      have i4 : ¬ (4 : Int32) ≤ nI i := nI_ge (b := 4) hi (by decide)
      have q36 : 0 ≤ (nI q).toInt ∧ (nI q).toInt < 36 := nIr (b := 36) hq (by decide)
      have cq : (nI q).toNatClampNeg = q := nI_clamp (by omega)
      have fq := P.1 q hq
      rw [L_X8_walkFrom_59, if_neg i4, if_pos q36, cq]
      rw [show (am_sA x 38 f1).2.2.1 38 q = nI (g1 q) from fq.1]
      by_cases c1 : 100000 ≤ g1 q
      · rw [if_pos (show (100000 : Int32) ≤ nI (g1 q) from nI_le (a := 100000) c1 (by omega))]
        refine Or.inr ⟨_, rfl, m1, _, f1, g1, rfl, P, fun e => ⟨(R e).1, fun r hr gl => ?_⟩⟩
        rcases P.2.2.2 with ⟨_, p⟩ | ⟨p, _⟩
        · have := p q hq; omega
        · omega
      rw [if_neg (show ¬ (100000 : Int32) ≤ nI (g1 q) from nI_ge (b := 100000) (by omega) (by decide)), ko hq]
      dsimp only
      by_cases c2 : x.2.2.1 29 (20 + q) = 5
      · rw [if_pos (show (am_sA x 38 f1).2.2.1 29 (20 + q) = 5 from c2)]
        refine Or.inr ⟨_, rfl, m1, _, f1, g1, rfl, P, fun e => ⟨(R e).1, fun r hr gl ee => ?_⟩⟩
        have e5 : nI 5 = (5 : Int32) := rfl
        simp [gex, kd, c2, e5] at ee
      rw [if_neg (show ¬ (am_sA x 38 f1).2.2.1 29 (20 + q) = 5 from c2), bs_ok]
      dsimp only
      have e5 : nI 5 = (5 : Int32) := rfl
      have exq : gex (x.2.2.1 29) q = true := by simp [gex, kd, c2, e5]
      rw [bsE_n q hq i hi]
      by_cases c3 : bsd q i = 99
      · rw [if_pos c3, if_pos rfl, nI_1]
        refine Or.inl ⟨(m1, f1, g1), ⟨P, fun e => ⟨(R e).1, fun w r hw hb hr gl ee bb => ?_⟩⟩, rfl⟩
        by_cases ew : w = i
        · subst ew; omega
        · exact (R e).2 w r (by omega) hb hr gl ee bb
      obtain ⟨rl, rn⟩ := bsd_lt q hq i hi c3
      have r9 : ¬ nI (bsd q i) = -9 := by
        intro e
        have : (nI (bsd q i)).toInt = -9 := by rw [e]; decide
        rw [nI_toInt (by omega)] at this
        omega
      rw [if_neg c3, if_neg r9, cbe_ok _ rl]
      dsimp only
      rw [show gcb ((am_sA x 38 f1).2.2.1 29) (hsx (am_sA x 38 f1)) (bsd q i) = gcb (x.2.2.1 29) (hsx x) (bsd q i) from rfl]
      by_cases c4 : gcb (x.2.2.1 29) (hsx x) (bsd q i) = true
      · rw [if_pos c4, if_neg (show ¬ (1 : Int32) = 0 by decide), off_ok _ hq hv (show (am_sA x 38 f1).2.2.1 29 2 = nI v from ev)]
        dsimp only
        have r36 : 0 ≤ (nI (bsd q i)).toInt ∧ (nI (bsd q i)).toInt < 36 := nIr (b := 36) rl (by decide)
        have fr := P.1 (bsd q i) rl
        rw [if_pos r36, nI_clamp (by omega : bsd q i < 2 ^ 31)]
        rw [show (am_sA x 38 f1).2.2.1 38 (bsd q i) = nI (g1 (bsd q i)) from fr.1, show (am_sA x 38 f1).2.2.1 38 q = nI (g1 q) from fq.1, show gfo ((am_sA x 38 f1).2.2.1 29) v q = gfo (x.2.2.1 29) v q from rfl, nI_add]
        by_cases c5 : g1 (bsd q i) ≤ g1 q + gfo (x.2.2.1 29) v q
        · rw [if_pos (nI_le c5 (by omega)), nI_1]
          refine Or.inl ⟨(m1, f1, g1), ⟨P, fun e => ⟨(R e).1, fun w r hw hb hr gl ee bb => ?_⟩⟩, rfl⟩
          by_cases ew : w = i
          · subst ew
            rcases P.2.2.2 with ⟨_, p⟩ | ⟨p, _⟩
            · subst hb
              rw [← p _ rl, ← p q hq]; exact c5
            · omega
          · exact (R e).2 w r (by omega) hb hr gl ee bb
        · rw [if_neg (nI_ge (by omega) (by omega)), off_ok _ hq hv (show (am_sA x 38 f1).2.2.1 29 2 = nI v from ev)]
          dsimp only
          refine Or.inl ⟨(1, upd f1 (bsd q i) (nI (g1 q) + nI (gfo (x.2.2.1 29) v q)), _), ⟨fp_rel P hq rl (by omega) rn exq c4 (by omega) hb, fun e => by cases e⟩, ?_⟩
          rw [nI_1, am_sAA]
          rfl
      · rw [if_neg c4, if_pos rfl, nI_1]
        refine Or.inl ⟨(m1, f1, g1), ⟨P, fun e => ⟨(R e).1, fun w r hw hb hr gl ee bb => ?_⟩⟩, rfl⟩
        by_cases ew : w = i
        · subst ew; subst hb; exact absurd bb c4
        · exact (R e).2 w r (by omega) hb hr gl ee bb)
    (fun n s hp => by
      obtain ⟨m1, f1, g1⟩ := s
      obtain ⟨P, R⟩ := hp
      dsimp only at P R ⊢
      refine ⟨_, by rw [L_X8_walkFrom_59, if_pos (by decide)], m1, _, f1, g1, rfl, P, fun e => ⟨(R e).1, fun r hr gl ee n' bb => ?_⟩⟩
      obtain ⟨w, hw, eb⟩ := bsd_of hq hr n'
      exact (R e).2 w r hw eb hr gl ee bb)
    1000 0 (m, f, g) (by decide) (by decide) ⟨P0, fun e => ⟨e, fun w r hw => by omega⟩⟩
  obtain ⟨r, hF, m', w, f', g', rfl, hP⟩ := H
  exact ⟨m', w, f', g', hF, hP⟩
theorem l50_ok (hv : v ≤ 9) (ev : x.2.2.1 29 2 = nI v) (f0 : Nat → Int32) (g0 : Nat → Nat) (P0 : fp (gex (x.2.2.1 29)) (gcb (x.2.2.1 29) (hsx x)) (gfo (x.2.2.1 29) v) h g0 f0 0 g0) : ∃ m' w f' g', L_X8_walkFrom_50 1000 0 0 (am_sA x 38 f0) = some (nI m', w, am_sA x 38 f') ∧ fp (gex (x.2.2.1 29)) (gcb (x.2.2.1 29) (hsx x)) (gfo (x.2.2.1 29) v) h g0 f' m' g' ∧ (m' = 0 → ∀ p q, p < 36 → q < 36 → g0 p < 100000 → gex (x.2.2.1 29) p = true → ab_nb p q = true → gcb (x.2.2.1 29) (hsx x) q = true → g0 q ≤ g0 p + gfo (x.2.2.1 29) v p) := by
  have H := am_for (fun n i (s : Nat × (Nat → Int32) × (Nat → Nat)) => L_X8_walkFrom_50 n (nI s.1) (nI i) (am_sA x 38 s.2.1)) 36
    (fun i s => fp (gex (x.2.2.1 29)) (gcb (x.2.2.1 29) (hsx x)) (gfo (x.2.2.1 29) v) h g0 s.2.1 s.1 s.2.2 ∧ (s.1 = 0 → ∀ p q, p < i → q < 36 → g0 p < 100000 → gex (x.2.2.1 29) p = true → ab_nb p q = true → gcb (x.2.2.1 29) (hsx x) q = true → g0 q ≤ g0 p + gfo (x.2.2.1 29) v p))
    (fun r => ∃ m' w f' g', r = (nI m', w, am_sA x 38 f') ∧ fp (gex (x.2.2.1 29)) (gcb (x.2.2.1 29) (hsx x)) (gfo (x.2.2.1 29) v) h g0 f' m' g' ∧ (m' = 0 → ∀ p q, p < 36 → q < 36 → g0 p < 100000 → gex (x.2.2.1 29) p = true → ab_nb p q = true → gcb (x.2.2.1 29) (hsx x) q = true → g0 q ≤ g0 p + gfo (x.2.2.1 29) v p))
    (fun n i s hi hp => by
      obtain ⟨m1, f1, g1⟩ := s
      obtain ⟨P, R⟩ := hp
      dsimp only at P R ⊢
      obtain ⟨m', w, f', g', hF, P', R'⟩ := l59_ok hv ev g0 hi f1 m1 g1 P
      refine Or.inl ⟨(m', f', g'), ⟨P', fun e p q hp hq a b c d => ?_⟩, ?_⟩
      · obtain ⟨e1, e2⟩ := R' e
        by_cases ep : p = i
        · subst ep; exact e2 q hq a b c d
        · exact R e1 p q (by omega) hq a b c d
      · have i36 : ¬ (36 : Int32) ≤ nI i := nI_ge (b := 36) hi (by decide)
        rw [L_X8_walkFrom_50, if_neg i36, hF]
        dsimp only
        rw [nI_1])
    (fun n s hp => by
      obtain ⟨m1, f1, g1⟩ := s
      obtain ⟨P, R⟩ := hp
      dsimp only at P R ⊢
      exact ⟨_, by rw [L_X8_walkFrom_50, if_pos (by decide)], m1, _, f1, g1, rfl, P, R⟩)
    1000 0 (0, f0, g0) (by decide) (by decide) ⟨P0, fun _ p q hp => by omega⟩
  obtain ⟨r, hF, m', w, f', g', rfl, hP⟩ := H
  exact ⟨m', w, f', g', hF, hP⟩
theorem l42_ok (hv : v ≤ 9) (ev : x.2.2.1 29 2 = nI v) (hh : h < 36) (f0 : Nat → Int32) (g0 : Nat → Nat) (F0 : fa f0 g0) (W0 : ∀ q, q < 36 → g0 q < 100000 → wk (gex (x.2.2.1 29)) (gcb (x.2.2.1 29) (hsx x)) (gfo (x.2.2.1 29) v) h q (g0 q)) (S0 : gcb (x.2.2.1 29) (hsx x) h = true → g0 h = 0) : ∃ w f, L_X8_walkFrom_42 3600003 1 (am_sA x 38 f0) = some (w, am_sA x 38 f) ∧ ∀ q, q < 36 → (∃ c, c ≤ 140 ∧ f q = nI c ∧ mn (gex (x.2.2.1 29)) (gcb (x.2.2.1 29) (hsx x)) (gfo (x.2.2.1 29) v) h q c) ∨ (f q = 100000 ∧ ∀ c, ¬ wk (gex (x.2.2.1 29)) (gcb (x.2.2.1 29) (hsx x)) (gfo (x.2.2.1 29) v) h q c) := by
  have fin : ∀ (f : Nat → Int32) (g : Nat → Nat), fa f g → (∀ q, q < 36 → g q < 100000 → wk (gex (x.2.2.1 29)) (gcb (x.2.2.1 29) (hsx x)) (gfo (x.2.2.1 29) v) h q (g q)) → (gcb (x.2.2.1 29) (hsx x) h = true → g h = 0) → (∀ p q, p < 36 → q < 36 → g p < 100000 → gex (x.2.2.1 29) p = true → ab_nb p q = true → gcb (x.2.2.1 29) (hsx x) q = true → g q ≤ g p + gfo (x.2.2.1 29) v p) → ∀ q, q < 36 → (∃ c, c ≤ 140 ∧ f q = nI c ∧ mn (gex (x.2.2.1 29)) (gcb (x.2.2.1 29) (hsx x)) (gfo (x.2.2.1 29) v) h q c) ∨ (f q = 100000 ∧ ∀ c, ¬ wk (gex (x.2.2.1 29)) (gcb (x.2.2.1 29) (hsx x)) (gfo (x.2.2.1 29) v) h q c) := by
    intro f g hf hw hs hr q hq
    rcases mn_far hh (gfo_14 _ hv) hs (fun q hq => (hf q hq).2) hw hr hq with ⟨m, l⟩ | ⟨e, n⟩
    · exact Or.inl ⟨g q, l, (hf q hq).1, m⟩
    · exact Or.inr ⟨by rw [(hf q hq).1, e]; rfl, n⟩
  have H := am_rest (fun n (s : Bool × (Nat → Int32) × (Nat → Nat)) => L_X8_walkFrom_42 n (if s.1 then 1 else 0) (am_sA x 38 s.2.1))
    (fun s => fb_sm s.2.2 36 + (if s.1 then 1 else 0))
    (fun s => fa s.2.1 s.2.2 ∧ (∀ q, q < 36 → s.2.2 q < 100000 → wk (gex (x.2.2.1 29)) (gcb (x.2.2.1 29) (hsx x)) (gfo (x.2.2.1 29) v) h q (s.2.2 q)) ∧ (gcb (x.2.2.1 29) (hsx x) h = true → s.2.2 h = 0) ∧ (s.1 = false → ∀ p q, p < 36 → q < 36 → s.2.2 p < 100000 → gex (x.2.2.1 29) p = true → ab_nb p q = true → gcb (x.2.2.1 29) (hsx x) q = true → s.2.2 q ≤ s.2.2 p + gfo (x.2.2.1 29) v p))
    (fun r => ∃ w f, r = (w, am_sA x 38 f) ∧ ∀ q, q < 36 → (∃ c, c ≤ 140 ∧ f q = nI c ∧ mn (gex (x.2.2.1 29)) (gcb (x.2.2.1 29) (hsx x)) (gfo (x.2.2.1 29) v) h q c) ∨ (f q = 100000 ∧ ∀ c, ¬ wk (gex (x.2.2.1 29)) (gcb (x.2.2.1 29) (hsx x)) (gfo (x.2.2.1 29) v) h q c))
    (fun n s hp => by
      obtain ⟨m, f, g⟩ := s
      obtain ⟨p1, p2, p3, p4⟩ := hp
      dsimp only at p1 p2 p3 p4 ⊢
      cases m
      · exact Or.inr ⟨_, by rw [L_X8_walkFrom_42]; exact if_pos rfl, _, f, rfl, fin f g p1 p2 p3 (p4 rfl)⟩
      · obtain ⟨m', w, f', g', hF, ⟨a1, a2, a3, a4⟩, R⟩ := l50_ok (h := h) hv ev f g ⟨p1, p2, p3, Or.inl ⟨rfl, fun _ _ => rfl⟩⟩
        have hU : L_X8_walkFrom_42 (n + 1) (if true = true then 1 else 0) (am_sA x 38 f) = L_X8_walkFrom_42 n (nI m') (am_sA x 38 f') := by
          rw [if_pos rfl, L_X8_walkFrom_42, if_neg (by decide), hF]
        rcases a4 with ⟨rfl, a4⟩ | ⟨rfl, a4⟩
        · refine Or.inl ⟨(false, f', g'), ⟨a1, a2, a3, fun _ p q hp hq l e b c => ?_⟩, ?_, hU⟩
          · dsimp only at l ⊢
            rw [a4 p hp] at l ⊢
            rw [a4 q hq]
            exact R rfl p q hp hq l e b c
          · dsimp only
            rw [fb_sm_cong a4]
            simp
        · refine Or.inl ⟨(true, f', g'), ⟨a1, a2, a3, fun e => by cases e⟩, ?_, hU⟩
          dsimp only
          simp only [if_true]
          omega)
    3600003 (true, f0, g0) (by
      have := fb_sm_bound (c := 100000) (fun k hk => (F0 k hk).2)
      dsimp only
      simp only [if_true]
      first | omega | skip) ⟨F0, W0, S0, fun e => by cases e⟩
  obtain ⟨r, hF, w, f, rfl, hP⟩ := H
  exact ⟨w, f, hF, hP⟩
end
