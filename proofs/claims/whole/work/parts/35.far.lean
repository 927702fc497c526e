/-! what the reference's walkFrom leaves -/
theorem am_sAc {x : am_X} {k l : Nat} {f g : Nat → Int32} (h : k ≠ l) : am_sA (am_sA x k f) l g = am_sA (am_sA x l g) k f := by
  have e : am_up (am_up x.2.2.1 k f) l g = am_up (am_up x.2.2.1 l g) k f := by
    funext j
    unfold am_up
    by_cases a : j = k
    · have : ¬ j = l := fun e => h (a.symm.trans e)
      simp [a, h]
    · simp [a]
  show (x.1, x.2.1, am_up (am_up x.2.2.1 k f) l g, x.2.2.2) = (x.1, x.2.1, am_up (am_up x.2.2.1 l g) k f, x.2.2.2)
  rw [e]
def rc (x : am_X) (v h q c : Nat) : Prop := mn (gex (x.2.2.1 29)) (gcb (x.2.2.1 29) (hsx x)) (gfo (x.2.2.1 29) v) h q c
def fars (x : am_X) (v h : Nat) (f : Nat → Int32) : Prop := ∀ q, q < 36 → (∃ c, c ≤ 140 ∧ f q = nI c ∧ rc x v h q c) ∨ (f q = 100000 ∧ ∀ c, ¬ rc x v h q c)
theorem l2_ok {x : am_X} {h : Nat} (hh : h < 36) : ∃ w1 w2 f, L_X8_walkFrom_2 1000 (nI h) 0 x = some (w1, w2, am_sA x 38 f) ∧ ∀ q, q < 36 → f q = nI (if q = h ∧ x.2.2.1 37 q = 0 then 0 else 100000) := by
  obtain ⟨r, hF, w1, w2, f, rfl, hf⟩ := am_for (fun n i (f : Nat → Int32) => L_X8_walkFrom_2 n (nI h) (nI i) (am_sA x 38 f)) 36 (fun i f => ∀ q, q < i → f q = nI (if q = h ∧ x.2.2.1 37 q = 0 then 0 else 100000)) (fun r => ∃ w1 w2 f, r = (w1, w2, am_sA x 38 f) ∧ ∀ q, q < 36 → f q = nI (if q = h ∧ x.2.2.1 37 q = 0 then 0 else 100000))
    (fun n i f hi hp => by
      have h1 : ¬ (36 : Int32) ≤ nI i := nI_ge (b := 36) hi (by decide)
      have h2 : 0 ≤ (nI i).toInt ∧ (nI i).toInt < 36 := nIr (b := 36) hi (by decide)
      refine Or.inl ⟨upd f i (nI (if i = h ∧ x.2.2.1 37 i = 0 then 0 else 100000)), ?_, ?_⟩
      · intro q hq
        by_cases e : q = i
        · subst e; rw [upd_eq]
        · rw [upd_ne _ _ e]; exact hp q (by omega)
      · rw [L_X8_walkFrom_2, if_neg h1]
        by_cases e : i = h
        · subst e
          rw [if_pos rfl, if_pos h2, nI_clamp (by omega), nI_1]
          by_cases k : x.2.2.1 37 i = 0
          · rw [if_pos (show (am_sA x 38 f).2.2.1 37 i = 0 from k), if_pos ⟨rfl, k⟩, am_sAA]; rfl
          · rw [if_neg (show ¬ (am_sA x 38 f).2.2.1 37 i = 0 from k), if_neg (fun c => k c.2), am_sAA]; rfl
        · have ne : ¬ nI i = nI h := fun c => e ((nI_eq (by omega) (by omega)).mp c)
          rw [if_neg ne, if_pos h2, nI_clamp (by omega), nI_1, if_neg (fun c => e c.1), am_sAA]; rfl)
    (fun n f hp => ⟨_, by rw [L_X8_walkFrom_2, if_pos (by decide)], _, _, f, rfl, hp⟩)
    1000 0 (x.2.2.1 38) (by decide) (by decide) (fun k hk => by omega)
  have hF' : L_X8_walkFrom_2 1000 (nI h) (0 : Int32) (am_sA x 38 (x.2.2.1 38)) = some (w1, w2, am_sA x 38 f) := hF
  rw [am_sA_self] at hF'
  exact ⟨w1, w2, f, hF', hf⟩
theorem from_ok {x : am_X} {v h : Nat} (hv : v ≤ 9) (ev : x.2.2.1 29 2 = nI v) (hh : h < 36) (nh : ¬ x.2.2.1 29 (20 + h) = 1) : ∃ f, G_X8_walkFrom (nI h) x = some ((), am_sA x 38 f) ∧ fars x v h f := by
  obtain ⟨w1, w2, f0, h2, hf0⟩ := l2_ok (x := x) hh
  obtain ⟨w, f, h42, hf⟩ := l42_ok (x := x) hv ev hh f0 (fun q => if q = h ∧ x.2.2.1 37 q = 0 then 0 else 100000) (fun q hq => ⟨hf0 q hq, by dsimp only; split <;> omega⟩) (fun q hq l => by
      by_cases e : q = h ∧ x.2.2.1 37 q = 0
      · obtain ⟨rfl, e2⟩ := e
        rw [if_pos ⟨rfl, e2⟩]
        refine wk_st ?_
        have e1 : nI 1 = (1 : Int32) := rfl
        simp [gcb, kd, hsx, e1, nh, e2]
      · rw [if_neg e] at l; omega) (fun e => by
      rw [if_pos]
      refine ⟨rfl, ?_⟩
      by_cases k : x.2.2.1 37 h = 0
      · exact k
      · simp [gcb, hsx, k] at e)
  refine ⟨f, ?_, fun q hq => ?_⟩
  · unfold G_X8_walkFrom
    rw [h2]; dsimp only
    rw [h42]
  · rcases hf q hq with h | ⟨e, n⟩
    · exact Or.inl h
    · exact Or.inr ⟨e, fun c m => n c m.1⟩
theorem none_held {x : am_X} (hI : am_Iv x) : abr 0 (hsx x) := abr_0.congr (fun q hq => by simp [hsx, hI.hel q hq])
theorem wave0 {x : am_X} (hI : am_Iv x) {h v : Nat} (hh : h < 36) (hv : v ≤ 9) (ev : x.1 38 = nI v) : wv (am_spx x (nI h) 0) (rc x v h) := wave_ok hI hh hv ev (none_held hI)
theorem ns_e {q : Nat} (h : q < 36) : 0 ≤ (nI q).toInt ∧ (nI q).toInt < 36 := nIr (b := 36) h (by decide)
theorem nI_far {c : Nat} (h : c ≤ 140) : ¬ nI c = 100000 := nI_nat (m := 100000) (by omega) (by decide) (by omega)
theorem ok_steps (a : Int32) : am_ok (G_X7_steps a) (G_X8_steps a) := by
  intro x hI
  unfold G_X7_steps G_X8_steps
  by_cases s : am_sq a
  · obtain ⟨q, hq, rfl⟩ := am_nIsq s
    obtain ⟨h, hh, e1, e2, e3⟩ := hI.g.home
    obtain ⟨v, hv, v1, v2⟩ := hI.g.warm
    have W := wave0 hI hh hv v1
    obtain ⟨f, hf, F⟩ := from_ok (x := am_spx x (nI h) 0) hv v2 hh e3
    have hI2 : am_Iv (am_sA (am_spx x (nI h) 0) 38 f) := (hI.kp (spx_kp x (nI h) 0)).kp (am_kp.sA (by decide))
    have R : ∀ r, (f q = 100000 ∧ r = -9) ∨ (¬ f q = 100000 ∧ r = f q) → (match G_X8_isNoSquare (nI q) (am_spx x (nI h) 0) with | none => none | some (r1, x2) => (if r1 = 0 then (match G_X8_walkFrom ((x2.2.2.1 29) 0) x2 with | none => none | some (_, x6) => (if 0 ≤ (nI q).toInt ∧ (nI q).toInt < 36 then (if ((x6.2.2.1 38) (nI q).toNatClampNeg) = 100000 then some ((-9 : Int32), x6) else some (((x6.2.2.1 38) (nI q).toNatClampNeg), x6)) else none)) else (match G_X8_no (-1 : Int32) x2 with | none => none | some (r10, x11) => some (r10, x11)))) = some (r, am_sA (am_spx x (nI h) 0) 38 f) := by
      intro r hr
      rw [ns_in hq]; dsimp only
      rw [if_pos rfl, show (am_spx x (nI h) 0).2.2.1 29 0 = nI h from e2, hf]; dsimp only
      rw [if_pos (ns_e hq), nI_clamp (by omega), show (am_sA (am_spx x (nI h) 0) 38 f).2.2.1 38 q = f q from rfl]
      rcases hr with ⟨a, rfl⟩ | ⟨a, rfl⟩
      · rw [if_pos a]
      · rw [if_neg a]
    rw [if_pos s, e1]
    rcases wv_ind W (abr_bit hq) with ⟨c, hc, hs, ⟨q', hq', e, m⟩, l, _⟩ | ⟨hs, hn⟩
    · have : q' = q := of_decide_eq_true e
      subst this
      rcases F q' hq with ⟨c', hc', fc, m'⟩ | ⟨_, n⟩
      · have := mn_uniq m m'
        subst this
        exact ⟨nI c, _, _, by rw [hs], R _ (Or.inr ⟨by rw [fc]; exact nI_far hc, fc.symm⟩), hI2⟩
      · exact absurd m (n c)
    · rcases F q hq with ⟨c', hc', fc, m'⟩ | ⟨fc, n⟩
      · exact absurd m' (hn q c' hq (by simp))
      · exact ⟨-9, _, _, by rw [hs], R _ (Or.inl ⟨fc, rfl⟩), hI2⟩
  · rw [if_neg s]
    refine ⟨_, _, _, by rw [c1], ?_, r78 (j := 1) hI⟩
    rw [ns_out s]; dsimp only
    rw [if_neg (by decide), n1]
/-! MAY BE at t -/
theorem nI_div {a b : Nat} (ha : a < 1000) (h1 : 1 ≤ b) (h2 : b ≤ 9) : nI a / nI b = nI (a / b) := by
  have : ∀ b, b ≤ 9 → 1 ≤ b → ∀ a, a < 1000 → nI a / nI b = nI (a / b) := by decide +kernel
  exact this b h2 h1 a ha
noncomputable def mbs (x : am_X) (v h t : Nat) (q : Nat) : Bool := cd (∃ c, c ≤ t ∧ rc x v h q c)
theorem l12_ok {x : am_X} {v h t p : Nat} (ht : t < 1000) (p1 : 1 ≤ p) (p9 : p ≤ 9) (ep : x.2.2.1 29 1 = nI p) (F : fars x v h (x.2.2.1 38)) : ∃ w1 w2 g, L_X8_mayBeAt_12 1000 (nI t) 0 x = some (w1, w2, am_sA x 39 g) ∧ ∀ q, q < 36 → g q = if mbs x v h (t / p) q = true then 1 else 0 := by
  have td : t / p < 1000 := Nat.lt_of_le_of_lt (Nat.div_le_self t p) ht
  obtain ⟨r, hF, w1, w2, f, rfl, hf⟩ := am_for (fun n i (f : Nat → Int32) => L_X8_mayBeAt_12 n (nI t) (nI i) (am_sA x 39 f)) 36 (fun i f => ∀ q, q < i → f q = if mbs x v h (t / p) q = true then 1 else 0) (fun r => ∃ w1 w2 f, r = (w1, w2, am_sA x 39 f) ∧ ∀ q, q < 36 → f q = if mbs x v h (t / p) q = true then 1 else 0)
    (fun n i f hi hp => by
      have h1 : ¬ (36 : Int32) ≤ nI i := nI_ge (b := 36) hi (by decide)
      have ep' : (am_sA x 39 f).2.2.1 29 1 = nI p := ep
      have np : ¬ nI p = 0 := nI_nat (m := 0) (by omega) (by decide) (by omega)
      refine Or.inl ⟨upd f i (if mbs x v h (t / p) i = true then 1 else 0), ?_, ?_⟩
      · intro q hq
        by_cases e : q = i
        · subst e; rw [upd_eq]
        · rw [upd_ne _ _ e]; exact hp q (by omega)
      · rw [L_X8_mayBeAt_12, if_neg h1, if_pos (ns_e hi), ep', if_pos np, nI_div ht p1 p9, nI_clamp (by omega), nI_1, show (am_sA x 39 f).2.2.1 38 i = x.2.2.1 38 i from rfl]
        rcases F i hi with ⟨c, hc, fc, m⟩ | ⟨fc, m⟩
        · rw [fc]
          by_cases l : t / p < c
          · rw [if_pos (nI_lt l (by omega)), am_sAA, if_neg]
            · rfl
            · intro e
              obtain ⟨c', l', m'⟩ := cd_iff.mp e
              have := mn_uniq m m'
              omega
          · rw [if_neg (nI_nlt (by omega) (by omega)), am_sAA, if_pos]
            · rfl
            · exact cd_iff.mpr ⟨c, by omega, m⟩
        · rw [fc, if_pos (show nI (t / p) < (100000 : Int32) from nI_lt (b := 100000) (by omega) (by decide)), am_sAA, if_neg]
          · rfl
          · intro e
            obtain ⟨c', l', m'⟩ := cd_iff.mp e
            exact m c' m')
    (fun n f hp => ⟨_, by rw [L_X8_mayBeAt_12, if_pos (by decide)], _, _, f, rfl, hp⟩)
    1000 0 (x.2.2.1 39) (by decide) (by decide) (fun k hk => by omega)
  have hF' : L_X8_mayBeAt_12 1000 (nI t) (0 : Int32) (am_sA x 39 (x.2.2.1 39)) = some (w1, w2, am_sA x 39 f) := hF
  rw [am_sA_self] at hF'
  exact ⟨w1, w2, f, hF', hf⟩
/-- MAY BE by the reference: its row set -/
theorem mba_ok {x : am_X} {v h t p : Nat} (hv : v ≤ 9) (v2 : x.2.2.1 29 2 = nI v) (hh : h < 36) (e2 : x.2.2.1 29 0 = nI h) (e3 : ¬ x.2.2.1 29 (20 + h) = 1) (ht : t < 1000) (p1 : 1 ≤ p) (p9 : p ≤ 9) (ep : x.2.2.1 29 1 = nI p) : ∃ f g, G_X8_mayBeAt (nI t) x = some ((), am_sA (am_sA x 38 f) 39 g) ∧ ∀ q, q < 36 → g q = if mbs x v h (t / p) q = true then 1 else 0 := by
  obtain ⟨f, hf, F⟩ := from_ok (x := x) hv v2 hh e3
  obtain ⟨w1, w2, g, hg, G⟩ := l12_ok (x := am_sA x 38 f) (v := v) (h := h) ht p1 p9 ep F
  refine ⟨f, g, ?_, G⟩
  unfold G_X8_mayBeAt
  rw [e2, hf]; dsimp only
  rw [hg]
theorem inset_ok (x : am_X) {S : Nat → Bool} (hS : ∀ q, q < 36 → (S q = true ↔ ¬ x.2.2.1 39 q = 0)) : G_X8_inSet x = some (nI (fb_ct S 36), x) := by
  obtain ⟨r, hF, b, rfl⟩ := am_for (fun n i (s : Int32) => L_X8_inSet_4 n s (nI i) x) 36 (fun i s => s = nI (fb_ct S i)) (fun r => ∃ b, r = (nI (fb_ct S 36), b, x))
    (fun n i s hi hp => Or.inl (by
      have h1 : ¬ (36 : Int32) ≤ nI i := nI_ge (b := 36) hi (by decide)
      refine ⟨nI (fb_ct S (i + 1)), rfl, ?_⟩
      rw [L_X8_inSet_4, if_neg h1, if_pos (ns_e hi), nI_clamp (by omega), nI_1, hp, fb_ct_succ]
      by_cases e : x.2.2.1 39 i = 0
      · have : S i = false := by
          cases hs : S i
          · rfl
          · exact absurd e ((hS i hi).mp hs)
        rw [if_pos e, this]
        simp
      · rw [if_neg e, (hS i hi).mpr e, if_pos rfl, nI_1]))
    (fun n s hp => ⟨_, by rw [L_X8_inSet_4, if_pos (by decide)], nI 36, by rw [hp]⟩)
    1000 0 0 (by decide) (by decide) rfl
  have hF' : L_X8_inSet_4 1000 (0 : Int32) (0 : Int32) x = some (nI (fb_ct S 36), b, x) := hF
  unfold G_X8_inSet
  rw [hF']
/-- MAY BE by the class -/
theorem rb_ok {x : am_X} (hI : am_Iv x) {v h t p : Nat} (hv : v ≤ 9) (v1 : x.1 38 = nI v) (hh : h < 36) (e1 : x.1 36 = nI h) (ht : t < 1000) (p1 : 1 ≤ p) (p9 : p ≤ 9) (ep : x.1 37 = nI p) : ∃ r, G_X7_reachedBy (nI t) x = some (r, am_spx x (nI h) 0) ∧ abr r (mbs x v h (t / p)) := by
  have W := wave0 hI hh hv v1
  obtain ⟨r, hr, hR⟩ := wv_in W (t := t / p) (Nat.lt_of_le_of_lt (Nat.div_le_self t p) ht)
  refine ⟨r, ?_, hR⟩
  have np : ¬ nI p = 0 := nI_nat (m := 0) (by omega) (by decide) (by omega)
  have l1 : (1 : Int32) ≤ nI p := nI_le (a := 1) p1 (by omega)
  unfold G_X7_reachedBy
  rw [e1, show (am_spx x (nI h) 0).1 37 = nI p from ep, if_pos l1, if_pos np, nI_div ht p1 p9, hr]
theorem ok_mayBe (a b : Int32) : am_ok (G_X7_mayBe a b) (G_X8_mayBe a b) := by
  intro x hI
  unfold G_X7_mayBe G_X8_mayBe
  by_cases a0 : a < 0
  · exact ⟨_, _, _, by rw [if_pos a0, c4], by rw [if_pos a0, n4], r78 (j := 4) hI⟩
  by_cases b1 : (-1 : Int32) ≤ b
  case neg => exact ⟨_, _, _, by rw [if_neg a0, if_neg b1, c4], by rw [if_neg a0, if_neg b1, n4], r78 (j := 4) hI⟩
  by_cases a9 : a ≤ 999
  case neg => exact ⟨_, _, _, by rw [if_neg a0, if_pos b1, if_neg a9, c6], by rw [if_neg a0, if_pos b1, if_neg a9, n6], r78 (j := 6) hI⟩
  by_cases b36 : b < 36
  case neg => exact ⟨_, _, _, by rw [if_neg a0, if_pos b1, if_pos a9, if_neg b36, c1], by rw [if_neg a0, if_pos b1, if_pos a9, if_neg b36, n1], r78 (j := 1) hI⟩
  obtain ⟨t, ht, rfl⟩ := nI_of2 (n := 999) (by decide) a0 a9
  obtain ⟨h, hh, e1, e2, e3⟩ := hI.g.home
  obtain ⟨v, hv, v1, v2⟩ := hI.g.warm
  obtain ⟨p, p1, p9, q1, q2⟩ := hI.g.pace
  obtain ⟨r, hr, hR⟩ := rb_ok hI hv v1 hh e1 (t := t) (by omega) p1 p9 q1
  have hI1 := hI.kp (spx_kp x (nI h) 0)
  obtain ⟨f, g, hm, hg⟩ := mba_ok (x := am_spx x (nI h) 0) hv v2 hh e2 e3 (t := t) (by omega) p1 p9 q2
  have hI2 : am_Iv (am_sA (am_sA (am_spx x (nI h) 0) 38 f) 39 g) := (hI1.kp (am_kp.sA (by decide))).kp (am_kp.sA (by decide))
  have hS : ∀ q, q < 36 → (mbs x v h (t / p) q = true ↔ ¬ g q = 0) := fun q hq => by
    rw [hg q hq]
    show _ ↔ ¬ (if mbs x v h (t / p) q = true then (1 : Int32) else 0) = 0
    by_cases e : mbs x v h (t / p) q = true
    · rw [if_pos e]; simp [e]
    · rw [if_neg e]; simp [e]
  by_cases b0 : (0 : Int32) ≤ b
  · have bs : am_sq b := by
      rw [ii_le, t0] at b0; rw [ii_lt, t36] at b36
      exact ⟨by omega, by omega⟩
    obtain ⟨q, hq, rfl⟩ := am_nIsq bs
    have n1' : ¬ nI q = -1 := fun e => by
      have := congrArg Int32.toInt e
      rw [nI_toInt (by omega), show (-1 : Int32).toInt = -1 by decide] at this
      omega
    refine ⟨if mbs x v h (t / p) q = true then 1 else 0, am_spx x (nI h) 0, am_sA (am_sA (am_spx x (nI h) 0) 38 f) 39 g, ?_, ?_, hI2⟩
    · rw [if_neg a0, if_pos b1, if_pos a9, if_pos b36, hr]; dsimp only
      rw [if_pos b0]
      by_cases e : mbs x v h (t / p) q = true
      · rw [if_pos ((hR.hasb hq).mpr e), if_pos e]
      · rw [if_neg (fun c => e ((hR.hasb hq).mp c)), if_neg e]
    · rw [if_neg a0, if_pos b1, if_pos a9, if_pos b36, hm]; dsimp only
      rw [if_neg n1', if_pos (ns_e hq), nI_clamp (by omega), show (am_sA (am_sA (am_spx x (nI h) 0) 38 f) 39 g).2.2.1 39 q = g q from rfl]
      by_cases e : mbs x v h (t / p) q = true
      · rw [if_neg ((hS q hq).mp e), if_pos e]
      · rw [if_pos (by rw [hg q hq]; exact if_neg e), if_neg e]
  · have eb : b = -1 := by
      apply Int32.toInt_inj.mp
      rw [ii_le, t0] at b0
      rw [ii_le] at b1
      have : (-1 : Int32).toInt = -1 := by decide
      omega
    refine ⟨nI (fb_ct (mbs x v h (t / p)) 36), am_spx x (nI h) 0, am_sA (am_sA (am_spx x (nI h) 0) 38 f) 39 g, ?_, ?_, hI2⟩
    · rw [if_neg a0, if_pos b1, if_pos a9, if_pos b36, hr]; dsimp only
      rw [if_neg b0, hR.bc]
    · rw [if_neg a0, if_pos b1, if_pos a9, if_pos b36, hm]; dsimp only
      rw [if_pos eb, inset_ok _ (S := mbs x v h (t / p)) hS]
