/-! image, on -/
theorem gd_congr {sk hm pc wm : Int32} {w w' : Nat → Int64} {sK sS now sK' sS' now' : Nat → Int32} (g : am_gd sk hm pc wm w sK sS now) (hw : ∀ k, k < 6 → w' k = w k) (h1 : ∀ k, k < 3 → sK' k = sK k) (h2 : ∀ k, k < 3 → sS' k = sS k) (h3 : ∀ k, k < 56 → now' k = now k) : am_gd sk hm pc wm w' sK' sS' now' := by
  obtain ⟨g1, g2, g3, g4, g5, g6⟩ := g
  refine ⟨fun p hp => by rw [h3 _ (by omega)]; exact g1 p hp, fun k hk => ?_, ?_, ?_, ?_, ?_⟩
  · rw [hw k hk]
    exact (g2 k hk).congr (fun p _ => by rw [h3 _ (by omega)])
  · obtain ⟨h, a1, a2, a3, a4⟩ := g3
    exact ⟨h, a1, a2, by rw [h3 0 (by omega)]; exact a3, by rw [h3 _ (by omega)]; exact a4⟩
  · rw [h3 1 (by omega)]; exact g4
  · rw [h3 2 (by omega)]; exact g5
  · obtain ⟨s, a1, a2, a3, a4⟩ := g6
    exact ⟨s, a1, a2, by rw [h3 3 (by omega)]; exact a3, fun i hi => by rw [h1 i (by omega), h2 i (by omega), h3 _ (by omega), h3 _ (by omega)]; exact a4 i hi⟩
theorem mv_29_30 (x : am_X) : ∃ f : Nat → Int32, (∀ k, k < 56 → f k = x.2.2.1 29 k) ∧ G_X8_move_29_30 x = some ((), am_sA x 30 f) := by
  obtain ⟨r, hF, v, f, hf, rfl⟩ := am_for (fun n i (f : Nat → Int32) => L_X8_move_29_30_2 n (nI i) (am_sA x 30 f)) 56 (fun i f => ∀ k, k < i → f k = x.2.2.1 29 k) (fun r => ∃ v f, (∀ k, k < 56 → f k = x.2.2.1 29 k) ∧ r = (v, am_sA x 30 f))
    (fun n i f hi hp => Or.inl ⟨upd f i (x.2.2.1 29 i), fun k hk => by
        by_cases e : k = i
        · subst e; rw [upd_eq]
        · rw [upd_ne _ _ e]; exact hp k (by omega), by
        have h1 : ¬ (56 : Int32) ≤ nI i := nI_ge (b := 56) hi (by decide)
        have h2 : 0 ≤ (nI i).toInt ∧ (nI i).toInt < 56 := nIr (b := 56) hi (by decide)
        rw [L_X8_move_29_30_2, if_neg h1, if_pos h2, nI_clamp (by omega), nI_1, am_sAA]
        rfl⟩)
    (fun n f hp => ⟨_, by
        rw [L_X8_move_29_30_2, if_pos (by decide)], _, f, hp, rfl⟩)
    1000 0 (x.2.2.1 30) (by decide) (by decide) (fun k hk => by omega)
  refine ⟨f, hf, ?_⟩
  have hF' : L_X8_move_29_30_2 1000 (0 : Int32) (am_sA x 30 (x.2.2.1 30)) = some (v, am_sA x 30 f) := hF
  rw [am_sA_self] at hF'
  unfold G_X8_move_29_30
  rw [hF']
theorem mv_30_29 (x : am_X) : ∃ f : Nat → Int32, (∀ k, k < 56 → f k = x.2.2.1 30 k) ∧ G_X8_move_30_29 x = some ((), am_sA x 29 f) := by
  obtain ⟨r, hF, v, f, hf, rfl⟩ := am_for (fun n i (f : Nat → Int32) => L_X8_move_30_29_2 n (nI i) (am_sA x 29 f)) 56 (fun i f => ∀ k, k < i → f k = x.2.2.1 30 k) (fun r => ∃ v f, (∀ k, k < 56 → f k = x.2.2.1 30 k) ∧ r = (v, am_sA x 29 f))
    (fun n i f hi hp => Or.inl ⟨upd f i (x.2.2.1 30 i), fun k hk => by
        by_cases e : k = i
        · subst e; rw [upd_eq]
        · rw [upd_ne _ _ e]; exact hp k (by omega), by
        have h1 : ¬ (56 : Int32) ≤ nI i := nI_ge (b := 56) hi (by decide)
        have h2 : 0 ≤ (nI i).toInt ∧ (nI i).toInt < 56 := nIr (b := 56) hi (by decide)
        rw [L_X8_move_30_29_2, if_neg h1, if_pos h2, nI_clamp (by omega), nI_1, am_sAA]
        rfl⟩)
    (fun n f hp => ⟨_, by
        rw [L_X8_move_30_29_2, if_pos (by decide)], _, f, hp, rfl⟩)
    1000 0 (x.2.2.1 29) (by decide) (by decide) (fun k hk => by omega)
  refine ⟨f, hf, ?_⟩
  have hF' : L_X8_move_30_29_2 1000 (0 : Int32) (am_sA x 29 (x.2.2.1 29)) = some (v, am_sA x 29 f) := hF
  rw [am_sA_self] at hF'
  unfold G_X8_move_30_29
  rw [hF']
theorem mv_29_36 (x : am_X) : ∃ f : Nat → Int32, (∀ k, k < 56 → f k = x.2.2.1 29 k) ∧ G_X8_move_29_36 x = some ((), am_sA x 36 f) := by
  obtain ⟨r, hF, v, f, hf, rfl⟩ := am_for (fun n i (f : Nat → Int32) => L_X8_move_29_36_2 n (nI i) (am_sA x 36 f)) 56 (fun i f => ∀ k, k < i → f k = x.2.2.1 29 k) (fun r => ∃ v f, (∀ k, k < 56 → f k = x.2.2.1 29 k) ∧ r = (v, am_sA x 36 f))
    (fun n i f hi hp => Or.inl ⟨upd f i (x.2.2.1 29 i), fun k hk => by
        by_cases e : k = i
        · subst e; rw [upd_eq]
        · rw [upd_ne _ _ e]; exact hp k (by omega), by
        have h1 : ¬ (56 : Int32) ≤ nI i := nI_ge (b := 56) hi (by decide)
        have h2 : 0 ≤ (nI i).toInt ∧ (nI i).toInt < 56 := nIr (b := 56) hi (by decide)
        rw [L_X8_move_29_36_2, if_neg h1, if_pos h2, nI_clamp (by omega), nI_1, am_sAA]
        rfl⟩)
    (fun n f hp => ⟨_, by
        rw [L_X8_move_29_36_2, if_pos (by decide)], _, f, hp, rfl⟩)
    1000 0 (x.2.2.1 36) (by decide) (by decide) (fun k hk => by omega)
  refine ⟨f, hf, ?_⟩
  have hF' : L_X8_move_29_36_2 1000 (0 : Int32) (am_sA x 36 (x.2.2.1 36)) = some (v, am_sA x 36 f) := hF
  rw [am_sA_self] at hF'
  unfold G_X8_move_29_36
  rw [hF']
theorem mv_36_29 (x : am_X) : ∃ f : Nat → Int32, (∀ k, k < 56 → f k = x.2.2.1 36 k) ∧ G_X8_move_36_29 x = some ((), am_sA x 29 f) := by
  obtain ⟨r, hF, v, f, hf, rfl⟩ := am_for (fun n i (f : Nat → Int32) => L_X8_move_36_29_2 n (nI i) (am_sA x 29 f)) 56 (fun i f => ∀ k, k < i → f k = x.2.2.1 36 k) (fun r => ∃ v f, (∀ k, k < 56 → f k = x.2.2.1 36 k) ∧ r = (v, am_sA x 29 f))
    (fun n i f hi hp => Or.inl ⟨upd f i (x.2.2.1 36 i), fun k hk => by
        by_cases e : k = i
        · subst e; rw [upd_eq]
        · rw [upd_ne _ _ e]; exact hp k (by omega), by
        have h1 : ¬ (56 : Int32) ≤ nI i := nI_ge (b := 56) hi (by decide)
        have h2 : 0 ≤ (nI i).toInt ∧ (nI i).toInt < 56 := nIr (b := 56) hi (by decide)
        rw [L_X8_move_36_29_2, if_neg h1, if_pos h2, nI_clamp (by omega), nI_1, am_sAA]
        rfl⟩)
    (fun n f hp => ⟨_, by
        rw [L_X8_move_36_29_2, if_pos (by decide)], _, f, hp, rfl⟩)
    1000 0 (x.2.2.1 29) (by decide) (by decide) (fun k hk => by omega)
  refine ⟨f, hf, ?_⟩
  have hF' : L_X8_move_36_29_2 1000 (0 : Int32) (am_sA x 29 (x.2.2.1 29)) = some (v, am_sA x 29 f) := hF
  rw [am_sA_self] at hF'
  unfold G_X8_move_36_29
  rw [hF']
theorem cpyA (f g : Nat → Int32) {k n : Nat} (h : k < n) : va_cpy f g 0 0 n k = f k := by unfold va_cpy; rw [if_pos (by omega)]; congr 1; omega
theorem cpyB (f g : Nat → Int64) {k n : Nat} (h : k < n) : va_cpy f g 0 0 n k = f k := by unfold va_cpy; rw [if_pos (by omega)]; congr 1; omega
theorem ok_image : am_ok (fun x => G_X7_image x) (fun x => G_X8_image x) := by
  intro x hI
  obtain ⟨h, hh, e1, e2, e3⟩ := hI.g.home
  obtain ⟨f, hf, hm⟩ := mv_29_30 (am_uI (am_uI (am_bec_9_1 x) 10 1) 867 1)
  refine ⟨x.1 36, am_uI (am_bec_9_1 x) 10 1, am_sA (am_uI (am_uI (am_bec_9_1 x) 10 1) 867 1) 30 f, rfl, ?_, ?_⟩
  · show G_X8_image _ = _
    unfold G_X8_image
    rw [hm]
    show some (x.2.2.1 29 0, _) = _
    rw [e2, e1]
  · obtain ⟨g, im, ltr, row, ref, hel, cb, ck, cs⟩ := hI
    exact ⟨g, Or.inr ⟨rfl, rfl, gd_congr g (fun k hk => cpyB _ _ hk) (fun k hk => cpyA _ _ hk) (fun k hk => cpyA _ _ hk) hf⟩, ltr, row, ref, hel, cb, ck, cs⟩
theorem ok_on : am_ok (fun x => G_X7_on x) (fun x => G_X8_on x) := by
  intro x hI
  show ∃ r y z, G_X7_on x = some (r, y) ∧ G_X8_on y = some (r, z) ∧ am_Iv z
  unfold G_X7_on G_X8_on
  rcases hI.im with ⟨i1, i2⟩ | ⟨i1, i2, gi⟩
  · refine ⟨_, _, _, by rw [if_pos i1, c3], ?_, r78 (j := 3) hI⟩
    rw [if_pos (show (am_r7 3 x).1 867 = 0 from i2), n3]
  · obtain ⟨h, hh, e1, e2, e3⟩ := gi.home
    obtain ⟨f, hf, hm⟩ := mv_30_29 (am_bec_1_9 x)
    refine ⟨x.1 292, am_bec_1_9 x, am_sA (am_bec_1_9 x) 29 f, ?_, ?_, ?_⟩
    · rw [i1, if_neg (by decide)]
      rfl
    · rw [show (am_bec_1_9 x).1 867 = 1 from i2, if_neg (by decide), hm]
      show some (f 0, _) = _
      rw [hf 0 (by decide)]
      show some (x.2.2.1 30 0, _) = _
      rw [e2, e1]
    · obtain ⟨g, im, ltr, row, ref, hel, cb, ck, cs⟩ := hI
      refine ⟨gd_congr gi (fun k hk => cpyB _ _ hk) (fun k hk => cpyA _ _ hk) (fun k hk => cpyA _ _ hk) hf, ?_, ltr, row, ref, hel, cb, ck, cs⟩
      exact Or.inr ⟨i1, i2, gi⟩
