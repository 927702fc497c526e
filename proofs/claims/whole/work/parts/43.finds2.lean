/-! FINDS by the reference -/
section
variable {x : am_X} {n m v p : Nat}
theorem f33_even (R : rowp x n) (hm : n = 2 * m) (a : Int32) : ∃ w, L_X8_finds_33 1000 a 1 0 x = some (a, b01 (cd (∀ k, k < m → rowv x (2 * k) < 36)), w, x) := by
  obtain ⟨n12, r1, r2, hr⟩ := R
  obtain ⟨r, hF, w, rfl⟩ := am_for (fun n' i (t : Bool) => L_X8_finds_33 n' a (b01 t) (nI (2 * i)) x) m (fun i t => t = cd (∀ k, k < i → rowv x (2 * k) < 36)) (fun r => ∃ w, r = (a, b01 (cd (∀ k, k < m → rowv x (2 * k) < 36)), w, x))
    (fun n' i t hi hp => Or.inl (by
      have h1 : ¬ nI n ≤ nI (2 * i) := nI_ge (by omega) (by omega)
      obtain ⟨w100, _, l⟩ := hr (2 * i) (by omega)
      have x1 : 0 ≤ (nI (2 * i)).toInt ∧ (nI (2 * i)).toInt < 12 := nIr (b := 12) (by omega) (by decide)
      have e2 : nI (2 * i) + 2 = nI (2 * (i + 1)) := nI_add (2 * i) 2
      cases t
      · refine ⟨false, ?_, ?_⟩
        · refine (cd_no ?_).symm
          intro h
          have : cd (∀ k, k < i → rowv x (2 * k) < 36) = true := cd_iff.mpr (fun k hk => h k (by omega))
          rw [← hp] at this; cases this
        · rw [L_X8_finds_33, r2, if_neg h1, show b01 false = 0 from rfl, if_pos rfl, e2]
      · have hp' := cd_iff.mp hp.symm
        have nz : ¬ b01 true = 0 := by decide
        by_cases c : rowv x (2 * i) < 36
        · refine ⟨true, ?_, ?_⟩
          · refine (cd_iff.mpr ?_).symm
            intro k hk
            by_cases e : k = i
            · subst e; exact c
            · exact hp' k (by omega)
          · rw [L_X8_finds_33, r2, if_neg h1, if_neg nz, if_pos x1, nI_clamp (by omega), l, if_neg (show ¬ (36 : Int32) ≤ nI (rowv x (2 * i)) from nI_ge (b := 36) c (by decide)), e2]
            rfl
        · refine ⟨false, ?_, ?_⟩
          · exact (cd_no (fun h => c (h i (by omega)))).symm
          · rw [L_X8_finds_33, r2, if_neg h1, if_neg nz, if_pos x1, nI_clamp (by omega), l, if_pos (show (36 : Int32) ≤ nI (rowv x (2 * i)) from nI_le (a := 36) (by omega) (by omega)), e2]
            rfl))
    (fun n' t hp => ⟨_, by rw [L_X8_finds_33, r2, if_pos (nI_le (by omega) (by omega))], nI (2 * m), by rw [hp]⟩)
    1000 0 true (by omega) (by omega) ((cd_iff.mpr (fun k hk => by omega)).symm)
  exact ⟨w, hF⟩
theorem f33_odd (R : rowp x n) (hm : n = 2 * m + 1) (a : Int32) : ∃ w, L_X8_finds_33 1000 a 0 0 x = some (a, 0, w, x) := by
  obtain ⟨n12, r1, r2, hr⟩ := R
  obtain ⟨r, hF, w, rfl⟩ := am_for (fun n' i (_ : Unit) => L_X8_finds_33 n' a 0 (nI (2 * i)) x) (m + 1) (fun _ _ => True) (fun r => ∃ w, r = (a, 0, w, x))
    (fun n' i t hi _ => Or.inl ⟨(), trivial, by
      have h1 : ¬ nI n ≤ nI (2 * i) := nI_ge (by omega) (by omega)
      have e2 : nI (2 * i) + 2 = nI (2 * (i + 1)) := nI_add (2 * i) 2
      rw [L_X8_finds_33, r2, if_neg h1, if_pos rfl, e2]⟩)
    (fun n' t _ => ⟨_, by rw [L_X8_finds_33, r2, if_pos (nI_le (by omega) (by omega))], nI (2 * (m + 1)), rfl⟩)
    1000 0 () (by omega) (by omega) trivial
  exact ⟨w, hF⟩
theorem f103_ok (R : rowp x n) (hm : n = 2 * m) (hs : ∀ k, k < m → rowv x (2 * k) < 36) (hv : v ≤ 9) (v2 : x.2.2.1 29 2 = nI v) (q2 : x.2.2.1 29 1 = nI p) (a : Int32) : ∃ c w b, L_X8_finds_103 1000 a 0 (-9) 0 x = some (a, nI (fb_ct (hom x v p m) 36), c, w, am_sA x 38 b) ∧ ((∃ j, j < 36 ∧ hom x v p m j = true ∧ (∀ i, i < j → hom x v p m i = false) ∧ c = nI j) ∨ ((∀ q, q < 36 → hom x v p m q = false) ∧ c = -9)) := by
  have n12 := R.1
  obtain ⟨r, hF, c, w, b, rfl, hc⟩ := am_for (fun n' i (s : Nat × Int32 × (Nat → Int32)) => L_X8_finds_103 n' a (nI s.1) s.2.1 (nI i) (am_sA x 38 s.2.2)) 36
    (fun i s => s.1 = fb_ct (hom x v p m) i ∧ ((∃ j, j < i ∧ hom x v p m j = true ∧ (∀ i, i < j → hom x v p m i = false) ∧ s.2.1 = nI j) ∨ ((∀ q, q < i → hom x v p m q = false) ∧ s.2.1 = -9)))
    (fun r => ∃ c w b, r = (a, nI (fb_ct (hom x v p m) 36), c, w, am_sA x 38 b) ∧ ((∃ j, j < 36 ∧ hom x v p m j = true ∧ (∀ i, i < j → hom x v p m i = false) ∧ c = nI j) ∨ ((∀ q, q < 36 → hom x v p m q = false) ∧ c = -9)))
    (fun n' i s hi hp => Or.inl (by
      obtain ⟨k, c, b⟩ := s
      obtain ⟨hk, hc⟩ := hp
      dsimp only at hk hc ⊢
      have h1 : ¬ (36 : Int32) ≤ nI i := nI_ge (b := 36) hi (by decide)
      have keep : hom x v p m i = false → k = fb_ct (hom x v p m) (i + 1) ∧ ((∃ j, j < i + 1 ∧ hom x v p m j = true ∧ (∀ i, i < j → hom x v p m i = false) ∧ c = nI j) ∨ ((∀ q, q < i + 1 → hom x v p m q = false) ∧ c = -9)) := by
        intro e
        refine ⟨by rw [fb_ct_succ, e, hk]; simp, ?_⟩
        rcases hc with ⟨j, h1, h2⟩ | ⟨h1, h2⟩
        · exact Or.inl ⟨j, by omega, h2⟩
        · refine Or.inr ⟨fun q hq => ?_, h2⟩
          by_cases eq : q = i
          · subst eq; exact e
          · exact h1 q (by omega)
      by_cases o : x.2.2.1 29 (20 + i) = 1
      · refine ⟨(k, c, b), keep ?_, ?_⟩
        · unfold hom; rw [(kd1 x i).mpr o]; rfl
        · dsimp only
          rw [L_X8_finds_103, if_neg h1, ko hi]; dsimp only
          rw [if_pos (show (am_sA x 38 b).2.2.1 29 (20 + i) = 1 from o), nI_1]
      · obtain ⟨b', hf⟩ := fw_ref (p := p) R hm hs hv v2 q2 hi o b
        have E : L_X8_finds_103 (n' + 1) a (nI k) c (nI i) (am_sA x 38 b) = if ffF (bdN x v p i) m 0 = -9 then (if c = -9 then L_X8_finds_103 n' a (nI (k + 1)) (nI i) (nI (i + 1)) (am_sA x 38 b') else L_X8_finds_103 n' a (nI (k + 1)) c (nI (i + 1)) (am_sA x 38 b')) else L_X8_finds_103 n' a (nI k) c (nI (i + 1)) (am_sA x 38 b') := by
          rw [L_X8_finds_103, if_neg h1, ko hi]; dsimp only
          rw [if_neg (show ¬ (am_sA x 38 b).2.2.1 29 (20 + i) = 1 from o), hf]; dsimp only
          rw [nI_1, nI_1]
        by_cases e : ffF (bdN x v p i) m 0 = -9
        · have eh : hom x v p m i = true := by unfold hom; rw [kd_f (fun c => o ((kd1 x i).mp c)), cd_iff.mpr e]; rfl
          have ek : k + 1 = fb_ct (hom x v p m) (i + 1) := by rw [fb_ct_succ, eh, if_pos rfl, hk]
          rcases hc with ⟨j, h1, h2, h3, rfl⟩ | ⟨h1, rfl⟩
          · refine ⟨(k + 1, nI j, b'), ⟨ek, Or.inl ⟨j, by omega, h2, h3, rfl⟩⟩, ?_⟩
            dsimp only
            have n9 : ¬ nI j = -9 := fun e' => by
              have := congrArg Int32.toInt e'
              rw [nI_toInt (by omega), show (-9 : Int32).toInt = -9 by decide] at this
              omega
            rw [E, if_pos e, if_neg n9]
          · refine ⟨(k + 1, nI i, b'), ⟨ek, Or.inl ⟨i, by omega, eh, h1, rfl⟩⟩, ?_⟩
            dsimp only
            rw [E, if_pos e, if_pos rfl]
        · refine ⟨(k, c, b'), keep ?_, ?_⟩
          · unfold hom; rw [cd_no e, Bool.and_false]
          · dsimp only
            rw [E, if_neg e]))
    (fun n' s hp => by
      obtain ⟨k, c, b⟩ := s
      obtain ⟨hk, hc⟩ := hp
      dsimp only at hk hc ⊢
      subst hk
      exact ⟨_, by rw [L_X8_finds_103, if_pos (by decide)], c, _, b, rfl, hc⟩)
    1000 0 (0, -9, x.2.2.1 38) (by decide) (by decide) ⟨rfl, Or.inr ⟨fun q hq => by omega, rfl⟩⟩
  have hF' : L_X8_finds_103 1000 a 0 (-9) 0 (am_sA x 38 (x.2.2.1 38)) = some (a, nI (fb_ct (hom x v p m) 36), c, w, am_sA x 38 b) := hF
  rw [am_sA_self] at hF'
  exact ⟨c, w, b, hF', hc⟩
end
theorem par_n {n : Nat} (h : n ≤ 12) : nI n - nI n / 2 * 2 = 0 ↔ n % 2 = 0 := by
  have : ∀ n, n ≤ 12 → (nI n - nI n / 2 * 2 = 0 ↔ n % 2 = 0) := by decide +kernel
  exact this n h
theorem r8_3 (x : am_X) : am_r8 3 x = am_r8 3 x := rfl
theorem ok_finds (a : Int32) : am_ok (G_X7_finds a) (G_X8_finds a) := by
  intro x hI
  by_cases a0 : a < 0
  · refine ⟨-2, am_r7 2 x, am_r8 2 (am_r7 2 x), ?_, ?_, r78 (j := 2) hI⟩
    · unfold G_X7_finds; rw [if_pos a0, c2]
    · unfold G_X8_finds; rw [if_pos a0, n2]
  by_cases a2 : a ≤ 2
  case neg =>
    refine ⟨-2, am_r7 2 x, am_r8 2 (am_r7 2 x), ?_, ?_, r78 (j := 2) hI⟩
    · unfold G_X7_finds; rw [if_neg a0, if_neg a2, c2]
    · unfold G_X8_finds; rw [if_neg a0, if_neg a2, n2]
  obtain ⟨n, R⟩ := row_n hI
  have r1 := R.2.1
  have r2 := R.2.2.1
  obtain ⟨h, hh, e1, e2, e3⟩ := hI.g.home
  obtain ⟨v, hv, v1, v2⟩ := hI.g.warm
  obtain ⟨p, p1, p9, q1, q2⟩ := hI.g.pace
  by_cases ev : n % 2 = 0
  · obtain ⟨m, hm⟩ : ∃ m, n = 2 * m := ⟨n / 2, by omega⟩
    have ep : nI n - nI n / 2 * 2 = 0 := (par_n R.1).mpr ev
    have rt := rts_ok R (d := 2) (Or.inr rfl) hm
    have rt' : G_X7_rowTellsSquares (2 : Int32) x = _ := rt
    by_cases c : ∀ k, k < m → rowv x (2 * k) < 36
    · by_cases b0 : a = 0
      · obtain ⟨y, k, hf⟩ := fw_class hI R hm c hv v1 q1 hh (am_kp.rfl (x := x))
        have hI1 := hI.kp k
        have en := kp_now k
        have R' : rowp y n := by
          refine ⟨R.1, (k.i 513 (by decide)).trans r1, (k.i 885 (by decide)).trans r2, fun i hi => ?_⟩
          unfold rowv
          rw [k.a 17 (by decide), k.a 42 (by decide)]
          exact R.2.2.2 i hi
        have er : rowv y = rowv x := by funext i; unfold rowv; rw [k.a 42 (by decide)]
        have c' : ∀ k, k < m → rowv y (2 * k) < 36 := by rw [er]; exact c
        obtain ⟨b, hg⟩ := fw_ref (p := p) R' hm c' hv (by rw [en]; exact v2) (by rw [en]; exact q2) hh (by rw [en]; exact e3) (y.2.2.1 38)
        rw [am_sA_self] at hg
        have eb : bdN y v p h = bdN x v p h := by
          funext i
          unfold bdN
          rw [kp_rc k, er]
          have : atN y h i = atN x h i := by cases i <;> simp [atN, er]
          have : miN y i = miN x i := by cases i <;> simp [miN, er]
          simp [*]
        rw [eb] at hg
        obtain ⟨w, h33⟩ := f33_even R' hm a
        refine ⟨ffF (bdN x v p h) m 0, y, am_sA y 38 b, ?_, ?_, hI1.kp (am_kp.sA (by decide))⟩
        · unfold G_X7_finds
          rw [if_neg a0, if_pos a2, r1, if_pos ep, rt']; dsimp only
          rw [cd_iff.mpr c, if_neg (by decide), if_pos b0, e1, hf]
        · unfold G_X8_finds
          rw [if_neg a0, if_pos a2, (k.i 885 (by decide)).trans r2, if_pos ep, h33]; dsimp only
          rw [cd_iff.mpr c', if_neg (by decide), if_pos b0, en, e2, hg]
      · obtain ⟨w, y, k, hf, hW⟩ := ht_class hI R hm c hv v1 q1
        have hI1 := hI.kp k
        have en := kp_now k
        have R' : rowp y n := by
          refine ⟨R.1, (k.i 513 (by decide)).trans r1, (k.i 885 (by decide)).trans r2, fun i hi => ?_⟩
          unfold rowv
          rw [k.a 17 (by decide), k.a 42 (by decide)]
          exact R.2.2.2 i hi
        have er : rowv y = rowv x := by funext i; unfold rowv; rw [k.a 42 (by decide)]
        have c' : ∀ k, k < m → rowv y (2 * k) < 36 := by rw [er]; exact c
        obtain ⟨c1, w1, b, hg, hc⟩ := f103_ok (p := p) R' hm c' hv (by rw [en]; exact v2) (by rw [en]; exact q2) a
        have eb : ∀ h, bdN y v p h = bdN x v p h := by
          intro h
          funext i
          unfold bdN
          rw [kp_rc k, er]
          have : atN y h i = atN x h i := by cases i <;> simp [atN, er]
          have : miN y i = miN x i := by cases i <;> simp [miN, er]
          simp [*]
        have eh : hom y v p m = hom x v p m := by
          funext q
          unfold hom
          rw [eb, en]
        rw [eh] at hg hc
        obtain ⟨w2, h33⟩ := f33_even R' hm a
        have el : am_least w = c1 := by
          rcases hc with ⟨j, hj, hp, hf', rfl⟩ | ⟨hz, rfl⟩
          · exact hW.least hj hp hf'
          · exact hW.least0 hz
        refine ⟨if a = 1 then am_bc w else am_least w, y, am_sA y 38 b, ?_, ?_, hI1.kp (am_kp.sA (by decide))⟩
        · unfold G_X7_finds
          rw [if_neg a0, if_pos a2, r1, if_pos ep, rt']; dsimp only
          rw [cd_iff.mpr c, if_neg (by decide), if_neg b0, hf]; dsimp only
          split <;> rfl
        · unfold G_X8_finds
          rw [if_neg a0, if_pos a2, (k.i 885 (by decide)).trans r2, if_pos ep, h33]; dsimp only
          rw [cd_iff.mpr c', if_neg (by decide), if_neg b0, hg]; dsimp only
          rw [hW.bc, el]
          split <;> rfl
    · obtain ⟨w, h33⟩ := f33_even (x := am_r7 3 x) R hm a
      refine ⟨-3, am_r7 3 x, am_r8 3 (am_r7 3 x), ?_, ?_, r78 (j := 3) hI⟩
      · unfold G_X7_finds
        rw [if_neg a0, if_pos a2, r1, if_pos ep, rt']; dsimp only
        rw [cd_no c, if_pos (by decide), c3]
      · unfold G_X8_finds
        rw [if_neg a0, if_pos a2, show (am_r7 3 x).1 885 = nI n from r2, if_pos ep, h33]; dsimp only
        rw [show cd (∀ k, k < m → rowv (am_r7 3 x) (2 * k) < 36) = false from cd_no c, if_pos (by decide), n3]
  · obtain ⟨m, hm⟩ : ∃ m, n = 2 * m + 1 := ⟨n / 2, by omega⟩
    have ep : ¬ nI n - nI n / 2 * 2 = 0 := fun e => ev ((par_n R.1).mp e)
    obtain ⟨w, h33⟩ := f33_odd (x := am_r7 3 x) R hm a
    refine ⟨-3, am_r7 3 x, am_r8 3 (am_r7 3 x), ?_, ?_, r78 (j := 3) hI⟩
    · unfold G_X7_finds
      rw [if_neg a0, if_pos a2, r1, if_neg ep, c3]
    · unfold G_X8_finds
      rw [if_neg a0, if_pos a2, show (am_r7 3 x).1 885 = nI n from r2, if_neg ep, h33]; dsimp only
      rw [if_pos rfl, n3]
