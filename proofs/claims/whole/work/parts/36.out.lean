/-! the least cost of a set of squares; OUT -/
theorem wk_cong {ex cb cb' : Nat → Bool} {fo : Nat → Nat} {h q c : Nat} (hh : h < 36) (e : ∀ q, q < 36 → cb q = cb' q) (w : wk ex cb fo h q c) : wk ex cb' fo h q c :=
  wk_ind (P := fun q c => wk ex cb' fo h q c) (fun a => wk_st (by rw [← e h hh]; exact a)) (fun p q c hp hq i n x b => wk_go i hp hq n x (by rw [← e q hq]; exact b)) w
theorem mn_eq {ex cb cb' : Nat → Bool} {fo : Nat → Nat} {h : Nat} (hh : h < 36) (e : ∀ q, q < 36 → cb q = cb' q) : mn ex cb fo h = mn ex cb' fo h := by
  funext q c
  apply propext
  constructor
  · intro m; exact ⟨wk_cong hh e m.1, fun c' w => m.2 c' (wk_cong hh (fun q hq => (e q hq).symm) w)⟩
  · intro m; exact ⟨wk_cong hh (fun q hq => (e q hq).symm) m.1, fun c' w => m.2 c' (wk_cong hh e w)⟩
theorem wk_iff_mn {ex cb : Nat → Bool} {fo : Nat → Nat} {h q : Nat} : (∃ c, wk ex cb fo h q c) ↔ ∃ c, mn ex cb fo h q c := by
  constructor
  · rintro ⟨c, w⟩
    obtain ⟨c', _, m⟩ := wk_mn w
    exact ⟨c', m⟩
  · rintro ⟨c, m⟩
    exact ⟨c, m.1⟩
/-- c is the least cost of R over the set p -/
def lsP (R : Nat → Nat → Prop) (p : Nat → Bool) (c : Nat) : Prop := c ≤ 140 ∧ (∃ q, q < 36 ∧ p q = true ∧ R q c) ∧ ∀ q c', q < 36 → p q = true → R q c' → c ≤ c'
theorem lsP.one {R : Nat → Nat → Prop} {p : Nat → Bool} {c d : Nat} (a : lsP R p c) (b : lsP R p d) : c = d := by
  obtain ⟨_, ⟨q, h1, h2, h3⟩, h4⟩ := a
  obtain ⟨_, ⟨r, k1, k2, k3⟩, k4⟩ := b
  exact Nat.le_antisymm (h4 r d k1 k2 k3) (k4 q c h1 h2 h3)
noncomputable def lsv (R : Nat → Nat → Prop) (p : Nat → Bool) : Nat := @dite _ (∃ c, lsP R p c) (Classical.propDecidable _) (fun h => Classical.choose h) (fun _ => 1000)
theorem lsv_c {R : Nat → Nat → Prop} {p : Nat → Bool} {c : Nat} (h : lsP R p c) : lsv R p = c := by
  have e : ∃ c, lsP R p c := ⟨c, h⟩
  have : lsv R p = Classical.choose e := by unfold lsv; exact dif_pos e
  rw [this]
  exact (Classical.choose_spec e).one h
theorem lsv_0 {R : Nat → Nat → Prop} {p : Nat → Bool} (h : ∀ q c, q < 36 → p q = true → ¬ R q c) : lsv R p = 1000 := by
  have e : ¬ ∃ c, lsP R p c := by
    rintro ⟨c, _, ⟨q, h1, h2, h3⟩, _⟩
    exact h q c h1 h2 h3
  unfold lsv
  exact dif_neg e
/-- what the class finds -/
theorem wv_ls {x : am_X} {M : Nat → Nat → Prop} (hw : wv x M) {S : Int64} {p : Nat → Bool} (hS : abr S p) : (∃ c, lsP M p c ∧ G_X6_stepsTo_18 S x = some (nI c, x) ∧ abr (am_lyr (x.2.2.2 19) (x.1 577) (nI c)) (fun q => cd (M q c))) ∨ ((∀ q c, q < 36 → p q = true → ¬ M q c) ∧ G_X6_stepsTo_18 S x = some (-9, x)) := by
  rcases wv_ind hw hS with ⟨c, h1, h2, h3, h4, h5⟩ | ⟨h1, h2⟩
  · exact Or.inl ⟨c, ⟨h1, h3, h4⟩, h2, h5⟩
  · exact Or.inr ⟨h2, h1⟩
/-- what the reference finds, over the squares below n -/
def lsr (R : Nat → Nat → Prop) (p : Nat → Bool) (n : Nat) (r : Int32) : Prop := (∃ c, c ≤ 140 ∧ r = nI c ∧ (∃ q, q < n ∧ p q = true ∧ R q c) ∧ ∀ q c', q < n → p q = true → R q c' → c ≤ c') ∨ (r = 100000 ∧ ∀ q c, q < n → p q = true → ¬ R q c)
theorem lsr_no {R : Nat → Nat → Prop} {p : Nat → Bool} {n : Nat} {r : Int32} (h : lsr R p n r) (e : p n = false) : lsr R p (n + 1) r := by
  have ne : ∀ q, p q = true → q < n + 1 → q < n := fun q hq l => by
    by_cases eq : q = n
    · subst eq; rw [e] at hq; cases hq
    · omega
  rcases h with ⟨c, h1, h2, ⟨q, h3, h4⟩, h5⟩ | ⟨h1, h2⟩
  · exact Or.inl ⟨c, h1, h2, ⟨q, by omega, h4⟩, fun q c' l hq hr => h5 q c' (ne q hq l) hq hr⟩
  · exact Or.inr ⟨h1, fun q c l hq => h2 q c (ne q hq l) hq⟩
theorem lsr_yes {R : Nat → Nat → Prop} {p : Nat → Bool} {n : Nat} {r fi : Int32} (hu : ∀ q c d, R q c → R q d → c = d) (h : lsr R p n r) (e : p n = true) (hf : (∃ c, c ≤ 140 ∧ fi = nI c ∧ R n c) ∨ (fi = 100000 ∧ ∀ c, ¬ R n c)) : lsr R p (n + 1) (if fi < r then fi else r) := by
  rcases hf with ⟨c, hc, rfl, m⟩ | ⟨rfl, m⟩
  · rcases h with ⟨d, h1, rfl, ⟨q, h3, h4, h5⟩, h6⟩ | ⟨rfl, h2⟩
    · by_cases l : c < d
      · rw [if_pos (nI_lt l (by omega))]
        refine Or.inl ⟨c, hc, rfl, ⟨n, by omega, e, m⟩, fun q' c' l' a b => ?_⟩
        by_cases en : q' = n
        · subst en; rw [hu _ _ _ m b]; exact Nat.le_refl _
        · have := h6 q' c' (by omega) a b; omega
      · rw [if_neg (nI_nlt (by omega) (by omega))]
        refine Or.inl ⟨d, h1, rfl, ⟨q, by omega, h4, h5⟩, fun q' c' l' a b => ?_⟩
        by_cases en : q' = n
        · subst en; have := hu _ _ _ m b; omega
        · exact h6 q' c' (by omega) a b
    · rw [if_pos (show nI c < (100000 : Int32) from nI_lt (b := 100000) (by omega) (by decide))]
      refine Or.inl ⟨c, hc, rfl, ⟨n, by omega, e, m⟩, fun q' c' l' a b => ?_⟩
      by_cases en : q' = n
      · subst en; rw [hu _ _ _ m b]; exact Nat.le_refl _
      · exact absurd b (h2 q' c' (by omega) a)
  · rcases h with ⟨d, h1, rfl, ⟨q, h3, h4, h5⟩, h6⟩ | ⟨rfl, h2⟩
    · rw [if_neg (show ¬ (100000 : Int32) < nI d from nI_nlt (a := 100000) (by omega) (by decide))]
      refine Or.inl ⟨d, h1, rfl, ⟨q, by omega, h4, h5⟩, fun q' c' l' a b => ?_⟩
      by_cases en : q' = n
      · subst en; exact absurd b (m c')
      · exact h6 q' c' (by omega) a b
    · rw [if_neg (by decide)]
      refine Or.inr ⟨rfl, fun q' c' l' a b => ?_⟩
      by_cases en : q' = n
      · subst en; exact m c' b
      · exact h2 q' c' (by omega) a b
theorem kd5 (x : am_X) (q : Nat) : kd (x.2.2.1 29) q 5 = true ↔ x.2.2.1 29 (20 + q) = 5 := kd_iff _ _ _
theorem kd1 (x : am_X) (q : Nat) : kd (x.2.2.1 29) q 1 = true ↔ x.2.2.1 29 (20 + q) = 1 := kd_iff _ _ _
theorem kd2 (x : am_X) (q : Nat) : kd (x.2.2.1 29) q 2 = true ↔ x.2.2.1 29 (20 + q) = 2 := kd_iff _ _ _
theorem kd_f {now : Nat → Int32} {q k : Nat} (h : ¬ kd now q k = true) : kd now q k = false := by
  cases e : kd now q k
  · rfl
  · exact absurd e h
theorem l15_ok {x : am_X} {v h : Nat} (F : fars x v h (x.2.2.1 38)) : ∃ w r, L_X8_minutesOut_15 1000 100000 0 x = some (r, w, x) ∧ lsr (rc x v h) (fun q => kd (x.2.2.1 29) q 5) 36 r := by
  obtain ⟨r, hF, w, s, rfl, hs⟩ := am_for (fun n i (s : Int32) => L_X8_minutesOut_15 n s (nI i) x) 36 (fun i s => lsr (rc x v h) (fun q => kd (x.2.2.1 29) q 5) i s) (fun r => ∃ w s, r = (s, w, x) ∧ lsr (rc x v h) (fun q => kd (x.2.2.1 29) q 5) 36 s)
    (fun n i s hi hp => Or.inl (by
      have h1 : ¬ (36 : Int32) ≤ nI i := nI_ge (b := 36) hi (by decide)
      by_cases e : x.2.2.1 29 (20 + i) = 5
      · refine ⟨_, lsr_yes (fun q c d a b => mn_uniq a b) hp ((kd5 x i).mpr e) (F i hi), ?_⟩
        rw [L_X8_minutesOut_15, if_neg h1, ko hi]; dsimp only
        rw [if_pos e, if_pos (ns_e hi), nI_clamp (by omega), nI_1]
      · refine ⟨s, lsr_no hp (kd_f (fun c => e ((kd5 x i).mp c))), ?_⟩
        rw [L_X8_minutesOut_15, if_neg h1, ko hi]; dsimp only
        rw [if_neg e, nI_1]))
    (fun n s hp => ⟨_, by rw [L_X8_minutesOut_15, if_pos (by decide)], _, _, rfl, hp⟩)
    1000 0 100000 (by decide) (by decide) (Or.inr ⟨rfl, fun q c h => by omega⟩)
  exact ⟨w, s, hF, hs⟩
theorem mo_ok {x : am_X} {v h : Nat} (hv : v ≤ 9) (ev : x.2.2.1 29 2 = nI v) (hh : h < 36) (e2 : x.2.2.1 29 0 = nI h) (nh : ¬ x.2.2.1 29 (20 + h) = 1) : ∃ f, fars x v h f ∧ ((∃ c, lsP (rc x v h) (fun q => kd (x.2.2.1 29) q 5) c ∧ G_X8_minutesOut x = some (nI c, am_sA x 38 f)) ∨ ((∀ q c, q < 36 → kd (x.2.2.1 29) q 5 = true → ¬ rc x v h q c) ∧ G_X8_minutesOut x = some (100000, am_sA x 38 f))) := by
  obtain ⟨f, hf, F⟩ := from_ok hv ev hh nh
  obtain ⟨w, r, hr, L⟩ := l15_ok (x := am_sA x 38 f) (v := v) (h := h) F
  have hG : G_X8_minutesOut x = some (r, am_sA x 38 f) := by
    unfold G_X8_minutesOut
    rw [e2, hf]; dsimp only
    rw [hr]
  refine ⟨f, F, ?_⟩
  rcases L with ⟨c, h1, rfl, h3, h4⟩ | ⟨rfl, h2⟩
  · exact Or.inl ⟨c, ⟨h1, h3, h4⟩, hG⟩
  · exact Or.inr ⟨h2, hG⟩
theorem l32_ok {x : am_X} {a : Int32} {c j : Nat} (hj : j < 36) (hp : x.2.2.1 29 (20 + j) = 5 ∧ x.2.2.1 38 j = nI c) (hf : ∀ i, i < j → ¬ (x.2.2.1 29 (20 + i) = 5 ∧ x.2.2.1 38 i = nI c)) : L_X8_out_32 1000 a (nI c) 0 x = some (a, nI c, nI j, x) := by
  obtain ⟨r, hF, rfl⟩ := am_for (fun n i (_ : Unit) => L_X8_out_32 n a (nI c) (nI i) x) j (fun _ _ => True) (fun r => r = (a, nI c, nI j, x))
    (fun n i s hi _ => Or.inl ⟨(), trivial, by
      have i36 : i < 36 := by omega
      rw [L_X8_out_32, ko i36]; dsimp only
      by_cases e : x.2.2.1 29 (20 + i) = 5
      · rw [if_pos e, if_pos (ns_e i36), nI_clamp (by omega), if_neg (fun k => hf i hi ⟨e, k⟩), nI_1]
      · rw [if_neg e, nI_1]⟩)
    (fun n s _ => ⟨_, by rw [L_X8_out_32, ko hj]; dsimp only; rw [if_pos hp.1, if_pos (ns_e hj), nI_clamp (by omega), if_pos hp.2], rfl⟩)
    1000 0 () (by omega) (by omega) trivial
  exact hF
theorem nI_mp {c : Nat} (h : c < 2 ^ 31) : (0 : Int32) ≤ nI c := nI_pos' h
theorem ok_out (a : Int32) : am_ok (G_X7_out a) (G_X8_out a) := by
  intro x hI
  obtain ⟨h, hh, e1, e2, e3⟩ := hI.g.home
  obtain ⟨v, hv, v1, v2⟩ := hI.g.warm
  obtain ⟨p, p1, p9, q1, q2⟩ := hI.g.pace
  have W := wave0 hI hh hv v1
  have hI1 := hI.kp (spx_kp x (nI h) 0)
  obtain ⟨f, F, M⟩ := mo_ok (x := am_spx x (nI h) 0) hv v2 hh e2 e3
  have hI2 : am_Iv (am_sA (am_spx x (nI h) 0) 38 f) := hI1.kp (am_kp.sA (by decide))
  have hS : abr (am_sqo ((am_spx x (nI h) 0).2.2.2 2) 5) (fun q => kd ((am_spx x (nI h) 0).2.2.1 29) q 5) := hI1.g.road
  have hW := wv_ls W hS
  have neg9 : ¬ (0 : Int32) ≤ -9 := by decide
  unfold G_X7_out G_X8_out
  by_cases a0 : a = 0
  · subst a0
    rw [if_pos rfl, e1]
    rcases hW with ⟨c, l, g, hl⟩ | ⟨l, g⟩
    · rcases M with ⟨c', l', m⟩ | ⟨l', m⟩
      · have := l.one l'
        subst this
        obtain ⟨c140, ⟨q0, hq0, hk0, hr0⟩, hmin⟩ := l
        have hex : ∃ j, j < 36 ∧ (am_spx x (nI h) 0).2.2.1 29 (20 + j) = 5 ∧ f j = nI c := by
          rcases F q0 hq0 with ⟨d, hd, fd, md⟩ | ⟨_, n⟩
          · exact ⟨q0, hq0, (kd5 _ q0).mp hk0, by rw [fd, mn_uniq md hr0]⟩
          · exact absurd hr0 (n c)
        obtain ⟨j, hj, hp, hf⟩ := fb_first (p := fun j => (am_spx x (nI h) 0).2.2.1 29 (20 + j) = 5 ∧ f j = nI c) hex
        refine ⟨nI c * nI p, am_spx x (nI h) 0, am_sA (am_spx x (nI h) 0) 38 f, ?_, ?_, hI2⟩
        · rw [g]; dsimp only
          rw [if_pos (nI_mp (by omega)), if_pos rfl, show (am_spx x (nI h) 0).1 37 = nI p from q1]
        · rw [if_pos rfl, m]; dsimp only
          rw [if_neg (nI_far c140), l32_ok (x := am_sA (am_spx x (nI h) 0) 38 f) hj hp hf]; dsimp only
          rw [if_pos rfl, show (am_sA (am_spx x (nI h) 0) 38 f).2.2.1 29 1 = nI p from q2]
      · obtain ⟨c140, ⟨q0, hq0, hk0, hr0⟩, hmin⟩ := l
        exact absurd hr0 (l' q0 c hq0 hk0)
    · rcases M with ⟨c', ⟨c140, ⟨q0, hq0, hk0, hr0⟩, hmin⟩, m⟩ | ⟨l', m⟩
      · exact absurd hr0 (l q0 c' hq0 hk0)
      · refine ⟨-9, am_spx x (nI h) 0, am_sA (am_spx x (nI h) 0) 38 f, ?_, ?_, hI2⟩
        · rw [g]; dsimp only
          rw [if_neg neg9]
        · rw [if_pos rfl, m]; dsimp only
          rw [if_pos rfl]
  by_cases a1 : a = 1
  · subst a1
    rw [if_neg a0, if_pos rfl, e1]
    rcases hW with ⟨c, l, g, hl⟩ | ⟨l, g⟩
    · rcases M with ⟨c', l', m⟩ | ⟨l', m⟩
      · have := l.one l'
        subst this
        obtain ⟨c140, ⟨q0, hq0, hk0, hr0⟩, hmin⟩ := l
        have hA := hl.and hS
        have key : ∀ q, q < 36 → ((cd (rc x v h q c) && kd ((am_spx x (nI h) 0).2.2.1 29) q 5) = true ↔ ((am_spx x (nI h) 0).2.2.1 29 (20 + q) = 5 ∧ f q = nI c)) := by
          intro q hq
          rw [Bool.and_eq_true, cd_iff, kd5]
          constructor
          · rintro ⟨a, b⟩
            refine ⟨b, ?_⟩
            rcases F q hq with ⟨d, hd, fd, md⟩ | ⟨_, n⟩
            · rw [fd, mn_uniq md a]
            · exact absurd a (n c)
          · rintro ⟨a, b⟩
            refine ⟨?_, a⟩
            rcases F q hq with ⟨d, hd, fd, md⟩ | ⟨fd, _⟩
            · have : d = c := (nI_eq (by omega) (by omega)).mp (fd.symm.trans b)
              rw [← this]; exact md
            · exact absurd (b.symm.trans fd) (nI_far c140)
        rcases am_least_cases hA with ⟨j, hj, hp, hf, el⟩ | ⟨hz, _⟩
        · refine ⟨nI j, am_spx x (nI h) 0, am_sA (am_spx x (nI h) 0) 38 f, ?_, ?_, hI2⟩
          · rw [g]; dsimp only
            rw [if_pos (nI_mp (by omega)), if_neg a0, el]
          · rw [if_neg a0, if_pos rfl, m]; dsimp only
            rw [if_neg (nI_far c140), l32_ok (x := am_sA (am_spx x (nI h) 0) 38 f) hj ((key j hj).mp hp) (fun i hi k => by
              have := (key i (by omega)).mpr k
              rw [hf i hi] at this
              cases this)]; dsimp only
            rw [if_neg a0]
        · have := hz q0 hq0
          rw [Bool.and_eq_false_iff] at this
          rcases this with e | e
          · rw [cd_iff.mpr (show rc x v h q0 c from hr0)] at e; cases e
          · exact absurd (hk0.symm.trans e) (by decide)
      · obtain ⟨c140, ⟨q0, hq0, hk0, hr0⟩, hmin⟩ := l
        exact absurd hr0 (l' q0 c hq0 hk0)
    · rcases M with ⟨c', ⟨c140, ⟨q0, hq0, hk0, hr0⟩, hmin⟩, m⟩ | ⟨l', m⟩
      · exact absurd hr0 (l q0 c' hq0 hk0)
      · refine ⟨-9, am_spx x (nI h) 0, am_sA (am_spx x (nI h) 0) 38 f, ?_, ?_, hI2⟩
        · rw [g]; dsimp only
          rw [if_neg neg9]
        · rw [if_neg a0, if_pos rfl, m]; dsimp only
          rw [if_pos rfl]
  · exact ⟨_, _, _, by rw [if_neg a0, if_neg a1, c2], by rw [if_neg a0, if_neg a1, n2], r78 (j := 2) hI⟩
