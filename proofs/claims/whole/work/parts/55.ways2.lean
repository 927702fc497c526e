/-! WAYS by the reference; ways, likely, likeliest -/
theorem bsd_inj : ∀ q, q < 36 → ∀ w, w < 4 → ∀ v, v < 4 → (bsd q w ≠ bsd q v ∨ bsd q w = 99 ∨ w = v) := by decide +kernel
section
variable {x : am_X}
def wr (x : am_X) (f g : Nat → Int64) : am_X := am_sB (am_sB x 43 f) 44 g
theorem wr_44 (f g g' : Nat → Int64) : am_sB (wr x f g) 44 g' = wr x f g' := by unfold wr; rw [am_sBB]
theorem wr_43 (f g f' : Nat → Int64) : am_sB (wr x f g) 43 f' = wr x f' g := by unfold wr; rw [am_sBc (show (44 : Nat) ≠ 43 by decide), am_sBB]
theorem wr_self : wr x (x.2.2.2 43) (x.2.2.2 44) = x := by
  show am_sB (am_sB x 43 (x.2.2.2 43)) 44 ((am_sB x 43 (x.2.2.2 43)).2.2.2 44) = x
  rw [am_sB_self, am_sB_self]
theorem wr_kp (f g : Nat → Int64) : am_kp x (wr x f g) := (am_kp.sB (by decide)).trans (am_kp.sB (by decide))
noncomputable def eN (now : Nat → Int32) (w : Nat → Nat) (i j q : Nat) : Nat := if cd (∃ v, v < j ∧ v < 4 ∧ bsd i v = q ∧ kd now i 5 = false ∧ kd now q 1 = false) = true then w i else 0
theorem eN_end (now : Nat → Int32) (w : Nat → Nat) {i j q : Nat} (hi : i < 36) (hq : q < 36) (h : j = 4 ∨ kd now i 5 = true) : eN now w i j q = gW now w q i := by
  unfold eN gW
  by_cases c : ab_nb q i = true ∧ kd now i 5 = false ∧ kd now q 1 = false
  · rw [if_pos c]
    rcases h with rfl | k
    · obtain ⟨v, hv, b⟩ := bsd_of hi hq (by rw [ab_nb_sym]; exact c.1)
      rw [if_pos (cd_iff.mpr ⟨v, hv, hv, b, c.2⟩)]
    · rw [k] at c; cases c.2.1
  · rw [if_neg c, if_neg]
    intro e
    obtain ⟨v, _, hv, b, k⟩ := cd_iff.mp e
    have := (bsd_lt i hi v hv (by omega)).2
    rw [b, ab_nb_sym] at this
    exact c ⟨this, k⟩
theorem w79_ok (h0 : ∀ q, q < 36 → x.2.2.1 37 q = 0) {w : Nat → Nat} {f : Nat → Int64} (hf : ∀ q, q < 36 → f q = lN (w q)) (u1 u2 : Int32) {i : Nat} (hi : i < 36) {g0 : Nat → Int64} (hg0 : ∀ q, q < 36 → g0 q = lN (w q + fb_sm (gW (x.2.2.1 29) w q) i)) : ∃ u g, L_X8_waysOf_79 1000 u1 u2 (nI i) 0 (wr x f g0) = some (u1, u2, nI i, u, wr x f g) ∧ ∀ q, q < 36 → g q = lN (w q + fb_sm (gW (x.2.2.1 29) w q) (i + 1)) := by
  have fin : ∀ (j : Nat) (g : Nat → Int64), (j = 4 ∨ kd (x.2.2.1 29) i 5 = true) → (∀ q, q < 36 → g q = lN (w q + fb_sm (gW (x.2.2.1 29) w q) i + eN (x.2.2.1 29) w i j q)) → ∀ q, q < 36 → g q = lN (w q + fb_sm (gW (x.2.2.1 29) w q) (i + 1)) := by
    intro j g h hg q hq
    rw [hg q hq, eN_end _ _ hi hq h, fb_sm_succ, Nat.add_assoc]
  have H := am_for (fun n j (g : Nat → Int64) => L_X8_waysOf_79 n u1 u2 (nI i) (nI j) (wr x f g)) 4 (fun j g => ∀ q, q < 36 → g q = lN (w q + fb_sm (gW (x.2.2.1 29) w q) i + eN (x.2.2.1 29) w i j q))
    (fun r => ∃ u g, r = (u1, u2, nI i, u, wr x f g) ∧ ∀ q, q < 36 → g q = lN (w q + fb_sm (gW (x.2.2.1 29) w q) (i + 1)))
    (fun n j g hj hg => by
      have h1 : ¬ (4 : Int32) ≤ nI j := nI_ge (b := 4) hj (by decide)
      rw [L_X8_waysOf_79, if_neg h1, ko hi]; dsimp only
      by_cases k5 : x.2.2.1 29 (20 + i) = 5
      · rw [if_pos (show (wr x f g).2.2.1 29 (20 + i) = 5 from k5)]
        exact Or.inr ⟨_, rfl, _, g, rfl, fin j g (Or.inr ((kd5 x i).mpr k5)) hg⟩
      · have k5' : kd (x.2.2.1 29) i 5 = false := kd_f (fun c => k5 ((kd5 x i).mp c))
        rw [if_neg (show ¬ (wr x f g).2.2.1 29 (20 + i) = 5 from k5), bs_ok]; dsimp only
        rw [bsE_n i hi j hj]
        have same : ∀ q, q < 36 → ¬ (bsd i j = q ∧ kd (x.2.2.1 29) q 1 = false) → eN (x.2.2.1 29) w i j q = eN (x.2.2.1 29) w i (j + 1) q := by
          intro q hq c
          unfold eN
          have : (∃ v, v < j ∧ v < 4 ∧ bsd i v = q ∧ kd (x.2.2.1 29) i 5 = false ∧ kd (x.2.2.1 29) q 1 = false) = (∃ v, v < j + 1 ∧ v < 4 ∧ bsd i v = q ∧ kd (x.2.2.1 29) i 5 = false ∧ kd (x.2.2.1 29) q 1 = false) := by
            apply propext
            constructor
            · rintro ⟨v, a, b⟩; exact ⟨v, by omega, b⟩
            · rintro ⟨v, a, a4, b, k, l⟩
              by_cases e : v = j
              · subst e; exact absurd ⟨b, l⟩ c
              · exact ⟨v, by omega, a4, b, k, l⟩
          rw [this]
        rcases bsd_99 i hi j hj with l | l
        · rw [if_neg (show ¬ bsd i j = 99 by omega), if_neg (n9 (by omega)), cb_n (x := wr x f g) h0 l]; dsimp only
          rw [show (wr x f g).2.2.1 29 = x.2.2.1 29 from rfl]
          cases k1 : kd (x.2.2.1 29) (bsd i j) 1
          · rw [if_neg (show ¬ (if false = false then (1 : Int32) else 0) = 0 by decide), if_pos (ns_e l), if_pos (ns_e hi), nI_clamp (by omega), nI_clamp (by omega), nI_1, wr_44, show (wr x f g).2.2.2 43 i = f i from rfl, show (wr x f g).2.2.2 44 = g from rfl]
            refine Or.inl ⟨vp_updL g (bsd i j) (g (bsd i j) + f i), fun q hq => ?_, rfl⟩
            by_cases e : q = bsd i j
            · subst e
              have a1 : eN (x.2.2.1 29) w i j (bsd i j) = 0 := by
                unfold eN
                rw [if_neg]
                intro c
                obtain ⟨v, a, a4, b, _⟩ := cd_iff.mp c
                rcases bsd_inj i hi v a4 j hj with d | d | d
                · exact d b
                · omega
                · omega
              have a2 : eN (x.2.2.1 29) w i (j + 1) (bsd i j) = w i := by
                unfold eN
                rw [if_pos (cd_iff.mpr ⟨j, by omega, hj, rfl, k5', k1⟩)]
              rw [uL_eq, hg _ hq, hf i hi, lN_add, a1, a2, Nat.add_zero]
            · rw [uL_ne _ _ e, hg q hq, same q hq (fun c => e c.1.symm)]
          · rw [if_pos (show (if true = false then (1 : Int32) else 0) = 0 by decide), nI_1]
            refine Or.inl ⟨g, fun q hq => ?_, rfl⟩
            rw [hg q hq, same q hq (fun c => by
              rw [← c.1, k1] at c
              cases c.2)]
        · rw [if_pos l, if_pos rfl, nI_1]
          refine Or.inl ⟨g, fun q hq => ?_, rfl⟩
          rw [hg q hq, same q hq (fun c => by omega)])
    (fun n g hg => ⟨_, by rw [L_X8_waysOf_79, if_pos (by decide)], _, g, rfl, fin 4 g (Or.inl rfl) hg⟩)
    1000 0 g0 (by decide) (by decide) (fun q hq => by
      rw [hg0 q hq]
      have : eN (x.2.2.1 29) w i 0 q = 0 := by
        unfold eN
        rw [if_neg]
        intro c
        obtain ⟨v, a, _⟩ := cd_iff.mp c
        omega
      rw [this, Nat.add_zero])
  obtain ⟨r, hF, u, g, rfl, hg⟩ := H
  exact ⟨u, g, hF, hg⟩
theorem w70_ok (h0 : ∀ q, q < 36 → x.2.2.1 37 q = 0) {w : Nat → Nat} {f g0 : Nat → Int64} (hf : ∀ q, q < 36 → f q = lN (w q)) (u1 u2 : Int32) (hg0 : ∀ q, q < 36 → g0 q = lN (w q)) : ∃ u g, L_X8_waysOf_70 1000 u1 u2 0 (wr x f g0) = some (u1, u2, u, wr x f g) ∧ ∀ q, q < 36 → g q = lN (nwN (x.2.2.1 29) w q) := by
  have H := am_for (fun n i (g : Nat → Int64) => L_X8_waysOf_70 n u1 u2 (nI i) (wr x f g)) 36 (fun i g => ∀ q, q < 36 → g q = lN (w q + fb_sm (gW (x.2.2.1 29) w q) i))
    (fun r => ∃ u g, r = (u1, u2, u, wr x f g) ∧ ∀ q, q < 36 → g q = lN (nwN (x.2.2.1 29) w q))
    (fun n i g hi hg => by
      have h1 : ¬ (36 : Int32) ≤ nI i := nI_ge (b := 36) hi (by decide)
      obtain ⟨u, g', h79, hg'⟩ := w79_ok h0 hf u1 u2 hi hg
      exact Or.inl ⟨g', hg', by rw [L_X8_waysOf_70, if_neg h1, h79]; dsimp only; rw [nI_1]⟩)
    (fun n g hg => ⟨_, by rw [L_X8_waysOf_70, if_pos (by decide)], _, g, rfl, hg⟩)
    1000 0 g0 (by decide) (by decide) (fun q hq => by rw [hg0 q hq]; rfl)
  obtain ⟨r, hF, u, g, rfl, hg⟩ := H
  exact ⟨u, g, hF, hg⟩
theorem w44_ok {w : Nat → Nat} {f : Nat → Int64} (hf : ∀ q, q < 36 → f q = lN (w q)) (u1 u2 : Int32) (g0 : Nat → Int64) : ∃ u g, L_X8_waysOf_44 1000 u1 u2 0 (wr x f g0) = some (u1, u2, u, wr x f g) ∧ ∀ q, q < 36 → g q = lN (w q) := by
  have H := am_for (fun n i (g : Nat → Int64) => L_X8_waysOf_44 n u1 u2 (nI i) (wr x f g)) 36 (fun i g => ∀ q, q < i → g q = lN (w q))
    (fun r => ∃ u g, r = (u1, u2, u, wr x f g) ∧ ∀ q, q < 36 → g q = lN (w q))
    (fun n i g hi hg => by
      have h1 : ¬ (36 : Int32) ≤ nI i := nI_ge (b := 36) hi (by decide)
      refine Or.inl ⟨vp_updL g i (lN (w i)), fun q hq => ?_, ?_⟩
      · by_cases e : q = i
        · subst e; rw [uL_eq]
        · rw [uL_ne _ _ e]; exact hg q (by omega)
      · rw [L_X8_waysOf_44, if_neg h1, if_pos (ns_e hi), nI_clamp (by omega), nI_1, wr_44, show (wr x f g).2.2.2 43 i = lN (w i) from hf i hi]
        rfl)
    (fun n g hg => ⟨_, by rw [L_X8_waysOf_44, if_pos (by decide)], _, g, rfl, hg⟩)
    1000 0 g0 (by decide) (by decide) (fun q hq => by omega)
  obtain ⟨r, hF, u, g, rfl, hg⟩ := H
  exact ⟨u, g, hF, hg⟩
theorem w148_ok {w : Nat → Nat} {g : Nat → Int64} (hg : ∀ q, q < 36 → g q = lN (w q)) (u1 u2 : Int32) (f0 : Nat → Int64) : ∃ u f, L_X8_waysOf_148 1000 u1 u2 0 (wr x f0 g) = some (u1, u2, u, wr x f g) ∧ ∀ q, q < 36 → f q = lN (w q) := by
  have H := am_for (fun n i (f : Nat → Int64) => L_X8_waysOf_148 n u1 u2 (nI i) (wr x f g)) 36 (fun i f => ∀ q, q < i → f q = lN (w q))
    (fun r => ∃ u f, r = (u1, u2, u, wr x f g) ∧ ∀ q, q < 36 → f q = lN (w q))
    (fun n i f hi hf => by
      have h1 : ¬ (36 : Int32) ≤ nI i := nI_ge (b := 36) hi (by decide)
      refine Or.inl ⟨vp_updL f i (lN (w i)), fun q hq => ?_, ?_⟩
      · by_cases e : q = i
        · subst e; rw [uL_eq]
        · rw [uL_ne _ _ e]; exact hf q (by omega)
      · rw [L_X8_waysOf_148, if_neg h1, if_pos (ns_e hi), nI_clamp (by omega), nI_1, wr_43, show (wr x f g).2.2.2 44 i = lN (w i) from hg i hi]
        rfl)
    (fun n f hf => ⟨_, by rw [L_X8_waysOf_148, if_pos (by decide)], _, f, rfl, hf⟩)
    1000 0 f0 (by decide) (by decide) (fun q hq => by omega)
  obtain ⟨r, hF, u, f, rfl, hf⟩ := H
  exact ⟨u, f, hF, hf⟩
theorem w37_ok (h0 : ∀ q, q < 36 → x.2.2.1 37 q = 0) {h m : Nat} (hm : m ≤ 20) {f0 g0 : Nat → Int64} (hf0 : ∀ q, q < 36 → f0 q = lN (wyN (x.2.2.1 29) h 0 q)) : ∃ u f g, L_X8_waysOf_37 1000 (nI m) 0 (wr x f0 g0) = some (nI m, u, wr x f g) ∧ ∀ q, q < 36 → f q = lN (wyN (x.2.2.1 29) h m q) := by
  have H := am_for (fun n i (s : (Nat → Int64) × (Nat → Int64)) => L_X8_waysOf_37 n (nI m) (nI i) (wr x s.1 s.2)) m (fun i s => ∀ q, q < 36 → s.1 q = lN (wyN (x.2.2.1 29) h i q))
    (fun r => ∃ u f g, r = (nI m, u, wr x f g) ∧ ∀ q, q < 36 → f q = lN (wyN (x.2.2.1 29) h m q))
    (fun n i s hi hf => by
      have h1 : ¬ nI m ≤ nI i := nI_ge hi (by omega)
      obtain ⟨u1, g1, a1, b1⟩ := w44_ok (x := x) hf (nI m) (nI i) s.2
      obtain ⟨u2, g2, a2, b2⟩ := w70_ok (x := x) h0 hf (nI m) (nI i) b1
      obtain ⟨u3, f3, a3, b3⟩ := w148_ok (x := x) b2 (nI m) (nI i) s.1
      refine Or.inl ⟨(f3, g2), b3, ?_⟩
      rw [L_X8_waysOf_37, if_neg h1, a1]; dsimp only
      rw [a2]; dsimp only
      rw [a3]; dsimp only
      rw [nI_1])
    (fun n s hf => ⟨_, by rw [L_X8_waysOf_37, if_pos (by rw [ii_le]; omega)], nI m, s.1, s.2, rfl, hf⟩)
    1000 0 (f0, g0) (by omega) (by omega) hf0
  obtain ⟨r, hF, u, f, g, rfl, hf⟩ := H
  exact ⟨u, f, g, hF, hf⟩
theorem w2_ok {h : Nat} (hh : h < 36) (e2 : x.2.2.1 29 0 = nI h) (u1 : Int32) (f0 g : Nat → Int64) : ∃ u f, L_X8_waysOf_2 1000 u1 0 (wr x f0 g) = some (u1, u, wr x f g) ∧ ∀ q, q < 36 → f q = lN (wyN (x.2.2.1 29) h 0 q) := by
  have H := am_for (fun n i (f : Nat → Int64) => L_X8_waysOf_2 n u1 (nI i) (wr x f g)) 36 (fun i f => ∀ q, q < i → f q = lN (wyN (x.2.2.1 29) h 0 q))
    (fun r => ∃ u f, r = (u1, u, wr x f g) ∧ ∀ q, q < 36 → f q = lN (wyN (x.2.2.1 29) h 0 q))
    (fun n i f hi hf => by
      have h1 : ¬ (36 : Int32) ≤ nI i := nI_ge (b := 36) hi (by decide)
      refine Or.inl ⟨vp_updL f i (lN (wyN (x.2.2.1 29) h 0 i)), fun q hq => ?_, ?_⟩
      · by_cases e : q = i
        · subst e; rw [uL_eq]
        · rw [uL_ne _ _ e]; exact hf q (by omega)
      · rw [L_X8_waysOf_2, if_neg h1, show (wr x f g).2.2.1 29 0 = nI h from e2]
        by_cases e : i = h
        · have : wyN (x.2.2.1 29) h 0 i = 1 := if_pos e
          rw [if_pos (by rw [e]), if_pos (ns_e hi), nI_clamp (by omega), nI_1, wr_43, this]; rfl
        · have : wyN (x.2.2.1 29) h 0 i = 0 := if_neg e
          rw [if_neg (fun c => e ((nI_eq (by omega) (by omega)).mp c)), if_pos (ns_e hi), nI_clamp (by omega), nI_1, wr_43, this]; rfl)
    (fun n f hf => ⟨_, by rw [L_X8_waysOf_2, if_pos (by decide)], _, f, rfl, hf⟩)
    1000 0 f0 (by decide) (by decide) (fun q hq => by omega)
  obtain ⟨r, hF, u, f, rfl, hf⟩ := H
  exact ⟨u, f, hF, hf⟩
theorem w183_ok {w : Nat → Nat} {f g : Nat → Int64} (hf : ∀ q, q < 36 → f q = lN (w q)) : ∃ u, L_X8_waysOf_183 1000 0 0 (wr x f g) = some (lN (fb_sm w 36), u, wr x f g) := by
  have H := am_for (fun n i (a : Nat) => L_X8_waysOf_183 n (lN a) (nI i) (wr x f g)) 36 (fun i a => a = fb_sm w i)
    (fun r => ∃ u, r = (lN (fb_sm w 36), u, wr x f g))
    (fun n i a hi ha => by
      have h1 : ¬ (36 : Int32) ≤ nI i := nI_ge (b := 36) hi (by decide)
      refine Or.inl ⟨fb_sm w (i + 1), rfl, ?_⟩
      rw [L_X8_waysOf_183, if_neg h1, if_pos (ns_e hi), nI_clamp (by omega), nI_1, show (wr x f g).2.2.2 43 i = lN (w i) from hf i hi, lN_add, ha, fb_sm_succ])
    (fun n a ha => ⟨_, by rw [L_X8_waysOf_183, if_pos (by decide)], nI 36, by rw [ha]⟩)
    1000 0 0 (by decide) (by decide) rfl
  obtain ⟨r, hF, u, rfl⟩ := H
  exact ⟨u, hF⟩
theorem wo_ok (h0 : ∀ q, q < 36 → x.2.2.1 37 q = 0) {h m : Nat} (hh : h < 36) (e2 : x.2.2.1 29 0 = nI h) (hm : m ≤ 20) : ∃ f g, G_X8_waysOf (nI m) x = some (lN (fb_sm (wyN (x.2.2.1 29) h m) 36), wr x f g) ∧ ∀ q, q < 36 → f q = lN (wyN (x.2.2.1 29) h m q) := by
  obtain ⟨u1, f1, a1, b1⟩ := w2_ok hh e2 (nI m) (x.2.2.2 43) (x.2.2.2 44)
  rw [wr_self] at a1
  obtain ⟨u2, f2, g2, a2, b2⟩ := w37_ok (x := x) h0 hm (g0 := x.2.2.2 44) b1
  obtain ⟨u3, a3⟩ := w183_ok (x := x) (g := g2) b2
  refine ⟨f2, g2, ?_, b2⟩
  unfold G_X8_waysOf
  rw [a1]; dsimp only
  rw [a2]; dsimp only
  rw [a3]
end
