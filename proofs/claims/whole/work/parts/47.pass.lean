/-! the reference: a look is done; a hunt begins -/
def Pij (now : Nat → Int32) (S : Nat → Bool) (i j q : Nat) : Prop := S q = true ∨ ∃ r w, (r < i ∨ (r = i ∧ w < j)) ∧ w < 4 ∧ S r = true ∧ kd now r 5 = false ∧ bsd r w = q ∧ kd now q 1 = false
theorem Pij_no {now : Nat → Int32} {S : Nat → Bool} {i j q : Nat} (h : ∀ w, S i = true → kd now i 5 = false → bsd i w = q → kd now q 1 = false → w < 4 → w < j) : Pij now S i j q ↔ Pij now S (i + 1) 0 q := by
  unfold Pij
  constructor
  · rintro (a | ⟨r, w, c, rest⟩)
    · exact Or.inl a
    · exact Or.inr ⟨r, w, by omega, rest⟩
  · rintro (a | ⟨r, w, c, w4, s, k5, b, k1⟩)
    · exact Or.inl a
    · by_cases e : r = i
      · subst e
        exact Or.inr ⟨r, w, Or.inr ⟨rfl, h w s k5 b k1 w4⟩, w4, s, k5, b, k1⟩
      · exact Or.inr ⟨r, w, by omega, w4, s, k5, b, k1⟩
theorem Pij_step {now : Nat → Int32} {S : Nat → Bool} {i j q : Nat} (h : ¬ (S i = true ∧ kd now i 5 = false ∧ bsd i j = q ∧ kd now q 1 = false)) : Pij now S i j q ↔ Pij now S i (j + 1) q := by
  unfold Pij
  constructor
  · rintro (a | ⟨r, w, c, rest⟩)
    · exact Or.inl a
    · exact Or.inr ⟨r, w, by omega, rest⟩
  · rintro (a | ⟨r, w, c, w4, s, k5, b, k1⟩)
    · exact Or.inl a
    · by_cases e : r = i ∧ w = j
      · obtain ⟨rfl, rfl⟩ := e
        exact absurd ⟨s, k5, b, k1⟩ h
      · exact Or.inr ⟨r, w, by omega, w4, s, k5, b, k1⟩
theorem Pij_end {now : Nat → Int32} {S : Nat → Bool} {q : Nat} (hq : q < 36) (hS : ∀ r, S r = true → r < 36) : Pij now S 36 0 q ↔ grS now S q = true := by
  unfold Pij grS
  rw [Bool.or_eq_true, Bool.and_eq_true, ab_bs_iff, Bool.not_eq_true']
  constructor
  · rintro (a | ⟨r, w, c, w4, s, k5, b, k1⟩)
    · exact Or.inl a
    · have r36 : r < 36 := by omega
      refine Or.inr ⟨⟨r, r36, ?_, by rw [s, k5]; rfl⟩, k1⟩
      have := bsd_lt r r36 w w4 (by omega)
      rw [ab_nb_sym, ← b]
      exact this.2
  · rintro (a | ⟨⟨r, r36, hn, h⟩, k1⟩)
    · exact Or.inl a
    · rw [Bool.and_eq_true, Bool.not_eq_true'] at h
      obtain ⟨w, hw, b⟩ := bsd_of r36 hq (by rw [ab_nb_sym]; exact hn)
      exact Or.inr ⟨r, w, Or.inl r36, hw, h.1, h.2, b, k1⟩
section
variable {z : am_X}
theorem p74_ok {S : Nat → Bool} (h40 : ∀ q, q < 36 → z.2.2.1 40 q = b01 (S q)) (h0 : ∀ q, q < 36 → z.2.2.1 37 q = 0) {i : Nat} (hi : i < 36) {f : Nat → Int32} (hf : ∀ q, q < 36 → f q = b01 (cd (Pij (z.2.2.1 29) S i 0 q))) : ∃ w f', L_X8_passes_74 1000 (nI i) 0 (am_sA z 39 f) = some (nI i, w, am_sA z 39 f') ∧ ∀ q, q < 36 → f' q = b01 (cd (Pij (z.2.2.1 29) S (i + 1) 0 q)) := by
  have cong : ∀ {g : Nat → Int32} {P Q : Nat → Prop}, (∀ q, q < 36 → g q = b01 (cd (P q))) → (∀ q, q < 36 → (P q ↔ Q q)) → ∀ q, q < 36 → g q = b01 (cd (Q q)) := fun a b q hq => by
    rw [a q hq]
    congr 1
    rw [Bool.eq_iff_iff, cd_iff, cd_iff]
    exact b q hq
  have H := am_for (fun n j (g : Nat → Int32) => L_X8_passes_74 n (nI i) (nI j) (am_sA z 39 g)) 4 (fun j g => ∀ q, q < 36 → g q = b01 (cd (Pij (z.2.2.1 29) S i j q)))
    (fun r => ∃ w f', r = (nI i, w, am_sA z 39 f') ∧ ∀ q, q < 36 → f' q = b01 (cd (Pij (z.2.2.1 29) S (i + 1) 0 q)))
    (fun n j g hj hg => by
      have h1 : ¬ (4 : Int32) ≤ nI j := nI_ge (b := 4) hj (by decide)
      have e40 : (am_sA z 39 g).2.2.1 40 i = b01 (S i) := h40 i hi
      rw [L_X8_passes_74, if_neg h1, if_pos (ns_e hi), nI_clamp (by omega), e40]
      cases si : S i
      · rw [if_pos (show b01 false = 0 from rfl)]
        exact Or.inr ⟨_, rfl, _, g, rfl, cong hg (fun q _ => Pij_no (fun w s => by rw [si] at s; cases s))⟩
      · rw [if_neg (show ¬ b01 true = 0 by decide), ko hi]; dsimp only
        by_cases k5 : z.2.2.1 29 (20 + i) = 5
        · rw [if_pos (show (am_sA z 39 g).2.2.1 29 (20 + i) = 5 from k5)]
          exact Or.inr ⟨_, rfl, _, g, rfl, cong hg (fun q _ => Pij_no (fun w _ k => by rw [(kd5 z i).mpr k5] at k; cases k))⟩
        · have k5' : kd (z.2.2.1 29) i 5 = false := kd_f (fun c => k5 ((kd5 z i).mp c))
          rw [if_neg (show ¬ (am_sA z 39 g).2.2.1 29 (20 + i) = 5 from k5), bs_ok]; dsimp only
          rw [bsE_n i hi j hj]
          rcases bsd_99 i hi j hj with l | l
          · have n99 : ¬ bsd i j = 99 := by omega
            rw [if_neg n99, if_neg (n9 (by omega)), cbe_ok _ l]; dsimp only
            have gc : gcb ((am_sA z 39 g).2.2.1 29) (hsx (am_sA z 39 g)) (bsd i j) = !kd (z.2.2.1 29) (bsd i j) 1 := by
              unfold gcb
              have : hsx (am_sA z 39 g) (bsd i j) = false := by
                show decide (¬ z.2.2.1 37 (bsd i j) = 0) = false
                rw [h0 _ l]; decide
              rw [this, Bool.not_false, Bool.and_true]
              rfl
            rw [gc]
            cases k1 : kd (z.2.2.1 29) (bsd i j) 1
            · rw [if_neg (show ¬ (if (!false) = true then (1 : Int32) else 0) = 0 by decide), if_pos (ns_e l), nI_clamp (by omega), nI_1]
              refine Or.inl ⟨upd g (bsd i j) 1, fun q hq => ?_, ?_⟩
              · by_cases e : q = bsd i j
                · have : cd (Pij (z.2.2.1 29) S i (j + 1) q) = true := cd_iff.mpr (Or.inr ⟨i, j, Or.inr ⟨rfl, by omega⟩, hj, si, k5', e.symm, by rw [e]; exact k1⟩)
                  rw [this, e, upd_eq]
                  rfl
                · rw [upd_ne _ _ e]
                  rw [hg q hq]
                  congr 1
                  rw [Bool.eq_iff_iff, cd_iff, cd_iff]
                  exact Pij_step (fun c => e c.2.2.1.symm)
              · rw [am_sAA]; rfl
            · rw [if_pos (show (if (!true) = true then (1 : Int32) else 0) = 0 by decide), nI_1]
              exact Or.inl ⟨g, cong hg (fun q _ => Pij_step (fun c => by
                rw [← c.2.2.1, k1] at c
                cases c.2.2.2)), rfl⟩
          · rw [if_pos l, if_pos rfl, nI_1]
            exact Or.inl ⟨g, cong hg (fun q hq => Pij_step (fun c => by rw [l] at c; omega)), rfl⟩)
    (fun n g hg => ⟨_, by rw [L_X8_passes_74, if_pos (by decide)], _, g, rfl, cong hg (fun q _ => Pij_no (fun w _ _ _ _ h => h))⟩)
    1000 0 f (by decide) (by decide) hf
  obtain ⟨r, hF, w, f', rfl, h⟩ := H
  exact ⟨w, f', hF, h⟩
theorem p66_ok {S : Nat → Bool} (h39 : ∀ q, q < 36 → z.2.2.1 39 q = b01 (S q)) (h40 : ∀ q, q < 36 → z.2.2.1 40 q = b01 (S q)) (h0 : ∀ q, q < 36 → z.2.2.1 37 q = 0) (hS : ∀ r, S r = true → r < 36) : ∃ w f, L_X8_passes_66 1000 0 z = some (w, am_sA z 39 f) ∧ ∀ q, q < 36 → f q = b01 (grS (z.2.2.1 29) S q) := by
  have H := am_for (fun n i (g : Nat → Int32) => L_X8_passes_66 n (nI i) (am_sA z 39 g)) 36 (fun i g => ∀ q, q < 36 → g q = b01 (cd (Pij (z.2.2.1 29) S i 0 q)))
    (fun r => ∃ w f, r = (w, am_sA z 39 f) ∧ ∀ q, q < 36 → f q = b01 (grS (z.2.2.1 29) S q))
    (fun n i g hi hg => by
      have h1 : ¬ (36 : Int32) ≤ nI i := nI_ge (b := 36) hi (by decide)
      obtain ⟨w, f', h74, hf'⟩ := p74_ok h40 h0 hi hg
      exact Or.inl ⟨f', hf', by rw [L_X8_passes_66, if_neg h1, h74]; dsimp only; rw [nI_1]⟩)
    (fun n g hg => ⟨_, by rw [L_X8_passes_66, if_pos (by decide)], _, g, rfl, fun q hq => by
      rw [hg q hq]
      congr 1
      rw [Bool.eq_iff_iff, cd_iff]
      exact Pij_end hq hS⟩)
    1000 0 (z.2.2.1 39) (by decide) (by decide) (fun q hq => by
      rw [h39 q hq]
      congr 1
      rw [Bool.eq_iff_iff, cd_iff]
      unfold Pij
      constructor
      · intro a; exact Or.inl a
      · rintro (a | ⟨r, w, c, _⟩)
        · exact a
        · omega)
  obtain ⟨r, hF, w, f, rfl, h⟩ := H
  have hF' : L_X8_passes_66 1000 0 (am_sA z 39 (z.2.2.1 39)) = some (w, am_sA z 39 f) := hF
  rw [am_sA_self] at hF'
  exact ⟨w, f, hF', h⟩
theorem p40_ok {S : Nat → Bool} (h39 : ∀ q, q < 36 → z.2.2.1 39 q = b01 (S q)) : ∃ w f, L_X8_passes_40 1000 0 z = some (w, am_sA z 40 f) ∧ ∀ q, q < 36 → f q = b01 (S q) := by
  have H := am_for (fun n i (g : Nat → Int32) => L_X8_passes_40 n (nI i) (am_sA z 40 g)) 36 (fun i g => ∀ q, q < i → g q = b01 (S q))
    (fun r => ∃ w f, r = (w, am_sA z 40 f) ∧ ∀ q, q < 36 → f q = b01 (S q))
    (fun n i g hi hg => by
      have h1 : ¬ (36 : Int32) ≤ nI i := nI_ge (b := 36) hi (by decide)
      refine Or.inl ⟨upd g i (b01 (S i)), fun q hq => ?_, ?_⟩
      · by_cases e : q = i
        · subst e; rw [upd_eq]
        · rw [upd_ne _ _ e]; exact hg q (by omega)
      · rw [L_X8_passes_40, if_neg h1, if_pos (ns_e hi), nI_clamp (by omega), show (am_sA z 40 g).2.2.1 39 i = b01 (S i) from h39 i hi, nar_b, nI_1, am_sAA]
        rfl)
    (fun n g hg => ⟨_, by rw [L_X8_passes_40, if_pos (by decide)], _, g, rfl, hg⟩)
    1000 0 (z.2.2.1 40) (by decide) (by decide) (fun q hq => by omega)
  obtain ⟨r, hF, w, f, rfl, h⟩ := H
  have hF' : L_X8_passes_40 1000 0 (am_sA z 40 (z.2.2.1 40)) = some (w, am_sA z 40 f) := hF
  rw [am_sA_self] at hF'
  exact ⟨w, f, hF', h⟩
/-- a set below 36 -/
def bS (S : Nat → Bool) (q : Nat) : Bool := decide (q < 36) && S q
theorem bS_at {S : Nat → Bool} {q : Nat} (h : q < 36) : bS S q = S q := by unfold bS; simp [h]
theorem gr_bS (now : Nat → Int32) (S : Nat → Bool) {q : Nat} (hq : q < 36) : grS now (bS S) q = grS now S q := by
  unfold grS
  rw [bS_at hq]
  have : ab_bs (fun r => bS S r && !kd now r 5) q = ab_bs (fun r => S r && !kd now r 5) q := by
    rw [Bool.eq_iff_iff, ab_bs_iff, ab_bs_iff]
    constructor
    · rintro ⟨r, hr, a, b⟩; rw [bS_at hr] at b; exact ⟨r, hr, a, b⟩
    · rintro ⟨r, hr, a, b⟩; refine ⟨r, hr, a, ?_⟩; rw [bS_at hr]; exact b
  rw [this]
/-- the set, after it is looked at -/
theorem ps_rm {S : Nat → Bool} (hS : HRs z S) {o : Int32} (ho : o = -9 ∨ ∃ a, a < 36 ∧ o = nI a) : ∃ z1, am_kp z z1 ∧ z1.1 = z.1 ∧ z1.2.2.1 41 = z.2.2.1 41 ∧ z1.2.2.1 37 = z.2.2.1 37 ∧ z1.2.2.1 29 = z.2.2.1 29 ∧ HRs z1 (rmS S o) ∧ (∀ A : am_X → Option (Unit × am_X), (if o = (-9) then A z else (if 0 ≤ o.toInt ∧ o.toInt < 36 then A (am_sA z 39 (upd (z.2.2.1 39) o.toNatClampNeg 0)) else none)) = A z1) := by
  rcases ho with rfl | ⟨a, ha, rfl⟩
  · refine ⟨z, am_kp.rfl, rfl, rfl, rfl, rfl, fun q hq => ?_, fun A => by rw [if_pos rfl]⟩
    rw [hS q hq]
    unfold rmS
    have : ¬ (-9 : Int32) = nI q := fun e => n9 (by omega) e.symm
    simp [this]
  · refine ⟨am_sA z 39 (upd (z.2.2.1 39) a 0), am_kp.sA (by decide), rfl, rfl, rfl, rfl, fun q hq => ?_, fun A => by rw [if_neg (n9 (by omega)), if_pos (ns_e ha), nI_clamp (by omega)]⟩
    show upd (z.2.2.1 39) a 0 q = b01 (rmS S (nI a) q)
    unfold rmS
    by_cases e : q = a
    · subst e; rw [upd_eq]; simp [b01]
    · have : ¬ nI a = nI q := fun c => e ((nI_eq (by omega) (by omega)).mp c).symm
      rw [upd_ne _ _ e, hS q hq]
      simp [this]
theorem ps_ok {s p : Nat} {σ : HS} (h : HR s z σ) (h0 : ∀ q, q < 36 → z.2.2.1 37 q = 0) (p1 : 1 ≤ p) (p9 : p ≤ 9) (q2 : z.2.2.1 29 1 = nI p) (ht : σ.2.1 < 1250) {o : Int32} (ho : o = -9 ∨ ∃ a, a < 36 ∧ o = nI a) : ∃ z', am_kp z z' ∧ G_X8_passes o z = some ((), z') ∧ HR s z' (nxS (z.2.2.1 29) p σ.2.1 σ.1 o, σ.2.1 + 1, σ.2.2) := by
  obtain ⟨hS, h2, h3⟩ := h
  obtain ⟨z1, k1, e1, e41, e37, e29, hS1, hA⟩ := ps_rm hS ho
  have np : ¬ nI p = (0 : Int32) := nI_nat (m := 0) (by omega) (by decide) (by omega)
  have hG : G_X8_passes o z = (if ((z1.1 883 + 1) - (z1.1 883 + 1) / (z1.2.2.1 29 1) * (z1.2.2.1 29 1)) = 0 then (match L_X8_passes_40 1000 (0 : Int32) (am_uI z1 883 (z1.1 883 + 1)) with | none => none | some (v7, x6) => (match L_X8_passes_66 1000 (0 : Int32) x6 with | none => none | some (v31, x30) => some ((), x30))) else some ((), (am_uI z1 883 (z1.1 883 + 1)))) := by
    rw [← hA (fun z1 => (if ((z1.1 883 + 1) - (z1.1 883 + 1) / (z1.2.2.1 29 1) * (z1.2.2.1 29 1)) = 0 then (match L_X8_passes_40 1000 (0 : Int32) (am_uI z1 883 (z1.1 883 + 1)) with | none => none | some (v7, x6) => (match L_X8_passes_66 1000 (0 : Int32) x6 with | none => none | some (v31, x30) => some ((), x30))) else some ((), (am_uI z1 883 (z1.1 883 + 1)))))]
    unfold G_X8_passes
    rw [q2, if_pos np, if_pos np]
    rw [show (am_sA z 39 (upd (z.2.2.1 39) o.toNatClampNeg 0)).2.2.1 29 1 = nI p from q2]
    rfl
  have e883 : z1.1 883 + 1 = nI (σ.2.1 + 1) := by rw [e1, h2, nI_1]
  have ep : z1.2.2.1 29 1 = nI p := by rw [e29]; exact q2
  rw [hG, e883, ep]
  unfold nxS
  by_cases m : (σ.2.1 + 1) % p = 0
  · rw [if_pos ((mod_n (by omega) p1 p9).mpr m), if_pos m]
    have hB : ∀ q, q < 36 → (am_uI z1 883 (nI (σ.2.1 + 1))).2.2.1 39 q = b01 (bS (rmS σ.1 o) q) := fun q hq => by rw [bS_at hq]; exact hS1 q hq
    obtain ⟨w1, f1, h40, hf1⟩ := p40_ok hB
    obtain ⟨w2, f2, h66, hf2⟩ := p66_ok (z := am_sA (am_uI z1 883 (nI (σ.2.1 + 1))) 40 f1) (S := bS (rmS σ.1 o)) hB hf1 (fun q hq => by
      show z1.2.2.1 37 q = 0
      rw [e37]; exact h0 q hq) (fun r hr => by
      unfold bS at hr
      rw [Bool.and_eq_true, decide_eq_true_eq] at hr
      exact hr.1)
    refine ⟨am_sA (am_sA (am_uI z1 883 (nI (σ.2.1 + 1))) 40 f1) 39 f2, ((k1.trans (am_kp.uI (by decide))).trans (am_kp.sA (by decide))).trans (am_kp.sA (by decide)), ?_, fun q hq => ?_, rfl, fun i hi => ?_⟩
    · rw [h40]; dsimp only
      rw [h66]
    · show f2 q = b01 (grS (z.2.2.1 29) (rmS σ.1 o) q)
      rw [hf2 q hq, gr_bS _ _ hq]
      show b01 (grS (z1.2.2.1 29) (rmS σ.1 o) q) = _
      rw [e29]
    · show z1.2.2.1 41 i = nI (σ.2.2 i) ∧ σ.2.2 i < 36
      rw [e41]; exact h3 i hi
  · rw [if_neg (fun c => m ((mod_n (by omega) p1 p9).mp c)), if_neg m]
    refine ⟨am_uI z1 883 (nI (σ.2.1 + 1)), k1.trans (am_kp.uI (by decide)), rfl, hS1, rfl, fun i hi => ?_⟩
    show z1.2.2.1 41 i = nI (σ.2.2 i) ∧ σ.2.2 i < 36
    rw [e41]; exact h3 i hi
end
theorem sk_ix2 {i : Nat} (hi : i < 3) : ((10 : Int32) + ((2 : Int32) * nI i)) + 1 = nI (10 + 2 * i + 1) := sk_ix 1 (by decide) hi
theorem bgr_ok {x : am_X} {s v h t p : Nat} (hs : seekp x s) (hv : v ≤ 9) (v2 : x.2.2.1 29 2 = nI v) (hh : h < 36) (e2 : x.2.2.1 29 0 = nI h) (e3 : ¬ x.2.2.1 29 (20 + h) = 1) (ht : t < 1000) (p1 : 1 ≤ p) (p9 : p ≤ 9) (q2 : x.2.2.1 29 1 = nI p) : ∃ z, am_kp x z ∧ G_X8_begin (nI t) x = some ((), z) ∧ HR s z (mbs x v h (t / p), t, seatN x) := by
  obtain ⟨s3, e35, e29, hsk⟩ := hs
  obtain ⟨f, g, hm, hg⟩ := mba_ok hv v2 hh e2 e3 ht p1 p9 q2
  have H := am_for (fun n i (a : Nat → Int32) => L_X8_begin_12 n (nI i) (am_sA (am_uI (am_sA (am_sA x 38 f) 39 g) 883 (nI t)) 41 a)) s (fun i a => ∀ j, j < i → a j = nI (seatN x j))
    (fun r => ∃ w a, r = (w, am_sA (am_uI (am_sA (am_sA x 38 f) 39 g) 883 (nI t)) 41 a) ∧ ∀ j, j < s → a j = nI (seatN x j))
    (fun n i a hi ha => by
      obtain ⟨_, hq, _, b⟩ := hsk i hi
      have h1 : ¬ nI s ≤ nI i := nI_ge hi (by omega)
      have ix : 0 ≤ (nI (10 + 2 * i + 1)).toInt ∧ (nI (10 + 2 * i + 1)).toInt < 56 := nIr (b := 56) (by omega) (by decide)
      have i3 : 0 ≤ (nI i).toInt ∧ (nI i).toInt < 3 := nIr (b := 3) (by omega) (by decide)
      refine Or.inl ⟨upd a i (nI (seatN x i)), fun j hj => ?_, ?_⟩
      · by_cases e : j = i
        · subst e; rw [upd_eq]
        · rw [upd_ne _ _ e]; exact ha j (by omega)
      · rw [L_X8_begin_12, show (am_sA (am_uI (am_sA (am_sA x 38 f) 39 g) 883 (nI t)) 41 a).2.2.1 29 3 = nI s from e29, if_neg h1, sk_ix2 (by omega), if_pos ix, if_pos i3, nI_clamp (by omega), nI_clamp (by omega), show (am_sA (am_uI (am_sA (am_sA x 38 f) 39 g) 883 (nI t)) 41 a).2.2.1 29 (10 + 2 * i + 1) = nI (seatN x i) from b, nI_1, am_sAA]
        rfl)
    (fun n a ha => ⟨_, by rw [L_X8_begin_12, show (am_sA (am_uI (am_sA (am_sA x 38 f) 39 g) 883 (nI t)) 41 a).2.2.1 29 3 = nI s from e29, if_pos (by rw [ii_le]; omega)], _, a, rfl, ha⟩)
    1000 0 ((am_uI (am_sA (am_sA x 38 f) 39 g) 883 (nI t)).2.2.1 41) (by omega) (by omega) (fun j hj => by omega)
  obtain ⟨r, hF, w, a, rfl, ha⟩ := H
  have hF' : L_X8_begin_12 1000 0 (am_sA (am_uI (am_sA (am_sA x 38 f) 39 g) 883 (nI t)) 41 ((am_uI (am_sA (am_sA x 38 f) 39 g) 883 (nI t)).2.2.1 41)) = some (w, am_sA (am_uI (am_sA (am_sA x 38 f) 39 g) 883 (nI t)) 41 a) := hF
  rw [am_sA_self] at hF'
  refine ⟨am_sA (am_uI (am_sA (am_sA x 38 f) 39 g) 883 (nI t)) 41 a, (((am_kp.sA (by decide)).trans (am_kp.sA (by decide))).trans (am_kp.uI (by decide))).trans (am_kp.sA (by decide)), ?_, fun q hq => hg q hq, rfl, fun i hi => ⟨ha i hi, (hsk i hi).2.1⟩⟩
  unfold G_X8_begin
  rw [hm]; dsimp only
  rw [hF']
