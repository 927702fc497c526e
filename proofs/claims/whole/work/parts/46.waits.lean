/-! the reference: how long a square waits, which is looked at -/
theorem apt_ok {q p : Nat} (hq : q < 36) (hp : p < 36) (z : am_X) : G_X8_apart (nI q) (nI p) z = some (nI (apN q p), z) := by
  have : ∀ q, q < 36 → ∀ p, p < 36 → ((if (0 : Int32) ≤ ((nI q / 6) - (nI p / 6)) then ((nI q / 6) - (nI p / 6)) else 0 - ((nI q / 6) - (nI p / 6))) + (if (0 : Int32) ≤ ((nI q - nI q / 6 * 6) - (nI p - nI p / 6 * 6)) then ((nI q - nI q / 6 * 6) - (nI p - nI p / 6 * 6)) else 0 - ((nI q - nI q / 6 * 6) - (nI p - nI p / 6 * 6)))) = nI (apN q p) := by decide +kernel
  unfold G_X8_apart
  rw [this q hq p hp]
section
variable {z : am_X}
theorem tr_ok {q : Nat} (hq : q < 36) : G_X8_toRoad (nI q) z = some (nI (trN (z.2.2.1 29) q), z) := by
  obtain ⟨r, hF, w1, w2, rfl⟩ := am_for (fun n i (m : Nat) => L_X8_toRoad_5 n (nI q) (nI m) (nI i) z) 36 (fun i m => m = trF (z.2.2.1 29) q i) (fun r => ∃ w1 w2, r = (w1, nI (trN (z.2.2.1 29) q), w2, z))
    (fun n i m hi hp => Or.inl (by
      have h1 : ¬ (36 : Int32) ≤ nI i := nI_ge (b := 36) hi (by decide)
      refine ⟨trF (z.2.2.1 29) q (i + 1), rfl, ?_⟩
      have a10 := ap_10 q hq i hi
      have mb : m ≤ 100000 := by
        rw [hp]
        rcases trF_c (z.2.2.1 29) hq i (by omega) with ⟨h, _⟩ | ⟨h, _⟩ <;> omega
      rw [L_X8_toRoad_5, if_neg h1, ko hi]; dsimp only
      rw [trF, ← hp]
      by_cases e : z.2.2.1 29 (20 + i) = 5
      · rw [if_pos e, apt_ok hq hi, if_pos ((kd5 z i).mpr e)]; dsimp only
        rw [nI_1]
        by_cases l : apN q i < m
        · rw [if_pos (nI_lt l (by omega)), if_pos l]
        · rw [if_neg (nI_nlt (by omega) (by omega)), if_neg l]
      · rw [if_neg e, if_neg (fun c => e ((kd5 z i).mp c)), nI_1]))
    (fun n m hp => ⟨_, by rw [L_X8_toRoad_5, if_pos (by decide)], nI q, nI 36, by rw [hp]; rfl⟩)
    1000 0 100000 (by decide) (by decide) rfl
  have hF' : L_X8_toRoad_5 1000 (nI q) 100000 0 z = some (w1, nI (trN (z.2.2.1 29) q), w2, z) := hF
  unfold G_X8_toRoad
  rw [hF']
/-- beside by the four ways -/
def bwN (S : Nat → Bool) (q w : Nat) : Bool := decide (bsd q w < 36) && S (bsd q w)
theorem nb_ways : ∀ q, q < 36 → ∀ p, p < 36 → ab_nb q p = (((decide (p = bsd q 0) || decide (p = bsd q 1)) || decide (p = bsd q 2)) || decide (p = bsd q 3)) := by decide +kernel
theorem bsd_dj : ∀ q, q < 36 → (bsd q 0 < 36 → bsd q 0 ≠ bsd q 1 ∧ bsd q 0 ≠ bsd q 2 ∧ bsd q 0 ≠ bsd q 3) ∧ (bsd q 1 < 36 → bsd q 1 ≠ bsd q 2 ∧ bsd q 1 ≠ bsd q 3) ∧ (bsd q 2 < 36 → bsd q 2 ≠ bsd q 3) := by decide +kernel
theorem ct_one (S : Nat → Bool) (r : Nat) : ∀ n, fb_ct (fun p => decide (p = r) && S p) n = if r < n ∧ S r = true then 1 else 0 := by
  intro n
  induction n with
  | zero => rw [if_neg (by omega)]; rfl
  | succ n ih =>
    rw [fb_ct_succ, ih]
    by_cases e : n = r
    · subst e
      cases s : S n <;> simp
    · have h2 : (r < n + 1 ∧ S r = true) = (r < n ∧ S r = true) := by
        apply propext
        constructor
        · rintro ⟨a, b⟩; exact ⟨by omega, b⟩
        · rintro ⟨a, b⟩; exact ⟨by omega, b⟩
      simp only [h2]
      simp [e]
theorem bs_ways (S : Nat → Bool) {q : Nat} (hq : q < 36) : bsN S q = fb_ct (bwN S q) 4 := by
  have e1 : bsN S q = fb_ct (fun p => (((decide (p = bsd q 0) && S p) || (decide (p = bsd q 1) && S p)) || (decide (p = bsd q 2) && S p)) || (decide (p = bsd q 3) && S p)) 36 := by
    unfold bsN
    refine fb_ct_cong (fun p hp => ?_)
    rw [nb_ways q hq p hp]
    cases S p <;> simp
  obtain ⟨j0, j1, j2⟩ := bsd_dj q hq
  have d01 : ∀ p, p < 36 → ¬ (p = bsd q 0 ∧ p = bsd q 1) := fun p hp c => (j0 (by omega)).1 (by omega)
  have d02 : ∀ p, p < 36 → ¬ (p = bsd q 0 ∧ p = bsd q 2) := fun p hp c => (j0 (by omega)).2.1 (by omega)
  have d03 : ∀ p, p < 36 → ¬ (p = bsd q 0 ∧ p = bsd q 3) := fun p hp c => (j0 (by omega)).2.2 (by omega)
  have d12 : ∀ p, p < 36 → ¬ (p = bsd q 1 ∧ p = bsd q 2) := fun p hp c => (j1 (by omega)).1 (by omega)
  have d13 : ∀ p, p < 36 → ¬ (p = bsd q 1 ∧ p = bsd q 3) := fun p hp c => (j1 (by omega)).2 (by omega)
  have d23 : ∀ p, p < 36 → ¬ (p = bsd q 2 ∧ p = bsd q 3) := fun p hp c => j2 (by omega) (by omega)
  rw [e1, fb_ct_or, fb_ct_or, fb_ct_or, ct_one, ct_one, ct_one, ct_one]
  · have b : ∀ w, (if bsd q w < 36 ∧ S (bsd q w) = true then 1 else 0) = (if bwN S q w = true then 1 else 0) := fun w => by
      unfold bwN
      simp only [Bool.and_eq_true, decide_eq_true_eq]
    have e4 : fb_ct (bwN S q) 4 = (((0 + (if bwN S q 0 = true then 1 else 0)) + (if bwN S q 1 = true then 1 else 0)) + (if bwN S q 2 = true then 1 else 0)) + (if bwN S q 3 = true then 1 else 0) := rfl
    rw [b, b, b, b, e4, Nat.zero_add]
  · intro p hp c
    simp only [Bool.and_eq_true, decide_eq_true_eq] at c
    exact d01 p hp ⟨c.1.1, c.2.1⟩
  · intro p hp c
    simp only [Bool.or_eq_true, Bool.and_eq_true, decide_eq_true_eq] at c
    rcases c.1 with a | a
    · exact d02 p hp ⟨a.1, c.2.1⟩
    · exact d12 p hp ⟨a.1, c.2.1⟩
  · intro p hp c
    simp only [Bool.or_eq_true, Bool.and_eq_true, decide_eq_true_eq] at c
    rcases c.1 with (a | a) | a
    · exact d03 p hp ⟨a.1, c.2.1⟩
    · exact d13 p hp ⟨a.1, c.2.1⟩
    · exact d23 p hp ⟨a.1, c.2.1⟩
def HRs (z : am_X) (S : Nat → Bool) : Prop := ∀ q, q < 36 → z.2.2.1 39 q = b01 (S q)
theorem bsd_99 : ∀ q, q < 36 → ∀ w, w < 4 → bsd q w < 36 ∨ bsd q w = 99 := by decide +kernel
theorem bis_ok {S : Nat → Bool} (hS : HRs z S) {q : Nat} (hq : q < 36) : G_X8_besideInSet (nI q) z = some (nI (bsN S q), z) := by
  obtain ⟨r, hF, w1, w2, rfl⟩ := am_for (fun n i (m : Nat) => L_X8_besideInSet_4 n (nI q) (nI m) (nI i) z) 4 (fun i m => m = fb_ct (bwN S q) i) (fun r => ∃ w1 w2, r = (w1, nI (bsN S q), w2, z))
    (fun n i m hi hp => Or.inl (by
      have h1 : ¬ (4 : Int32) ≤ nI i := nI_ge (b := 4) hi (by decide)
      refine ⟨fb_ct (bwN S q) (i + 1), rfl, ?_⟩
      rw [L_X8_besideInSet_4, if_neg h1, bs_ok]; dsimp only
      rw [bsE_n q hq i hi, fb_ct_succ, ← hp]
      rcases bsd_99 q hq i hi with l | l
      · have n99 : ¬ bsd q i = 99 := by omega
        rw [if_neg n99, if_neg (n9 (by omega)), if_pos (ns_e l), nI_clamp (by omega), hS _ l, nI_1]
        unfold bwN
        cases sb : S (bsd q i)
        · rw [if_pos (by decide), nI_p0]; simp
        · rw [if_neg (by decide), nI_1]; simp [l]
      · rw [if_pos l, if_pos rfl, nI_p0, nI_1]
        have : bwN S q i = false := by unfold bwN; rw [l]; rfl
        rw [this]; simp))
    (fun n m hp => ⟨_, by rw [L_X8_besideInSet_4, if_pos (by decide)], nI q, nI 4, by rw [hp, bs_ways S hq]⟩)
    1000 0 0 (by decide) (by decide) rfl
  have hF' : L_X8_besideInSet_4 1000 (nI q) 0 0 z = some (w1, nI (bsN S q), w2, z) := hF
  unfold G_X8_besideInSet
  rw [hF']
theorem wt_ok {S : Nat → Bool} (hS : HRs z S) {e q st : Nat} (he : e < 5) (hq : q < 36) (hst : st < 36) : ∃ r : Int32, r.toInt = wtN (z.2.2.1 29) S e q st ∧ G_X8_waits (nI e) (nI q) (nI st) z = some (r, z) := by
  have b4 := bsN_4 (S := S) hq
  have a10 := ap_10 q hq st hst
  have : e = 0 ∨ e = 1 ∨ e = 2 ∨ e = 3 ∨ e = 4 := by omega
  unfold G_X8_waits
  rcases this with rfl | rfl | rfl | rfl | rfl
  · refine ⟨nI q, nI_toInt (by omega), by rw [if_pos (by decide)]⟩
  · refine ⟨nI (apN q st), nI_toInt (by omega), ?_⟩
    rw [if_neg (by decide), if_pos (by decide), apt_ok hq hst]
  · refine ⟨-(nI (bsN S q)), ?_, ?_⟩
    · rw [fb_negI (by rw [nI_toInt (by omega)]; omega), nI_toInt (by omega)]; rfl
    · rw [if_neg (by decide), if_neg (by decide), if_pos (by decide), bis_ok hS hq]
  · by_cases z0 : bsN S q = 0
    · refine ⟨100000, ?_, ?_⟩
      · show (100000 : Int32).toInt = w3N S q
        unfold w3N
        rw [if_pos z0]
        decide
      · rw [if_neg (by decide), if_neg (by decide), if_neg (by decide), if_pos (by decide), bis_ok hS hq]; dsimp only
        rw [if_pos (by rw [z0]; rfl)]
    · refine ⟨nI (bsN S q), ?_, ?_⟩
      · show _ = w3N S q
        unfold w3N
        rw [if_neg z0, nI_toInt (by omega)]
      · rw [if_neg (by decide), if_neg (by decide), if_neg (by decide), if_pos (by decide), bis_ok hS hq]; dsimp only
        rw [if_neg (show ¬ nI (bsN S q) = (0 : Int32) from nI_nat (m := 0) (by omega) (by decide) z0), bis_ok hS hq]
  · rcases trF_c (z.2.2.1 29) hq 36 (by omega) with ⟨h1, _⟩ | ⟨h1, _⟩
    · have h1' : trN (z.2.2.1 29) q = 100000 := h1
      refine ⟨nI (apN q st), ?_, ?_⟩
      · show _ = (if trN (z.2.2.1 29) q < 100000 then (trN (z.2.2.1 29) q : Int) else (apN q st : Int))
        rw [h1', if_neg (by omega), nI_toInt (by omega)]
      · rw [if_neg (by decide), if_neg (by decide), if_neg (by decide), if_neg (by decide), if_pos (by decide), tr_ok hq]; dsimp only
        rw [h1', if_pos (by decide), apt_ok hq hst]
    · have h1' : trN (z.2.2.1 29) q ≤ 10 := h1
      refine ⟨nI (trN (z.2.2.1 29) q), ?_, ?_⟩
      · show _ = (if trN (z.2.2.1 29) q < 100000 then (trN (z.2.2.1 29) q : Int) else (apN q st : Int))
        rw [if_pos (by omega), nI_toInt (by omega)]
      · rw [if_neg (by decide), if_neg (by decide), if_neg (by decide), if_neg (by decide), if_pos (by decide), tr_ok hq]; dsimp only
        rw [if_neg (show ¬ (100000 : Int32) ≤ nI (trN (z.2.2.1 29) q) from nI_ge (b := 100000) (by omega) (by decide)), tr_ok hq]
def HR (s : Nat) (z : am_X) (σ : HS) : Prop := HRs z σ.1 ∧ z.1 883 = nI σ.2.1 ∧ ∀ i, i < s → z.2.2.1 41 i = nI (σ.2.2 i) ∧ σ.2.2 i < 36
theorem l9_ok {s : Nat} {σ : HS} (h : HR s z σ) (s3 : s ≤ 3) {k e : Nat} (hk : k < s) (he : e < 5) : ∃ w1 w2, L_X8_looks_9 1000 (nI e) (nI k) (-9) 0 0 z = some (nI e, nI k, piH (z.2.2.1 29) e k σ, w1, w2, z) := by
  obtain ⟨hS, h2, h3⟩ := h
  have hst := (h3 k hk).2
  have k3 : 0 ≤ (nI k).toInt ∧ (nI k).toInt < 3 := nIr (b := 3) (by omega) (by decide)
  obtain ⟨r, hF, w1, w2, rfl⟩ := am_for (fun n i (s : Option Nat × Int32) => L_X8_looks_9 n (nI e) (nI k) (cE s.1) s.2 (nI i) z) 36
    (fun i s => s.1 = cF σ.1 (fun q => wtN (z.2.2.1 29) σ.1 e q (σ.2.2 k)) i ∧ ∀ b, s.1 = some b → s.2.toInt = wtN (z.2.2.1 29) σ.1 e b (σ.2.2 k))
    (fun r => ∃ w1 w2, r = (nI e, nI k, piH (z.2.2.1 29) e k σ, w1, w2, z))
    (fun n i s hi hp => Or.inl (by
      obtain ⟨o, l⟩ := s
      obtain ⟨ho, hl⟩ := hp
      dsimp only at ho hl ⊢
      have h1 : ¬ (36 : Int32) ≤ nI i := nI_ge (b := 36) hi (by decide)
      cases sb : σ.1 i
      · refine ⟨(o, l), ⟨by rw [cF, sb, if_neg (by decide)]; exact ho, hl⟩, ?_⟩
        rw [L_X8_looks_9, if_neg h1, if_pos (ns_e hi), nI_clamp (by omega), hS i hi, sb, if_pos (show b01 false = 0 from rfl), if_pos (show b01 false = 0 from rfl), nI_1]
      · obtain ⟨r, hr, hw⟩ := wt_ok (z := z) hS (st := σ.2.2 k) he hi hst
        have nz : ¬ b01 true = 0 := by decide
        have E : ∀ f, L_X8_looks_9 (n + 1) (nI e) (nI k) f l (nI i) z = if f = -9 then L_X8_looks_9 n (nI e) (nI k) (nI i) r (nI (i + 1)) z else (if l ≤ r then L_X8_looks_9 n (nI e) (nI k) f l (nI (i + 1)) z else L_X8_looks_9 n (nI e) (nI k) (nI i) r (nI (i + 1)) z) := by
          intro f
          rw [L_X8_looks_9, if_neg h1, if_pos (ns_e hi), nI_clamp (by omega), hS i hi, sb, if_neg nz, if_pos k3, nI_clamp (by omega : k < 2 ^ 31), (h3 k hk).1, hw]; dsimp only
          rw [hS i hi, sb, if_neg nz, nI_1]
        cases o with
        | none =>
          refine ⟨(some i, r), ⟨by rw [cF, sb, if_pos rfl, ← ho], fun b hb => by cases hb; exact hr⟩, ?_⟩
          dsimp only [cE]
          rw [E, if_pos rfl]
        | some b =>
          have hb := hl b rfl
          have b36 : b < 36 := by
            rcases cF_c σ.1 (fun q => wtN (z.2.2.1 29) σ.1 e q (σ.2.2 k)) i with ⟨a, _⟩ | ⟨b', a, c, _⟩
            · rw [a] at ho; cases ho
            · rw [a] at ho; cases ho; omega
          by_cases c : wtN (z.2.2.1 29) σ.1 e b (σ.2.2 k) ≤ wtN (z.2.2.1 29) σ.1 e i (σ.2.2 k)
          · refine ⟨(some b, l), ⟨by rw [cF, sb, if_pos rfl, ← ho]; exact (if_pos c).symm, hl⟩, ?_⟩
            dsimp only [cE]
            rw [E, if_neg (n9 (by omega)), if_pos (by rw [ii_le, hb, hr]; exact c)]
          · refine ⟨(some i, r), ⟨by rw [cF, sb, if_pos rfl, ← ho]; exact (if_neg c).symm, fun b' hb' => by cases hb'; exact hr⟩, ?_⟩
            dsimp only [cE]
            rw [E, if_neg (n9 (by omega)), if_neg (by rw [ii_le, hb, hr]; exact c)]))
    (fun n s hp => by
      obtain ⟨o, l⟩ := s
      obtain ⟨ho, hl⟩ := hp
      dsimp only at ho hl ⊢
      subst ho
      exact ⟨_, by rw [L_X8_looks_9, if_pos (by decide)]; rfl, l, nI 36, rfl⟩)
    1000 0 (none, 0) (by decide) (by decide) ⟨rfl, fun b hb => by cases hb⟩
  exact ⟨w1, w2, hF⟩
theorem looks_ok {s : Nat} {σ : HS} (h : HR s z σ) (s3 : s ≤ 3) {k e : Nat} (hk : k < s) (he : e < 5) : ∃ z', am_kp z z' ∧ G_X8_looks (nI e) (nI k) z = some (piH (z.2.2.1 29) e k σ, z') ∧ HR s z' (σ.1, σ.2.1, seH e k (piH (z.2.2.1 29) e k σ) σ.2.2) := by
  obtain ⟨w1, w2, h9⟩ := l9_ok h s3 hk he
  obtain ⟨hS, h2, h3⟩ := h
  have k3 : 0 ≤ (nI k).toInt ∧ (nI k).toInt < 3 := nIr (b := 3) (by omega) (by decide)
  have e1 : nI e = 1 ↔ e = 1 := nI_1e (by omega)
  have e4 : nI e = 4 ↔ e = 4 := nI_eq (b := 4) (by omega) (by decide)
  unfold G_X8_looks
  rw [h9]; dsimp only
  rcases pi_c (z.2.2.1 29) e k σ with ⟨q, hq, sq, eq⟩ | ⟨hz, eq⟩
  · rw [eq, if_neg (n9 (by omega))]
    have up : ∀ i, i < s → (e = 1 ∨ e = 4) → upd (z.2.2.1 41) k (nI q) i = nI (seH e k (nI q) σ.2.2 i) ∧ seH e k (nI q) σ.2.2 i < 36 := fun i hi c => by
      unfold seH
      by_cases ei : i = k
      · rw [if_pos ⟨ei, c, n9 (by omega)⟩, nI_clamp (by omega), ei, upd_eq]
        exact ⟨rfl, hq⟩
      · rw [if_neg (fun c => ei c.1), upd_ne _ _ ei]
        exact h3 i hi
    by_cases c1 : e = 1
    · refine ⟨am_sA z 41 (upd (z.2.2.1 41) k (nI q)), am_kp.sA (by decide), ?_, hS, h2, fun i hi => up i hi (Or.inl c1)⟩
      rw [if_pos (e1.mpr c1), if_pos k3, nI_clamp (by omega)]
    · rw [if_neg (fun d => c1 (e1.mp d))]
      by_cases c4 : e = 4
      · refine ⟨am_sA z 41 (upd (z.2.2.1 41) k (nI q)), am_kp.sA (by decide), ?_, hS, h2, fun i hi => up i hi (Or.inr c4)⟩
        rw [if_pos (e4.mpr c4), if_pos k3, nI_clamp (by omega)]
      · refine ⟨z, am_kp.rfl, by rw [if_neg (fun d => c4 (e4.mp d))], hS, h2, fun i hi => ?_⟩
        show _ = nI (seH e k (nI q) σ.2.2 i) ∧ seH e k (nI q) σ.2.2 i < 36
        unfold seH
        rw [if_neg (fun d => by rcases d.2.1 with a | a; exact c1 a; exact c4 a)]
        exact h3 i hi
  · rw [eq, if_pos rfl]
    refine ⟨z, am_kp.rfl, rfl, hS, h2, fun i hi => ?_⟩
    show _ = nI (seH e k (-9) σ.2.2 i) ∧ seH e k (-9) σ.2.2 i < 36
    unfold seH
    rw [if_neg (fun d => d.2.2 rfl)]
    exact h3 i hi
end
