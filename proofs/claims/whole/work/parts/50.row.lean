/-! together; judge, behind -/
theorem md_s {i s : Nat} (hi : i < 201) (s1 : 1 ≤ s) (s3 : s ≤ 3) : nI i - nI i / nI s * nI s = nI (i % s) := by
  have : ∀ s, s ≤ 3 → 1 ≤ s → ∀ i, i < 201 → nI i - nI i / nI s * nI s = nI (i % s) := by decide +kernel
  exact this s s3 s1 i hi
theorem md_1 {i s : Nat} (s1 : 1 ≤ s) : (i + 1) % s = if i % s + 1 < s then i % s + 1 else 0 := by
  have h := Nat.mod_lt i (show 0 < s by omega)
  rw [Nat.add_mod]
  by_cases c : i % s + 1 < s
  · rw [if_pos c]
    by_cases e : s = 1
    · omega
    · have : 1 % s = 1 := Nat.mod_eq_of_lt (by omega)
      rw [this]; exact Nat.mod_eq_of_lt c
  · rw [if_neg c]
    by_cases e : s = 1
    · subst e; exact Nat.mod_one _
    · have : 1 % s = 1 := Nat.mod_eq_of_lt (by omega)
      have e2 : i % s + 1 = s := by omega
      rw [this, e2]; exact Nat.mod_self s
section
variable {x : am_X} {v h p s : Nat}
noncomputable def emT (x : am_X) (v h t p s i : Nat) : Bool := emH (hsq (x.2.2.1 29) p (fun i => skkN x (i % s)) (fun i => i % s) (st0 x v h t p) i)
theorem tg_class (B : base x v h p s) (s1 : 1 ≤ s) {t : Nat} (ht : t < 1000) : ∃ y, am_kp x y ∧ G_X7_looksOfAll (nI t) x = some (ffF (emT x v h t p s) 201 0, y) := by
  obtain ⟨r, y1, hr, k1, hC⟩ := cb_ok B ht
  have s3 := (B_s B).1
  have H := am_for (fun n i (y : am_X) => L_X7_looksOfAll_21 n (nI (i % s)) (nI i) y) 201
    (fun i y => am_kp x y ∧ HC s y (hsq (x.2.2.1 29) p (fun i => skkN x (i % s)) (fun i => i % s) (st0 x v h t p) i) ∧ ffF (emT x v h t p s) 201 0 = ffF (emT x v h t p s) (201 - i) i)
    (fun r => ∃ y, am_kp x y ∧ r = (ffF (emT x v h t p s) 201 0, y))
    (fun n i y hi hp => by
      obtain ⟨ky, hc, hf⟩ := hp
      have h1 : ¬ (200 : Int32) < nI i := nI_nlt (a := 200) (by omega) (by decide)
      have mk : 201 - i = (201 - (i + 1)) + 1 := by omega
      have ml := Nat.mod_lt i (show 0 < s by omega)
      by_cases z : emH (hsq (x.2.2.1 29) p (fun i => skkN x (i % s)) (fun i => i % s) (st0 x v h t p) i) = true
      · refine Or.inr ⟨(nI i, y), by rw [L_X7_looksOfAll_21, if_neg h1, if_pos ((lg_cmp0 _).mpr ((set0 hc).mpr z))], y, ky, ?_⟩
        rw [hf, mk, ffF, show emT x v h t p s i = true from z, if_pos rfl]
      · have he := ((B_s B).2.2.2 (i % s) ml).1.1
        have ek := ifs_k B ml ky
        obtain ⟨hI, hv, v1, v2, hh, e1, e2, e3, p1, p9, q1, q2, hs⟩ := base_kp B ky
        have tb := hsq_t (x.2.2.1 29) p (fun i => skkN x (i % s)) (fun i => i % s) (st0 x v h t p) i
        obtain ⟨c1, c2⟩ := sk_ok hI p1 p9 q1 hc (by rw [tb]; show t + i < 1250; omega) hs.1 ml he
        rw [kp_now ky] at c1
        refine Or.inl ⟨am_skx y (nI (i % s)) (nI (skkN x (i % s))), ⟨ky.trans c2, c1, ?_⟩, ?_⟩
        · rw [hf, mk, ffF, show emT x v h t p s i = false from em_f z, if_neg (by decide)]
        · rw [L_X7_looksOfAll_21, if_neg h1, if_neg (fun c => z ((set0 hc).mp ((lg_cmp0 _).mp c))), ek, c2.i 35 (by decide), hs.2.1, nI_1, nI_1, md_1 s1]
          by_cases c : i % s + 1 < s
          · rw [if_pos ((hs_iff s3 _).mpr ⟨_, c, rfl⟩), if_pos c]
          · rw [if_neg (fun d => by
              obtain ⟨j, hj, e⟩ := (hs_iff s3 _).mp d
              have := (nI_eq (by omega) (by omega)).mp e
              omega), if_neg c]
            rfl)
    (fun n y hp => by
      obtain ⟨ky, hc, hf⟩ := hp
      exact ⟨(-9, y), by rw [L_X7_looksOfAll_21, if_pos (by decide)], y, ky, by rw [hf]; rfl⟩)
    1000 0 (am_bgx y1 r (nI t)) (by decide) (by decide) ⟨k1, hC, rfl⟩
  obtain ⟨r', hF, y, ky, rfl⟩ := H
  have hF' : L_X7_looksOfAll_21 1000 (nI (0 % s)) 0 (am_bgx y1 r (nI t)) = some (ffF (emT x v h t p s) 201 0, y) := hF
  rw [Nat.zero_mod] at hF'
  refine ⟨y, ky, ?_⟩
  unfold G_X7_looksOfAll
  rw [hr]
  exact hF'
theorem tg_ref (B : base x v h p s) (s1 : 1 ≤ s) {t : Nat} (ht : t < 1000) {x0 : am_X} (k0 : am_kp x x0) : ∃ z0 y, am_kp x y ∧ G_X8_begin (nI t) x0 = some ((), z0) ∧ L_X8_together_48 1000 1 z0 = some (ffF (emT x v h t p s) 201 0, y) := by
  have s3 := (B_s B).1
  have e00 : emT x v h t p s 0 = false := em_0 B.1.hel B.2.2.2.2.1 B.2.2.2.2.2.2.2.1
  have e1 : ffF (emT x v h t p s) 201 0 = ffF (emT x v h t p s) 200 1 := by
    show (if emT x v h t p s 0 = true then nI 0 else ffF (emT x v h t p s) 200 1) = _
    rw [e00, if_neg (by decide)]
  rw [e1]
  obtain ⟨z0, kz, hb, hR⟩ := rb8_ok (base_kp B k0) ht
  rw [kp_st0 k0] at hR
  have H := am_for (fun n i (y : am_X) => L_X8_together_48 n (nI (i + 1)) y) 200
    (fun i y => am_kp x y ∧ HR s y (hsq (x.2.2.1 29) p (fun i => skkN x (i % s)) (fun i => i % s) (st0 x v h t p) i) ∧ ffF (emT x v h t p s) 200 1 = ffF (emT x v h t p s) (200 - i) (i + 1))
    (fun r => ∃ y, am_kp x y ∧ r = (ffF (emT x v h t p s) 200 1, y))
    (fun n i y hi hp => by
      obtain ⟨ky, hc, hf⟩ := hp
      have h1 : ¬ (200 : Int32) < nI (i + 1) := nI_nlt (a := 200) (by omega) (by decide)
      have mk : 200 - i = (200 - (i + 1)) + 1 := by omega
      have ml := Nat.mod_lt i (show 0 < s by omega)
      have he := ((B_s B).2.2.2 (i % s) ml).1.1
      have tb := hsq_t (x.2.2.1 29) p (fun i => skkN x (i % s)) (fun i => i % s) (st0 x v h t p) i
      obtain ⟨z1, z2, a1, a2, k2, r2⟩ := rs_ok (base_kp B ky) hc (by rw [tb]; show t + i < 1250; omega) ml he
      have r2' : HR s z2 (hsq (x.2.2.1 29) p (fun i => skkN x (i % s)) (fun i => i % s) (st0 x v h t p) (i + 1)) := by rw [kp_now ky] at r2; exact r2
      have e3 : y.2.2.1 29 3 = nI s := by rw [kp_now ky]; exact (B_s B).2.2.1
      have ns : ¬ nI s = (0 : Int32) := nI_nat (m := 0) (by omega) (by decide) (by omega)
      have E : L_X8_together_48 (n + 1) (nI (i + 1)) y = if nI (fb_ct (hsq (x.2.2.1 29) p (fun i => skkN x (i % s)) (fun i => i % s) (st0 x v h t p) (i + 1)).1 36) = 0 then some (nI (i + 1), z2) else L_X8_together_48 n (nI (i + 1 + 1)) z2 := by
        rw [L_X8_together_48, if_neg h1, e3, if_pos ns, nI_pred, md_s (by omega) s1 s3, kos_ok B ml ky]; dsimp only
        rw [a1]; dsimp only
        rw [a2]; dsimp only
        rw [ins_ok r2']; dsimp only
        rw [nI_1]
      by_cases z : emH (hsq (x.2.2.1 29) p (fun i => skkN x (i % s)) (fun i => i % s) (st0 x v h t p) (i + 1)) = true
      · refine Or.inr ⟨(nI (i + 1), z2), by rw [E, if_pos (ct0.mpr z)], z2, ky.trans k2, ?_⟩
        rw [hf, mk, ffF, show emT x v h t p s (i + 1) = true from z, if_pos rfl]
      · refine Or.inl ⟨z2, ⟨ky.trans k2, r2', ?_⟩, by rw [E, if_neg (fun c => z (ct0.mp c))]⟩
        rw [hf, mk, ffF, show emT x v h t p s (i + 1) = false from em_f z, if_neg (by decide)])
    (fun n y hp => by
      obtain ⟨ky, hc, hf⟩ := hp
      exact ⟨(-9, y), by rw [L_X8_together_48, if_pos (by decide)], y, ky, by rw [hf]; rfl⟩)
    1000 0 z0 (by decide) (by decide) ⟨k0.trans kz, hR, rfl⟩
  obtain ⟨r', hF, y, ky, rfl⟩ := H
  exact ⟨z0, y, ky, hb, hF⟩
end
/-- a minute, refused or not -/
theorem wm_c (a : Int32) (x : am_X) : (∃ t, t ≤ 999 ∧ a = nI t ∧ G_X7_wrongMinute a x = some (0, x)) ∨ (¬ (0 : Int32) ≤ a ∧ G_X7_wrongMinute a x = some (-4, x)) ∨ ((0 : Int32) ≤ a ∧ ¬ a ≤ 999 ∧ G_X7_wrongMinute a x = some (-6, x)) := by
  unfold G_X7_wrongMinute G_X7_wrongNumber
  by_cases a0 : (0 : Int32) ≤ a
  · by_cases a9 : a ≤ 999
    · have a0' : ¬ a < 0 := by rw [ii_lt]; rw [ii_le] at a0; omega
      obtain ⟨t, ht, rfl⟩ := nI_of2 (n := 999) (by decide) a0' a9
      exact Or.inl ⟨t, ht, rfl, by rw [if_pos a0, if_pos a9]⟩
    · exact Or.inr (Or.inr ⟨a0, a9, by rw [if_pos a0, if_neg a9]⟩)
  · exact Or.inr (Or.inl ⟨a0, by rw [if_neg a0]⟩)
theorem ok_together (a : Int32) : am_ok (G_X7_together a) (G_X8_together a) := by
  intro x hI
  obtain ⟨v, h, p, s, B⟩ := base_ex hI
  have hs := B_s B
  have s3 := hs.1
  unfold G_X7_together G_X8_together
  rw [hs.2.1]
  by_cases s0 : s = 0
  · refine ⟨-3, am_r7 3 x, am_r8 3 (am_r7 3 x), ?_, ?_, r78 (j := 3) hI⟩
    · rw [if_pos (by rw [s0]; rfl), c3]
    · rw [show (am_r7 3 x).2.2.1 29 3 = nI s from hs.2.2.1, if_pos (by rw [s0]; rfl), n3]
  have ns : ¬ nI s = (0 : Int32) := nI_nat (m := 0) (by omega) (by decide) s0
  rcases wm_c a x with ⟨t, ht, rfl, w⟩ | ⟨a0, w⟩ | ⟨a0, a9, w⟩
  · obtain ⟨y, ky, hy⟩ := tg_class B (by omega) (t := t) (by omega)
    obtain ⟨z0, z, kz, hb, hz⟩ := tg_ref B (by omega) (t := t) (by omega) ky
    refine ⟨ffF (emT x v h t p s) 201 0, y, z, ?_, ?_, hI.kp kz⟩
    · rw [if_neg ns, w]; dsimp only
      rw [if_pos (by decide), hy]
    · rw [kp_now ky, hs.2.2.1, if_neg ns, if_pos (nI_mp (by omega)), if_pos (show nI t ≤ (999 : Int32) from nI_le (b := 999) ht (by decide)), hb]; dsimp only
      rw [hz]
  · refine ⟨-4, am_r7 4 x, am_r8 4 (am_r7 4 x), ?_, ?_, r78 (j := 4) hI⟩
    · rw [if_neg ns, w]; dsimp only
      rw [if_neg (by decide), c4]
    · rw [show (am_r7 4 x).2.2.1 29 3 = nI s from hs.2.2.1, if_neg ns, if_neg a0, n4]
  · refine ⟨-6, am_r7 6 x, am_r8 6 (am_r7 6 x), ?_, ?_, r78 (j := 6) hI⟩
    · rw [if_neg ns, w]; dsimp only
      rw [if_neg (by decide), c6]
    · rw [show (am_r7 6 x).2.2.1 29 3 = nI s from hs.2.2.1, if_neg ns, if_pos a0, if_neg a9, n6]
/-! the row as looks -/
def oR (S : Nat → Bool) (r : Nat) : Int32 := if r < 36 ∧ S r = true then nI r else -9
theorem rm_oR {S : Nat → Bool} {r q : Nat} (hr : r < 100) (hq : q < 36) : rmS S (nI r) q = rmS S (oR S r) q := by
  unfold oR
  by_cases c : r < 36 ∧ S r = true
  · rw [if_pos c]
  · rw [if_neg c]
    unfold rmS
    have e9 : ¬ (-9 : Int32) = nI q := fun e => n9 (by omega) e.symm
    by_cases e : q = r
    · subst e
      have : S q = false := by
        cases s : S q
        · rfl
        · exact absurd ⟨hq, s⟩ c
      rw [this]; rfl
    · have : ¬ nI r = nI q := fun d => e ((nI_eq (by omega) (by omega)).mp d).symm
      simp [this, e9]
theorem nx_cong {now : Nat → Int32} {p t : Nat} {S : Nat → Bool} {o o' : Int32} (h : ∀ q, q < 36 → rmS S o q = rmS S o' q) {q : Nat} (hq : q < 36) : nxS now p t S o q = nxS now p t S o' q := by
  unfold nxS
  by_cases m : (t + 1) % p = 0
  · rw [if_pos m, if_pos m, ← gr_bS now (rmS S o) hq, ← gr_bS now (rmS S o') hq]
    have : bS (rmS S o) = bS (rmS S o') := by
      funext r
      unfold bS
      by_cases hr : r < 36
      · rw [h r hr]
      · simp [hr]
    rw [this]
  · rw [if_neg m, if_neg m]; exact h q hq
def rsq (x : am_X) (p : Nat) (σ : HS) : Nat → HS
  | 0 => σ
  | i + 1 => (nxS (x.2.2.1 29) p (rsq x p σ i).2.1 (rsq x p σ i).1 (oR (rsq x p σ i).1 (rowv x i)), (rsq x p σ i).2.1 + 1, (rsq x p σ i).2.2)
theorem rsq_t (x : am_X) (p : Nat) (σ : HS) : ∀ i, (rsq x p σ i).2.1 = σ.2.1 + i
  | 0 => rfl
  | i + 1 => by
    show (rsq x p σ i).2.1 + 1 = _
    rw [rsq_t x p σ i]; omega
noncomputable def bdR (x : am_X) (v h t p i : Nat) : Bool := !decide (rowv x i < 36 ∧ (rsq x p (st0 x v h t p) i).1 (rowv x i) = true)
theorem ffF_1 {b : Nat → Bool} {j : Nat} (hb : b j = true) (hf : ∀ k, k < j → b k = false) : ∀ n i, i ≤ j → j < i + n → ffF b n i = nI j := by
  intro n
  induction n with
  | zero => intro i h1 h2; omega
  | succ n ih =>
    intro i h1 h2
    rw [ffF]
    by_cases e : i = j
    · subst e; rw [if_pos hb]
    · rw [hf i (by omega), if_neg (by decide)]
      exact ih (i + 1) (by omega) (by omega)
theorem ffF_0 {b : Nat → Bool} {n : Nat} : ∀ m i, i + m ≤ n → (∀ k, k < n → b k = false) → ffF b m i = -9 := by
  intro m
  induction m with
  | zero => intro i _ _; rfl
  | succ m ih =>
    intro i h hb
    rw [ffF, hb i (by omega), if_neg (by decide)]
    exact ih (i + 1) (by omega) hb
