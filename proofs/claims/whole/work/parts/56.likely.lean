/-! ways, likely, likeliest alike -/
theorem cW_le {now : Nat → Int32} {w : Nat → Nat} {M : Nat} (h : ∀ r, r < 36 → w r ≤ M) (q v : Nat) : cW now w q v ≤ M := by
  unfold cW
  by_cases c : bsd q v < 36 ∧ kd now (bsd q v) 5 = false ∧ kd now q 1 = false
  · rw [if_pos c]; exact h _ c.1
  · rw [if_neg c]; exact Nat.zero_le _
theorem wy_le (now : Nat → Int32) (h : Nat) : ∀ n q, q < 36 → wyN now h n q ≤ 5 ^ n := by
  intro n
  induction n with
  | zero =>
    intro q _
    show (if q = h then 1 else 0) ≤ 1
    split <;> omega
  | succ n ih =>
    intro q hq
    show wyN now h n q + fb_sm (gW now (wyN now h n) q) 36 ≤ _
    rw [gW_sum now _ hq, Nat.pow_succ]
    have a := ih q hq
    have c0 := cW_le (now := now) ih q 0
    have c1 := cW_le (now := now) ih q 1
    have c2 := cW_le (now := now) ih q 2
    have c3 := cW_le (now := now) ih q 3
    omega
theorem wy_h (now : Nat → Int32) (h : Nat) : ∀ n, 1 ≤ wyN now h n h := by
  intro n
  induction n with
  | zero =>
    show 1 ≤ (if h = h then 1 else 0)
    rw [if_pos rfl]; exact Nat.le_refl _
  | succ n ih =>
    show 1 ≤ wyN now h n h + _
    omega
theorem wy_20 {now : Nat → Int32} {h m q : Nat} (hm : m ≤ 20) (hq : q < 36) : wyN now h m q < 2 ^ 50 :=
  Nat.lt_of_le_of_lt (Nat.le_trans (wy_le now h m q hq) (Nat.pow_le_pow_right (n := 5) (by decide) hm)) (by decide)
theorem wy_all {now : Nat → Int32} {h m : Nat} (hm : m ≤ 20) : fb_sm (wyN now h m) 36 < 2 ^ 60 := by
  have := fb_sm_bound (f := wyN now h m) (c := 2 ^ 50) (n := 36) (fun k hk => Nat.le_of_lt (wy_20 hm hk))
  have e : 36 * 2 ^ 50 < 2 ^ 60 := by decide
  omega
theorem wy_pos {now : Nat → Int32} {h m : Nat} (hh : h < 36) : 0 < fb_sm (wyN now h m) 36 := by
  have a := fb_sm_part (wyN now h m) hh
  have b := wy_h now h m
  omega
theorem lN_0 {a : Nat} (h : a < 2 ^ 63) : lN a = 0 ↔ a = 0 := fb_lN_inj (b := 0) h (by decide)
theorem half_mod {b m : Nat} (h0 : 0 < m) (h : m ≤ b) : 2 * (b % m) < b := by
  have e := Nat.div_add_mod b m
  have l := Nat.mod_lt b h0
  have d : m ≤ m * (b / m) := Nat.le_mul_of_pos_right _ (Nat.div_pos h h0)
  omega
theorem gcd_st (a b : Nat) : Nat.gcd b (a % b) = Nat.gcd a b := by
  rw [Nat.gcd_comm a b, Nat.gcd_rec b a, Nat.gcd_comm]
theorem gd_ok (x : am_X) : ∀ (k a b i n : Nat), b < 2 ^ k → a < 2 ^ 63 → b < 2 ^ 63 → 2 * k + 1 ≤ n → i + 2 * k < 1000 → L_X7_greatestDivisor_9 n (lN a) (lN b) (nI i) x = some (lN (Nat.gcd a b), x) := by
  intro k
  induction k with
  | zero =>
    intro a b i n hb ha _ hn hi
    have : b = 0 := by simp at hb; exact hb
    subst this
    obtain ⟨n', rfl⟩ : ∃ n', n = n' + 1 := ⟨n - 1, by omega⟩
    rw [L_X7_greatestDivisor_9, if_neg (show ¬ (1000 : Int32) ≤ nI i from nI_ge (b := 1000) (by omega) (by decide)), if_pos (show lg_cmp (lN 0) 0 = 0 from (lg_cmp0 _).mpr rfl), Nat.gcd_zero_right]
  | succ k ih =>
    intro a b i n hb ha hb63 hn hi
    obtain ⟨n', rfl⟩ : ∃ n', n = n' + 1 + 1 := ⟨n - 2, by omega⟩
    have l1 : ¬ (1000 : Int32) ≤ nI i := nI_ge (b := 1000) (by omega) (by decide)
    have l2 : ¬ (1000 : Int32) ≤ nI (i + 1) := nI_ge (b := 1000) (by omega) (by decide)
    by_cases z : b = 0
    · subst z
      rw [L_X7_greatestDivisor_9, if_neg l1, if_pos (show lg_cmp (lN 0) 0 = 0 from (lg_cmp0 _).mpr rfl), Nat.gcd_zero_right]
    · have zb : ¬ lN b = 0 := fun c => z ((lN_0 hb63).mp c)
      rw [L_X7_greatestDivisor_9, if_neg l1, if_neg (fun c => zb ((lg_cmp0 _).mp c)), if_pos zb, pk_lRem ha (by omega) hb63, nI_1]
      have lm := Nat.mod_lt a (show 0 < b by omega)
      by_cases z2 : a % b = 0
      · rw [z2, L_X7_greatestDivisor_9, if_neg l2, if_pos (show lg_cmp (lN 0) 0 = 0 from (lg_cmp0 _).mpr rfl), ← gcd_st, z2, Nat.gcd_zero_right]
      · have m63 : a % b < 2 ^ 63 := by omega
        have zm : ¬ lN (a % b) = 0 := fun c => z2 ((lN_0 m63).mp c)
        have hh := half_mod (show 0 < a % b by omega) (Nat.le_of_lt lm)
        rw [L_X7_greatestDivisor_9, if_neg l2, if_neg (fun c => zm ((lg_cmp0 _).mp c)), if_pos zm, pk_lRem hb63 (by omega) m63, nI_1, ih (a % b) (b % (a % b)) (i + 1 + 1) n' (by rw [Nat.pow_succ] at hb; omega) m63 (by omega) (by omega) (by omega), gcd_st, gcd_st]
theorem grl_ok (x : am_X) (u1 u2 : Int32) (u3 : Int64) : ∀ (k a b n : Nat), b < 2 ^ k → a < 2 ^ 63 → b < 2 ^ 63 → 2 * k + 1 ≤ n → ∃ u, L_X8_likely_72 n u1 u2 u3 (lN a) (lN b) x = some (u1, u2, u3, lN (Nat.gcd a b), u, x) := by
  intro k
  induction k with
  | zero =>
    intro a b n hb ha _ hn
    have : b = 0 := by simp at hb; exact hb
    subst this
    obtain ⟨n', rfl⟩ : ∃ n', n = n' + 1 := ⟨n - 1, by omega⟩
    exact ⟨_, by rw [L_X8_likely_72, if_pos (show lg_cmp (lN 0) 0 = 0 from (lg_cmp0 _).mpr rfl), Nat.gcd_zero_right]⟩
  | succ k ih =>
    intro a b n hb ha hb63 hn
    obtain ⟨n', rfl⟩ : ∃ n', n = n' + 1 + 1 := ⟨n - 2, by omega⟩
    by_cases z : b = 0
    · subst z
      exact ⟨_, by rw [L_X8_likely_72, if_pos (show lg_cmp (lN 0) 0 = 0 from (lg_cmp0 _).mpr rfl), Nat.gcd_zero_right]⟩
    · have zb : ¬ lN b = 0 := fun c => z ((lN_0 hb63).mp c)
      rw [L_X8_likely_72, if_neg (fun c => zb ((lg_cmp0 _).mp c)), if_pos zb, pk_lRem ha (by omega) hb63]
      have lm := Nat.mod_lt a (show 0 < b by omega)
      by_cases z2 : a % b = 0
      · exact ⟨_, by rw [z2, L_X8_likely_72, if_pos (show lg_cmp (lN 0) 0 = 0 from (lg_cmp0 _).mpr rfl), ← gcd_st, z2, Nat.gcd_zero_right]⟩
      · have m63 : a % b < 2 ^ 63 := by omega
        have zm : ¬ lN (a % b) = 0 := fun c => z2 ((lN_0 m63).mp c)
        have hh := half_mod (show 0 < a % b by omega) (Nat.le_of_lt lm)
        rw [L_X8_likely_72, if_neg (fun c => zm ((lg_cmp0 _).mp c)), if_pos zm, pk_lRem hb63 (by omega) m63]
        obtain ⟨u, hu⟩ := ih (a % b) (b % (a % b)) n' (by rw [Nat.pow_succ] at hb; omega) m63 (by omega) (by omega)
        exact ⟨u, by rw [hu, gcd_st, gcd_st]⟩
/-- refused longs -/
theorem rl_c {j : Int32} {i : Nat} {x : am_X} (h : G_X7_refused j x = some (j, am_r7 i x)) : G_X7_refusedLong j x = some ((4000000000000000000 : Int64) - j.toInt64, am_r7 i x) := by
  unfold G_X7_refusedLong
  rw [h]
theorem rl_n {j : Int32} {i : Nat} {x : am_X} (h : G_X8_no j x = some (j, am_r8 i x)) : G_X8_noLong j x = some ((4000000000000000000 : Int64) - j.toInt64, am_r8 i x) := by
  unfold G_X8_noLong
  rw [h]
theorem ww_c (a b : Int32) (x : am_X) : (∃ m q, m ≤ 20 ∧ q < 36 ∧ a = nI m ∧ b = nI q ∧ G_X7_wrongWays a b x = some (0, x)) ∨ (¬ (0 : Int32) ≤ a ∧ G_X7_wrongWays a b x = some (-4, x)) ∨ ((0 : Int32) ≤ a ∧ ¬ a ≤ 20 ∧ G_X7_wrongWays a b x = some (-6, x)) ∨ ((0 : Int32) ≤ a ∧ a ≤ 20 ∧ ¬ am_sq b ∧ G_X7_wrongWays a b x = some (-1, x)) := by
  unfold G_X7_wrongWays G_X7_wrongNumber
  by_cases a0 : (0 : Int32) ≤ a
  · by_cases a2 : a ≤ 20
    · by_cases c : am_sq b
      · have a0' : ¬ a < 0 := by rw [ii_lt]; rw [ii_le] at a0; omega
        obtain ⟨m, hm, rfl⟩ := nI_of2 (n := 20) (by decide) a0' a2
        obtain ⟨q, hq, rfl⟩ := am_nIsq c
        refine Or.inl ⟨m, q, hm, hq, rfl, rfl, ?_⟩
        rw [if_pos a0, if_pos a2]; dsimp only
        rw [if_pos (by decide), if_pos c]
      · refine Or.inr (Or.inr (Or.inr ⟨a0, a2, c, ?_⟩))
        rw [if_pos a0, if_pos a2]; dsimp only
        rw [if_pos (by decide), if_neg c]
    · refine Or.inr (Or.inr (Or.inl ⟨a0, a2, ?_⟩))
      rw [if_pos a0, if_neg a2]; dsimp only
      rw [if_neg (by decide)]
  · refine Or.inr (Or.inl ⟨a0, ?_⟩)
    rw [if_neg a0]; dsimp only
    rw [if_neg (by decide)]
theorem eo_at (f : Nat → Int64) {q : Nat} (hq : q < 36) : am_eo f (nI q) = f q := by
  unfold am_eo
  rw [if_pos (ns_e hq), nI_clamp (by omega)]
theorem ok_ways (a b : Int32) : am_ok (G_X7_ways a b) (G_X8_ways a b) := by
  intro x hI
  obtain ⟨h, hh, e1, e2, e3⟩ := hI.g.home
  unfold G_X7_ways G_X8_ways
  rcases ww_c a b x with ⟨m, q, hm, hq, rfl, rfl, w⟩ | ⟨a0, w⟩ | ⟨a0, a2, w⟩ | ⟨a0, a2, c, w⟩
  · obtain ⟨b1, f, hk, hf⟩ := wk_ok hI hh e1 hm
    obtain ⟨f', g', hr, hf'⟩ := wo_ok (x := wb x b1 f) hI.hel hh e2 hm
    refine ⟨lN (wyN (x.2.2.1 29) h m q), wb x b1 f, wr (wb x b1 f) f' g', ?_, ?_, (hI.kp (wb_kp _ _)).kp (wr_kp _ _)⟩
    · rw [w]; dsimp only
      rw [if_pos (by decide), hk]; dsimp only
      rw [show (wb x b1 f).2.2.2 23 = f from rfl, eo_at f hq, hf q hq]
    · rw [if_pos (nI_mp (by omega)), if_pos (show nI m ≤ (20 : Int32) from nI_le (b := 20) hm (by decide)), ns_in hq]; dsimp only
      rw [if_pos rfl, hr]; dsimp only
      rw [if_pos (ns_e hq), nI_clamp (by omega), show (wr (wb x b1 f) f' g').2.2.2 43 q = f' q from rfl, hf' q hq]
      rfl
  · refine ⟨(4000000000000000000 : Int64) - (-4 : Int32).toInt64, am_r7 4 x, am_r8 4 (am_r7 4 x), ?_, ?_, r78 (j := 4) hI⟩
    · rw [w]; dsimp only
      rw [if_neg (by decide), rl_c (c4 x)]
    · rw [if_neg a0, rl_n (n4 _)]
  · refine ⟨(4000000000000000000 : Int64) - (-6 : Int32).toInt64, am_r7 6 x, am_r8 6 (am_r7 6 x), ?_, ?_, r78 (j := 6) hI⟩
    · rw [w]; dsimp only
      rw [if_neg (by decide), rl_c (c6 x)]
    · rw [if_pos a0, if_neg a2, rl_n (n6 _)]
  · refine ⟨(4000000000000000000 : Int64) - (-1 : Int32).toInt64, am_r7 1 x, am_r8 1 (am_r7 1 x), ?_, ?_, r78 (j := 1) hI⟩
    · rw [w]; dsimp only
      rw [if_neg (by decide), rl_c (c1 x)]
    · rw [if_pos a0, if_pos a2, ns_out c]; dsimp only
      rw [if_neg (by decide), rl_n (n1 _)]
theorem ia_ok {f : Nat → Int64} {w : Nat → Nat} (hf : ∀ q, q < 36 → f q = lN (w q)) : ∀ n i, i + n = 36 → am_iaF f n i (lN (fb_sm w i)) = lN (fb_sm w 36) := by
  intro n
  induction n with
  | zero =>
    intro i hi
    have : i = 36 := by omega
    subst this
    rfl
  | succ n ih =>
    intro i hi
    rw [am_iaF, hf i (by omega), lN_add, ← fb_sm_succ]
    exact ih (i + 1) (by omega)
theorem ok_likely (a b e : Int32) : am_ok (G_X7_likely a b e) (G_X8_likely a b e) := by
  intro x hI
  obtain ⟨h, hh, e1, e2, e3⟩ := hI.g.home
  unfold G_X7_likely G_X8_likely
  rcases ww_c a b x with ⟨m, q, hm, hq, rfl, rfl, w⟩ | ⟨a0, w⟩ | ⟨a0, a2, w⟩ | ⟨a0, a2, c, w⟩
  · have p1 : (0 : Int32) ≤ nI m := nI_mp (by omega)
    have p2 : nI m ≤ (20 : Int32) := nI_le (b := 20) hm (by decide)
    by_cases ce : e = 0 ∨ e = 1
    · obtain ⟨b1, f, hk, hf⟩ := wk_ok hI hh e1 hm
      obtain ⟨f', g', hr, hf'⟩ := wo_ok (x := wb x b1 f) hI.hel hh e2 hm
      have hf2 : f' q = lN (wyN (x.2.2.1 29) h m q) := hf' q hq
      have lq : wyN (x.2.2.1 29) h m q < 2 ^ 50 := wy_20 hm hq
      have la : fb_sm (wyN (x.2.2.1 29) h m) 36 < 2 ^ 60 := wy_all hm
      have pa : 0 < fb_sm (wyN (x.2.2.1 29) h m) 36 := wy_pos hh
      have lq63 : wyN (x.2.2.1 29) h m q < 2 ^ 63 := Nat.lt_trans lq (by decide)
      have la63 : fb_sm (wyN (x.2.2.1 29) h m) 36 < 2 ^ 63 := Nat.lt_trans la (by decide)
      have ia : am_iaF f 36 0 0 = lN (fb_sm (wyN (x.2.2.1 29) h m) 36) := ia_ok hf 36 0 rfl
      have gd : ∀ y, G_X7_greatestDivisor (lN (fb_sm (wyN (x.2.2.1 29) h m) 36)) (lN (wyN (x.2.2.1 29) h m q)) y = some (lN (Nat.gcd (fb_sm (wyN (x.2.2.1 29) h m) 36) (wyN (x.2.2.1 29) h m q)), y) := fun y => by
        unfold G_X7_greatestDivisor
        exact gd_ok y 50 _ _ 0 1000 lq la63 lq63 (by decide) (by decide)
      have gp : 0 < Nat.gcd (fb_sm (wyN (x.2.2.1 29) h m) 36) (wyN (x.2.2.1 29) h m q) := Nat.gcd_pos_of_pos_left _ pa
      have gl : Nat.gcd (fb_sm (wyN (x.2.2.1 29) h m) 36) (wyN (x.2.2.1 29) h m q) < 2 ^ 63 := Nat.lt_of_le_of_lt (Nat.gcd_le_left _ pa) la63
      have gn : ¬ lN (Nat.gcd (fb_sm (wyN (x.2.2.1 29) h m) 36) (wyN (x.2.2.1 29) h m q)) = 0 := fun c => by have := (lN_0 gl).mp c; omega
      obtain ⟨u, hu⟩ := grl_ok (wr (wb x b1 f) f' g') (nI q) e (lN (fb_sm (wyN (x.2.2.1 29) h m) 36)) 60 (wyN (x.2.2.1 29) h m q) (fb_sm (wyN (x.2.2.1 29) h m) 36) 1000 la lq63 la63 (by decide)
      rw [Nat.gcd_comm] at hu
      generalize Nat.gcd (fb_sm (wyN (x.2.2.1 29) h m) 36) (wyN (x.2.2.1 29) h m q) = G at gd gp gl gn hu
      have hr' : G_X8_waysOf (nI m) (wb x b1 f) = some (lN (fb_sm (wyN (x.2.2.1 29) h m) 36), wr (wb x b1 f) f' g') := hr
      refine ⟨if e = 0 then lN (wyN (x.2.2.1 29) h m q) / lN G else lN (fb_sm (wyN (x.2.2.1 29) h m) 36) / lN G, wb x b1 f, wr (wb x b1 f) f' g', ?_, ?_, (hI.kp (wb_kp _ _)).kp (wr_kp _ _)⟩
      · rw [w]; dsimp only
        rw [if_pos (by decide)]
        by_cases c0 : e = 0
        · rw [if_pos c0, hk]; dsimp only
          rw [show (wb x b1 f).2.2.2 23 = f from rfl, eo_at f hq, hf q hq, ia, gd]; dsimp only
          rw [if_neg (fun c => gn ((lg_cmp0 _).mp c)), if_pos c0, if_pos gn, if_pos c0]
        · have c1 : e = 1 := ce.resolve_left c0
          rw [if_neg c0, if_pos c1, hk]; dsimp only
          rw [show (wb x b1 f).2.2.2 23 = f from rfl, eo_at f hq, hf q hq, ia, gd]; dsimp only
          rw [if_neg (fun c => gn ((lg_cmp0 _).mp c)), if_neg c0, if_pos gn, if_neg c0]
      · rw [if_pos p1, if_pos p2, ns_in hq]; dsimp only
        rw [if_pos rfl]
        by_cases c0 : e = 0
        · rw [if_pos c0, hr']; dsimp only
          rw [if_pos (ns_e hq), nI_clamp (by omega), show (wr (wb x b1 f) f' g').2.2.2 43 q = f' q from rfl, hf2, hu]; dsimp only
          rw [if_pos c0, if_pos (ns_e hq), if_pos gn, nI_clamp (by omega), show (wr (wb x b1 f) f' g').2.2.2 43 q = f' q from rfl, hf2, if_pos c0]
        · have c1 : e = 1 := ce.resolve_left c0
          rw [if_neg c0, if_pos c1, hr']; dsimp only
          rw [if_pos (ns_e hq), nI_clamp (by omega), show (wr (wb x b1 f) f' g').2.2.2 43 q = f' q from rfl, hf2, hu]; dsimp only
          rw [if_neg c0, if_pos gn, if_neg c0]
    · have n0 : ¬ e = 0 := fun c => ce (Or.inl c)
      have n1' : ¬ e = 1 := fun c => ce (Or.inr c)
      refine ⟨(4000000000000000000 : Int64) - (-2 : Int32).toInt64, am_r7 2 x, am_r8 2 (am_r7 2 x), ?_, ?_, r78 (j := 2) hI⟩
      · rw [w]; dsimp only
        rw [if_pos (by decide), if_neg n0, if_neg n1', rl_c (c2 x)]
      · rw [if_pos p1, if_pos p2, ns_in hq]; dsimp only
        rw [if_pos rfl, if_neg n0, if_neg n1', rl_n (n2 _)]
  · refine ⟨(4000000000000000000 : Int64) - (-4 : Int32).toInt64, am_r7 4 x, am_r8 4 (am_r7 4 x), ?_, ?_, r78 (j := 4) hI⟩
    · rw [w]; dsimp only
      rw [if_neg (by decide), rl_c (c4 x)]
    · rw [if_neg a0, rl_n (n4 _)]
  · refine ⟨(4000000000000000000 : Int64) - (-6 : Int32).toInt64, am_r7 6 x, am_r8 6 (am_r7 6 x), ?_, ?_, r78 (j := 6) hI⟩
    · rw [w]; dsimp only
      rw [if_neg (by decide), rl_c (c6 x)]
    · rw [if_pos a0, if_neg a2, rl_n (n6 _)]
  · refine ⟨(4000000000000000000 : Int64) - (-1 : Int32).toInt64, am_r7 1 x, am_r8 1 (am_r7 1 x), ?_, ?_, r78 (j := 1) hI⟩
    · rw [w]; dsimp only
      rw [if_neg (by decide), rl_c (c1 x)]
    · rw [if_pos a0, if_pos a2, ns_out c]; dsimp only
      rw [if_neg (by decide), rl_n (n1 _)]
theorem li_ref {x : am_X} {f : Nat → Int64} (hf : ∀ q, q < 36 → f q = x.2.2.2 43 q) : ∃ u, L_X8_likeliest_34 1000 0 1 x = some (am_liF f 35 1 0, u, x) := by
  have H := am_for (fun n i (c : Nat) => L_X8_likeliest_34 n (nI c) (nI (i + 1)) x) 35 (fun i c => c < 36 ∧ am_liF f (35 - i) (i + 1) (nI c) = am_liF f 35 1 0)
    (fun r => ∃ u, r = (am_liF f 35 1 0, u, x))
    (fun n i c hi hp => Or.inl (by
      obtain ⟨hc, hl⟩ := hp
      have h1 : ¬ (36 : Int32) ≤ nI (i + 1) := nI_ge (b := 36) (by omega) (by decide)
      have mk : 35 - i = (35 - (i + 1)) + 1 := by omega
      rw [mk, am_liF, eo_at f (by omega : i + 1 < 36), eo_at f hc, hf _ (by omega), hf c hc] at hl
      rw [L_X8_likeliest_34, if_neg h1, if_pos (ns_e (by omega : i + 1 < 36)), if_pos (ns_e hc), nI_clamp (by omega), nI_clamp (by omega), nI_1]
      by_cases l : lg_cmp (x.2.2.2 43 (i + 1)) (x.2.2.2 43 c) ≤ 0
      · rw [if_pos l] at hl ⊢
        exact ⟨c, ⟨hc, hl⟩, rfl⟩
      · rw [if_neg l] at hl ⊢
        exact ⟨i + 1, ⟨by omega, hl⟩, rfl⟩))
    (fun n c hp => ⟨(nI c, nI 36, x), by rw [L_X8_likeliest_34, if_pos (by decide)], nI 36, by
      have : am_liF f 0 36 (nI c) = am_liF f 35 1 0 := hp.2
      rw [← this]; rfl⟩)
    1000 0 0 (by decide) (by decide) ⟨by decide, rfl⟩
  obtain ⟨r, hF, u, rfl⟩ := H
  exact ⟨u, hF⟩
theorem ok_likeliest (a : Int32) : am_ok (G_X7_likeliest a) (G_X8_likeliest a) := by
  intro x hI
  obtain ⟨h, hh, e1, e2, e3⟩ := hI.g.home
  unfold G_X7_likeliest G_X8_likeliest
  rcases ww_c a 0 x with ⟨m, q, hm, hq, rfl, _, w⟩ | ⟨a0, w⟩ | ⟨a0, a2, w⟩ | ⟨a0, a2, c, w⟩
  · obtain ⟨b1, f, hk, hf⟩ := wk_ok hI hh e1 hm
    obtain ⟨f', g', hr, hf'⟩ := wo_ok (x := wb x b1 f) hI.hel hh e2 hm
    obtain ⟨u, hl⟩ := li_ref (x := wr (wb x b1 f) f' g') (f := f) (fun q hq => by
      rw [hf q hq]
      exact (hf' q hq).symm)
    refine ⟨am_liF f 35 1 0, wb x b1 f, wr (wb x b1 f) f' g', ?_, ?_, (hI.kp (wb_kp _ _)).kp (wr_kp _ _)⟩
    · rw [w]; dsimp only
      rw [if_pos (by decide), hk]
      rfl
    · rw [if_pos (nI_mp (by omega)), if_pos (show nI m ≤ (20 : Int32) from nI_le (b := 20) hm (by decide)), hr]; dsimp only
      rw [hl]
  · refine ⟨-4, am_r7 4 x, am_r8 4 (am_r7 4 x), ?_, ?_, r78 (j := 4) hI⟩
    · rw [w]; dsimp only
      rw [if_neg (by decide), c4]
    · rw [if_neg a0, n4]
  · refine ⟨-6, am_r7 6 x, am_r8 6 (am_r7 6 x), ?_, ?_, r78 (j := 6) hI⟩
    · rw [w]; dsimp only
      rw [if_neg (by decide), c6]
    · rw [if_pos a0, if_neg a2, n6]
  · exact absurd (show am_sq 0 by decide) c
