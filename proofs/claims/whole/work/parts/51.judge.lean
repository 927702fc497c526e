/-! judge, behind -/
theorem HC_cong {s : Nat} {y : am_X} {σ : HS} {S : Nat → Bool} (h : HC s y σ) (e : ∀ q, q < 36 → σ.1 q = S q) : HC s y (S, σ.2.1, σ.2.2) := ⟨h.1.congr e, h.2.1, h.2.2⟩
theorem hasb_r {w : Int64} {S : Nat → Bool} (h : abr w S) {r : Nat} (hr : r < 100) : am_hasb w (nI r) ↔ r < 36 ∧ S r = true := by
  by_cases c : r < 36
  · rw [h.hasb c]
    constructor
    · intro a; exact ⟨c, a⟩
    · intro a; exact a.2
  · constructor
    · intro a; exact absurd a (hasb_out (fun d => c ((sq_n (by omega)).mp d)))
    · intro a; exact absurd a.1 c
section
variable {x : am_X} {v h p s m t : Nat}
theorem rl_ok (B : base x v h p s) (R : rowp x m) {i : Nat} (hi : i < m) (ht : t < 1000) {y : am_X} (ky : am_kp x y) (hc : HC s y (rsq x p (st0 x v h t p) i)) : HC s (am_lkx y (nI (rowv x i))) (rsq x p (st0 x v h t p) (i + 1)) := by
  obtain ⟨hI, hv, v1, v2, hh, e1, e2, e3, p1, p9, q1, q2, hs⟩ := base_kp B ky
  have m12 := R.1
  have tb := rsq_t x p (st0 x v h t p) i
  have L := lk_ok hI p1 p9 q1 hc (by rw [tb]; show t + i < 1250; omega) (nI (rowv x i))
  rw [kp_now ky] at L
  exact HC_cong L (fun q hq => nx_cong (fun q hq => rm_oR (R.2.2.2 i hi).1 hq) hq)
theorem bdR_t {i : Nat} (h' : ¬ (rowv x i < 36 ∧ (rsq x p (st0 x v h t p) i).1 (rowv x i) = true)) : bdR x v h t p i = true := by
  unfold bdR
  rw [decide_eq_false h']; rfl
theorem bdR_f {i : Nat} (h' : rowv x i < 36 ∧ (rsq x p (st0 x v h t p) i).1 (rowv x i) = true) : bdR x v h t p i = false := by
  unfold bdR
  rw [decide_eq_true h']; rfl
theorem ju_class (B : base x v h p s) (R : rowp x m) (ht : t < 1000) : ∃ r y, G_X7_reachedBy (nI t) x = some (r, y) ∧ ∃ y', am_kp x y' ∧ L_X7_judge_34 1000 0 (am_bgx y r (nI t)) = some (ffF (bdR x v h t p) m 0, y') := by
  obtain ⟨r, y1, hr, k1, hC⟩ := cb_ok B ht
  have m12 := R.1
  refine ⟨r, y1, hr, ?_⟩
  have H := am_for (fun n i (y : am_X) => L_X7_judge_34 n (nI i) y) m
    (fun i y => am_kp x y ∧ HC s y (rsq x p (st0 x v h t p) i) ∧ ∀ j, j < i → bdR x v h t p j = false)
    (fun r => ∃ y, am_kp x y ∧ r = (ffF (bdR x v h t p) m 0, y))
    (fun n i y hi hp => by
      obtain ⟨ky, hc, hf⟩ := hp
      have e513 : y.1 513 = nI m := (ky.i 513 (by decide)).trans R.2.1
      have h1 : ¬ nI m ≤ nI i := nI_ge hi (by omega)
      obtain ⟨r100, r17, r42⟩ := R.2.2.2 i hi
      have en : am_nat16 (nI m) (y.2.2.1 17) (nI i) = nI (rowv x i) := by rw [nat16_at m12 hi, ky.a 17 (by decide), r17]
      by_cases c : rowv x i < 36 ∧ (rsq x p (st0 x v h t p) i).1 (rowv x i) = true
      · refine Or.inl ⟨am_lkx y (nI (rowv x i)), ⟨ky.trans (lk_kp _), rl_ok B R hi ht ky hc, fun j hj => ?_⟩, ?_⟩
        · by_cases e : j = i
          · subst e; exact bdR_f c
          · exact hf j (by omega)
        · rw [L_X7_judge_34, e513, if_neg h1, en, if_pos ((hasb_r hc.1 r100).mpr c), nI_1]
      · refine Or.inr ⟨(nI i, y), by rw [L_X7_judge_34, e513, if_neg h1, en, if_neg (fun d => c ((hasb_r hc.1 r100).mp d))], y, ky, ?_⟩
        rw [ffF_1 (bdR_t c) hf m 0 (Nat.zero_le _) (by omega)])
    (fun n y hp => by
      obtain ⟨ky, hc, hf⟩ := hp
      have e513 : y.1 513 = nI m := (ky.i 513 (by decide)).trans R.2.1
      exact ⟨(-9, y), by rw [L_X7_judge_34, e513, if_pos (by rw [ii_le]; omega)], y, ky, by rw [ffF_0 m 0 (Nat.le_of_eq (Nat.zero_add m)) hf]⟩)
    1000 0 (am_bgx y1 r (nI t)) (by omega) (by omega) ⟨k1, hC, fun j hj => by omega⟩
  obtain ⟨r', hF, y, ky, rfl⟩ := H
  exact ⟨y, ky, hF⟩
theorem be_class (B : base x v h p s) (R : rowp x m) (ht : t < 1000) : ∃ r y, G_X7_reachedBy (nI t) x = some (r, y) ∧ ∃ y', am_kp x y' ∧ L_X7_behind_34 1000 0 (am_bgx y r (nI t)) = some (nI (fb_ct (rsq x p (st0 x v h t p) m).1 36), am_uI y' 513 0) := by
  obtain ⟨r, y1, hr, k1, hC⟩ := cb_ok B ht
  have m12 := R.1
  refine ⟨r, y1, hr, ?_⟩
  have H := am_for (fun n i (y : am_X) => L_X7_behind_34 n (nI i) y) m
    (fun i y => am_kp x y ∧ HC s y (rsq x p (st0 x v h t p) i))
    (fun r => ∃ y, am_kp x y ∧ r = (nI (fb_ct (rsq x p (st0 x v h t p) m).1 36), am_uI y 513 0))
    (fun n i y hi hp => by
      obtain ⟨ky, hc⟩ := hp
      have e513 : y.1 513 = nI m := (ky.i 513 (by decide)).trans R.2.1
      have h1 : ¬ nI m ≤ nI i := nI_ge hi (by omega)
      obtain ⟨r100, r17, r42⟩ := R.2.2.2 i hi
      have en : am_nat16 (nI m) (y.2.2.1 17) (nI i) = nI (rowv x i) := by rw [nat16_at m12 hi, ky.a 17 (by decide), r17]
      exact Or.inl ⟨am_lkx y (nI (rowv x i)), ⟨ky.trans (lk_kp _), rl_ok B R hi ht ky hc⟩, by rw [L_X7_behind_34, e513, if_neg h1, en, nI_1]⟩)
    (fun n y hp => by
      obtain ⟨ky, hc⟩ := hp
      have e513 : y.1 513 = nI m := (ky.i 513 (by decide)).trans R.2.1
      exact ⟨(nI (fb_ct (rsq x p (st0 x v h t p) m).1 36), am_uI y 513 0), by rw [L_X7_behind_34, e513, if_pos (by rw [ii_le]; omega), hc.1.bc], y, ky, rfl⟩)
    1000 0 (am_bgx y1 r (nI t)) (by omega) (by omega) ⟨k1, hC⟩
  obtain ⟨r', hF, y, ky, rfl⟩ := H
  exact ⟨y, ky, hF⟩
theorem lor_ok (B : base x v h p s) (R : rowp x m) (ht : t < 1000) {x0 : am_X} (e42 : x0.2.2.1 42 = x.2.2.1 42) (e885 : x0.1 885 = nI m) (e29 : x0.2.2.1 29 = x.2.2.1 29) (e37 : x0.2.2.1 37 = x.2.2.1 37) (hseek : seekp x0 s) : ∃ z, am_kp x0 z ∧ G_X8_looksOfRow (nI t) x0 = some (ffF (bdR x v h t p) m 0, z) ∧ HR s z (rsq x p (st0 x v h t p) m) := by
  obtain ⟨hI, hv, v1, v2, hh, e1, e2, e3, p1, p9, q1, q2, hs⟩ := B
  have m12 := R.1
  obtain ⟨z0, kz, hb, hR⟩ := bgr_ok (x := x0) hseek hv (by rw [e29]; exact v2) hh (by rw [e29]; exact e2) (by rw [e29]; exact e3) ht p1 p9 (by rw [e29]; exact q2)
  have es : (mbs x0 v h (t / p), t, seatN x0) = st0 x v h t p := by
    have a1 : mbs x0 v h (t / p) = mbs x v h (t / p) := by
      funext q
      unfold mbs rc hsx
      rw [e29, e37]
    have a2 : seatN x0 = seatN x := by funext i; unfold seatN; rw [e29]
    rw [a1, a2]; rfl
  rw [es] at hR
  have H := am_for (fun n i (y : Int32 × am_X) => L_X8_looksOfRow_10 n y.1 (nI i) y.2) m
    (fun i y => am_kp x0 y.2 ∧ HR s y.2 (rsq x p (st0 x v h t p) i) ∧ ((y.1 = -9 ∧ ∀ j, j < i → bdR x v h t p j = false) ∨ ∃ j, j < i ∧ bdR x v h t p j = true ∧ (∀ k, k < j → bdR x v h t p k = false) ∧ y.1 = nI j))
    (fun r => ∃ w y, am_kp x0 y ∧ r = (ffF (bdR x v h t p) m 0, w, y) ∧ HR s y (rsq x p (st0 x v h t p) m))
    (fun n i y hi hp => Or.inl (by
      obtain ⟨w, y⟩ := y
      obtain ⟨ky, hc, hf⟩ := hp
      dsimp only at ky hc hf ⊢
      have y885 : y.1 885 = nI m := (ky.i 885 (by decide)).trans e885
      have y29 : y.2.2.1 29 = x.2.2.1 29 := (kp_now ky).trans e29
      have h1 : ¬ nI m ≤ nI i := nI_ge hi (by omega)
      obtain ⟨r100, r17, r42⟩ := R.2.2.2 i hi
      have y42 : y.2.2.1 42 i = nI (rowv x i) := by rw [ky.a 42 (by decide), e42, r42]
      have i12 : 0 ≤ (nI i).toInt ∧ (nI i).toInt < 12 := nIr (b := 12) (by omega) (by decide)
      have tb := rsq_t x p (st0 x v h t p) i
      have ho : oR (rsq x p (st0 x v h t p) i).1 (rowv x i) = -9 ∨ ∃ a, a < 36 ∧ oR (rsq x p (st0 x v h t p) i).1 (rowv x i) = nI a := by
        unfold oR
        by_cases c : rowv x i < 36 ∧ (rsq x p (st0 x v h t p) i).1 (rowv x i) = true
        · rw [if_pos c]; exact Or.inr ⟨_, c.1, rfl⟩
        · rw [if_neg c]; exact Or.inl rfl
      obtain ⟨z', kz', hz', hr'⟩ := ps_ok hc (fun q hq => by rw [kp_hel ky, e37]; exact hI.hel q hq) p1 p9 (by rw [y29]; exact q2) (by rw [tb]; show t + i < 1250; omega) ho
      have hr2 : HR s z' (rsq x p (st0 x v h t p) (i + 1)) := by rw [y29] at hr'; exact hr'
      have E : L_X8_looksOfRow_10 (n + 1) w (nI i) y = L_X8_looksOfRow_10 n (if bdR x v h t p i = true ∧ w = -9 then nI i else w) (nI (i + 1)) z' := by
        rw [L_X8_looksOfRow_10, y885, if_neg h1, if_pos i12, nI_clamp (by omega), y42, nI_1]
        by_cases c36 : rowv x i < 36
        · rw [if_neg (show ¬ (36 : Int32) ≤ nI (rowv x i) from nI_ge (b := 36) c36 (by decide)), if_pos (ns_e c36), nI_clamp (by omega), hc.1 _ c36]
          cases sb : (rsq x p (st0 x v h t p) i).1 (rowv x i)
          · have c : ¬ (rowv x i < 36 ∧ (rsq x p (st0 x v h t p) i).1 (rowv x i) = true) := by rw [sb]; exact fun d => by cases d.2
            have eo : oR (rsq x p (st0 x v h t p) i).1 (rowv x i) = -9 := if_neg c
            rw [eo] at hz'
            rw [if_pos (show b01 false = 0 from rfl), hz', bdR_t c]; dsimp only
            by_cases w9 : w = -9
            · rw [if_pos w9, if_pos ⟨rfl, w9⟩]
            · rw [if_neg w9, if_neg (fun d => w9 d.2)]
          · have c : rowv x i < 36 ∧ (rsq x p (st0 x v h t p) i).1 (rowv x i) = true := ⟨c36, sb⟩
            have eo : oR (rsq x p (st0 x v h t p) i).1 (rowv x i) = nI (rowv x i) := if_pos c
            rw [eo] at hz'
            rw [if_neg (show ¬ b01 true = 0 by decide), hz', bdR_f c]; dsimp only
            have nf : ¬ (false = true ∧ w = -9) := fun d => by cases d.1
            by_cases w9 : w = -9
            · rw [if_pos w9, if_neg nf]
            · rw [if_neg w9, if_neg nf]
        · have c : ¬ (rowv x i < 36 ∧ (rsq x p (st0 x v h t p) i).1 (rowv x i) = true) := fun d => c36 d.1
          have eo : oR (rsq x p (st0 x v h t p) i).1 (rowv x i) = -9 := if_neg c
          rw [eo] at hz'
          rw [if_pos (show (36 : Int32) ≤ nI (rowv x i) from nI_le (a := 36) (by omega) (by omega)), hz', bdR_t c]; dsimp only
          by_cases w9 : w = -9
          · rw [if_pos w9, if_pos ⟨rfl, w9⟩]
          · rw [if_neg w9, if_neg (fun d => w9 d.2)]
      refine ⟨(if bdR x v h t p i = true ∧ w = -9 then nI i else w, z'), ⟨ky.trans kz', hr2, ?_⟩, E⟩
      dsimp only
      rcases hf with ⟨w9, hf⟩ | ⟨j, hj, hb', hf, hw⟩
      · by_cases c : bdR x v h t p i = true
        · rw [if_pos ⟨c, w9⟩]
          exact Or.inr ⟨i, by omega, c, hf, rfl⟩
        · rw [if_neg (fun d => c d.1)]
          refine Or.inl ⟨w9, fun j hj => ?_⟩
          by_cases e : j = i
          · subst e
            cases e : bdR x v h t p j
            · rfl
            · exact absurd e c
          · exact hf j (by omega)
      · rw [if_neg (fun d => n9 (by omega) (hw.symm.trans d.2))]
        exact Or.inr ⟨j, by omega, hb', hf, hw⟩))
    (fun n y hp => by
      obtain ⟨w, y⟩ := y
      obtain ⟨ky, hc, hf⟩ := hp
      dsimp only at ky hc hf ⊢
      have y885 : y.1 885 = nI m := (ky.i 885 (by decide)).trans e885
      have ew : w = ffF (bdR x v h t p) m 0 := by
        rcases hf with ⟨w9, hf⟩ | ⟨j, hj, hb', hf, hw⟩
        · rw [w9, ffF_0 m 0 (Nat.le_of_eq (Nat.zero_add m)) hf]
        · rw [hw, ffF_1 hb' hf m 0 (Nat.zero_le _) (by omega)]
      exact ⟨(w, nI m, y), by rw [L_X8_looksOfRow_10, y885, if_pos (by rw [ii_le]; omega)], nI m, y, ky, by rw [ew], hc⟩)
    1000 0 (-9, z0) (by omega) (by omega) ⟨kz, hR, Or.inl ⟨rfl, fun j hj => by omega⟩⟩
  obtain ⟨r', hF, w, y, ky, rfl, hc⟩ := H
  have hF' : L_X8_looksOfRow_10 1000 (-9) 0 z0 = some (ffF (bdR x v h t p) m 0, w, y) := hF
  refine ⟨y, ky, ?_, hc⟩
  unfold G_X8_looksOfRow
  rw [hb]; dsimp only
  rw [hF']
end
theorem kp_uI2 {a b : am_X} (k : am_kp a b) (j : Nat) (w : Int32) : am_kp (am_uI a j w) (am_uI b j w) := by
  refine ⟨fun i hi => ?_, k.2.1, k.2.2⟩
  show am_up b.1 j w i = am_up a.1 j w i
  unfold am_up
  by_cases e : i = j
  · rw [if_pos e, if_pos e]
  · rw [if_neg e, if_neg e]; exact k.1 i hi
theorem seek_kp {x y : am_X} {v h p s : Nat} (B : base x v h p s) (k : am_kp x y) : seekp y s := B_s (base_kp B k)
theorem ok_judge (a : Int32) : am_ok (G_X7_judge a) (G_X8_judge a) := by
  intro x hI
  obtain ⟨v, h, p, s, B⟩ := base_ex hI
  obtain ⟨m, R⟩ := row_n hI
  unfold G_X7_judge G_X8_judge
  rcases wm_c a x with ⟨t, ht, rfl, w⟩ | ⟨a0, w⟩ | ⟨a0, a9, w⟩
  · obtain ⟨r, y0, hr, y, ky, hy⟩ := ju_class B R (t := t) (by omega)
    obtain ⟨z, kz, hz, _⟩ := lor_ok B R (t := t) (by omega) (x0 := y) (ky.a 42 (by decide)) ((ky.i 885 (by decide)).trans R.2.2.1) (kp_now ky) (kp_hel ky) (seek_kp B ky)
    refine ⟨ffF (bdR x v h t p) m 0, y, z, ?_, ?_, hI.kp (ky.trans kz)⟩
    · rw [w]; dsimp only
      rw [if_pos (by decide), hr]; dsimp only
      rw [hy]
    · rw [if_pos (nI_mp (by omega)), if_pos (show nI t ≤ (999 : Int32) from nI_le (b := 999) ht (by decide)), hz]
  · refine ⟨-4, am_r7 4 x, am_r8 4 (am_r7 4 x), ?_, ?_, r78 (j := 4) hI⟩
    · rw [w]; dsimp only
      rw [if_neg (by decide), c4]
    · rw [if_neg a0, n4]
  · refine ⟨-6, am_r7 6 x, am_r8 6 (am_r7 6 x), ?_, ?_, r78 (j := 6) hI⟩
    · rw [w]; dsimp only
      rw [if_neg (by decide), c6]
    · rw [if_pos a0, if_neg a9, n6]
theorem ok_behind (a : Int32) : am_ok (G_X7_behind a) (G_X8_behind a) := by
  intro x hI
  obtain ⟨v, h, p, s, B⟩ := base_ex hI
  obtain ⟨m, R⟩ := row_n hI
  unfold G_X7_behind G_X8_behind
  rcases wm_c a x with ⟨t, ht, rfl, w⟩ | ⟨a0, w⟩ | ⟨a0, a9, w⟩
  · obtain ⟨r, y0, hr, y, ky, hy⟩ := be_class B R (t := t) (by omega)
    have u29 : y.2.2.1 29 = x.2.2.1 29 := kp_now ky
    have u37 : y.2.2.1 37 = x.2.2.1 37 := kp_hel ky
    have u35 : seekp y s := seek_kp B ky
    obtain ⟨z, kz, hz, hR⟩ := lor_ok B R (t := t) (by omega) (x0 := am_uI y 513 0) (ky.a 42 (by decide)) ((ky.i 885 (by decide)).trans R.2.2.1) u29 u37 u35
    have hI1 := hI.kp ky
    have hI2 : am_Iv (am_uI (am_uI y 513 0) 885 0) := by
      obtain ⟨g, im, ltr, row, ref, hel, cb, ck, cs⟩ := hI1
      exact ⟨g, im, ltr, ⟨0, by omega, rfl, rfl, fun i hi => by omega⟩, ref, hel, cb, ck, cs⟩
    have hR' : HR s (am_uI z 885 0) (rsq x p (st0 x v h t p) m) := hR
    refine ⟨nI (fb_ct (rsq x p (st0 x v h t p) m).1 36), am_uI y 513 0, am_uI z 885 0, ?_, ?_, hI2.kp (kp_uI2 kz 885 0)⟩
    · rw [w]; dsimp only
      rw [if_pos (by decide), hr]; dsimp only
      rw [hy]
    · rw [if_pos (nI_mp (by omega)), if_pos (show nI t ≤ (999 : Int32) from nI_le (b := 999) ht (by decide)), hz]; dsimp only
      rw [ins_ok hR']
  · refine ⟨-4, am_r7 4 x, am_r8 4 (am_r7 4 x), ?_, ?_, r78 (j := 4) hI⟩
    · rw [w]; dsimp only
      rw [if_neg (by decide), c4]
    · rw [if_neg a0, n4]
  · refine ⟨-6, am_r7 6 x, am_r8 6 (am_r7 6 x), ?_, ?_, r78 (j := 6) hI⟩
    · rw [w]; dsimp only
      rw [if_neg (by decide), c6]
    · rw [if_pos a0, if_neg a9, n6]
