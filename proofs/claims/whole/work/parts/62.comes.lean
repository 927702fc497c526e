/-! the class takes what is read into the draft -/
def gdD (y : am_X) (now : Nat → Int32) : Prop := am_gd (y.1 163) (y.1 164) (y.1 165) (y.1 166) (y.2.2.2 6) (y.2.2.1 7) (y.2.2.1 8) now
theorem gd_add {sk hm pc wm : Int32} {w : Nat → Int64} {sK sS now : Nat → Int32} (g : am_gd sk hm pc wm w sK sS now) {c k q : Nat} (ec : now 3 = nI c) (hc : c < 3) (hk : k < 5) (hq : q < 36) : am_gd (nI (c + 1)) hm pc wm w (upd sK c (nI k)) (upd sS c (nI q)) (upd (upd (upd now (10 + 2 * c) (nI k)) (10 + 2 * c + 1) (nI q)) 3 (nI (c + 1))) := by
  obtain ⟨g1, g2, g3, g4, g5, g6⟩ := g
  have u : ∀ j, j ≠ 10 + 2 * c → j ≠ 10 + 2 * c + 1 → j ≠ 3 → upd (upd (upd now (10 + 2 * c) (nI k)) (10 + 2 * c + 1) (nI q)) 3 (nI (c + 1)) j = now j := fun j h1 h2 h3 => by rw [upd_ne _ _ h3, upd_ne _ _ h2, upd_ne _ _ h1]
  refine ⟨fun p hp => by rw [u _ (by omega) (by omega) (by omega)]; exact g1 p hp, fun k hk => (g2 k hk).congr (fun p hp => by rw [u _ (by omega) (by omega) (by omega)]), ?_, ?_, ?_, ?_⟩
  · obtain ⟨h, a1, a2, a3, a4⟩ := g3
    exact ⟨h, a1, a2, by rw [u 0 (by omega) (by omega) (by omega)]; exact a3, by rw [u _ (by omega) (by omega) (by omega)]; exact a4⟩
  · rw [u 1 (by omega) (by omega) (by omega)]; exact g4
  · rw [u 2 (by omega) (by omega) (by omega)]; exact g5
  · obtain ⟨s, s3, e1, e2, hs⟩ := g6
    have es : s = c := (nI_eq (by omega) (by omega)).mp (e2.symm.trans ec)
    subst es
    refine ⟨s + 1, by omega, rfl, by rw [upd_eq], fun i hi => ?_⟩
    by_cases ei : i = s
    · subst ei
      refine ⟨⟨k, hk, upd_eq _ _ _, ?_⟩, ⟨q, hq, upd_eq _ _ _, ?_⟩⟩
      · rw [upd_ne _ _ (by omega), upd_ne _ _ (by omega), upd_eq]
      · rw [upd_ne _ _ (by omega), upd_eq]
    · rw [upd_ne _ _ ei, upd_ne _ _ ei, u _ (by omega) (by omega) (by omega), u _ (by omega) (by omega) (by omega)]
      exact hs i (by omega)
theorem nw_of {sk hm pc wm : Int32} {w : Nat → Int64} {sK sS now : Nat → Int32} (g : am_gd sk hm pc wm w sK sS now) : nwP now := by
  obtain ⟨h, a1, _, a3, _⟩ := g.home
  obtain ⟨s, b1, _, b3, _⟩ := g.seek
  exact ⟨⟨h, a1, a3⟩, s, b1, b3⟩
theorem ix_k : ∀ c, c < 256 → ixN lkN c < 6 → am_idx (((nI c).toUInt32 % 65536).toInt32) (am_byt 1006) 0 = nI (ixN lkN c) := by decide +kernel
theorem ix_s : ∀ c, c < 256 → ixN lsN c < 5 → am_idx (((nI c).toUInt32 % 65536).toInt32) (am_byt 1007) 0 = nI (ixN lsN c) := by decide +kernel
section
variable {y : am_X} {n : Nat} {lt : Nat → Nat} {now : Nat → Int32} {a : Nat}
theorem dga (R : ltp y n lt) {b : Nat} (hb : b < n) (h : fitN 68 (lt b) = true) : G_X5_digitAt_13 (nI b) y = some (nI (dgN lt b), y) := by
  obtain ⟨n96, e1, hl⟩ := R
  rw [fit_68] at h
  unfold G_X5_digitAt_13
  rw [e1, nat14_at n96 hb, (hl b hb).2, show (48 : Int32) = nI 48 from rfl, nI_sub' h.1 (by omega)]
  rfl
theorem pra (R : ltp y n lt) {b : Nat} (hb : b + 1 < n) (h1 : fitN 68 (lt b) = true) (h2 : fitN 68 (lt (b + 1)) = true) : G_X5_pairAt_13 (nI b) y = some (nI (prN lt b), y) := by
  have d1 := dg_10 h1
  have h10 : ∀ v, v < 10 → (10 : Int32) * nI v = nI (10 * v) := by decide +kernel
  unfold G_X5_pairAt_13
  rw [dga R (by omega) h1]; dsimp only
  rw [nI_1, dga R hb h2]; dsimp only
  rw [h10 _ d1, nI_add]
  rfl
theorem cond_l {p q k h : Nat} (hp : p < 100) (hq : q < 100) (hk : k < 6) (hh : h < 36) : (am_sq (nI p) ∧ am_sq (nI q) ∧ (nI p).toInt ≤ (nI q).toInt ∧ 0 ≤ (nI k).toInt ∧ (nI k).toInt < 6 ∧ ¬ ((nI k).toInt = 1 ∧ (nI p).toInt ≤ (nI h).toInt ∧ (nI h).toInt ≤ (nI q).toInt)) ↔ (q < 36 ∧ p ≤ q ∧ ¬ (k = 1 ∧ p ≤ h ∧ h ≤ q)) := by
  rw [sq_n (by omega), sq_n (by omega), nI_toInt (by omega), nI_toInt (by omega), nI_toInt (by omega), nI_toInt (by omega)]
  omega
theorem lay_ok (g : gdD y now) {p q k : Nat} (hp : p < 100) (hq : q < 100) (hk : k < 6) : ∃ y' r, (if (am_sq (nI p) ∧ am_sq (nI q) ∧ (nI p).toInt ≤ (nI q).toInt ∧ 0 ≤ (nI k).toInt ∧ (nI k).toInt < 6 ∧ ¬ ((nI k).toInt = 1 ∧ (nI p).toInt ≤ (y.1 164).toInt ∧ (y.1 164).toInt ≤ (nI q).toInt)) then some ((1 : Int32), (am_lay5 y (nI k) (nI p) (nI q))) else some ((0 : Int32), y)) = some (r, y') ∧ am_kp y y' ∧ r = b01 (tkL now k p q).isSome ∧ ∀ m, tkL now k p q = some m → gdD y' m := by
  obtain ⟨h, hh, e1, e2, _⟩ := g.home
  have en : (now 0).toNatClampNeg = h := by rw [e2, nI_clamp (by omega)]
  rw [e1]
  unfold tkL
  rw [en]
  by_cases c : q < 36 ∧ p ≤ q ∧ ¬ (k = 1 ∧ p ≤ h ∧ h ≤ q)
  · rw [if_pos ((cond_l hp hq hk hh).mpr c), if_pos c]
    refine ⟨am_lay5 y (nI k) (nI p) (nI q), 1, rfl, am_kp.sB (by decide), rfl, fun m hm => ?_⟩
    cases hm
    exact am_gd.lay g hk (by omega) c.1 c.2.1 hh e2 c.2.2 ⟨fun j hj => if_neg (by omega), fun r hr => by
      unfold layF
      by_cases d : p ≤ r ∧ r ≤ q
      · rw [if_pos d, if_pos (by omega)]
      · rw [if_neg d, if_neg (by omega)]⟩
  · rw [if_neg (fun d => c ((cond_l hp hq hk hh).mp d)), if_neg c]
    exact ⟨y, 0, rfl, am_kp.rfl, rfl, fun m hm => by cases hm⟩
theorem co_c (R : ltp y n lt) (W : WFn n lt a) (g : gdD y now) : ∃ y', G_X5_comes_13_5 (nI a) y = some (b01 (tkN lt a now).isSome, y') ∧ am_kp y y' ∧ ∀ m, tkN lt a now = some m → gdD y' m := by
  have R' := R
  obtain ⟨n96, e1, hl⟩ := R
  obtain ⟨ha, W⟩ := W
  have ev : am_nat14 (y.1 449) (y.2.2.1 15) (nI a) = nI (lt a) := by rw [e1, nat14_at n96 ha, (hl a ha).2]
  have ev1 : ∀ b, b < n → am_nat14 (y.1 449) (y.2.2.1 15) (nI b) = nI (lt b) := fun b hb => by rw [e1, nat14_at n96 hb, (hl b hb).2]
  have e2 : nI a + 2 = nI (a + 2) := nI_add a 2
  have e4 : nI a + 4 = nI (a + 4) := nI_add a 4
  have ne : ∀ {u v : Nat}, lt a = u → ¬ u = v → ¬ lt a = v := fun e n d => n (e.symm.trans d)
  unfold G_X5_comes_13_5
  rw [ev, nI_1, e2, e4]
  rcases W with ⟨hc, _, hn, w1, w2, w3⟩ | ⟨hc, _, hn, w1, w2, w3, w4, w5⟩ | ⟨hc, _, hn, w1, w2⟩ | ⟨hc, _, hn, w1⟩ | ⟨hc, _, hn, w1⟩ | ⟨hc, _, hn, w1, w2, w3⟩
  · have e : tkN lt a now = tkL now (ixN lkN (lt (a + 1))) (prN lt (a + 2)) (prN lt (a + 2)) := if_pos hc
    have hp := pra R' (b := a + 2) (by omega) w2 w3
    have hk := (fit_75 _).mp w1
    rw [show nI (lt a) = (107 : Int32) by rw [hc]; rfl, if_neg (by decide), if_neg (by decide), if_neg (by decide), if_pos rfl, hp]; dsimp only
    rw [hp, ev1 (a + 1) (by omega), ix_k _ (hl (a + 1) (by omega)).1 hk, e]; dsimp only
    obtain ⟨y', r, h1, h2, h3, h4⟩ := lay_ok g (pr_100 w2 w3) (pr_100 w2 w3) hk
    rw [h1, h3]
    exact ⟨y', rfl, h2, h4⟩
  · have e : tkN lt a now = tkL now (ixN lkN (lt (a + 1))) (prN lt (a + 2)) (prN lt (a + 4)) := by unfold tkN; rw [if_neg (ne hc (by decide)), if_pos hc]
    have hp := pra R' (b := a + 2) (by omega) w2 w3
    have hq := pra R' (b := a + 4) (by omega) w4 w5
    have hk := (fit_75 _).mp w1
    rw [show nI (lt a) = (118 : Int32) by rw [hc]; rfl, if_neg (by decide), if_neg (by decide), if_neg (by decide), if_neg (by decide), if_neg (by decide), if_neg (by decide), if_neg (by decide), if_neg (by decide), if_neg (by decide), if_neg (by decide), if_neg (by decide), if_neg (by decide), if_neg (by decide), if_neg (by decide), if_pos rfl, hp]; dsimp only
    rw [hq, ev1 (a + 1) (by omega), ix_k _ (hl (a + 1) (by omega)).1 hk, e]; dsimp only
    obtain ⟨y', r, h1, h2, h3, h4⟩ := lay_ok g (pr_100 w2 w3) (pr_100 w4 w5) hk
    rw [h1, h3]
    exact ⟨y', rfl, h2, h4⟩
  · have e : tkN lt a now = (if prN lt (a + 1) < 36 ∧ ¬ now (20 + prN lt (a + 1)) = 1 then some (upd now 0 (nI (prN lt (a + 1)))) else none) := by unfold tkN; rw [if_neg (ne hc (by decide)), if_neg (ne hc (by decide)), if_pos hc]
    have hp := pra R' (b := a + 1) (by omega) w1 w2
    have p100 := pr_100 w1 w2
    rw [show nI (lt a) = (104 : Int32) by rw [hc]; rfl, if_pos rfl, hp, e]; dsimp only
    by_cases c1 : prN lt (a + 1) < 36
    · by_cases c2 : now (20 + prN lt (a + 1)) = 1
      · rw [if_neg (fun d => (am_gd.open_at g c1).mp d c2), if_neg (fun d => d.2 c2)]
        exact ⟨y, rfl, am_kp.rfl, fun m hm => by cases hm⟩
      · rw [if_pos ((am_gd.open_at g c1).mpr c2), if_pos ⟨c1, c2⟩]
        refine ⟨am_uI y 164 (nI (prN lt (a + 1))), rfl, am_kp.uI (by decide), fun m hm => ?_⟩
        cases hm
        exact gd_home g c1 c2
    · rw [if_neg (hasb_out (fun d => c1 ((sq_n (by omega)).mp d))), if_neg (fun d => c1 d.1)]
      exact ⟨y, rfl, am_kp.rfl, fun m hm => by cases hm⟩
  · have e : tkN lt a now = (if 0 < dgN lt (a + 1) then some (upd now 1 (nI (dgN lt (a + 1)))) else none) := by unfold tkN; rw [if_neg (ne hc (by decide)), if_neg (ne hc (by decide)), if_neg (ne hc (by decide)), if_pos hc]
    have hd := dga R' (b := a + 1) hn w1
    have d10 := dg_10 w1
    have td : (nI (dgN lt (a + 1))).toInt = dgN lt (a + 1) := nI_toInt (by omega)
    rw [show nI (lt a) = (112 : Int32) by rw [hc]; rfl, if_neg (by decide), if_neg (by decide), if_neg (by decide), if_neg (by decide), if_neg (by decide), if_neg (by decide), if_neg (by decide), if_neg (by decide), if_pos rfl, hd, e]; dsimp only
    by_cases c : 0 < dgN lt (a + 1)
    · rw [if_pos (show 1 ≤ (nI (dgN lt (a + 1))).toInt ∧ (nI (dgN lt (a + 1))).toInt ≤ 9 by rw [td]; omega), if_pos c]
      refine ⟨am_uI y 165 (nI (dgN lt (a + 1))), rfl, am_kp.uI (by decide), fun m hm => ?_⟩
      cases hm
      exact gd_pace g c (by omega)
    · rw [if_neg (show ¬ (1 ≤ (nI (dgN lt (a + 1))).toInt ∧ (nI (dgN lt (a + 1))).toInt ≤ 9) by rw [td]; omega), if_neg c]
      exact ⟨y, rfl, am_kp.rfl, fun m hm => by cases hm⟩
  · have e : tkN lt a now = some (upd now 2 (nI (dgN lt (a + 1)))) := by unfold tkN; rw [if_neg (ne hc (by decide)), if_neg (ne hc (by decide)), if_neg (ne hc (by decide)), if_neg (ne hc (by decide)), if_pos hc]
    have hd := dga R' (b := a + 1) hn w1
    have d10 := dg_10 w1
    have td : (nI (dgN lt (a + 1))).toInt = dgN lt (a + 1) := nI_toInt (by omega)
    rw [show nI (lt a) = (119 : Int32) by rw [hc]; rfl, if_neg (by decide), if_neg (by decide), if_neg (by decide), if_neg (by decide), if_neg (by decide), if_neg (by decide), if_neg (by decide), if_neg (by decide), if_neg (by decide), if_neg (by decide), if_neg (by decide), if_neg (by decide), if_neg (by decide), if_neg (by decide), if_neg (by decide), if_pos rfl, hd, e]; dsimp only
    rw [if_pos (show 0 ≤ (nI (dgN lt (a + 1))).toInt ∧ (nI (dgN lt (a + 1))).toInt ≤ 9 by rw [td]; omega)]
    refine ⟨am_uI y 166 (nI (dgN lt (a + 1))), rfl, am_kp.uI (by decide), fun m hm => ?_⟩
    cases hm
    exact gd_warm g (by omega)
  · have e : tkN lt a now = tkS now (ixN lsN (lt (a + 1))) (prN lt (a + 2)) := by unfold tkN; rw [if_neg (ne hc (by decide)), if_neg (ne hc (by decide)), if_neg (ne hc (by decide)), if_neg (ne hc (by decide)), if_neg (ne hc (by decide))]
    have hp := pra R' (b := a + 2) (by omega) w2 w3
    have p100 := pr_100 w2 w3
    have hk := (fit_83 _).mp w1
    obtain ⟨c, c3, s1, s2, _⟩ := g.seek
    have ecn : (now 3).toNatClampNeg = c := by rw [s2, nI_clamp (by omega)]
    have tc : (nI c).toInt = c := nI_toInt (by omega)
    rw [show nI (lt a) = (115 : Int32) by rw [hc]; rfl, if_neg (by decide), if_neg (by decide), if_neg (by decide), if_neg (by decide), if_neg (by decide), if_neg (by decide), if_neg (by decide), if_neg (by decide), if_neg (by decide), if_neg (by decide), if_neg (by decide), if_pos rfl, hp, e]; dsimp only
    unfold tkS
    rw [ev1 (a + 1) (by omega), ix_s _ (hl (a + 1) (by omega)).1 hk, s1, ecn, s2]
    by_cases c1 : prN lt (a + 2) < 36
    · by_cases c2 : c = 3
      · rw [if_neg (fun d => by rw [tc] at d; omega), if_neg (fun d => d.2 (by rw [c2]; rfl))]
        exact ⟨y, rfl, am_kp.rfl, fun m hm => by cases hm⟩
      · have e3 : ¬ nI c = (3 : Int32) := nI_nat (m := 3) (by omega) (by decide) c2
        rw [if_pos (show 0 ≤ (nI c).toInt ∧ (nI c).toInt < 3 ∧ am_sq (nI (prN lt (a + 2))) from ⟨by omega, by omega, am_sqn c1⟩), if_pos ⟨c1, e3⟩, nI_clamp (by omega), nI_1]
        refine ⟨am_uI (am_sA (am_sA y 7 (upd (y.2.2.1 7) c (nI (ixN lsN (lt (a + 1)))))) 8 (upd (y.2.2.1 8) c (nI (prN lt (a + 2))))) 163 (nI (c + 1)), rfl, ((am_kp.sA (by decide)).trans (am_kp.sA (by decide))).trans (am_kp.uI (by decide)), fun m hm => ?_⟩
        cases hm
        exact gd_add g s2 (by omega) hk c1
    · rw [if_neg (fun d => c1 ((sq_n (by omega)).mp d.2.2)), if_neg (fun d => c1 d.1)]
      exact ⟨y, rfl, am_kp.rfl, fun m hm => by cases hm⟩
end
