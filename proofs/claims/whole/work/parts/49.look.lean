/-! left, looksAt, bestSeeker, together -/
section
variable {x : am_X} {v h p s : Nat}
theorem lo_class (B : base x v h p s) {t k m : Nat} (ht : t < 1000) (hk : k < s) (hm : m ≤ 60) : ∃ y, am_kp x y ∧ G_X7_lookOften (nI k) (nI t) (nI m) x = some ((), y) ∧ HC s y (hsq (x.2.2.1 29) p (fun _ => skkN x k) (fun _ => k) (st0 x v h t p) m) := by
  obtain ⟨r, y1, hr, k1, hC⟩ := cb_ok B ht
  have he := ((B_s B).2.2.2 k hk).1.1
  have H := am_for (fun n i (y : am_X) => L_X7_lookOften_20 n (nI k) (nI m) (nI i) y) m
    (fun i y => am_kp x y ∧ HC s y (hsq (x.2.2.1 29) p (fun _ => skkN x k) (fun _ => k) (st0 x v h t p) i))
    (fun r => ∃ y, am_kp x y ∧ r = ((), y) ∧ HC s y (hsq (x.2.2.1 29) p (fun _ => skkN x k) (fun _ => k) (st0 x v h t p) m))
    (fun n i y hi hp => by
      obtain ⟨ky, hc⟩ := hp
      have h1 : ¬ nI m ≤ nI i := nI_ge hi (by omega)
      have tb := hsq_t (x.2.2.1 29) p (fun _ => skkN x k) (fun _ => k) (st0 x v h t p) i
      have ek := ifs_k B hk ky
      obtain ⟨hI, hv, v1, v2, hh, e1, e2, e3, p1, p9, q1, q2, hs⟩ := base_kp B ky
      obtain ⟨c1, c2⟩ := sk_ok hI p1 p9 q1 hc (by rw [tb]; show t + i < 1250; omega) hs.1 hk he
      rw [kp_now ky] at c1
      exact Or.inl ⟨am_skx y (nI k) (nI (skkN x k)), ⟨ky.trans c2, c1⟩, by rw [L_X7_lookOften_20, if_neg h1, ek, nI_1]⟩)
    (fun n y hp => ⟨((), y), by rw [L_X7_lookOften_20, if_pos (by rw [ii_le]; omega)], y, hp.1, rfl, hp.2⟩)
    1000 0 (am_bgx y1 r (nI t)) (by omega) (by omega) ⟨k1, hC⟩
  obtain ⟨r', hF, y, ky, rfl, hc⟩ := H
  refine ⟨y, ky, ?_, hc⟩
  unfold G_X7_lookOften
  rw [hr]
  exact hF
theorem lo_ref (B : base x v h p s) {t k m : Nat} (ht : t < 1000) (hk : k < s) (hm : m ≤ 60) {x0 : am_X} (k0 : am_kp x x0) : ∃ y, am_kp x y ∧ G_X8_lookOn (nI k) (nI t) (nI m) x0 = some ((), y) ∧ HR s y (hsq (x.2.2.1 29) p (fun _ => skkN x k) (fun _ => k) (st0 x v h t p) m) := by
  obtain ⟨z0, kz, hb, hR⟩ := rb8_ok (base_kp B k0) ht
  rw [kp_st0 k0] at hR
  have he := ((B_s B).2.2.2 k hk).1.1
  have H := am_for (fun n i (y : am_X) => L_X8_lookOn_8 n (nI k) (nI m) (nI i) y) m
    (fun i y => am_kp x y ∧ HR s y (hsq (x.2.2.1 29) p (fun _ => skkN x k) (fun _ => k) (st0 x v h t p) i))
    (fun r => ∃ w y, am_kp x y ∧ r = (nI k, nI m, w, y) ∧ HR s y (hsq (x.2.2.1 29) p (fun _ => skkN x k) (fun _ => k) (st0 x v h t p) m))
    (fun n i y hi hp => by
      obtain ⟨ky, hc⟩ := hp
      have h1 : ¬ nI m ≤ nI i := nI_ge hi (by omega)
      have tb := hsq_t (x.2.2.1 29) p (fun _ => skkN x k) (fun _ => k) (st0 x v h t p) i
      obtain ⟨z1, z2, a1, a2, k2, r2⟩ := rs_ok (base_kp B ky) hc (by rw [tb]; show t + i < 1250; omega) hk he
      rw [kp_now ky] at r2
      refine Or.inl ⟨z2, ⟨ky.trans k2, r2⟩, ?_⟩
      rw [L_X8_lookOn_8, if_neg h1, kos_ok B hk ky]; dsimp only
      rw [a1]; dsimp only
      rw [a2]; dsimp only
      rw [nI_1])
    (fun n y hp => ⟨_, by rw [L_X8_lookOn_8, if_pos (by rw [ii_le]; omega)], nI m, y, hp.1, rfl, hp.2⟩)
    1000 0 z0 (by omega) (by omega) ⟨k0.trans kz, hR⟩
  obtain ⟨r', hF, w, y, ky, rfl, hc⟩ := H
  have hF' : L_X8_lookOn_8 1000 (nI k) (nI m) 0 z0 = some (nI k, nI m, w, y) := hF
  refine ⟨y, ky, ?_, hc⟩
  unfold G_X8_lookOn
  rw [hb]; dsimp only
  rw [hF']
/-- refused or not: class and reference -/
theorem ws_c (B : base x v h p s) (a b e : Int32) : (∃ k t m, k < s ∧ t ≤ 999 ∧ m ≤ 60 ∧ a = nI k ∧ b = nI t ∧ e = nI m ∧ G_X7_wrongSearch a b e x = some (0, x) ∧ ∀ y, am_kp x y → G_X8_refusal a b e y = some (0, y)) ∨ ∃ j : Int32, (¬ (0 : Int32) ≤ j) ∧ ∃ i, G_X7_wrongSearch a b e x = some (j, x) ∧ G_X7_refused j x = some (j, am_r7 i x) ∧ G_X8_refusal a b e (am_r7 i x) = some (j, am_r8 i (am_r7 i x)) := by
  have hs := B_s B
  have nn : ∀ y : am_X, y.2.2.1 29 3 = nI s → G_X8_isNoSeeker a y = some (if am_hs (nI s) a then 0 else 1, y) := fun y hy => nsk hs.1 a y hy
  by_cases c1' : am_hs (nI s) a
  case neg =>
    refine Or.inr ⟨-1, by decide, 1, ?_, c1 x, ?_⟩
    · unfold G_X7_wrongSearch; rw [hs.2.1, if_neg c1']
    · unfold G_X8_refusal; rw [nn (am_r7 1 x) hs.2.2.1, if_neg c1']; dsimp only
      rw [if_neg (by decide), n1]
  by_cases b0 : b < 0
  · refine Or.inr ⟨-4, by decide, 4, ?_, c4 x, ?_⟩
    · unfold G_X7_wrongSearch; rw [hs.2.1, if_pos c1', if_pos b0]
    · unfold G_X8_refusal; rw [nn (am_r7 4 x) hs.2.2.1, if_pos c1']; dsimp only
      rw [if_pos rfl, if_pos b0, n4]
  by_cases d0 : (0 : Int32) ≤ e
  case neg =>
    refine Or.inr ⟨-4, by decide, 4, ?_, c4 x, ?_⟩
    · unfold G_X7_wrongSearch; rw [hs.2.1, if_pos c1', if_neg b0, if_neg d0]
    · unfold G_X8_refusal; rw [nn (am_r7 4 x) hs.2.2.1, if_pos c1']; dsimp only
      rw [if_pos rfl, if_neg b0, if_neg d0, n4]
  by_cases b9 : (999 : Int32) < b
  · refine Or.inr ⟨-6, by decide, 6, ?_, c6 x, ?_⟩
    · unfold G_X7_wrongSearch; rw [hs.2.1, if_pos c1', if_neg b0, if_pos d0, if_pos b9]
    · unfold G_X8_refusal; rw [nn (am_r7 6 x) hs.2.2.1, if_pos c1']; dsimp only
      rw [if_pos rfl, if_neg b0, if_pos d0, if_pos b9, n6]
  by_cases d6 : e ≤ 60
  case neg =>
    refine Or.inr ⟨-6, by decide, 6, ?_, c6 x, ?_⟩
    · unfold G_X7_wrongSearch; rw [hs.2.1, if_pos c1', if_neg b0, if_pos d0, if_neg b9, if_neg d6]
    · unfold G_X8_refusal; rw [nn (am_r7 6 x) hs.2.2.1, if_pos c1']; dsimp only
      rw [if_pos rfl, if_neg b0, if_pos d0, if_neg b9, if_neg d6, n6]
  obtain ⟨k, hk, rfl⟩ := (hs_iff hs.1 a).mp c1'
  have b9' : b ≤ 999 := by rw [ii_le]; rw [ii_lt] at b9; omega
  have d0' : ¬ e < 0 := by rw [ii_lt]; rw [ii_le] at d0; omega
  obtain ⟨t, ht, rfl⟩ := nI_of2 (n := 999) (by decide) b0 b9'
  obtain ⟨m, hm, rfl⟩ := nI_of2 (n := 60) (by decide) d0' d6
  refine Or.inl ⟨k, t, m, hk, ht, hm, rfl, rfl, rfl, ?_, fun y ky => ?_⟩
  · unfold G_X7_wrongSearch; rw [hs.2.1, if_pos c1', if_neg b0, if_pos d0, if_neg b9, if_pos d6]
  · unfold G_X8_refusal; rw [nn y (by rw [kp_now ky]; exact hs.2.2.1), if_pos c1']; dsimp only
    rw [if_pos rfl, if_neg b0, if_pos d0, if_neg b9, if_pos d6]
end
theorem ok_left (a b e : Int32) : am_ok (G_X7_left a b e) (G_X8_left a b e) := by
  intro x hI
  obtain ⟨v, h, p, s, B⟩ := base_ex hI
  unfold G_X7_left G_X8_left
  rcases ws_c B a b e with ⟨k, t, m, hk, ht, hm, rfl, rfl, rfl, w1, w2⟩ | ⟨j, hj, i, w1, w2, w3⟩
  · obtain ⟨y, ky, hy, hC⟩ := lo_class B (t := t) (m := m) (by omega) hk hm
    obtain ⟨z, kz, hz, hR⟩ := lo_ref B (t := t) (m := m) (by omega) hk hm ky
    refine ⟨nI (fb_ct (hsq (x.2.2.1 29) p (fun _ => skkN x k) (fun _ => k) (st0 x v h t p) m).1 36), y, z, ?_, ?_, hI.kp kz⟩
    · rw [w1]; dsimp only
      rw [if_pos (by decide), hy]; dsimp only
      rw [hC.1.bc]
    · rw [w2 y ky]; dsimp only
      rw [if_pos (by decide), hz]; dsimp only
      rw [ins_ok hR]
  · refine ⟨j, am_r7 i x, am_r8 i (am_r7 i x), ?_, ?_, r78 hI⟩
    · rw [w1]; dsimp only
      rw [if_neg hj, w2]
    · rw [w3]; dsimp only
      rw [if_neg hj]
theorem ok_looksAt (a b e : Int32) : am_ok (G_X7_looksAt a b e) (G_X8_looksAt a b e) := by
  intro x hI
  obtain ⟨v, h, p, s, B⟩ := base_ex hI
  unfold G_X7_looksAt G_X8_looksAt
  rcases ws_c B a b e with ⟨k, t, m, hk, ht, hm, rfl, rfl, rfl, w1, w2⟩ | ⟨j, hj, i, w1, w2, w3⟩
  · have he := ((B_s B).2.2.2 k hk).1.1
    have s3 := (B_s B).1
    obtain ⟨y, ky, hy, hC⟩ := lo_class B (t := t) (m := m) (by omega) hk hm
    obtain ⟨z, kz, hz, hR⟩ := lo_ref B (t := t) (m := m) (by omega) hk hm ky
    obtain ⟨z', kz', hz', _⟩ := looks_ok hR s3 hk he
    have hc := chx_ok (hI.kp ky) hC s3 hk he
    unfold am_chx at hc
    rw [kp_now ky] at hc
    rw [kp_now kz] at hz'
    refine ⟨piH (x.2.2.1 29) (skkN x k) k (hsq (x.2.2.1 29) p (fun _ => skkN x k) (fun _ => k) (st0 x v h t p) m), y, z', ?_, ?_, hI.kp (kz.trans kz')⟩
    · rw [w1]; dsimp only
      rw [if_pos (by decide), hy]; dsimp only
      rw [ifs_k B hk ky, hc]
    · rw [w2 y ky]; dsimp only
      rw [if_pos (by decide), hz]; dsimp only
      rw [kos_ok B hk kz]; dsimp only
      rw [hz']
  · refine ⟨j, am_r7 i x, am_r8 i (am_r7 i x), ?_, ?_, r78 hI⟩
    · rw [w1]; dsimp only
      rw [if_neg hj, w2]
    · rw [w3]; dsimp only
      rw [if_neg hj]
/-- the best kind so far -/
def bkF (val : Nat → Int32) : Nat → Int32 × Int32
  | 0 => (-9, 201)
  | i + 1 => if val i = -9 then bkF val i else if (bkF val i).2 ≤ val i then bkF val i else (nI i, val i)
theorem ok_bestSeeker (a b : Int32) : am_ok (G_X7_bestSeeker a b) (G_X8_bestSeeker a b) := by
  intro x hI
  obtain ⟨v, h, p, s, B⟩ := base_ex hI
  unfold G_X7_bestSeeker G_X8_bestSeeker
  rcases ws_c B a b 0 with ⟨k, t, m, hk, ht, hm, rfl, rfl, em, w1, w2⟩ | ⟨j, hj, i, w1, w2, w3⟩
  · have H := am_for (fun n i (y : am_X) => L_X7_bestSeeker_30 n (nI k) (nI t) (bkF (fun e => ffF (emS x v h t p e k) 201 0) i).1 (bkF (fun e => ffF (emS x v h t p e k) 201 0) i).2 (nI i) y) 5
      (fun i y => am_kp x y) (fun r => ∃ y, am_kp x y ∧ r = ((bkF (fun e => ffF (emS x v h t p e k) 201 0) 5).1, y))
      (fun n i y hi ky => by
        have h1 : ¬ (5 : Int32) ≤ nI i := nI_ge (b := 5) hi (by decide)
        obtain ⟨y', ky', hy⟩ := tie_class B (t := t) (e := i) (by omega) hk hi ky
        refine Or.inl ⟨y', ky', ?_⟩
        rw [L_X7_bestSeeker_30, if_neg h1, hy]; dsimp only
        rw [bkF, nI_1]
        rcases ffF_c (emS x v h t p i k) 201 0 (by omega) with e9 | e0
        · rw [if_pos e9, if_pos (by rw [e9]; decide)]
        · have ne9 : ¬ ffF (emS x v h t p i k) 201 0 = -9 := fun c => by rw [c] at e0; revert e0; decide
          have ne0 : ¬ ffF (emS x v h t p i k) 201 0 < 0 := by rw [ii_lt]; rw [ii_le] at e0; omega
          rw [if_neg ne0, if_neg ne9]
          by_cases c : (bkF (fun e => ffF (emS x v h t p e k) 201 0) i).2 ≤ ffF (emS x v h t p i k) 201 0
          · rw [if_pos c, if_pos c]
          · rw [if_neg c, if_neg c])
      (fun n y ky => ⟨_, by rw [L_X7_bestSeeker_30, if_pos (by decide)], y, ky, rfl⟩)
      1000 0 x (by decide) (by decide) am_kp.rfl
    obtain ⟨r, hF, y, ky, rfl⟩ := H
    have H2 := am_for (fun n i (z : am_X) => L_X8_bestSeeker_26 n (nI k) (nI t) (bkF (fun e => ffF (emS x v h t p e k) 201 0) i).1 (bkF (fun e => ffF (emS x v h t p e k) 201 0) i).2 (nI i) z) 5
      (fun i z => am_kp x z) (fun r => ∃ w1 w2 w3 w4 z, am_kp x z ∧ r = (w1, w2, (bkF (fun e => ffF (emS x v h t p e k) 201 0) 5).1, w3, w4, z))
      (fun n i z hi kz => by
        have h1 : ¬ (5 : Int32) ≤ nI i := nI_ge (b := 5) hi (by decide)
        obtain ⟨z', kz', hz⟩ := sb_ref B (t := t) (e := i) (by omega) hk hi kz
        refine Or.inl ⟨z', kz', ?_⟩
        rw [L_X8_bestSeeker_26, if_neg h1, hz]; dsimp only
        rw [bkF, nI_1]
        by_cases e9 : ffF (emS x v h t p i k) 201 0 = -9
        · rw [if_pos e9, if_pos e9]
        · rw [if_neg e9, if_neg e9]
          by_cases c : (bkF (fun e => ffF (emS x v h t p e k) 201 0) i).2 ≤ ffF (emS x v h t p i k) 201 0
          · rw [if_pos c, if_pos c]
          · rw [if_neg c, if_neg c])
      (fun n z kz => ⟨_, by rw [L_X8_bestSeeker_26, if_pos (by decide)], _, _, _, _, z, kz, rfl⟩)
      1000 0 y (by decide) (by decide) ky
    obtain ⟨r2, hF2, u1, u2, u3, u4, z, kz, rfl⟩ := H2
    have hF' : L_X7_bestSeeker_30 1000 (nI k) (nI t) (-9) 201 0 x = some ((bkF (fun e => ffF (emS x v h t p e k) 201 0) 5).1, y) := hF
    have hF2' : L_X8_bestSeeker_26 1000 (nI k) (nI t) (-9) 201 0 y = some (u1, u2, (bkF (fun e => ffF (emS x v h t p e k) 201 0) 5).1, u3, u4, z) := hF2
    refine ⟨(bkF (fun e => ffF (emS x v h t p e k) 201 0) 5).1, y, z, ?_, ?_, hI.kp kz⟩
    · rw [w1]; dsimp only
      rw [if_pos (by decide), hF']
    · rw [w2 y ky]; dsimp only
      rw [if_pos (by decide), hF2']
  · refine ⟨j, am_r7 i x, am_r8 i (am_r7 i x), ?_, ?_, r78 hI⟩
    · rw [w1]; dsimp only
      rw [if_neg hj, w2]
    · rw [w3]; dsimp only
      rw [if_neg hj]
