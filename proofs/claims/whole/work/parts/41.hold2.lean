/-! HOLD by the reference -/
def hd (x : am_X) (a b : Nat → Int32) : am_X := am_sA (am_sA x 38 b) 37 a
theorem hd_self (x : am_X) : hd x (x.2.2.1 37) (x.2.2.1 38) = x := by
  show am_sA (am_sA x 38 (x.2.2.1 38)) 37 ((am_sA x 38 (x.2.2.1 38)).2.2.1 37) = x
  rw [am_sA_self, am_sA_self]
theorem hd_37 (x : am_X) (a b c : Nat → Int32) : am_sA (hd x a b) 37 c = hd x c b := by unfold hd; rw [am_sAA]
theorem hd_38 (x : am_X) (a b c : Nat → Int32) : am_sA (hd x a b) 38 c = hd x a c := by unfold hd; rw [am_sAc (show (37 : Nat) ≠ 38 by decide), am_sAA]
theorem nar_b (t : Bool) : vp_nar .boolean (b01 t) = b01 t := by cases t <;> decide
section
variable {x : am_X} {v h : Nat}
theorem re_ok {hs : Nat → Bool} (hv : v ≤ 9) (ev : x.2.2.1 29 2 = nI v) (hh : h < 36) (e2 : x.2.2.1 29 0 = nI h) (nh : ¬ x.2.2.1 29 (20 + h) = 1) (hH : ∀ q, q < 36 → hsx x q = hs q) : ∃ f, G_X8_reached x = some (nI (rcn x hs v h), am_sA x 38 f) := by
  obtain ⟨f, hf, F⟩ := from_ok hv ev hh nh
  have er : rc x v h = rh x hs v h := rh_eq hh hH
  obtain ⟨r, hF, w, rfl⟩ := am_for (fun n i (s : Nat) => L_X8_reached_14 n (nI s) (nI i) (am_sA x 38 f)) 36 (fun i s => s = fb_ct (rch x hs v h) i) (fun r => ∃ w, r = (nI (rcn x hs v h), w, am_sA x 38 f))
    (fun n i s hi hp => Or.inl (by
      have h1 : ¬ (36 : Int32) ≤ nI i := nI_ge (b := 36) hi (by decide)
      have E : L_X8_reached_14 (n + 1) (nI s) (nI i) (am_sA x 38 f) = if (100000 : Int32) ≤ f i then L_X8_reached_14 n (nI s + 0) (nI (i + 1)) (am_sA x 38 f) else L_X8_reached_14 n (nI s + 1) (nI (i + 1)) (am_sA x 38 f) := by
        rw [L_X8_reached_14, if_neg h1, if_pos (ns_e hi), nI_clamp (by omega), nI_1]; rfl
      rcases F i hi with ⟨c, hc, fc, m⟩ | ⟨fc, m⟩
      · have g : rch x hs v h i = true := cd_iff.mpr ⟨c, by rw [← er]; exact m⟩
        refine ⟨s + 1, by rw [fb_ct_succ, g, if_pos rfl, hp], ?_⟩
        rw [E, fc, if_neg (show ¬ (100000 : Int32) ≤ nI c from nI_ge (b := 100000) (by omega) (by decide)), nI_1]
      · have g : rch x hs v h i = false := cd_no (by rintro ⟨c, hc⟩; rw [← er] at hc; exact m c hc)
        refine ⟨s, by rw [fb_ct_succ, g, hp]; simp, ?_⟩
        rw [E, fc, if_pos (by decide), nI_p0]))
    (fun n s hp => ⟨_, by rw [L_X8_reached_14, if_pos (by decide)], nI 36, by rw [hp]; rfl⟩)
    1000 0 0 (by decide) (by decide) rfl
  have hF' : L_X8_reached_14 1000 0 0 (am_sA x 38 f) = some (nI (rcn x hs v h), w, am_sA x 38 f) := hF
  refine ⟨f, ?_⟩
  unfold G_X8_reached
  rw [e2, hf]; dsimp only
  rw [hF']
theorem om_ref (hv : v ≤ 9) (ev : x.2.2.1 29 2 = nI v) (hh : h < 36) (e2 : x.2.2.1 29 0 = nI h) (nh : ¬ x.2.2.1 29 (20 + h) = 1) {S : Nat → Bool} {a0 b0 : Nat → Int32} (hS : ∀ q, q < 36 → a0 q = b01 (bh S h q)) : ∃ a b, G_X8_oneMore (hd x a0 b0) = some ((om8 (fun i => rcn x (bh (wm S i) h) v h) (omF (fun i => rcn x (bh (wm S i) h) v h) 36)).1, hd x a b) := by
  have H := am_for (fun n' i (s : Option Nat × (Nat → Int32) × (Nat → Int32)) => L_X8_oneMore_8 n' (om8 (fun i => rcn x (bh (wm S i) h) v h) s.1).1 (om8 (fun i => rcn x (bh (wm S i) h) v h) s.1).2 (nI i) (hd x s.2.1 s.2.2)) 36
    (fun i s => s.1 = omF (fun i => rcn x (bh (wm S i) h) v h) i ∧ ∀ q, q < 36 → s.2.1 q = b01 (bh S h q))
    (fun r => ∃ w1 w2 a b, r = ((om8 (fun i => rcn x (bh (wm S i) h) v h) (omF (fun i => rcn x (bh (wm S i) h) v h) 36)).1, w1, w2, hd x a b))
    (fun n' i s hi hp => Or.inl (by
      obtain ⟨o, a, b⟩ := s
      obtain ⟨ho, ha⟩ := hp
      dsimp only at ho ha ⊢
      have h1 : ¬ (36 : Int32) ≤ nI i := nI_ge (b := 36) hi (by decide)
      have b36 := rcn_36 (x := x) (bh (wm S i) h) v h
      have hH : ∀ c, c = b01 (!decide (i = h)) → ∀ q, q < 36 → hsx (hd x (upd a i c) b) q = bh (wm S i) h q := by
        rintro _ rfl q hq
        show decide (¬ upd a i (b01 (!decide (i = h))) q = 0) = _
        unfold bh wm
        by_cases e : q = i
        · subst e
          rw [upd_eq]
          by_cases e' : q = h
          · simp [e', b01]
          · simp [e', b01]
        · rw [upd_ne _ _ e, ha q hq]
          unfold bh b01
          cases S q <;> by_cases e' : q = h <;> simp [e, e']
      have hN : ∀ c q, q < 36 → upd (upd a i c) i (vp_nar .boolean (a i)) q = b01 (bh S h q) := by
        intro c q hq
        by_cases e : q = i
        · subst e; rw [upd_eq, ha q hq, nar_b]
        · rw [upd_ne _ _ e, upd_ne _ _ e, ha q hq]
      obtain ⟨a', f, ha', E⟩ : ∃ a' f, (∀ q, q < 36 → a' q = b01 (bh S h q)) ∧ ∀ c l, L_X8_oneMore_8 (n' + 1) c l (nI i) (hd x a b) = if l ≤ nI (rcn x (bh (wm S i) h) v h) then L_X8_oneMore_8 n' c (if nI (rcn x (bh (wm S i) h) v h) < l then nI (rcn x (bh (wm S i) h) v h) else l) (nI (i + 1)) (hd x a' f) else L_X8_oneMore_8 n' (nI i) (if nI (rcn x (bh (wm S i) h) v h) < l then nI (rcn x (bh (wm S i) h) v h) else l) (nI (i + 1)) (hd x a' f) := by
        by_cases ei : i = h
        · have e0 : nI i = (hd x a b).2.2.1 29 0 := by rw [ei]; exact e2.symm
          obtain ⟨f, hf⟩ := re_ok (x := hd x (upd a i 0) b) (hs := bh (wm S i) h) hv ev hh e2 nh (hH 0 (by simp [ei, b01]))
          refine ⟨_, f, hN 0, fun c l => ?_⟩
          rw [L_X8_oneMore_8, if_neg h1, if_pos (ns_e hi), if_pos e0, nI_clamp (by omega), show (hd x a b).2.2.1 37 = a from rfl, hd_37, hf]; dsimp only
          rw [nI_1, hd_38, show (hd x (upd a i 0) f).2.2.1 37 = upd a i 0 from rfl, hd_37]
          rfl
        · have e0 : ¬ nI i = (hd x a b).2.2.1 29 0 := fun c => ei ((nI_eq (by omega) (by omega)).mp (c.trans e2))
          obtain ⟨f, hf⟩ := re_ok (x := hd x (upd a i 1) b) (hs := bh (wm S i) h) hv ev hh e2 nh (hH 1 (by simp [ei, b01]))
          refine ⟨_, f, hN 1, fun c l => ?_⟩
          rw [L_X8_oneMore_8, if_neg h1, if_pos (ns_e hi), if_neg e0, nI_clamp (by omega), show (hd x a b).2.2.1 37 = a from rfl, hd_37, hf]; dsimp only
          rw [nI_1, hd_38, show (hd x (upd a i 1) f).2.2.1 37 = upd a i 1 from rfl, hd_37]
          rfl
      refine ⟨(omF (fun i => rcn x (bh (wm S i) h) v h) (i + 1), a', f), ⟨rfl, ha'⟩, ?_⟩
      dsimp only
      rw [omF, ← ho]
      cases o with
      | none =>
        dsimp only [om8]
        rw [E, if_neg (show ¬ (100000 : Int32) ≤ nI (rcn x (bh (wm S i) h) v h) from nI_ge (b := 100000) (by omega) (by decide)), if_pos (show nI (rcn x (bh (wm S i) h) v h) < (100000 : Int32) from nI_lt (b := 100000) (by omega) (by decide))]
      | some c =>
        dsimp only [om8]
        have b36' := rcn_36 (x := x) (bh (wm S c) h) v h
        by_cases l : rcn x (bh (wm S c) h) v h ≤ rcn x (bh (wm S i) h) v h
        · rw [E, if_pos (nI_le l (by omega)), if_neg (nI_nlt l (by omega)), if_pos l]
        · rw [E, if_neg (nI_ge (by omega) (by omega)), if_pos (nI_lt (by omega) (by omega)), if_neg l]))
    (fun n' s hp => by
      obtain ⟨o, a, b⟩ := s
      obtain ⟨ho, ha⟩ := hp
      dsimp only at ho ha ⊢
      subst ho
      exact ⟨_, by rw [L_X8_oneMore_8, if_pos (by decide)], _, _, a, b, rfl⟩)
    1000 0 (none, a0, b0) (by decide) (by decide) ⟨rfl, hS⟩
  obtain ⟨r, hF, w1, w2, a, b, rfl⟩ := H
  have hF' : L_X8_oneMore_8 1000 (-9) 100000 0 (hd x a0 b0) = some ((om8 (fun i => rcn x (bh (wm S i) h) v h) (omF (fun i => rcn x (bh (wm S i) h) v h) 36)).1, w1, w2, hd x a b) := hF
  refine ⟨a, b, ?_⟩
  unfold G_X8_oneMore
  rw [hF']
theorem l52_ok {n : Nat} (R : rowp x n) (e2 : x.2.2.1 29 0 = nI h) (hh : h < 36) (c : ∀ k, k < n → rowv x k < 36) (h0 : ∀ q, q < 36 → x.2.2.1 37 q = 0) (w : Int32) : ∃ w' a, L_X8_hold_52 1000 w 0 x = some (w, w', hd x a (x.2.2.1 38)) ∧ ∀ q, q < 36 → a q = b01 (bh (rset x n) h q) := by
  obtain ⟨n12, r1, r2, hr⟩ := R
  have H := am_for (fun n' i (a : Nat → Int32) => L_X8_hold_52 n' w (nI i) (hd x a (x.2.2.1 38))) n
    (fun i a => ∀ q, q < 36 → a q = b01 (bh (rset x i) h q))
    (fun r => ∃ w' a, r = (w, w', hd x a (x.2.2.1 38)) ∧ ∀ q, q < 36 → a q = b01 (bh (rset x n) h q))
    (fun n' i a hi hp => Or.inl (by
      have h1 : ¬ nI n ≤ nI i := nI_ge hi (by omega)
      obtain ⟨v100, _, l⟩ := hr i hi
      have vi := c i hi
      have i12 : 0 ≤ (nI i).toInt ∧ (nI i).toInt < 12 := nIr (b := 12) (by omega) (by decide)
      refine ⟨upd a (rowv x i) (b01 (!decide (rowv x i = h))), fun q hq => ?_, ?_⟩
      · by_cases e : q = rowv x i
        · have : rset x (i + 1) q = true := cd_iff.mpr ⟨i, by omega, e.symm⟩
          unfold bh
          rw [this, ← e, upd_eq]
          rfl
        · have : rset x (i + 1) q = rset x i q := by
            rw [Bool.eq_iff_iff]
            unfold rset
            rw [cd_iff, cd_iff]
            constructor
            · rintro ⟨k, hk, ek⟩
              by_cases eki : k = i
              · subst eki; exact absurd ek.symm e
              · exact ⟨k, by omega, ek⟩
            · rintro ⟨k, hk, ek⟩
              exact ⟨k, by omega, ek⟩
          rw [upd_ne _ _ e, hp q hq]
          unfold bh
          rw [this]
      · rw [L_X8_hold_52, show (hd x a (x.2.2.1 38)).1 885 = nI n from r2, if_neg h1, if_pos i12, nI_clamp (by omega), show (hd x a (x.2.2.1 38)).2.2.1 42 i = nI (rowv x i) from l, show (hd x a (x.2.2.1 38)).2.2.1 29 0 = nI h from e2, if_pos (ns_e vi), nI_clamp (by omega), nI_1, hd_37]
        by_cases e : rowv x i = h
        · rw [if_pos (by rw [e])]
          have : b01 (!decide (rowv x i = h)) = 0 := by simp [e, b01]
          rw [this]; rfl
        · rw [if_neg (fun k => e ((nI_eq (by omega) (by omega)).mp k)), if_pos (ns_e vi), hd_37]
          have : b01 (!decide (rowv x i = h)) = 1 := by simp [e, b01]
          rw [this]; rfl))
    (fun n' a hp => ⟨_, by rw [L_X8_hold_52, show (hd x a (x.2.2.1 38)).1 885 = nI n from r2, if_pos (by rw [ii_le]; omega)], _, a, rfl, hp⟩)
    1000 0 (x.2.2.1 37) (by omega) (by omega) (fun q hq => by
      rw [h0 q hq]
      have : rset x 0 q = false := cd_no (by rintro ⟨k, hk, _⟩; omega)
      unfold bh
      rw [this]; rfl)
  obtain ⟨r, hF, w', a, rfl, ha⟩ := H
  have hF' : L_X8_hold_52 1000 w 0 (hd x (x.2.2.1 37) (x.2.2.1 38)) = some (w, w', hd x a (x.2.2.1 38)) := hF
  rw [hd_self] at hF'
  exact ⟨w', a, hF', ha⟩
theorem h0_hd {a b : Nat → Int32} (h : ∀ q, q < 36 → a q = 0) : am_h0 x (hd x a b) := ⟨a, b, h, rfl⟩
theorem ho_end {n : Nat} (R : rowp x n) (hv : v ≤ 9) (ev : x.2.2.1 29 2 = nI v) (hh : h < 36) (e2 : x.2.2.1 29 0 = nI h) (nh : ¬ x.2.2.1 29 (20 + h) = 1) (c : ∀ k, k < n → rowv x k < 36) (h0 : ∀ q, q < 36 → x.2.2.1 37 q = 0) (m : Nat) (a : Int32) : ∃ z, am_h0 x z ∧ L_X8_hold_18 (m + 1) a (nI n) x = some (hoA x n v h a, z) := by
  obtain ⟨w', a1, h52, ha⟩ := l52_ok R e2 hh c h0 a
  have r2 := R.2.2.1
  have hsH : ∀ q, q < 36 → hsx (hd x a1 (x.2.2.1 38)) q = bh (rset x n) h q := fun q hq => by
    show decide (¬ a1 q = 0) = _
    rw [ha q hq]
    cases bh (rset x n) h q <;> decide
  unfold hoA
  by_cases b0 : a = 0
  · obtain ⟨f, r, hm, _, hr⟩ := mo_gs (x := hd x a1 (x.2.2.1 38)) (v := v) (h := h) hv ev hh e2 nh hsH
    have hr' : (100000 : Int32) ≤ r ↔ gso x (bh (rset x n) h) v h = false := hr
    obtain ⟨a2, ha2, hn⟩ := hn_ok (hd x a1 f)
    refine ⟨hd x a2 f, h0_hd ha2, ?_⟩
    rw [L_X8_hold_18, r2, if_pos (by rw [ii_le]; omega), h52]; dsimp only
    rw [if_pos b0, hm]; dsimp only
    rw [hd_38, hn]; dsimp only
    rw [hd_37, if_pos b0]
    by_cases g : gso x (bh (rset x n) h) v h = false
    · rw [if_pos (hr'.mpr g), if_pos g]
    · rw [if_neg (fun k => g (hr'.mp k)), if_neg g]
  by_cases b1 : a = 1
  · obtain ⟨f, hm⟩ := re_ok (x := hd x a1 (x.2.2.1 38)) (v := v) (h := h) hv ev hh e2 nh hsH
    obtain ⟨a2, ha2, hn⟩ := hn_ok (hd x a1 f)
    refine ⟨hd x a2 f, h0_hd ha2, ?_⟩
    rw [L_X8_hold_18, r2, if_pos (by rw [ii_le]; omega), h52]; dsimp only
    rw [if_neg b0, if_pos b1, hm]; dsimp only
    rw [hd_38, hn]; dsimp only
    rw [hd_37, if_neg b0, if_pos b1]
    rfl
  · obtain ⟨a3, f, hm⟩ := om_ref (x := x) (b0 := x.2.2.1 38) hv ev hh e2 nh ha
    obtain ⟨a2, ha2, hn⟩ := hn_ok (hd x a3 f)
    refine ⟨hd x a2 f, h0_hd ha2, ?_⟩
    rw [L_X8_hold_18, r2, if_pos (by rw [ii_le]; omega), h52]; dsimp only
    rw [if_neg b0, if_neg b1, hm]; dsimp only
    rw [hn]; dsimp only
    rw [hd_37, if_neg b0, if_neg b1, om_one]
theorem l18_ok {n : Nat} (R : rowp x n) (hv : v ≤ 9) (ev : x.2.2.1 29 2 = nI v) (hh : h < 36) (e2 : x.2.2.1 29 0 = nI h) (nh : ¬ x.2.2.1 29 (20 + h) = 1) (h0 : ∀ q, q < 36 → x.2.2.1 37 q = 0) (a : Int32) : ((∀ k, k < n → rowv x k < 36) → ∃ z, am_h0 x z ∧ L_X8_hold_18 1000 a 0 x = some (hoA x n v h a, z)) ∧ ((¬ ∀ k, k < n → rowv x k < 36) → L_X8_hold_18 1000 a 0 x = some (-3, am_r8 3 x)) := by
  have R' := R
  obtain ⟨n12, r1, r2, hr⟩ := R
  have H := am_for (fun n' i (_ : Unit) => L_X8_hold_18 n' a (nI i) x) n (fun i _ => ∀ k, k < i → rowv x k < 36)
    (fun r => ((∀ k, k < n → rowv x k < 36) ∧ ∃ z, am_h0 x z ∧ r = (hoA x n v h a, z)) ∨ ((¬ ∀ k, k < n → rowv x k < 36) ∧ r = (-3, am_r8 3 x)))
    (fun n' i s hi hp => by
      have h1 : ¬ nI n ≤ nI i := nI_ge hi (by omega)
      obtain ⟨v100, _, l⟩ := hr i hi
      have i12 : 0 ≤ (nI i).toInt ∧ (nI i).toInt < 12 := nIr (b := 12) (by omega) (by decide)
      by_cases c : rowv x i < 36
      · refine Or.inl ⟨(), fun k hk => ?_, ?_⟩
        · by_cases e : k = i
          · subst e; exact c
          · exact hp k (by omega)
        · rw [L_X8_hold_18, r2, if_neg h1, if_pos i12, nI_clamp (by omega), l, if_pos (show nI (rowv x i) < (36 : Int32) from nI_lt (b := 36) c (by decide)), nI_1]
      · refine Or.inr ⟨(-3, am_r8 3 x), by rw [L_X8_hold_18, r2, if_neg h1, if_pos i12, nI_clamp (by omega), l, if_neg (show ¬ nI (rowv x i) < (36 : Int32) from nI_nlt (b := 36) (by omega) (by omega)), n3], Or.inr ⟨fun k => c (k i hi), rfl⟩⟩)
    (fun n' s hp => by
      obtain ⟨z, hz, e⟩ := ho_end R' hv ev hh e2 nh hp h0 n' a
      exact ⟨_, e, Or.inl ⟨hp, z, hz, rfl⟩⟩)
    1000 0 () (by omega) (by omega) (fun k hk => by omega)
  obtain ⟨r, hF, hQ⟩ := H
  have hF' : L_X8_hold_18 1000 a 0 x = some r := hF
  rcases hQ with ⟨c, z, hz, rfl⟩ | ⟨c, rfl⟩
  · exact ⟨fun _ => ⟨z, hz, hF'⟩, fun k => absurd c k⟩
  · exact ⟨fun k => absurd k c, fun _ => hF'⟩
end
theorem ok_hold (a : Int32) : am_ok (G_X7_hold a) (G_X8_hold a) := by
  intro x hI
  by_cases a0 : a < 0
  · refine ⟨-2, am_r7 2 x, am_r8 2 (am_r7 2 x), ?_, ?_, r78 (j := 2) hI⟩
    · unfold G_X7_hold; rw [if_pos a0, c2]
    · unfold G_X8_hold; rw [if_pos a0, n2]
  by_cases a2 : a ≤ 2
  case neg =>
    refine ⟨-2, am_r7 2 x, am_r8 2 (am_r7 2 x), ?_, ?_, r78 (j := 2) hI⟩
    · unfold G_X7_hold; rw [if_neg a0, if_neg a2, c2]
    · unfold G_X8_hold; rw [if_neg a0, if_neg a2, n2]
  obtain ⟨n, R⟩ := row_n hI
  obtain ⟨h, hh, e1, e2, e3⟩ := hI.g.home
  obtain ⟨v, hv, v1, v2⟩ := hI.g.warm
  have hc := ho_class hI R v hh e1 a0 a2
  by_cases c : ∀ k, k < n → rowv x k < 36
  · obtain ⟨z, hz, e⟩ := (l18_ok R hv v2 hh e2 e3 hI.hel a).1 c
    refine ⟨_, _, z, by rw [hc, if_pos c], ?_, hz.iv hI⟩
    unfold G_X8_hold
    rw [if_neg a0, if_pos a2, e]
  · refine ⟨-3, am_r7 3 x, am_r8 3 (am_r7 3 x), by rw [hc, if_neg c], ?_, r78 (j := 3) hI⟩
    unfold G_X8_hold
    rw [if_neg a0, if_pos a2]
    exact (l18_ok (x := am_r7 3 x) R hv v2 hh e2 e3 hI.hel a).2 c
