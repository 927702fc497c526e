/-! the plain calls -/
def am_r7 (j : Nat) (x : am_X) : am_X := am_sA x 26 (upd (x.2.2.1 26) j (x.2.2.1 26 j + 1))
def am_r8 (j : Nat) (x : am_X) : am_X := am_sA x 28 (upd (x.2.2.1 28) j (x.2.2.1 28 j + 1))
theorem r78 {x : am_X} (h : am_Iv x) {j : Nat} : am_Iv (am_r8 j (am_r7 j x)) := no_inv h
theorem c1 (x : am_X) : G_X7_refused (-1) x = some (-1, am_r7 1 x) := no_class (-1) (j := 1) (by decide) (by decide) x
theorem c2 (x : am_X) : G_X7_refused (-2) x = some (-2, am_r7 2 x) := no_class (-2) (j := 2) (by decide) (by decide) x
theorem c3 (x : am_X) : G_X7_refused (-3) x = some (-3, am_r7 3 x) := no_class (-3) (j := 3) (by decide) (by decide) x
theorem c4 (x : am_X) : G_X7_refused (-4) x = some (-4, am_r7 4 x) := no_class (-4) (j := 4) (by decide) (by decide) x
theorem c6 (x : am_X) : G_X7_refused (-6) x = some (-6, am_r7 6 x) := no_class (-6) (j := 6) (by decide) (by decide) x
theorem n1 (x : am_X) : G_X8_no (-1) x = some (-1, am_r8 1 x) := no_ref (-1) (j := 1) (by decide) (by decide) x
theorem n2 (x : am_X) : G_X8_no (-2) x = some (-2, am_r8 2 x) := no_ref (-2) (j := 2) (by decide) (by decide) x
theorem n3 (x : am_X) : G_X8_no (-3) x = some (-3, am_r8 3 x) := no_ref (-3) (j := 3) (by decide) (by decide) x
theorem n4 (x : am_X) : G_X8_no (-4) x = some (-4, am_r8 4 x) := no_ref (-4) (j := 4) (by decide) (by decide) x
theorem n6 (x : am_X) : G_X8_no (-6) x = some (-6, am_r8 6 x) := no_ref (-6) (j := 6) (by decide) (by decide) x
theorem ii_lt (a b : Int32) : a < b ↔ a.toInt < b.toInt := Int32.lt_iff_toInt_lt
theorem ii_le (a b : Int32) : a ≤ b ↔ a.toInt ≤ b.toInt := Int32.le_iff_toInt_le
theorem ns_in {q : Nat} (h : q < 36) (x : am_X) : G_X8_isNoSquare (nI q) x = some (0, x) := by
  unfold G_X8_isNoSquare
  have h1 : nI q < (36 : Int32) := nI_lt (b := 36) h (by decide)
  rw [if_neg (nI_pos (by omega)), if_pos h1]
theorem t36 : (36 : Int32).toInt = 36 := by decide
theorem t0 : (0 : Int32).toInt = 0 := by decide
theorem ns_out {a : Int32} (h : ¬ am_sq a) (x : am_X) : G_X8_isNoSquare a x = some (1, x) := by
  unfold G_X8_isNoSquare
  by_cases h0 : a < 0
  · rw [if_pos h0]
  · rw [if_neg h0, if_neg]
    intro h1
    rw [ii_lt, t0] at h0
    rw [ii_lt, t36] at h1
    exact h ⟨by omega, h1⟩
theorem nIr {n b : Nat} (h : n < b) (hb : b < 2 ^ 31) : 0 ≤ (nI n).toInt ∧ (nI n).toInt < (b : Int) := by rw [nI_toInt (by omega)]; omega
theorem ko {q : Nat} (h : q < 36) (x : am_X) : G_X8_kindOf (nI q) x = some (x.2.2.1 29 (20 + q), x) := by
  unfold G_X8_kindOf
  have h1 : 0 ≤ (nI (20 + q)).toInt ∧ (nI (20 + q)).toInt < 56 := nIr (b := 56) (by omega) (by decide)
  rw [show (20 : Int32) + nI q = nI (20 + q) from nI_add 20 q, if_pos h1, nI_clamp (by omega)]
theorem nI_1e {k : Nat} (h : k < 2 ^ 31) : nI k = 1 ↔ k = 1 := nI_eq (b := 1) h (by decide)
theorem am_gd.open_at {sk hm pc wm : Int32} {w : Nat → Int64} {sK sS now : Nat → Int32} (g : am_gd sk hm pc wm w sK sS now) {q : Nat} (hq : q < 36) : am_hasb (am_open w) (nI q) ↔ ¬ now (20 + q) = 1 := by
  rw [g.opn.hasb hq]
  have : nI 1 = (1 : Int32) := rfl
  simp [kd, this]
theorem ok_square (a b : Int32) : am_ok (G_X7_square a b) (G_X8_square a b) := by
  intro x hI
  unfold G_X7_square G_X8_square
  by_cases h : am_sq a
  · obtain ⟨q, hq, rfl⟩ := am_nIsq h
    have hk := hI.g.kat hq
    have ho := hI.g.open_at hq
    obtain ⟨k, hk6, ek⟩ := hI.g.kin q hq
    obtain ⟨v, hv, e1, e2⟩ := hI.g.warm
    rw [if_pos h]
    by_cases b0 : b = 0
    · refine ⟨_, _, _, by rw [if_pos b0], ?_, hI⟩
      rw [ns_in hq]; dsimp only
      rw [if_pos rfl, ko hq]; dsimp only
      rw [if_pos b0, hk]
    by_cases b1 : b = 1
    · by_cases c : x.2.2.1 29 (20 + q) = 1
      · refine ⟨0, x, x, ?_, ?_, hI⟩
        · rw [if_neg b0, if_pos b1, if_neg (fun m => ho.mp m c)]
        · rw [ns_in hq]; dsimp only
          rw [if_pos rfl, ko hq]; dsimp only
          rw [if_neg b0, if_pos b1, if_pos c]
      · refine ⟨1, x, x, ?_, ?_, hI⟩
        · rw [if_neg b0, if_pos b1, if_pos (ho.mpr c)]
        · rw [ns_in hq]; dsimp only
          rw [if_pos rfl, ko hq]; dsimp only
          rw [if_neg b0, if_pos b1, if_neg c]
    by_cases b2 : b = 2
    · refine ⟨am_sof (x.2.2.2 2) (x.1 38) (nI q), x, x, by rw [if_neg b0, if_neg b1, if_pos b2], ?_, hI⟩
      rw [ns_in hq]; dsimp only
      rw [if_pos rfl, ko hq]; dsimp only
      rw [if_neg b0, if_neg b1, if_pos b2]
      unfold G_X8_off
      rw [ko hq]; dsimp only
      unfold am_sof
      rw [hk]
      by_cases k1 : x.2.2.1 29 (20 + q) = 1
      · rw [if_pos k1, if_pos k1]
      rw [if_neg k1, if_neg k1]
      by_cases k5 : x.2.2.1 29 (20 + q) = 5
      · rw [if_pos k5]
        simp [k5]
      rw [if_neg k5, if_neg k5]
      by_cases k3 : x.2.2.1 29 (20 + q) = 3
      · have k2 : ¬ x.2.2.1 29 (20 + q) = 2 := by rw [k3]; decide
        rw [if_pos k3, if_neg k2, if_pos k3, e2, e1]; rfl
      rw [if_neg k3, if_neg k3]
      by_cases k4 : x.2.2.1 29 (20 + q) = 4
      · have k2 : ¬ x.2.2.1 29 (20 + q) = 2 := by rw [k4]; decide
        rw [if_pos k4, if_neg k2, if_pos k4]
      rw [if_neg k4, if_neg k4]
      simp
    · refine ⟨_, _, _, by rw [if_neg b0, if_neg b1, if_neg b2, c2], ?_, r78 (j := 2) hI⟩
      rw [ns_in hq]; dsimp only
      rw [if_pos rfl, ko hq]; dsimp only
      rw [if_neg b0, if_neg b1, if_neg b2, n2]
  · rw [if_neg h]
    refine ⟨_, _, _, by rw [c1], ?_, r78 (j := 1) hI⟩
    rw [ns_out h]; dsimp only
    rw [if_neg (by decide), n1]
theorem ok_letter (a : Int32) : am_ok (G_X7_letter a) (G_X8_letter a) := by
  intro x hI
  unfold G_X7_letter G_X8_letter
  by_cases h0 : (0 : Int32) ≤ a
  · by_cases h1 : (255 : Int32) < a
    · exact ⟨_, _, _, by rw [if_pos h0, if_pos h1, c6], by rw [if_pos h0, if_pos h1, n6], r78 (j := 6) hI⟩
    · obtain ⟨n, hn, e1, e2, hc⟩ := hI.ltr
      have t1 : (nI n).toInt = n := nI_toInt (by omega)
      by_cases hf : n = 96
      · refine ⟨_, _, _, by rw [if_pos h0, if_neg h1, if_pos (by rw [e1, t1]; omega), c6], ?_, r78 (j := 6) hI⟩
        have : (am_r7 6 x).1 869 = 96 := by show x.1 869 = 96; rw [e2, hf]; rfl
        rw [if_pos h0, if_neg h1, if_pos this, n6]
      · refine ⟨nI (n + 1), am_uI (am_sA x 15 (upd (x.2.2.1 15) n a)) 449 (nI (n + 1)), am_uI (am_sA (am_uI (am_sA x 15 (upd (x.2.2.1 15) n a)) 449 (nI (n + 1))) 31 (upd (x.2.2.1 31) n a)) 869 (nI (n + 1)), ?_, ?_, ?_⟩
        · rw [if_pos h0, if_neg h1, e1, if_neg (by rw [t1]; omega), if_pos (by rw [t1]; omega), nI_clamp (by omega), nI_1]
        · rw [if_pos h0, if_neg h1]
          have g1 : (am_uI (am_sA x 15 (upd (x.2.2.1 15) n a)) 449 (nI (n + 1))).1 869 = nI n := e2
          have hne : ¬ nI n = (96 : Int32) := fun e => hf ((nI_eq (b := 96) (by omega) (by decide)).mp e)
          rw [g1, if_neg hne, if_pos (by rw [t1]; omega), nI_clamp (by omega), nI_1]
          rfl
        · obtain ⟨g, im, ltr, row, ref, hel, cb, ck, cs⟩ := hI
          refine ⟨g, im, ⟨n + 1, by omega, rfl, rfl, fun i hi => ?_⟩, row, ref, hel, cb, ck, cs⟩
          by_cases e : i = n
          · subst e
            obtain ⟨c, hc1, hc2⟩ := nI_of (x := a) (by rw [ii_le] at h0; rw [ii_lt]; omega)
            refine ⟨c, ?_, ?_, ?_⟩
            · rw [ii_lt, hc2, nI_toInt hc1] at h1
              have : (255 : Int32).toInt = 255 := by decide
              omega
            · show upd (x.2.2.1 15) i a i = _
              rw [← hc2]; simp [upd]
            · show upd (x.2.2.1 31) i a i = _
              rw [← hc2]; simp [upd]
          · obtain ⟨c, hc1, hc2, hc3⟩ := hc i (by omega)
            refine ⟨c, hc1, ?_, ?_⟩
            · show upd (x.2.2.1 15) n a i = _
              simp only [upd, if_neg e]; exact hc2
            · show upd (x.2.2.1 31) n a i = _
              simp only [upd, if_neg e]; exact hc3
  · exact ⟨_, _, _, by rw [if_neg h0, c4], by rw [if_neg h0, n4], r78 (j := 4) hI⟩
theorem ok_row (a : Int32) : am_ok (G_X7_row a) (G_X8_row a) := by
  intro x hI
  unfold G_X7_row G_X8_row
  by_cases h0 : (0 : Int32) ≤ a
  · by_cases h1 : (99 : Int32) < a
    · exact ⟨_, _, _, by rw [if_pos h0, if_pos h1, c6], by rw [if_pos h0, if_pos h1, n6], r78 (j := 6) hI⟩
    · obtain ⟨n, hn, e1, e2, hc⟩ := hI.row
      have t1 : (nI n).toInt = n := nI_toInt (by omega)
      by_cases hf : n = 12
      · refine ⟨_, _, _, by rw [if_pos h0, if_neg h1, if_pos (by rw [e1, t1]; omega), c6], ?_, r78 (j := 6) hI⟩
        have : (am_r7 6 x).1 885 = 12 := by show x.1 885 = 12; rw [e2, hf]; rfl
        rw [if_pos h0, if_neg h1, if_pos this, n6]
      · refine ⟨nI (n + 1), am_uI (am_sA x 17 (upd (x.2.2.1 17) n a)) 513 (nI (n + 1)), am_uI (am_sA (am_uI (am_sA x 17 (upd (x.2.2.1 17) n a)) 513 (nI (n + 1))) 42 (upd (x.2.2.1 42) n a)) 885 (nI (n + 1)), ?_, ?_, ?_⟩
        · rw [if_pos h0, if_neg h1, e1, if_neg (by rw [t1]; omega), if_pos (by rw [t1]; omega), nI_clamp (by omega), nI_1]
        · rw [if_pos h0, if_neg h1]
          have g1 : (am_uI (am_sA x 17 (upd (x.2.2.1 17) n a)) 513 (nI (n + 1))).1 885 = nI n := e2
          have hne : ¬ nI n = (12 : Int32) := fun e => hf ((nI_eq (b := 12) (by omega) (by decide)).mp e)
          rw [g1, if_neg hne, if_pos (by rw [t1]; omega), nI_clamp (by omega), nI_1]
          rfl
        · obtain ⟨g, im, ltr, row, ref, hel, cb, ck, cs⟩ := hI
          refine ⟨g, im, ltr, ⟨n + 1, by omega, rfl, rfl, fun i hi => ?_⟩, ref, hel, cb, ck, cs⟩
          by_cases e : i = n
          · subst e
            obtain ⟨c, hc1, hc2⟩ := nI_of (x := a) (by rw [ii_le] at h0; rw [ii_lt]; omega)
            refine ⟨c, ?_, ?_, ?_⟩
            · rw [ii_lt, hc2, nI_toInt hc1] at h1
              have : (99 : Int32).toInt = 99 := by decide
              omega
            · show upd (x.2.2.1 17) i a i = _
              rw [← hc2]; simp [upd]
            · show upd (x.2.2.1 42) i a i = _
              rw [← hc2]; simp [upd]
          · obtain ⟨c, hc1, hc2, hc3⟩ := hc i (by omega)
            refine ⟨c, hc1, ?_, ?_⟩
            · show upd (x.2.2.1 17) n a i = _
              simp only [upd, if_neg e]; exact hc2
            · show upd (x.2.2.1 42) n a i = _
              simp only [upd, if_neg e]; exact hc3
  · exact ⟨_, _, _, by rw [if_neg h0, c4], by rw [if_neg h0, n4], r78 (j := 4) hI⟩
theorem up_ne {α : Type} (f : Nat → α) {k j : Nat} (v : α) (h : j ≠ k) : am_up f k v j = f j := if_neg h
theorem upd_ne (f : Nat → Int32) {k j : Nat} (v : Int32) (h : j ≠ k) : upd f k v j = f j := by simp only [upd, if_neg h]
theorem upd_eq (f : Nat → Int32) (k : Nat) (v : Int32) : upd f k v k = v := by simp [upd]
theorem lay1 {now : Nat → Int32} {k q : Nat} : lay_now now (upd now (20 + q) (nI k)) k q q := by
  refine ⟨fun j hj => upd_ne _ _ (by omega), fun p hp => ?_⟩
  by_cases e : p = q
  · subst e; rw [upd_eq, if_pos ⟨Nat.le_refl _, Nat.le_refl _⟩]
  · rw [upd_ne _ _ (by omega), if_neg (by omega)]
theorem gd_home {sk hm pc wm : Int32} {w : Nat → Int64} {sK sS now : Nat → Int32} (g : am_gd sk hm pc wm w sK sS now) {q : Nat} (hq : q < 36) (hn : ¬ now (20 + q) = 1) : am_gd sk (nI q) pc wm w sK sS (upd now 0 (nI q)) := by
  obtain ⟨g1, g2, g3, g4, g5, g6⟩ := g
  have u : ∀ j, j ≠ 0 → upd now 0 (nI q) j = now j := fun j hj => upd_ne _ _ hj
  refine ⟨fun p hp => by rw [u _ (by omega)]; exact g1 p hp, fun k hk => (g2 k hk).congr (fun p _ => by rw [u _ (by omega)]), ⟨q, hq, rfl, upd_eq _ _ _, by rw [u _ (by omega)]; exact hn⟩, ?_, ?_, ?_⟩
  · rw [u 1 (by decide)]; exact g4
  · rw [u 2 (by decide)]; exact g5
  · obtain ⟨s, h1, h2, h3, h4⟩ := g6
    exact ⟨s, h1, h2, by rw [u 3 (by decide)]; exact h3, fun i hi => by rw [u (10 + 2 * i) (by omega), u (10 + 2 * i + 1) (by omega)]; exact h4 i hi⟩
theorem gd_pace {sk hm pc wm : Int32} {w : Nat → Int64} {sK sS now : Nat → Int32} (g : am_gd sk hm pc wm w sK sS now) {q : Nat} (h1 : 1 ≤ q) (hq : q ≤ 9) : am_gd sk hm (nI q) wm w sK sS (upd now 1 (nI q)) := by
  obtain ⟨g1, g2, g3, g4, g5, g6⟩ := g
  have u : ∀ j, j ≠ 1 → upd now 1 (nI q) j = now j := fun j hj => upd_ne _ _ hj
  refine ⟨fun p hp => by rw [u _ (by omega)]; exact g1 p hp, fun k hk => (g2 k hk).congr (fun p _ => by rw [u _ (by omega)]), ?_, ⟨q, h1, hq, rfl, upd_eq _ _ _⟩, ?_, ?_⟩
  · obtain ⟨h, a1, a2, a3, a4⟩ := g3
    exact ⟨h, a1, a2, by rw [u 0 (by decide)]; exact a3, by rw [u _ (by omega)]; exact a4⟩
  · rw [u 2 (by decide)]; exact g5
  · obtain ⟨s, h1, h2, h3, h4⟩ := g6
    exact ⟨s, h1, h2, by rw [u 3 (by decide)]; exact h3, fun i hi => by rw [u (10 + 2 * i) (by omega), u (10 + 2 * i + 1) (by omega)]; exact h4 i hi⟩
theorem gd_warm {sk hm pc wm : Int32} {w : Nat → Int64} {sK sS now : Nat → Int32} (g : am_gd sk hm pc wm w sK sS now) {q : Nat} (hq : q ≤ 9) : am_gd sk hm pc (nI q) w sK sS (upd now 2 (nI q)) := by
  obtain ⟨g1, g2, g3, g4, g5, g6⟩ := g
  have u : ∀ j, j ≠ 2 → upd now 2 (nI q) j = now j := fun j hj => upd_ne _ _ hj
  refine ⟨fun p hp => by rw [u _ (by omega)]; exact g1 p hp, fun k hk => (g2 k hk).congr (fun p _ => by rw [u _ (by omega)]), ?_, ?_, ⟨q, hq, rfl, upd_eq _ _ _⟩, ?_⟩
  · obtain ⟨h, a1, a2, a3, a4⟩ := g3
    exact ⟨h, a1, a2, by rw [u 0 (by decide)]; exact a3, by rw [u _ (by omega)]; exact a4⟩
  · rw [u 1 (by decide)]; exact g4
  · obtain ⟨s, h1, h2, h3, h4⟩ := g6
    exact ⟨s, h1, h2, by rw [u 3 (by decide)]; exact h3, fun i hi => by rw [u (10 + 2 * i) (by omega), u (10 + 2 * i + 1) (by omega)]; exact h4 i hi⟩
theorem gd_seat {sk hm pc wm : Int32} {w : Nat → Int64} {sK sS now : Nat → Int32} (g : am_gd sk hm pc wm w sK sS now) {a q : Nat} (ha : a < 3) (hq : q < 36) : am_gd sk hm pc wm w sK (upd sS a (nI q)) (upd now (10 + 2 * a + 1) (nI q)) := by
  obtain ⟨g1, g2, g3, g4, g5, g6⟩ := g
  have u : ∀ j, j ≠ 10 + 2 * a + 1 → upd now (10 + 2 * a + 1) (nI q) j = now j := fun j hj => upd_ne _ _ hj
  refine ⟨fun p hp => by rw [u _ (by omega)]; exact g1 p hp, fun k hk => (g2 k hk).congr (fun p _ => by rw [u _ (by omega)]), ?_, ?_, ?_, ?_⟩
  · obtain ⟨h, a1, a2, a3, a4⟩ := g3
    exact ⟨h, a1, a2, by rw [u 0 (by omega)]; exact a3, by rw [u _ (by omega)]; exact a4⟩
  · rw [u 1 (by omega)]; exact g4
  · rw [u 2 (by omega)]; exact g5
  · obtain ⟨s, h1, h2, h3, h4⟩ := g6
    refine ⟨s, h1, h2, by rw [u 3 (by omega)]; exact h3, fun i hi => ?_⟩
    rw [u (10 + 2 * i) (by omega)]
    refine ⟨(h4 i hi).1, ?_⟩
    by_cases e : i = a
    · subst e; exact ⟨q, hq, upd_eq _ _ _, upd_eq _ _ _⟩
    · rw [u (10 + 2 * i + 1) (by omega), upd_ne _ _ e]; exact (h4 i hi).2
