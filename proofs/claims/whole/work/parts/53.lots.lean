/-! LOTS -/
theorem dN_ex (z : Int32) : ∃ d, d < 4 ∧ ((am_nz z &&& 2147483647) / 256) - ((am_nz z &&& 2147483647) / 256) / 4 * 4 = nI d := by
  obtain ⟨j, hj, e⟩ := pk_andE (am_nz z) (m := 2147483647) 31 (by decide)
  rw [e]
  refine ⟨j / 256 % 4, Nat.mod_lt _ (by decide), ?_⟩
  have h1 : nI j / (256 : Int32) = nI (j / 256) := pk_div (d := 256) hj (by decide) (by decide)
  rw [h1]
  exact pk_rem (d := 4) (by omega) (by decide) (by decide)
noncomputable def dN (z : Int32) : Nat := (((am_nz z &&& 2147483647) / 256) - ((am_nz z &&& 2147483647) / 256) / 4 * 4).toNatClampNeg
theorem dN_ok (z : Int32) : dN z < 4 ∧ ((am_nz z &&& 2147483647) / 256) - ((am_nz z &&& 2147483647) / 256) / 4 * 4 = nI (dN z) := by
  obtain ⟨d, hd, e⟩ := dN_ex z
  have : dN z = d := by unfold dN; rw [e, nI_clamp (by omega)]
  rw [this]
  exact ⟨hd, e⟩
theorem dr_ok (z : Int32) : am_dr z 4 = nI (dN z) := by
  unfold am_dr
  rw [if_pos (by decide), (dN_ok z).2]
theorem dd_ok {d : Nat} (h : d < 4) (x : am_X) : G_X7_drawnDirection (nI d) x = some (nI (wN d), x) := by
  unfold G_X7_drawnDirection
  have : d = 0 ∨ d = 1 ∨ d = 2 ∨ d = 3 := by omega
  rcases this with rfl | rfl | rfl | rfl
  · rw [if_pos (by decide)]; rfl
  · rw [if_neg (by decide), if_pos (by decide)]; rfl
  · rw [if_neg (by decide), if_neg (by decide), if_pos (by decide)]; rfl
  · rw [if_neg (by decide), if_neg (by decide), if_neg (by decide)]; rfl
theorem wN_w {d : Nat} (h : d < 4) : wN (wN d) = d := by
  have : ∀ d, d < 4 → wN (wN d) = d := by decide +kernel
  exact this d h
/-- a walk by lot: seed and square -/
noncomputable def lwS (now : Nat → Int32) (s : Int32 × Nat) : Int32 × Nat := (am_nz s.1, match nqN now s.2 (dN s.1) with
  | none => s.2
  | some r => r)
noncomputable def lwF (now : Nat → Int32) (s : Int32 × Nat) : Nat → Int32 × Nat
  | 0 => s
  | i + 1 => lwS now (lwF now s i)
theorem lw_lt (now : Nat → Int32) {s : Int32 × Nat} (h : s.2 < 36) : ∀ i, (lwF now s i).2 < 36 := by
  intro i
  induction i with
  | zero => exact h
  | succ i ih =>
    show (lwS now (lwF now s i)).2 < 36
    unfold lwS
    cases e : nqN now (lwF now s i).2 (dN (lwF now s i).1) with
    | none => exact ih
    | some r => exact (nq_36 e).1
section
variable {x : am_X}
theorem lw_class (hI : am_Iv x) {h : Nat} (hh : h < 36) (e1 : x.1 36 = nI h) (z : Int32) : G_X7_afterWalkByLot (am_uI x 800 z) = some (am_bit (nI (lwF (x.2.2.1 29) (z, h) 30).2), am_uI x 800 (lwF (x.2.2.1 29) (z, h) 30).1) := by
  have H := am_for (fun n' i (_ : Unit) => L_X7_afterWalkByLot_31 n' ((68719476735 : Int64) &&& ((am_sqo (x.2.2.2 2) 5) ^^^ (-1))) (am_bit (nI (lwF (x.2.2.1 29) (z, h) i).2)) (nI i) (am_uI x 800 (lwF (x.2.2.1 29) (z, h) i).1)) 30
    (fun _ _ => True) (fun r => r = (am_bit (nI (lwF (x.2.2.1 29) (z, h) 30).2), am_uI x 800 (lwF (x.2.2.1 29) (z, h) 30).1))
    (fun n' i _ hi _ => by
      have h1 : ¬ (30 : Int32) ≤ nI i := nI_ge (b := 30) hi (by decide)
      have l1 := lw_lt (x.2.2.1 29) (s := (z, h)) hh i
      have d4 := (dN_ok (lwF (x.2.2.1 29) (z, h) i).1).1
      have ez : (am_uI x 800 (lwF (x.2.2.1 29) (z, h) i).1).1 800 = (lwF (x.2.2.1 29) (z, h) i).1 := rfl
      refine Or.inl ⟨(), trivial, ?_⟩
      rw [L_X7_afterWalkByLot_31, if_neg h1, ez, dr_ok, dd_ok d4, am_uII]; dsimp only
      have g := go_l hI.g l1 (wN_4 d4)
      rw [wN_w d4] at g
      rw [show (am_uI x 800 (am_nz (lwF (x.2.2.1 29) (z, h) i).1)).2.2.2 2 = x.2.2.2 2 from rfl, g, nI_1]
      show _ = L_X7_afterWalkByLot_31 n' ((68719476735 : Int64) &&& ((am_sqo (x.2.2.2 2) 5) ^^^ (-1))) (am_bit (nI (lwS (x.2.2.1 29) (lwF (x.2.2.1 29) (z, h) i)).2)) (nI (i + 1)) (am_uI x 800 (lwS (x.2.2.1 29) (lwF (x.2.2.1 29) (z, h) i)).1)
      unfold lwS
      cases e : nqN (x.2.2.1 29) (lwF (x.2.2.1 29) (z, h) i).2 (dN (lwF (x.2.2.1 29) (z, h) i).1) with
      | none => rw [if_pos (show lg_cmp (oW none) 0 = 0 from (lg_cmp0 _).mpr rfl)]
      | some r =>
        rw [if_neg (show ¬ lg_cmp (oW (some r)) 0 = 0 from fun c => bit_n0 (nq_36 e).1 ((lg_cmp0 _).mp c))]
        rfl)
    (fun n' _ _ => ⟨_, by rw [L_X7_afterWalkByLot_31, if_pos (by decide)], rfl⟩)
    1000 0 () (by decide) (by decide) trivial
  obtain ⟨r, hF, rfl⟩ := H
  unfold G_X7_afterWalkByLot
  rw [show (am_uI x 800 z).1 36 = nI h from e1]
  exact hF
/-- walks by lot: seed and how often out -/
noncomputable def loF (now : Nat → Int32) (h : Nat) (z : Int32) : Nat → Int32 × Nat
  | 0 => (z, 0)
  | i + 1 => ((lwF now ((loF now h z i).1, h) 30).1, (loF now h z i).2 + (if kd now (lwF now ((loF now h z i).1, h) 30).2 5 = true then 1 else 0))
theorem lo_c7 (hI : am_Iv x) {h n : Nat} (hh : h < 36) (e1 : x.1 36 = nI h) (hn : n ≤ 20) (z : Int32) : L_X7_lots_38 1000 (nI n) 0 0 (am_uI x 800 z) = some (nI (loF (x.2.2.1 29) h z n).2, am_uI x 800 (loF (x.2.2.1 29) h z n).1) := by
  have H := am_for (fun n' i (_ : Unit) => L_X7_lots_38 n' (nI n) (nI (loF (x.2.2.1 29) h z i).2) (nI i) (am_uI x 800 (loF (x.2.2.1 29) h z i).1)) n
    (fun _ _ => True) (fun r => r = (nI (loF (x.2.2.1 29) h z n).2, am_uI x 800 (loF (x.2.2.1 29) h z n).1))
    (fun n' i _ hi _ => by
      have h1 : ¬ nI n ≤ nI i := nI_ge hi (by omega)
      have l1 := lw_lt (x.2.2.1 29) (s := ((loF (x.2.2.1 29) h z i).1, h)) hh 30
      refine Or.inl ⟨(), trivial, ?_⟩
      rw [L_X7_lots_38, if_neg h1, lw_class hI hh e1]; dsimp only
      rw [show (am_uI x 800 (lwF (x.2.2.1 29) ((loF (x.2.2.1 29) h z i).1, h) 30).1).2.2.2 2 = x.2.2.2 2 from rfl, bit_op hI.g.road l1, nI_1]
      show _ = L_X7_lots_38 n' (nI n) (nI ((loF (x.2.2.1 29) h z i).2 + (if kd (x.2.2.1 29) (lwF (x.2.2.1 29) ((loF (x.2.2.1 29) h z i).1, h) 30).2 5 = true then 1 else 0))) (nI (i + 1)) (am_uI x 800 (lwF (x.2.2.1 29) ((loF (x.2.2.1 29) h z i).1, h) 30).1)
      by_cases k5 : kd (x.2.2.1 29) (lwF (x.2.2.1 29) ((loF (x.2.2.1 29) h z i).1, h) 30).2 5 = true
      · rw [if_pos k5, if_pos k5, if_neg (fun c => bit_n0 l1 ((lg_cmp0 _).mp c)), nI_1]
      · rw [if_neg k5, if_neg k5, if_pos ((lg_cmp0 _).mpr rfl)]
        rfl)
    (fun n' _ _ => ⟨_, by rw [L_X7_lots_38, if_pos (by rw [ii_le]; omega)], rfl⟩)
    1000 0 () (by omega) (by omega) trivial
  obtain ⟨r, hF, rfl⟩ := H
  exact hF
theorem lw_ref (h0 : ∀ q, q < 36 → x.2.2.1 37 q = 0) {h : Nat} (hh : h < 36) (z u1 u2 u3 : Int32) : ∃ w, L_X8_lots_50 1000 u1 z u2 u3 (nI h) 0 x = some (u1, (lwF (x.2.2.1 29) (z, h) 30).1, u2, u3, nI (lwF (x.2.2.1 29) (z, h) 30).2, w, x) := by
  have H := am_for (fun n' i (_ : Unit) => L_X8_lots_50 n' u1 (lwF (x.2.2.1 29) (z, h) i).1 u2 u3 (nI (lwF (x.2.2.1 29) (z, h) i).2) (nI i) x) 30
    (fun _ _ => True) (fun r => ∃ w, r = (u1, (lwF (x.2.2.1 29) (z, h) 30).1, u2, u3, nI (lwF (x.2.2.1 29) (z, h) 30).2, w, x))
    (fun n' i _ hi _ => by
      have h1 : ¬ (30 : Int32) ≤ nI i := nI_ge (b := 30) hi (by decide)
      have l1 := lw_lt (x.2.2.1 29) (s := (z, h)) hh i
      obtain ⟨d4, ed⟩ := dN_ok (lwF (x.2.2.1 29) (z, h) i).1
      refine Or.inl ⟨(), trivial, ?_⟩
      have R := go_r h0 l1 d4 (A := fun y => L_X8_lots_50 n' u1 (am_nz (lwF (x.2.2.1 29) (z, h) i).1) u2 u3 (nI (lwF (x.2.2.1 29) (z, h) i).2) (nI (i + 1)) y) (C := fun r y => L_X8_lots_50 n' u1 (am_nz (lwF (x.2.2.1 29) (z, h) i).1) u2 u3 r (nI (i + 1)) y)
      have fin : (match nqN (x.2.2.1 29) (lwF (x.2.2.1 29) (z, h) i).2 (dN (lwF (x.2.2.1 29) (z, h) i).1) with | none => L_X8_lots_50 n' u1 (am_nz (lwF (x.2.2.1 29) (z, h) i).1) u2 u3 (nI (lwF (x.2.2.1 29) (z, h) i).2) (nI (i + 1)) x | some r => L_X8_lots_50 n' u1 (am_nz (lwF (x.2.2.1 29) (z, h) i).1) u2 u3 (nI r) (nI (i + 1)) x) = L_X8_lots_50 n' u1 (lwF (x.2.2.1 29) (z, h) (i + 1)).1 u2 u3 (nI (lwF (x.2.2.1 29) (z, h) (i + 1)).2) (nI (i + 1)) x := by
        show _ = L_X8_lots_50 n' u1 (lwS (x.2.2.1 29) (lwF (x.2.2.1 29) (z, h) i)).1 u2 u3 (nI (lwS (x.2.2.1 29) (lwF (x.2.2.1 29) (z, h) i)).2) (nI (i + 1)) x
        unfold lwS
        cases nqN (x.2.2.1 29) (lwF (x.2.2.1 29) (z, h) i).2 (dN (lwF (x.2.2.1 29) (z, h) i).1) <;> rfl
      refine Eq.trans ?_ (R.trans fin)
      rw [L_X8_lots_50, if_neg h1, ed, nI_1]
      rfl)
    (fun n' _ _ => ⟨_, by rw [L_X8_lots_50, if_pos (by decide)], _, rfl⟩)
    1000 0 () (by decide) (by decide) trivial
  obtain ⟨r, hF, w, rfl⟩ := H
  exact ⟨w, hF⟩
theorem lo_r8 (h0 : ∀ q, q < 36 → x.2.2.1 37 q = 0) {h n : Nat} (hh : h < 36) (e2 : x.2.2.1 29 0 = nI h) (hn : n ≤ 20) (z : Int32) : ∃ w, L_X8_lots_33 1000 (nI n) z 0 0 x = some (nI n, (loF (x.2.2.1 29) h z n).1, nI (loF (x.2.2.1 29) h z n).2, w, x) := by
  have H := am_for (fun n' i (_ : Unit) => L_X8_lots_33 n' (nI n) (loF (x.2.2.1 29) h z i).1 (nI (loF (x.2.2.1 29) h z i).2) (nI i) x) n
    (fun _ _ => True) (fun r => ∃ w, r = (nI n, (loF (x.2.2.1 29) h z n).1, nI (loF (x.2.2.1 29) h z n).2, w, x))
    (fun n' i _ hi _ => by
      have h1 : ¬ nI n ≤ nI i := nI_ge hi (by omega)
      have l1 := lw_lt (x.2.2.1 29) (s := ((loF (x.2.2.1 29) h z i).1, h)) hh 30
      obtain ⟨w, h50⟩ := lw_ref h0 hh (loF (x.2.2.1 29) h z i).1 (nI n) (nI (loF (x.2.2.1 29) h z i).2) (nI i)
      refine Or.inl ⟨(), trivial, ?_⟩
      rw [L_X8_lots_33, if_neg h1, e2, h50]; dsimp only
      rw [ko l1]; dsimp only
      show _ = L_X8_lots_33 n' (nI n) (lwF (x.2.2.1 29) ((loF (x.2.2.1 29) h z i).1, h) 30).1 (nI ((loF (x.2.2.1 29) h z i).2 + (if kd (x.2.2.1 29) (lwF (x.2.2.1 29) ((loF (x.2.2.1 29) h z i).1, h) 30).2 5 = true then 1 else 0))) (nI (i + 1)) x
      by_cases k5 : x.2.2.1 29 (20 + (lwF (x.2.2.1 29) ((loF (x.2.2.1 29) h z i).1, h) 30).2) = 5
      · rw [if_pos k5, if_pos ((kd5 x _).mpr k5), nI_1, nI_1]
      · rw [if_neg k5, if_neg (fun c => k5 ((kd5 x _).mp c)), nI_1, nI_p0]
        rfl)
    (fun n' _ _ => ⟨_, by rw [L_X8_lots_33, if_pos (by rw [ii_le]; omega)], _, rfl⟩)
    1000 0 () (by omega) (by omega) trivial
  obtain ⟨r, hF, w, rfl⟩ := H
  exact ⟨w, hF⟩
end
theorem ok_lots (a b : Int32) : am_ok (G_X7_lots a b) (G_X8_lots a b) := by
  intro x hI
  obtain ⟨h, hh, e1, e2, e3⟩ := hI.g.home
  unfold G_X7_lots G_X8_lots
  by_cases a1 : (1 : Int32) ≤ a
  case neg => exact ⟨-4, am_r7 4 x, am_r8 4 (am_r7 4 x), by rw [if_neg a1, c4], by rw [if_neg a1, n4], r78 (j := 4) hI⟩
  by_cases a2 : a ≤ 20
  case neg => exact ⟨-6, am_r7 6 x, am_r8 6 (am_r7 6 x), by rw [if_pos a1, if_neg a2, c6], by rw [if_pos a1, if_neg a2, n6], r78 (j := 6) hI⟩
  have a0 : ¬ a < 0 := by
    rw [ii_lt, t0]; rw [ii_le, t1] at a1; omega
  obtain ⟨n, hn, rfl⟩ := nI_of2 (n := 20) (by decide) a0 a2
  have hI1 : am_Iv (am_uI x 800 (loF (x.2.2.1 29) h b n).1) := hI.kp (am_kp.uI (by decide))
  obtain ⟨w, hr⟩ := lo_r8 (x := am_uI x 800 (loF (x.2.2.1 29) h b n).1) (n := n) hI.hel hh e2 hn b
  refine ⟨nI (loF (x.2.2.1 29) h b n).2, am_uI x 800 (loF (x.2.2.1 29) h b n).1, am_uI x 800 (loF (x.2.2.1 29) h b n).1, ?_, ?_, hI1⟩
  · rw [if_pos a1, if_pos a2, lo_c7 hI hh e1 hn]
  · rw [if_pos a1, if_pos a2, hr]
    rfl
