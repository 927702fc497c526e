/-! FINDS -/
theorem nI_2m {i : Nat} (h : i < 12) : (2 : Int32) * nI i = nI (2 * i) := by
  have : ∀ i, i < 12 → (2 : Int32) * nI i = nI (2 * i) := by decide +kernel
  exact this i h
/-- the first that is bad, from i on -/
def ffF (b : Nat → Bool) : Nat → Nat → Int32
  | 0, _ => -9
  | k + 1, i => if b i = true then nI i else ffF b k (i + 1)
theorem ffF_c (b : Nat → Bool) : ∀ k i, i + k < 1000 → ffF b k i = -9 ∨ (0 : Int32) ≤ ffF b k i := by
  intro k
  induction k with
  | zero => intro i _; exact Or.inl rfl
  | succ k ih =>
    intro i h
    rw [ffF]
    split
    · exact Or.inr (nI_mp (by omega))
    · exact ih (i + 1) (by omega)
section
variable {x : am_X} {n m v p : Nat}
def atN (x : am_X) (h i : Nat) : Nat := match i with | 0 => h | k + 1 => rowv x (2 * k)
def miN (x : am_X) (i : Nat) : Int32 := match i with | 0 => 0 | k + 1 => nI (rowv x (2 * k + 1))
noncomputable def bdN (x : am_X) (v p h i : Nat) : Bool := !cd (∃ c, rc x v (atN x h i) (rowv x (2 * i)) c ∧ nI c * nI p ≤ nI (rowv x (2 * i + 1)) - miN x i)
theorem rc_op {h q c : Nat} (r : rc x v h q c) : ¬ x.2.2.1 29 (20 + q) = 1 := by
  have := wk_cb r.1
  intro e
  have e1 : nI 1 = (1 : Int32) := rfl
  simp [gcb, kd, e, e1] at this
theorem kp_rc {y : am_X} (k : am_kp x y) (v h : Nat) : rc y v h = rc x v h := by
  unfold rc hsx
  rw [kp_now k, kp_hel k]
theorem fw_class (hI : am_Iv x) (R : rowp x n) (hm : n = 2 * m) (hs : ∀ k, k < m → rowv x (2 * k) < 36) (hv : v ≤ 9) (v1 : x.1 38 = nI v) (q1 : x.1 37 = nI p) {h : Nat} (hh : h < 36) {x0 : am_X} (k0 : am_kp x x0) : ∃ y, am_kp x y ∧ G_X7_firstWrongPair (nI h) x0 = some (ffF (bdN x v p h) m 0, y) := by
  obtain ⟨n12, r1, r2, hr⟩ := R
  have H := am_for (fun n' i (y : am_X) => L_X7_firstWrongPair_7 n' (nI (atN x h i)) (miN x i) (nI i) y) m
    (fun i y => am_kp x y ∧ ffF (bdN x v p h) m 0 = ffF (bdN x v p h) (m - i) i) (fun r => ∃ y, am_kp x y ∧ r = (ffF (bdN x v p h) m 0, y))
    (fun n' i y hi hp => by
      obtain ⟨k, hf⟩ := hp
      have i12 : i < 12 := by omega
      have e513 : y.1 513 = nI n := (k.i 513 (by decide)).trans r1
      have e17 : y.2.2.1 17 = x.2.2.1 17 := k.a 17 (by decide)
      have h1 : ¬ nI n ≤ nI (2 * i + 1) := nI_ge (by omega) (by omega)
      have hI' := hI.kp k
      have hat : atN x h i < 36 := by
        cases i with
        | zero => exact hh
        | succ i => exact hs i (by omega)
      obtain ⟨w100, a, b⟩ := hr (2 * i) (by omega)
      obtain ⟨t100, a', b'⟩ := hr (2 * i + 1) (by omega)
      have sq36 := hs i hi
      have W := wave0 hI' hat hv ((k.i 38 (by decide)).trans v1)
      rw [kp_rc k] at W
      have k2 : am_kp x (am_spx y (nI (atN x h i)) 0) := k.trans (spx_kp _ _ _)
      have mk : m - i = (m - (i + 1)) + 1 := by omega
      have E : ∀ r, G_X6_stepsTo_18 (am_bit (nI (rowv x (2 * i)))) (am_spx y (nI (atN x h i)) 0) = some (r, am_spx y (nI (atN x h i)) 0) → L_X7_firstWrongPair_7 (n' + 1) (nI (atN x h i)) (miN x i) (nI i) y = if r < 0 then some (nI i, am_spx y (nI (atN x h i)) 0) else (if r * nI p ≤ nI (rowv x (2 * i + 1)) - miN x i then L_X7_firstWrongPair_7 n' (nI (atN x h (i + 1))) (miN x (i + 1)) (nI (i + 1)) (am_spx y (nI (atN x h i)) 0) else some (nI i, am_spx y (nI (atN x h i)) 0)) := by
        intro r hr'
        rw [L_X7_firstWrongPair_7, nI_2m i12, nI_1, e513, if_neg h1, e17, nat16_at n12 (by omega), nat16_at n12 (by omega), a, a', hr']; dsimp only
        rw [show (am_spx y (nI (atN x h i)) 0).1 37 = nI p from (k.i 37 (by decide)).trans q1, nI_1]
        rfl
      rcases wv_ls W (abr_bit sq36) with ⟨c, ⟨c140, ⟨q', hq', eq', hr'⟩, hmin⟩, g, _⟩ | ⟨hn, g⟩
      · have : q' = rowv x (2 * i) := of_decide_eq_true eq'
        subst this
        have nn : ¬ nI c < 0 := nI_pos (by omega)
        by_cases l : nI c * nI p ≤ nI (rowv x (2 * i + 1)) - miN x i
        · refine Or.inl ⟨_, ⟨k2, ?_⟩, by rw [E _ g, if_neg nn, if_pos l]⟩
          have : bdN x v p h i = false := by unfold bdN; rw [cd_iff.mpr ⟨c, hr', l⟩]; rfl
          rw [hf, mk, ffF, this, if_neg (by decide)]
        · refine Or.inr ⟨(nI i, am_spx y (nI (atN x h i)) 0), by rw [E _ g, if_neg nn, if_neg l], _, k2, ?_⟩
          have : bdN x v p h i = true := by
            unfold bdN
            rw [cd_no]
            · rfl
            · rintro ⟨c', m1, m2⟩
              rw [mn_uniq m1 hr'] at m2
              exact l m2
          rw [hf, mk, ffF, this, if_pos rfl]
      · refine Or.inr ⟨(nI i, am_spx y (nI (atN x h i)) 0), by rw [E _ g, if_pos (by decide)], _, k2, ?_⟩
        have : bdN x v p h i = true := by
          unfold bdN
          rw [cd_no]
          · rfl
          · rintro ⟨c', m1, m2⟩
            exact hn _ c' sq36 (by simp) m1
        rw [hf, mk, ffF, this, if_pos rfl])
    (fun n' y hp => by
      obtain ⟨k, hf⟩ := hp
      have e513 : y.1 513 = nI n := (k.i 513 (by decide)).trans r1
      refine ⟨(-9, y), by rw [L_X7_firstWrongPair_7, nI_2m (by omega), nI_1, e513, if_pos (nI_le (by omega) (by omega))], y, k, ?_⟩
      rw [hf, Nat.sub_self]
      rfl)
    1000 0 x0 (by omega) (by omega) ⟨k0, rfl⟩
  obtain ⟨r, hF, y, k, rfl⟩ := H
  exact ⟨y, k, hF⟩
theorem fw_ref (R : rowp x n) (hm : n = 2 * m) (hs : ∀ k, k < m → rowv x (2 * k) < 36) (hv : v ≤ 9) (v2 : x.2.2.1 29 2 = nI v) (q2 : x.2.2.1 29 1 = nI p) {h : Nat} (hh : h < 36) (nh : ¬ x.2.2.1 29 (20 + h) = 1) (b0 : Nat → Int32) : ∃ b, G_X8_firstWrong (nI h) (am_sA x 38 b0) = some (ffF (bdN x v p h) m 0, am_sA x 38 b) := by
  obtain ⟨n12, r1, r2, hr⟩ := R
  have H := am_for (fun n' i (b : Nat → Int32) => L_X8_firstWrong_7 n' (nI (atN x h i)) (miN x i) (nI i) (am_sA x 38 b)) m
    (fun i b => ¬ x.2.2.1 29 (20 + atN x h i) = 1 ∧ ffF (bdN x v p h) m 0 = ffF (bdN x v p h) (m - i) i) (fun r => ∃ b, r = (ffF (bdN x v p h) m 0, am_sA x 38 b))
    (fun n' i b hi hp => by
      obtain ⟨k, hf⟩ := hp
      have i12 : i < 12 := by omega
      have h1 : ¬ nI n ≤ nI (2 * i) := nI_ge (by omega) (by omega)
      have hat : atN x h i < 36 := by
        cases i with
        | zero => exact hh
        | succ i => exact hs i (by omega)
      obtain ⟨w100, _, a⟩ := hr (2 * i) (by omega)
      obtain ⟨t100, _, a'⟩ := hr (2 * i + 1) (by omega)
      have sq36 := hs i hi
      have mk : m - i = (m - (i + 1)) + 1 := by omega
      obtain ⟨f, hf', F⟩ := from_ok (x := am_sA x 38 b) hv v2 hat k
      have x1 : 0 ≤ (nI (2 * i)).toInt ∧ (nI (2 * i)).toInt < 12 := nIr (b := 12) (by omega) (by decide)
      have x2 : 0 ≤ (nI (2 * i + 1)).toInt ∧ (nI (2 * i + 1)).toInt < 12 := nIr (b := 12) (by omega) (by decide)
      have E : L_X8_firstWrong_7 (n' + 1) (nI (atN x h i)) (miN x i) (nI i) (am_sA x 38 b) = if f (rowv x (2 * i)) = 100000 then some (nI i, am_sA x 38 f) else (if f (rowv x (2 * i)) * nI p ≤ nI (rowv x (2 * i + 1)) - miN x i then L_X8_firstWrong_7 n' (nI (atN x h (i + 1))) (miN x (i + 1)) (nI (i + 1)) (am_sA x 38 f) else some (nI i, am_sA x 38 f)) := by
        rw [L_X8_firstWrong_7, nI_2m i12, nI_1, show (am_sA x 38 b).1 885 = nI n from r2, if_neg h1, if_pos x1, if_pos x2, hf']; dsimp only
        rw [nI_clamp (by omega), nI_clamp (by omega), show (am_sA x 38 b).2.2.1 42 (2 * i) = nI (rowv x (2 * i)) from a, show (am_sA x 38 b).2.2.1 42 (2 * i + 1) = nI (rowv x (2 * i + 1)) from a', if_pos (ns_e sq36), nI_clamp (by omega), am_sAA, nI_1, show (am_sA x 38 f).2.2.1 29 1 = nI p from q2]
        rfl
      rcases F _ sq36 with ⟨c, c140, fc, mr⟩ | ⟨fc, mr⟩
      · by_cases l : nI c * nI p ≤ nI (rowv x (2 * i + 1)) - miN x i
        · refine Or.inl ⟨f, ⟨rc_op mr, ?_⟩, by rw [E, fc, if_neg (nI_far c140), if_pos l]⟩
          have : bdN x v p h i = false := by unfold bdN; rw [cd_iff.mpr ⟨c, mr, l⟩]; rfl
          rw [hf, mk, ffF, this, if_neg (by decide)]
        · refine Or.inr ⟨(nI i, am_sA x 38 f), by rw [E, fc, if_neg (nI_far c140), if_neg l], f, ?_⟩
          have : bdN x v p h i = true := by
            unfold bdN
            rw [cd_no]
            · rfl
            · rintro ⟨c', m1, m2⟩
              rw [mn_uniq m1 mr] at m2
              exact l m2
          rw [hf, mk, ffF, this, if_pos rfl]
      · refine Or.inr ⟨(nI i, am_sA x 38 f), by rw [E, if_pos fc], f, ?_⟩
        have : bdN x v p h i = true := by
          unfold bdN
          rw [cd_no]
          · rfl
          · rintro ⟨c', m1, m2⟩
            exact mr c' m1
        rw [hf, mk, ffF, this, if_pos rfl])
    (fun n' b hp => by
      obtain ⟨k, hf⟩ := hp
      refine ⟨(-9, am_sA x 38 b), by rw [L_X8_firstWrong_7, nI_2m (by omega), show (am_sA x 38 b).1 885 = nI n from r2, if_pos (nI_le (by omega) (by omega))], b, ?_⟩
      rw [hf, Nat.sub_self]
      rfl)
    1000 0 b0 (by omega) (by omega) ⟨nh, rfl⟩
  obtain ⟨r, hF, b, rfl⟩ := H
  exact ⟨b, hF⟩
/-- the homes by which all can be -/
noncomputable def hom (x : am_X) (v p m q : Nat) : Bool := !kd (x.2.2.1 29) q 1 && cd (ffF (bdN x v p q) m 0 = -9)
theorem ht_class (hI : am_Iv x) (R : rowp x n) (hm : n = 2 * m) (hs : ∀ k, k < m → rowv x (2 * k) < 36) (hv : v ≤ 9) (v1 : x.1 38 = nI v) (q1 : x.1 37 = nI p) : ∃ r y, am_kp x y ∧ G_X7_homesOfTraces x = some (r, y) ∧ abr r (hom x v p m) := by
  have n12 := R.1
  have H := am_for (fun n' i (s : Int64 × am_X) => L_X7_homesOfTraces_4 n' s.1 (nI i) s.2) 36
    (fun i s => am_kp x s.2 ∧ abr s.1 (fun q => hom x v p m q && decide (q < i))) (fun r => ∃ w y, am_kp x y ∧ r = (w, y) ∧ abr w (hom x v p m))
    (fun n' i s hi hp => Or.inl (by
      obtain ⟨w, y⟩ := s
      obtain ⟨k, hw⟩ := hp
      dsimp only at k hw ⊢
      have h1 : ¬ (36 : Int32) ≤ nI i := nI_ge (b := 36) hi (by decide)
      have ho := hI.g.open_at hi
      have keep : hom x v p m i = false → abr w (fun q => hom x v p m q && decide (q < i + 1)) := fun e => hw.congr (fun q hq => by
        by_cases eq : q = i
        · subst eq; rw [e]; rfl
        · have : (q < i) = (q < i + 1) := by apply propext; omega
          simp only [this])
      have ow : am_open (y.2.2.2 2) = am_open (x.2.2.2 2) := by rw [kp_w k]
      by_cases o : x.2.2.1 29 (20 + i) = 1
      · refine ⟨(w, y), ⟨k, keep ?_⟩, ?_⟩
        · unfold hom; rw [(kd1 x i).mpr o]; rfl
        · dsimp only
          rw [L_X7_homesOfTraces_4, if_neg h1, ow, if_neg (fun c => ho.mp c o), nI_1]
      · obtain ⟨y', k', hf⟩ := fw_class hI R hm hs hv v1 q1 hi k
        have E : L_X7_homesOfTraces_4 (n' + 1) w (nI i) y = if (0 : Int32) ≤ ffF (bdN x v p i) m 0 then L_X7_homesOfTraces_4 n' w (nI (i + 1)) y' else L_X7_homesOfTraces_4 n' (w ||| am_bit (nI i)) (nI (i + 1)) y' := by
          rw [L_X7_homesOfTraces_4, if_neg h1, ow, if_pos (ho.mpr o), hf]; dsimp only
          rw [nI_1]
        by_cases e : ffF (bdN x v p i) m 0 = -9
        · refine ⟨(w ||| am_bit (nI i), y'), ⟨k', (hw.or (abr_bit hi)).congr (fun q hq => ?_)⟩, ?_⟩
          · by_cases eq : q = i
            · subst eq
              have : hom x v p m q = true := by unfold hom; rw [kd_f (fun c => o ((kd1 x q).mp c)), cd_iff.mpr e]; rfl
              rw [this]; simp
            · have : (q < i) = (q < i + 1) := by apply propext; omega
              simp [this, eq]
          · rw [E, e, if_neg (by decide)]
        · refine ⟨(w, y'), ⟨k', keep ?_⟩, ?_⟩
          · unfold hom; rw [cd_no e, Bool.and_false]
          · rcases ffF_c (bdN x v p i) m 0 (by omega) with e' | e'
            · exact absurd e' e
            · rw [E, if_pos e']))
    (fun n' s hp => ⟨_, by rw [L_X7_homesOfTraces_4, if_pos (by decide)], s.1, s.2, hp.1, rfl, hp.2.congr (fun q hq => by simp [hq])⟩)
    1000 0 (0, x) (by decide) (by decide) ⟨am_kp.rfl, abr_0.congr (fun q _ => by simp)⟩
  obtain ⟨r, hF, w, y, k, rfl, hw⟩ := H
  exact ⟨w, y, k, hF, hw⟩
end
