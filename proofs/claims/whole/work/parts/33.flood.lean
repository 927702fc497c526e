/-! the class' flood: all that is ever reached -/
theorem fl_ok {x : am_X} {now : Nat → Int32} {ex cb : Nat → Bool} {fo : Nat → Nat} {h : Nat} (hh : h < 36) {op lv : Int64} (ho : abr op cb) (hl : abr lv (fun q => cb q && ex q)) : ∃ r, L_X7_flooded_51 1000 op lv (am_bit (nI h) &&& op) (am_bit (nI h) &&& op) 0 x = some (r, x) ∧ abr r (fun q => cd (∃ c, wk ex cb fo h q c)) := by
  have H := am_for (fun n i (s : Int64 × Int64) => L_X7_flooded_51 n op lv s.1 s.2 (nI i) x) 36
    (fun i s => ∃ R F : Nat → Bool, abr s.1 R ∧ abr s.2 F ∧ (∀ q, q < 36 → F q = true → R q = true) ∧ (∀ q, q < 36 → R q = true → ∃ c, wk ex cb fo h q c) ∧ (cb h = true → R h = true) ∧ (∀ p q, p < 36 → q < 36 → R p = true → F p = false → ex p = true → ab_nb p q = true → cb q = true → R q = true) ∧ ((∃ q, q < 36 ∧ F q = true) → i + 1 ≤ fb_ct R 36))
    (fun r => r.2 = x ∧ abr r.1 (fun q => cd (∃ c, wk ex cb fo h q c)))
    (fun n i s hi hp => by
      obtain ⟨R, F, hR, hF, h1, h2, h3, h4, h5⟩ := hp
      have l1 : ¬ (36 : Int32) ≤ nI i := nI_ge (b := 36) hi (by decide)
      by_cases z : s.2 = 0
      · refine Or.inr ⟨(s.1, x), by rw [L_X7_flooded_51, if_neg l1, if_pos ((lg_cmp0 _).mpr z)], rfl, hR.congr (fun q hq => ?_)⟩
        have hz := hF.zero.mp z
        rw [Bool.eq_iff_iff, cd_iff]
        constructor
        · exact h2 q hq
        · rintro ⟨c, w⟩
          exact wk_ind (P := fun q _ => R q = true) h3 (fun p q c hp hq i n e b => h4 p q hp hq i (hz p hp) e n b) w
      · refine Or.inl ⟨(s.1 ||| (((am_bes (s.2 &&& lv)) &&& op) &&& (s.1 ^^^ (-1))), (((am_bes (s.2 &&& lv)) &&& op) &&& (s.1 ^^^ (-1)))), ?_, by rw [L_X7_flooded_51, if_neg l1, if_neg (fun e => z ((lg_cmp0 _).mp e)), nI_1]⟩
        have hN := ((abr_bes (hF.and hl)).and ho).andn hR
        refine ⟨_, _, hR.or hN, hN, fun q _ e => by rw [e]; simp, fun q hq e => ?_, fun e => by rw [h3 e]; simp, fun p q hp hq e f e2 n b => ?_, ?_⟩
        · rw [Bool.or_eq_true] at e
          rcases e with e | e
          · exact h2 q hq e
          · simp only [Bool.and_eq_true, ab_bs_iff] at e
            obtain ⟨⟨⟨p, hp, hn, hf, hc, he⟩, hq'⟩, _⟩ := e
            obtain ⟨c, w⟩ := h2 p hp (h1 p hp hf)
            exact ⟨_, wk_go w hp hq (by rw [ab_nb_sym]; exact hn) he hq'⟩
        · rw [f, Bool.or_false] at e
          cases hfp : F p
          · rw [h4 p q hp hq e hfp e2 n b]; simp
          · rw [Bool.or_eq_true]
            cases hr : R q
            · refine Or.inr ?_
              simp only [Bool.and_eq_true, ab_bs_iff, Bool.not_eq_true']
              obtain ⟨c, w⟩ := h2 p hp e
              exact ⟨⟨⟨p, hp, by rw [ab_nb_sym]; exact n, hfp, wk_cb w, e2⟩, b⟩, trivial⟩
            · exact Or.inl rfl
        · rintro ⟨q, hq, e⟩
          have a : i + 1 ≤ fb_ct R 36 := by
            apply h5
            rcases ab_first F 36 with ⟨j, hj, hf, _⟩ | hz
            · exact ⟨j, hj, hf⟩
            · exact absurd (hF.zero.mpr hz) z
          have u := fb_ct_upd R true hq
          have rq : R q = false := by
            simp only [Bool.and_eq_true, Bool.not_eq_true'] at e
            exact e.2
          rw [rq, if_neg (by decide), if_pos rfl, Nat.add_zero] at u
          have : fb_ct (fun k => if k = q then true else R k) 36 ≤ fb_ct (fun q => R q || ab_bs (fun q => F q && (cb q && ex q)) q && cb q && !R q) 36 := by
            refine fb_ct_sub (fun k hk f => ?_)
            by_cases ek : k = q
            · subst ek
              show (R k || (ab_bs (fun q => F q && (cb q && ex q)) k && cb k && !R k)) = true
              rw [e]; simp
            · rw [if_neg ek] at f
              rw [f]; simp
          have t : fb_ct (fun q => R q || ab_bs (fun q => F q && (cb q && ex q)) q && cb q && !R q) 36 = fb_ct (fun q => R q || (ab_bs (fun q => F q && (cb q && ex q)) q && cb q && !R q)) 36 := rfl
          omega)
    (fun n s hp => by
      obtain ⟨R, F, hR, hF, h1, h2, h3, h4, h5⟩ := hp
      refine ⟨(s.1, x), by rw [L_X7_flooded_51, if_pos (by decide)], rfl, hR.congr (fun q hq => ?_)⟩
      have hz : ∀ q, q < 36 → F q = false := by
        intro q hq
        cases hf : F q
        · rfl
        · have := h5 ⟨q, hq, hf⟩
          have := fb_ct_le R 36
          omega
      rw [Bool.eq_iff_iff, cd_iff]
      constructor
      · exact h2 q hq
      · rintro ⟨c, w⟩
        exact wk_ind (P := fun q _ => R q = true) h3 (fun p q c hp hq i n e b => h4 p q hp hq i (hz p hp) e n b) w)
    1000 0 (am_bit (nI h) &&& op, am_bit (nI h) &&& op) (by decide) (by decide)
    (by
      have st := (abr_bit hh).and ho
      refine ⟨_, _, st, st, fun q _ e => e, fun q hq e => ?_, fun e => ?_, fun p q _ _ e f _ _ _ => ?_, ?_⟩
      · rw [Bool.and_eq_true, decide_eq_true_eq] at e
        obtain ⟨rfl, e⟩ := e
        exact ⟨0, wk_st e⟩
      · rw [e]; simp
      · have := e.symm.trans f
        cases this
      · rintro ⟨q, hq, e⟩
        exact fb_ct_pos.mpr ⟨q, hq, e⟩)
  obtain ⟨⟨r, y⟩, hF, rfl, hr⟩ := H
  exact ⟨r, hF, hr⟩
theorem flood_ok {x : am_X} (hI : am_Iv x) {h v : Nat} (hh : h < 36) (eh : x.1 36 = nI h) {sh : Int64} {hs : Nat → Bool} (hsh : abr sh hs) : ∃ r, G_X7_flooded sh x = some (r, x) ∧ abr r (fun q => cd (∃ c, wk (gex (x.2.2.1 29)) (gcb (x.2.2.1 29) hs) (gfo (x.2.2.1 29) v) h q c)) := by
  unfold G_X7_flooded
  rw [eh]
  have ho : abr (am_open (x.2.2.2 2) &&& (sh ^^^ (-1))) (gcb (x.2.2.1 29) hs) := hI.g.opn.andn hsh
  exact fl_ok (now := x.2.2.1 29) hh ho (ho.andn hI.g.road)
