/-! what is read off the wave -/
def wv (x : am_X) (M : Nat → Nat → Prop) : Prop := ∃ N, 1 ≤ N ∧ N ≤ 141 ∧ x.1 577 = nI N ∧ (∀ c, c < N → abr (x.2.2.2 19 c) (fun q => cd (M q c))) ∧ ∀ q c, M q c → c < N
theorem spx_kp (x : am_X) (q : Int32) (sh : Int64) : am_kp x (am_spx x q sh) := (am_kp.sB (by decide)).trans (am_kp.uI (by decide))
theorem wave_ok {x : am_X} (hI : am_Iv x) {h v : Nat} (hh : h < 36) (hv : v ≤ 9) (ev : x.1 38 = nI v) {sh : Int64} {hs : Nat → Bool} (hsh : abr sh hs) : wv (am_spx x (nI h) sh) (mn (gex (x.2.2.1 29)) (gcb (x.2.2.1 29) hs) (gfo (x.2.2.1 29) v) h) := by
  have ho : abr (am_open (x.2.2.2 2) &&& (sh ^^^ (-1))) (gcb (x.2.2.1 29) hs) := hI.g.opn.andn hsh
  have st : abr (am_bit (nI h) &&& (am_open (x.2.2.2 2) &&& (sh ^^^ (-1)))) (fun q => cd (mn (gex (x.2.2.1 29)) (gcb (x.2.2.1 29) hs) (gfo (x.2.2.1 29) v) h q 0)) := by
    refine ((abr_bit hh).and ho).congr (fun q hq => ?_)
    rw [Bool.eq_iff_iff, cd_iff, Bool.and_eq_true, decide_eq_true_eq]
    constructor
    · rintro ⟨rfl, e⟩
      exact mn_0 e
    · intro m
      rcases mn_inv m with ⟨rfl, _, e⟩ | ⟨p, c0, _, _, _, _, _, _, s⟩
      · exact ⟨rfl, e⟩
      · have := gfo_14 (x.2.2.1 29) hv p
        omega
  obtain ⟨N, n1, n2, n3, n4, n5⟩ := spF_ok hI.g hv hh ho 140 1 (vp_updL (x.2.2.2 19) 0 (am_bit (nI h) &&& (am_open (x.2.2.2 2) &&& (sh ^^^ (-1))))) (am_bit (nI h) &&& (am_open (x.2.2.2 2) &&& (sh ^^^ (-1)))) 0 (by omega) (by omega) (by omega)
    (fun c hc => by
      have : c = 0 := by omega
      subst this
      exact st)
    (st.congr (fun q _ => by
      rw [Bool.eq_iff_iff, cd_iff, cd_iff]
      constructor
      · intro m; exact ⟨0, by omega, m⟩
      · rintro ⟨c, hc, m⟩
        have : c = 0 := by omega
        subst this
        exact m))
    (fun q c a b => by omega)
  have es : am_sun (x.1 38) = nI (1 + v / 3) := by rw [ev, sun_v hv]
  have E : am_spr x (nI h) sh = am_spF (am_spot (x.2.2.2 2) (am_open (x.2.2.2 2) &&& (sh ^^^ (-1)))) (am_sqo (x.2.2.2 2) 4) (am_sqo (x.2.2.2 2) 3) (am_open (x.2.2.2 2) &&& (sh ^^^ (-1))) (nI (1 + v / 3)) 140 1 (vp_updL (x.2.2.2 19) 0 (am_bit (nI h) &&& (am_open (x.2.2.2 2) &&& (sh ^^^ (-1))))) (nI 1) (am_bit (nI h) &&& (am_open (x.2.2.2 2) &&& (sh ^^^ (-1)))) (nI 0) := by
    unfold am_spr
    rw [es]
    rfl
  rw [← E] at n3 n4
  exact ⟨N, n1, n2, n3, n4, n5⟩
theorem wv_ind {x : am_X} {M : Nat → Nat → Prop} (hw : wv x M) {S : Int64} {p : Nat → Bool} (hS : abr S p) : (∃ c, c ≤ 140 ∧ G_X6_stepsTo_18 S x = some (nI c, x) ∧ (∃ q, q < 36 ∧ p q = true ∧ M q c) ∧ (∀ q c', q < 36 → p q = true → M q c' → c ≤ c') ∧ abr (am_lyr (x.2.2.2 19) (x.1 577) (nI c)) (fun q => cd (M q c))) ∨ (G_X6_stepsTo_18 S x = some (-9, x) ∧ ∀ q c, q < 36 → p q = true → ¬ M q c) := by
  obtain ⟨N, n1, n2, n3, n4, n5⟩ := hw
  have H := am_for (fun n i (_ : Unit) => L_X6_stepsTo_18_2 n S (nI i) x) N (fun i _ => ∀ q c, q < 36 → p q = true → c < i → ¬ M q c) (fun r => (∃ c, c ≤ 140 ∧ r = (nI c, x) ∧ (∃ q, q < 36 ∧ p q = true ∧ M q c) ∧ (∀ q c', q < 36 → p q = true → M q c' → c ≤ c') ∧ abr (am_lyr (x.2.2.2 19) (x.1 577) (nI c)) (fun q => cd (M q c))) ∨ (r = (-9, x) ∧ ∀ q c, q < 36 → p q = true → ¬ M q c))
    (fun n i s hi hp => by
      have h1 : ¬ x.1 577 ≤ nI i := by rw [n3]; exact nI_ge hi (by omega)
      have hl := n4 i hi
      by_cases z : x.2.2.2 19 i &&& S = 0
      · refine Or.inl ⟨(), fun q c hq hpq hc m => ?_, ?_⟩
        · by_cases e : c = i
          · subst e
            have := ((hl.and hS).zero.mp z) q hq
            rw [cd_iff.mpr m, hpq] at this
            cases this
          · exact hp q c hq hpq (by omega) m
        · rw [L_X6_stepsTo_18_2, if_neg h1, if_pos ((lg_cmp0 _).mpr (by rw [n3, lyr_at n2 hi]; exact z)), nI_1]
      · refine Or.inr ⟨_, by rw [L_X6_stepsTo_18_2, if_neg h1, if_neg (fun e => z (by have := (lg_cmp0 _).mp e; rw [n3, lyr_at n2 hi] at this; exact this))], Or.inl ⟨i, by omega, rfl, ?_, fun q c' hq hpq m => ?_, by rw [n3, lyr_at n2 hi]; exact hl⟩⟩
        · rcases ab_first (fun q => cd (M q i) && p q) 36 with ⟨q, hq, hm, _⟩ | hz
          · rw [Bool.and_eq_true, cd_iff] at hm
            exact ⟨q, hq, hm.2, hm.1⟩
          · exact absurd ((hl.and hS).zero.mpr hz) z
        · by_cases l : i ≤ c'
          · exact l
          · exact absurd m (hp q c' hq hpq (by omega)))
    (fun n s hp => ⟨_, by rw [L_X6_stepsTo_18_2, n3, if_pos (by rw [ii_le]; omega)], Or.inr ⟨rfl, fun q c hq hpq m => hp q c hq hpq (n5 q c m) m⟩⟩)
    142 0 () (by omega) (by omega) (fun q c _ _ h => by omega)
  obtain ⟨r, hF, hQ⟩ := H
  have hF' : G_X6_stepsTo_18 S x = some r := hF
  rcases hQ with ⟨c, h1, rfl, h2⟩ | ⟨rfl, h2⟩
  · exact Or.inl ⟨c, h1, hF', h2⟩
  · exact Or.inr ⟨hF', h2⟩
theorem wv_in {x : am_X} {M : Nat → Nat → Prop} (hw : wv x M) {t : Nat} (ht : t < 1000) : ∃ r, G_X6_within_18 (nI t) x = some (r, x) ∧ abr r (fun q => cd (∃ c, c ≤ t ∧ M q c)) := by
  obtain ⟨N, n1, n2, n3, n4, n5⟩ := hw
  have H := am_for (fun n i (r : Int64) => L_X6_within_18_5 n (nI t) r (nI i) x) N (fun i r => abr r (fun q => cd (∃ c, c < i ∧ c ≤ t ∧ M q c))) (fun r => r.2 = x ∧ abr r.1 (fun q => cd (∃ c, c ≤ t ∧ M q c)))
    (fun n i s hi hp => by
      have h1 : ¬ x.1 577 ≤ nI i := by rw [n3]; exact nI_ge hi (by omega)
      by_cases l : t < i
      · refine Or.inr ⟨(s, x), by rw [L_X6_within_18_5, if_pos (nI_lt l (by omega))], rfl, hp.congr (fun q _ => ?_)⟩
        rw [Bool.eq_iff_iff, cd_iff, cd_iff]
        constructor
        · rintro ⟨c, _, a, b⟩; exact ⟨c, a, b⟩
        · rintro ⟨c, a, b⟩; exact ⟨c, by omega, a, b⟩
      · refine Or.inl ⟨s ||| x.2.2.2 19 i, (hp.or (n4 i hi)).congr (fun q _ => ?_), ?_⟩
        · rw [Bool.eq_iff_iff, Bool.or_eq_true, cd_iff, cd_iff, cd_iff]
          constructor
          · rintro (⟨c, a, b, d⟩ | d)
            · exact ⟨c, by omega, b, d⟩
            · exact ⟨i, by omega, by omega, d⟩
          · rintro ⟨c, a, b, d⟩
            by_cases e : c = i
            · subst e; exact Or.inr d
            · exact Or.inl ⟨c, by omega, b, d⟩
        · rw [L_X6_within_18_5, if_neg (nI_nlt (by omega) (by omega)), if_neg h1, n3, lyr_at n2 hi, nI_1])
    (fun n s hp => by
      by_cases l : t < N
      · refine ⟨(s, x), by rw [L_X6_within_18_5, if_pos (nI_lt l (by omega))], rfl, hp.congr (fun q _ => ?_)⟩
        rw [Bool.eq_iff_iff, cd_iff, cd_iff]
        constructor
        · rintro ⟨c, _, a, b⟩; exact ⟨c, a, b⟩
        · rintro ⟨c, a, b⟩; exact ⟨c, by omega, a, b⟩
      · refine ⟨(s, x), by rw [L_X6_within_18_5, if_neg (nI_nlt (by omega) (by omega)), n3, if_pos (by rw [ii_le]; omega)], rfl, hp.congr (fun q _ => ?_)⟩
        rw [Bool.eq_iff_iff, cd_iff, cd_iff]
        constructor
        · rintro ⟨c, _, a, b⟩; exact ⟨c, a, b⟩
        · rintro ⟨c, a, b⟩; exact ⟨c, n5 q c b, a, b⟩)
    142 0 0 (by omega) (by omega) (abr_0.congr (fun q _ => by rw [cd_no]; rintro ⟨c, h, _⟩; omega))
  obtain ⟨⟨r, y⟩, hF, rfl, hr⟩ := H
  exact ⟨r, hF, hr⟩
