/-! the class' wave: layers of least costs -/
def gex (now : Nat → Int32) (q : Nat) : Bool := !kd now q 5
def gcb (now : Nat → Int32) (hs : Nat → Bool) (q : Nat) : Bool := !kd now q 1 && !hs q
def gfo (now : Nat → Int32) (v q : Nat) : Nat := if kd now q 3 = true then 1 + v / 3 else if kd now q 4 = true then 2 else 1
theorem gfo_14 (now : Nat → Int32) {v : Nat} (hv : v ≤ 9) (q : Nat) : 1 ≤ gfo now v q ∧ gfo now v q ≤ 4 := by
  unfold gfo
  split
  · omega
  · split <;> omega
theorem lyr_at {f : Nat → Int64} {N c : Nat} (hN : N ≤ 141) (hc : c < N) : am_lyr f (nI N) (nI c) = f c := by
  unfold am_lyr
  have h1 : (nI c).toInt = c := nI_toInt (by omega)
  have h2 : (nI N).toInt = N := nI_toInt (by omega)
  rw [if_pos (by rw [h1, h2]; omega), nI_clamp (by omega)]
theorem nI_subt {i k : Nat} (hi : i < 1000) (hk : k < 1000) : (nI i - nI k).toInt = (i : Int) - k := by
  have h1 : (nI i).toInt = i := nI_toInt (by omega)
  have h2 : (nI k).toInt = k := nI_toInt (by omega)
  rw [fb_subI (by rw [h1, h2]; omega) (by rw [h1, h2]; omega), h1, h2]
theorem nI_sub' {i k : Nat} (h : k ≤ i) (hi : i < 1000) : nI i - nI k = nI (i - k) := by
  apply Int32.toInt_inj.mp
  rw [nI_subt hi (by omega), nI_toInt (by omega)]
  omega
theorem lyr_sub {f : Nat → Int64} {i k : Nat} {M : Nat → Nat → Prop} (hi : i ≤ 141) (hk : k ≤ 4) (hk1 : 1 ≤ k) (hf : ∀ c, c < i → abr (f c) (fun q => cd (M q c))) : abr (am_lyr f (nI i) (nI i - nI k)) (fun q => cd (∃ c, c + k = i ∧ M q c)) := by
  by_cases h : k ≤ i
  · rw [nI_sub' h (by omega), lyr_at hi (by omega)]
    refine (hf (i - k) (by omega)).congr (fun q _ => ?_)
    rw [Bool.eq_iff_iff, cd_iff, cd_iff]
    constructor
    · intro m
      exact ⟨i - k, by omega, m⟩
    · rintro ⟨c, e, m⟩
      have : c = i - k := by omega
      rw [← this]
      exact m
  · unfold am_lyr
    rw [if_neg]
    · refine abr_0.congr (fun q _ => ?_)
      rw [cd_no]
      rintro ⟨c, e, _⟩
      omega
    · rw [nI_subt (by omega) (by omega)]
      omega
section
variable {sk hm pc wm : Int32} {w : Nat → Int64} {sK sS now : Nat → Int32} {hs : Nat → Bool} {v h : Nat}
theorem sun_v {v : Nat} (h : v ≤ 9) : am_sun (nI v) = nI (1 + v / 3) := by
  have : ∀ v, v ≤ 9 → am_sun (nI v) = nI (1 + v / 3) := by decide +kernel
  exact this v h
theorem spr_fr (g : am_gd sk hm pc wm w sK sS now) (hv : v ≤ 9) (hh : h < 36) {op : Int64} (ho : abr op (gcb now hs)) {i : Nat} (h1 : 1 ≤ i) (h2 : i ≤ 141) {f : Nat → Int64} (hf : ∀ c, c < i → abr (f c) (fun q => cd (mn (gex now) (gcb now hs) (gfo now v) h q c))) {r : Int64} (hr : abr r (fun q => cd (∃ c, c < i ∧ mn (gex now) (gcb now hs) (gfo now v) h q c))) :
    abr (am_frs (am_spot w op) (am_sqo w 4) (am_sqo w 3) op (nI (1 + v / 3)) f (nI i) i r) (fun q => cd (mn (gex now) (gcb now hs) (gfo now v) h q i)) := by
  unfold am_frs am_spot
  rw [sqo3, sqo4, sqo5]
  have k3 := g.wrd 3 (by decide)
  have k4 := g.wrd 4 (by decide)
  have k5 := g.wrd 5 (by decide)
  have l1 := lyr_sub (k := 1) h2 (by decide) (by decide) hf
  have l2 := lyr_sub (k := 2) h2 (by decide) (by decide) hf
  have l3 := lyr_sub (k := 1 + v / 3) h2 (by omega) (by omega) hf
  have A := ((l1.and (ho.andn ((k3.or k4).or k5))).or (l2.and k4)).or (l3.and k3)
  refine (((abr_bes A).and ho).andn hr).congr (fun q hq => ?_)
  rw [Bool.eq_iff_iff, cd_iff]
  simp only [Bool.and_eq_true, Bool.not_eq_true', ab_bs_iff]
  have key : ∀ p, p < 36 → (((cd (∃ c, c + 1 = i ∧ mn (gex now) (gcb now hs) (gfo now v) h p c) && (gcb now hs p && !(decide (now (20 + p) = nI 3) || decide (now (20 + p) = nI 4) || decide (now (20 + p) = nI 5))) || cd (∃ c, c + 2 = i ∧ mn (gex now) (gcb now hs) (gfo now v) h p c) && decide (now (20 + p) = nI 4) || cd (∃ c, c + (1 + v / 3) = i ∧ mn (gex now) (gcb now hs) (gfo now v) h p c) && decide (now (20 + p) = nI 3)) = true) ↔ ∃ c, mn (gex now) (gcb now hs) (gfo now v) h p c ∧ gex now p = true ∧ c + gfo now v p = i) := by
    intro p hp
    obtain ⟨k, hk, e, hj⟩ := kd_6 g hp
    have j3 := hj 3 (by decide)
    have j4 := hj 4 (by decide)
    have j5 := hj 5 (by decide)
    unfold kd at j3 j4 j5
    rw [j3, j4, j5]
    have x5 : gex now p = !decide (k = 5) := by unfold gex kd; rw [j5]
    have o3 : gfo now v p = if k = 3 then 1 + v / 3 else if k = 4 then 2 else 1 := by
      unfold gfo kd
      rw [j3, j4]
      simp only [decide_eq_true_eq]
    rw [x5, o3]
    simp only [Bool.or_eq_true, Bool.and_eq_true, Bool.not_eq_true', Bool.or_eq_false_iff, decide_eq_true_eq, decide_eq_false_iff_not, cd_iff]
    constructor
    · rintro ((⟨⟨c, e1, m⟩, e2, ⟨n3, n4⟩, n5⟩ | ⟨⟨c, e1, m⟩, n4⟩) | ⟨⟨c, e1, m⟩, n3⟩)
      · exact ⟨c, m, n5, by rw [if_neg n3, if_neg n4]; exact e1⟩
      · exact ⟨c, m, by omega, by rw [if_neg (by omega), if_pos n4]; exact e1⟩
      · exact ⟨c, m, by omega, by rw [if_pos n3]; exact e1⟩
    · rintro ⟨c, m, n5, e1⟩
      by_cases n3 : k = 3
      · rw [if_pos n3] at e1
        exact Or.inr ⟨⟨c, e1, m⟩, n3⟩
      · rw [if_neg n3] at e1
        by_cases n4 : k = 4
        · rw [if_pos n4] at e1
          exact Or.inl (Or.inr ⟨⟨c, e1, m⟩, n4⟩)
        · rw [if_neg n4] at e1
          exact Or.inl (Or.inl ⟨⟨c, e1, m⟩, wk_cb m.1, ⟨n3, n4⟩, n5⟩)
  constructor
  · rintro ⟨⟨⟨p, hp, hn, ha⟩, hc⟩, hnr⟩
    obtain ⟨c, m, e, s⟩ := (key p hp).mp ha
    have wq := wk_go m.1 hp hq (by rw [ab_nb_sym]; exact hn) e hc
    rw [s] at wq
    obtain ⟨c', l, m'⟩ := wk_mn wq
    by_cases e' : c' = i
    · rw [← e']; exact m'
    · have : cd (∃ c, c < i ∧ mn (gex now) (gcb now hs) (gfo now v) h q c) = true := cd_iff.mpr ⟨c', by omega, m'⟩
      rw [this] at hnr
      cases hnr
  · intro m
    rcases mn_inv m with ⟨_, e, _⟩ | ⟨p, c0, hp, _, m', hn, e, hc, s⟩
    · omega
    · refine ⟨⟨⟨p, hp, by rw [ab_nb_sym]; exact hn, (key p hp).mpr ⟨c0, m', e, s.symm⟩⟩, hc⟩, cd_no ?_⟩
      rintro ⟨c, l, m''⟩
      have := mn_uniq m m''
      omega
theorem spF_ok (g : am_gd sk hm pc wm w sK sS now) (hv : v ≤ 9) (hh : h < 36) {op : Int64} (ho : abr op (gcb now hs)) : ∀ (m i : Nat) (f : Nat → Int64) (r : Int64) (l : Nat), i + m = 141 → 1 ≤ i → l < i → (∀ c, c < i → abr (f c) (fun q => cd (mn (gex now) (gcb now hs) (gfo now v) h q c))) → abr r (fun q => cd (∃ c, c < i ∧ mn (gex now) (gcb now hs) (gfo now v) h q c)) → (∀ q c, l < c → c < i → ¬ mn (gex now) (gcb now hs) (gfo now v) h q c) →
    ∃ N, 1 ≤ N ∧ N ≤ 141 ∧ (am_spF (am_spot w op) (am_sqo w 4) (am_sqo w 3) op (nI (1 + v / 3)) m i f (nI i) r (nI l)).2 = nI N ∧ (∀ c, c < N → abr ((am_spF (am_spot w op) (am_sqo w 4) (am_sqo w 3) op (nI (1 + v / 3)) m i f (nI i) r (nI l)).1 c) (fun q => cd (mn (gex now) (gcb now hs) (gfo now v) h q c))) ∧ ∀ q c, mn (gex now) (gcb now hs) (gfo now v) h q c → c < N := by
  intro m
  induction m with
  | zero =>
    intro i f r l hi h1 hl hf hr hg
    have : i = 141 := by omega
    subst this
    refine ⟨141, h1, Nat.le_refl _, rfl, hf, fun q c m => ?_⟩
    have := mn_140 hh (gfo_14 now hv) m
    omega
  | succ m ih =>
    intro i f r l hi h1 hl hf hr hg
    rw [am_spF]
    by_cases e : (4 : Int32) < nI i - nI l
    · rw [if_pos e]
      rw [ii_lt, nI_subt (by omega) (by omega)] at e
      have t4 : (4 : Int32).toInt = 4 := by decide
      rw [t4] at e
      refine ⟨i, h1, by omega, rfl, hf, fun q c m => ?_⟩
      have : ∀ c q, mn (gex now) (gcb now hs) (gfo now v) h q c → c ≤ l := by
        intro c
        induction c using Nat.strongRecOn with
        | ind c ih2 =>
          intro q m
          by_cases lc : c < i
          · by_cases ll : l < c
            · exact absurd m (hg q c ll lc)
            · omega
          · rcases mn_inv m with ⟨_, e0, _⟩ | ⟨p, c0, hp, _, m', hn, ex', hc, s⟩
            · omega
            · have b := gfo_14 now hv p
              have := ih2 c0 (by omega) p m'
              exact absurd (by omega : c < i) lc
      have := this c q m
      omega
    · rw [if_neg e]
      have F := spr_fr g hv hh ho h1 (by omega) hf hr
      generalize hfr : am_frs (am_spot w op) (am_sqo w 4) (am_sqo w 3) op (nI (1 + v / 3)) f (nI i) i r = fr at F ⊢
      have hf' : ∀ c, c < i + 1 → abr (vp_updL f i fr c) (fun q => cd (mn (gex now) (gcb now hs) (gfo now v) h q c)) := by
        intro c hc
        by_cases ec : c = i
        · subst ec
          have : vp_updL f c fr c = fr := if_pos rfl
          rw [this]; exact F
        · have : vp_updL f i fr c = f c := if_neg ec
          rw [this]; exact hf c (by omega)
      have hr' : abr (r ||| fr) (fun q => cd (∃ c, c < i + 1 ∧ mn (gex now) (gcb now hs) (gfo now v) h q c)) := by
        refine (hr.or F).congr (fun q _ => ?_)
        rw [Bool.eq_iff_iff, Bool.or_eq_true, cd_iff, cd_iff, cd_iff]
        constructor
        · rintro (⟨c, a, b⟩ | b)
          · exact ⟨c, by omega, b⟩
          · exact ⟨i, by omega, b⟩
        · rintro ⟨c, a, b⟩
          by_cases ec : c = i
          · subst ec; exact Or.inr b
          · exact Or.inl ⟨c, by omega, b⟩
      rw [nI_1]
      by_cases z : fr = 0
      · rw [if_pos z]
        refine ih (i + 1) _ _ l (by omega) (by omega) (by omega) hf' hr' (fun q c a b m => ?_)
        by_cases ec : c = i
        · subst ec
          have := (F.zero.mp z) q (wk_lt hh m.1)
          rw [cd_iff.mpr m] at this
          cases this
        · exact hg q c a (by omega) m
      · rw [if_neg z]
        exact ih (i + 1) _ _ i (by omega) (by omega) (by omega) hf' hr' (fun q c a b => by omega)
end
