/-! SEARCH, look by look -/
def hsq (now : Nat → Int32) (p : Nat) (ei ki : Nat → Nat) (σ : HS) : Nat → HS
  | 0 => σ
  | i + 1 => stH now p (ei i) (ki i) (hsq now p ei ki σ i)
theorem hsq_t (now : Nat → Int32) (p : Nat) (ei ki : Nat → Nat) (σ : HS) : ∀ i, (hsq now p ei ki σ i).2.1 = σ.2.1 + i
  | 0 => rfl
  | i + 1 => by
    show (hsq now p ei ki σ i).2.1 + 1 = _
    rw [hsq_t now p ei ki σ i]; omega
def emH (σ : HS) : Bool := decide (fb_ct σ.1 36 = 0)
noncomputable def st0 (x : am_X) (v h t p : Nat) : HS := (mbs x v h (t / p), t, seatN x)
theorem kp_st0 {x y : am_X} (k : am_kp x y) (v h t p : Nat) : st0 y v h t p = st0 x v h t p := by
  have e1 : mbs y v h (t / p) = mbs x v h (t / p) := by funext q; unfold mbs; rw [kp_rc k]
  have e2 : seatN y = seatN x := by funext i; unfold seatN; rw [kp_now k]
  unfold st0
  rw [e1, e2]
theorem em_0 {x : am_X} (h0 : ∀ q, q < 36 → x.2.2.1 37 q = 0) {v h t p : Nat} (hh : h < 36) (e3 : ¬ x.2.2.1 29 (20 + h) = 1) : emH (st0 x v h t p) = false := by
  have g : gcb (x.2.2.1 29) (hsx x) h = true := by
    have e1 : nI 1 = (1 : Int32) := rfl
    simp [gcb, kd, hsx, e1, e3, h0 h hh]
  have : mbs x v h (t / p) h = true := cd_iff.mpr ⟨0, Nat.zero_le _, mn_0 g⟩
  have : 0 < fb_ct (mbs x v h (t / p)) 36 := fb_ct_pos.mpr ⟨h, hh, this⟩
  unfold emH st0
  rw [decide_eq_false_iff_not]
  show ¬ fb_ct (mbs x v h (t / p)) 36 = 0
  omega
/-- what holds in all hunts: the numbers of the garden -/
def base (x : am_X) (v h p s : Nat) : Prop := am_Iv x ∧ v ≤ 9 ∧ x.1 38 = nI v ∧ x.2.2.1 29 2 = nI v ∧ h < 36 ∧ x.1 36 = nI h ∧ x.2.2.1 29 0 = nI h ∧ ¬ x.2.2.1 29 (20 + h) = 1 ∧ 1 ≤ p ∧ p ≤ 9 ∧ x.1 37 = nI p ∧ x.2.2.1 29 1 = nI p ∧ seekp x s
theorem base_ex {x : am_X} (hI : am_Iv x) : ∃ v h p s, base x v h p s := by
  obtain ⟨h, hh, e1, e2, e3⟩ := hI.g.home
  obtain ⟨v, hv, v1, v2⟩ := hI.g.warm
  obtain ⟨p, p1, p9, q1, q2⟩ := hI.g.pace
  obtain ⟨s, hs⟩ := seek_n hI
  exact ⟨v, h, p, s, hI, hv, v1, v2, hh, e1, e2, e3, p1, p9, q1, q2, hs⟩
theorem base_kp {x y : am_X} {v h p s : Nat} (B : base x v h p s) (k : am_kp x y) : base y v h p s := by
  obtain ⟨hI, hv, v1, v2, hh, e1, e2, e3, p1, p9, q1, q2, hs⟩ := B
  have en := kp_now k
  refine ⟨hI.kp k, hv, (k.i 38 (by decide)).trans v1, by rw [en]; exact v2, hh, (k.i 36 (by decide)).trans e1, by rw [en]; exact e2, by rw [en]; exact e3, p1, p9, (k.i 37 (by decide)).trans q1, by rw [en]; exact q2, hs.1, (k.i 35 (by decide)).trans hs.2.1, by rw [en]; exact hs.2.2.1, fun i hi => ?_⟩
  unfold skkN seatN
  rw [en, k.a 3 (by decide), k.a 4 (by decide)]
  exact hs.2.2.2 i hi
section
variable {x : am_X} {v h p s : Nat}
/-- the class begins -/
theorem cb_ok (B : base x v h p s) {t : Nat} (ht : t < 1000) : ∃ r y, G_X7_reachedBy (nI t) x = some (r, y) ∧ am_kp x (am_bgx y r (nI t)) ∧ HC s (am_bgx y r (nI t)) (st0 x v h t p) := by
  obtain ⟨hI, hv, v1, v2, hh, e1, e2, e3, p1, p9, q1, q2, hs⟩ := B
  obtain ⟨r, hr, hR⟩ := rb_ok hI hv v1 hh e1 ht p1 p9 q1
  have k := spx_kp x (nI h) 0
  obtain ⟨b1, b2⟩ := bg_ok hs hR t k
  exact ⟨r, _, hr, k.trans b2, b1⟩
theorem set0 {y : am_X} {σ : HS} (h : HC s y σ) : y.2.1 641 = 0 ↔ emH σ = true := by
  unfold emH
  rw [h.1.zero, decide_eq_true_eq, fb_ct_zero]
theorem em_f {σ : HS} (h : ¬ emH σ = true) : emH σ = false := by
  cases e : emH σ
  · rfl
  · exact absurd e h
noncomputable def emS (x : am_X) (v h t p e k i : Nat) : Bool := emH (hsq (x.2.2.1 29) p (fun _ => e) (fun _ => k) (st0 x v h t p) i)
theorem tie_class (B : base x v h p s) {t k e : Nat} (ht : t < 1000) (hk : k < s) (he : e < 5) {x0 : am_X} (k0 : am_kp x x0) : ∃ y, am_kp x y ∧ G_X7_looksTillEmpty (nI k) (nI e) (nI t) x0 = some (ffF (emS x v h t p e k) 201 0, y) := by
  obtain ⟨r, y1, hr, k1, hC⟩ := cb_ok (base_kp B k0) ht
  rw [kp_st0 k0] at hC
  have H := am_for (fun n i (y : am_X) => L_X7_looksTillEmpty_20 n (nI k) (nI e) (nI i) y) 201
    (fun i y => am_kp x y ∧ HC s y (hsq (x.2.2.1 29) p (fun _ => e) (fun _ => k) (st0 x v h t p) i) ∧ ffF (emS x v h t p e k) 201 0 = ffF (emS x v h t p e k) (201 - i) i)
    (fun r => ∃ y, am_kp x y ∧ r = (ffF (emS x v h t p e k) 201 0, y))
    (fun n i y hi hp => by
      obtain ⟨ky, hc, hf⟩ := hp
      have h1 : ¬ (200 : Int32) < nI i := nI_nlt (a := 200) (by omega) (by decide)
      have mk : 201 - i = (201 - (i + 1)) + 1 := by omega
      by_cases z : emH (hsq (x.2.2.1 29) p (fun _ => e) (fun _ => k) (st0 x v h t p) i) = true
      · refine Or.inr ⟨(nI i, y), by rw [L_X7_looksTillEmpty_20, if_neg h1, if_pos ((lg_cmp0 _).mpr ((set0 hc).mpr z))], y, ky, ?_⟩
        rw [hf, mk, ffF, show emS x v h t p e k i = true from z, if_pos rfl]
      · obtain ⟨hI, hv, v1, v2, hh, e1, e2, e3, p1, p9, q1, q2, hs⟩ := base_kp B ky
        have tb := hsq_t (x.2.2.1 29) p (fun _ => e) (fun _ => k) (st0 x v h t p) i
        obtain ⟨c1, c2⟩ := sk_ok hI p1 p9 q1 hc (by rw [tb]; show t + i < 1250; omega) hs.1 hk he
        rw [kp_now ky] at c1
        refine Or.inl ⟨am_skx y (nI k) (nI e), ⟨ky.trans c2, c1, ?_⟩, by rw [L_X7_looksTillEmpty_20, if_neg h1, if_neg (fun c => z ((set0 hc).mp ((lg_cmp0 _).mp c))), nI_1]⟩
        rw [hf, mk, ffF, show emS x v h t p e k i = false from em_f z, if_neg (by decide)])
    (fun n y hp => by
      obtain ⟨ky, hc, hf⟩ := hp
      exact ⟨(-9, y), by rw [L_X7_looksTillEmpty_20, if_pos (by decide)], y, ky, by rw [hf]; rfl⟩)
    1000 0 (am_bgx y1 r (nI t)) (by decide) (by decide) ⟨k0.trans k1, hC, rfl⟩
  obtain ⟨r', hF, y, ky, rfl⟩ := H
  refine ⟨y, ky, ?_⟩
  unfold G_X7_looksTillEmpty
  rw [hr]
  exact hF
/-- one look by the reference -/
theorem rs_ok {z : am_X} {σ : HS} (B : base z v h p s) (hr : HR s z σ) (ht : σ.2.1 < 1250) {k e : Nat} (hk : k < s) (he : e < 5) : ∃ z1 z2, G_X8_looks (nI e) (nI k) z = some (piH (z.2.2.1 29) e k σ, z1) ∧ G_X8_passes (piH (z.2.2.1 29) e k σ) z1 = some ((), z2) ∧ am_kp z z2 ∧ HR s z2 (stH (z.2.2.1 29) p e k σ) := by
  obtain ⟨hI, hv, v1, v2, hh, e1, e2, e3, p1, p9, q1, q2, hs⟩ := B
  obtain ⟨z1, k1, h1, r1⟩ := looks_ok hr hs.1 hk he
  have ho : piH (z.2.2.1 29) e k σ = -9 ∨ ∃ a, a < 36 ∧ piH (z.2.2.1 29) e k σ = nI a := by
    rcases pi_c (z.2.2.1 29) e k σ with ⟨q, hq, _, eq⟩ | ⟨_, eq⟩
    · exact Or.inr ⟨q, hq, eq⟩
    · exact Or.inl eq
  obtain ⟨z2, k2, h2, r2⟩ := ps_ok r1 (fun q hq => by rw [kp_hel k1]; exact hI.hel q hq) p1 p9 (by rw [kp_now k1]; exact q2) ht ho
  rw [kp_now k1] at r2
  exact ⟨z1, z2, h1, h2, k1.trans k2, r2⟩
theorem ins_ok {z : am_X} {σ : HS} (hr : HR s z σ) : G_X8_inSet z = some (nI (fb_ct σ.1 36), z) := inset_ok z (fun q hq => by
  rw [hr.1 q hq]
  cases σ.1 q
  · simp [b01]
  · simp [b01])
theorem ct0 {σ : HS} : nI (fb_ct σ.1 36) = 0 ↔ emH σ = true := by
  have := fb_ct_le σ.1 36
  unfold emH
  rw [decide_eq_true_eq]
  exact nI_eq (b := 0) (by omega) (by decide)
/-- the reference begins -/
theorem rb8_ok (B : base x v h p s) {t : Nat} (ht : t < 1000) : ∃ z, am_kp x z ∧ G_X8_begin (nI t) x = some ((), z) ∧ HR s z (st0 x v h t p) := by
  obtain ⟨hI, hv, v1, v2, hh, e1, e2, e3, p1, p9, q1, q2, hs⟩ := B
  exact bgr_ok hs hv v2 hh e2 e3 ht p1 p9 q2
theorem sb_ref (B : base x v h p s) {t k e : Nat} (ht : t < 1000) (hk : k < s) (he : e < 5) {x0 : am_X} (k0 : am_kp x x0) : ∃ y, am_kp x y ∧ G_X8_searchBy (nI e) (nI k) (nI t) x0 = some (ffF (emS x v h t p e k) 201 0, y) := by
  have e00 : emS x v h t p e k 0 = false := em_0 B.1.hel B.2.2.2.2.1 B.2.2.2.2.2.2.2.1
  have e1 : ffF (emS x v h t p e k) 201 0 = ffF (emS x v h t p e k) 200 1 := by
    show (if emS x v h t p e k 0 = true then nI 0 else ffF (emS x v h t p e k) 200 1) = _
    rw [e00, if_neg (by decide)]
  rw [e1]
  obtain ⟨z0, kz, hb, hR⟩ := rb8_ok (base_kp B k0) ht
  rw [kp_st0 k0] at hR
  have H := am_for (fun n i (y : am_X) => L_X8_searchBy_8 n (nI e) (nI k) (nI (i + 1)) y) 200
    (fun i y => am_kp x y ∧ HR s y (hsq (x.2.2.1 29) p (fun _ => e) (fun _ => k) (st0 x v h t p) i) ∧ ffF (emS x v h t p e k) 200 1 = ffF (emS x v h t p e k) (200 - i) (i + 1))
    (fun r => ∃ y, am_kp x y ∧ r = (ffF (emS x v h t p e k) 200 1, y))
    (fun n i y hi hp => by
      obtain ⟨ky, hc, hf⟩ := hp
      have h1 : ¬ (200 : Int32) < nI (i + 1) := nI_nlt (a := 200) (by omega) (by decide)
      have mk : 200 - i = (200 - (i + 1)) + 1 := by omega
      have tb := hsq_t (x.2.2.1 29) p (fun _ => e) (fun _ => k) (st0 x v h t p) i
      obtain ⟨z1, z2, a1, a2, k2, r2⟩ := rs_ok (base_kp B ky) hc (by rw [tb]; show t + i < 1250; omega) hk he
      have r2' : HR s z2 (hsq (x.2.2.1 29) p (fun _ => e) (fun _ => k) (st0 x v h t p) (i + 1)) := by rw [kp_now ky] at r2; exact r2
      have E : L_X8_searchBy_8 (n + 1) (nI e) (nI k) (nI (i + 1)) y = if nI (fb_ct (hsq (x.2.2.1 29) p (fun _ => e) (fun _ => k) (st0 x v h t p) (i + 1)).1 36) = 0 then some (nI (i + 1), z2) else L_X8_searchBy_8 n (nI e) (nI k) (nI (i + 1 + 1)) z2 := by
        rw [L_X8_searchBy_8, if_neg h1, a1]; dsimp only
        rw [a2]; dsimp only
        rw [ins_ok r2']; dsimp only
        rw [nI_1]
      by_cases z : emH (hsq (x.2.2.1 29) p (fun _ => e) (fun _ => k) (st0 x v h t p) (i + 1)) = true
      · refine Or.inr ⟨(nI (i + 1), z2), by rw [E, if_pos (ct0.mpr z)], z2, ky.trans k2, ?_⟩
        rw [hf, mk, ffF, show emS x v h t p e k (i + 1) = true from z, if_pos rfl]
      · refine Or.inl ⟨z2, ⟨ky.trans k2, r2', ?_⟩, by rw [E, if_neg (fun c => z (ct0.mp c))]⟩
        rw [hf, mk, ffF, show emS x v h t p e k (i + 1) = false from em_f z, if_neg (by decide)])
    (fun n y hp => by
      obtain ⟨ky, hc, hf⟩ := hp
      exact ⟨(-9, y), by rw [L_X8_searchBy_8, if_pos (by decide)], y, ky, by rw [hf]; rfl⟩)
    1000 0 z0 (by decide) (by decide) ⟨k0.trans kz, hR, rfl⟩
  obtain ⟨r', hF, y, ky, rfl⟩ := H
  refine ⟨y, ky, ?_⟩
  unfold G_X8_searchBy
  rw [hb]
  exact hF
theorem sk_ix0 {i : Nat} (hi : i < 3) : (10 : Int32) + ((2 : Int32) * nI i) = nI (10 + 2 * i) := by
  have : ∀ i, i < 3 → (10 : Int32) + ((2 : Int32) * nI i) = nI (10 + 2 * i) := by decide +kernel
  exact this i hi
theorem kos_ok (B : base x v h p s) {k : Nat} (hk : k < s) {y : am_X} (ky : am_kp x y) : G_X8_kindOfSeeker (nI k) y = some (nI (skkN x k), y) := by
  have hs : seekp x s := B.2.2.2.2.2.2.2.2.2.2.2.2
  have s3 := hs.1
  have ix : 0 ≤ (nI (10 + 2 * k)).toInt ∧ (nI (10 + 2 * k)).toInt < 56 := nIr (b := 56) (by omega) (by decide)
  unfold G_X8_kindOfSeeker
  rw [sk_ix0 (by omega), if_pos ix, nI_clamp (by omega), kp_now ky, (hs.2.2.2 k hk).1.2.2]
theorem B_s (B : base x v h p s) : seekp x s := B.2.2.2.2.2.2.2.2.2.2.2.2
theorem ifs_k (B : base x v h p s) {k : Nat} (hk : k < s) {y : am_X} (ky : am_kp x y) : am_ifs (y.1 35) (y.2.2.1 3) (nI k) 0 = nI (skkN x k) := by
  have hs := B_s B
  rw [ky.i 35 (by decide), ky.a 3 (by decide), hs.2.1, ifs_at hs.1 hk, (hs.2.2.2 k hk).1.2.1]
end
theorem ok_search (a b : Int32) : am_ok (G_X7_search a b) (G_X8_search a b) := by
  intro x hI
  obtain ⟨v, h, p, s, B⟩ := base_ex hI
  have hs := B_s B
  have neg : ∀ j, j < 7 → ¬ j = 0 → ¬ (0 : Int32) ≤ -(nI j) := by decide +kernel
  unfold G_X7_search G_X8_search G_X7_wrongSearch
  rw [hs.2.1]
  by_cases c1' : am_hs (nI s) a
  case neg =>
    refine ⟨-1, am_r7 1 x, am_r8 1 (am_r7 1 x), ?_, ?_, r78 (j := 1) hI⟩
    · rw [if_neg c1']; dsimp only
      rw [if_neg (by decide), c1]
    · rw [nsk hs.1 a (am_r7 1 x) hs.2.2.1, if_neg c1']; dsimp only
      rw [if_neg (by decide), n1]
  obtain ⟨k, hk, rfl⟩ := (hs_iff hs.1 a).mp c1'
  by_cases b0 : b < 0
  · refine ⟨-4, am_r7 4 x, am_r8 4 (am_r7 4 x), ?_, ?_, r78 (j := 4) hI⟩
    · rw [if_pos c1', if_pos b0]; dsimp only
      rw [if_neg (by decide), c4]
    · have b0' : ¬ (0 : Int32) ≤ b := by rw [ii_le]; rw [ii_lt] at b0; omega
      rw [nsk hs.1 _ (am_r7 4 x) hs.2.2.1, if_pos c1']; dsimp only
      rw [if_pos rfl, if_neg b0', n4]
  have b0' : (0 : Int32) ≤ b := by rw [ii_le]; rw [ii_lt] at b0; omega
  by_cases b9 : b ≤ 999
  case neg =>
    have b9' : (999 : Int32) < b := by rw [ii_lt]; rw [ii_le] at b9; omega
    refine ⟨-6, am_r7 6 x, am_r8 6 (am_r7 6 x), ?_, ?_, r78 (j := 6) hI⟩
    · rw [if_pos c1', if_neg b0, if_pos (by decide), if_pos b9']; dsimp only
      rw [if_neg (by decide), c6]
    · rw [nsk hs.1 _ (am_r7 6 x) hs.2.2.1, if_pos c1']; dsimp only
      rw [if_pos rfl, if_pos b0', if_neg b9, n6]
  have b9' : ¬ (999 : Int32) < b := by rw [ii_lt]; rw [ii_le] at b9; omega
  obtain ⟨t, ht, rfl⟩ := nI_of2 (n := 999) (by decide) b0 b9
  have he := (hs.2.2.2 k hk).1.1
  obtain ⟨y, ky, hy⟩ := tie_class B (t := t) (by omega) hk he (am_kp.rfl (x := x))
  obtain ⟨z, kz, hz⟩ := sb_ref B (t := t) (by omega) hk he ky
  refine ⟨ffF (emS x v h t p (skkN x k) k) 201 0, y, z, ?_, ?_, hI.kp kz⟩
  · rw [if_pos c1', if_neg b0, if_pos (by decide), if_neg b9', if_pos (by decide)]; dsimp only
    rw [if_pos (by decide), ifs_k B hk am_kp.rfl, hy]
  · rw [nsk hs.1 _ y (by rw [kp_now ky]; exact hs.2.2.1), if_pos c1']; dsimp only
    rw [if_pos rfl, if_pos b0', if_pos b9, kos_ok B hk ky]; dsimp only
    rw [hz]
