/-! SHUT -/
def gp (x : am_X) (q : Nat) : Bool := kd (x.2.2.1 29) q 2
def shs (x : am_X) (b q : Nat) : Bool := gp x q && b.testBit (fb_ct (gp x) q)
theorem sh_bit {b i : Nat} (hb : b < 1024) (hi : i < 10) : ((nI b >>> (nI i &&& 31)) &&& 1 = 0 ↔ b.testBit i = false) ∧ ((nI b >>> (nI i &&& 31)) &&& 1 = 1 ↔ b.testBit i = true) := by
  have : ∀ i, i < 10 → ∀ b, b < 1024 → (((nI b >>> (nI i &&& 31)) &&& 1 = 0 ↔ b.testBit i = false) ∧ ((nI b >>> (nI i &&& 31)) &&& 1 = 1 ↔ b.testBit i = true)) := by decide +kernel
  exact this i hi b hb
def pcN (b : Nat) : Nat := fb_ct (fun k => b.testBit k) 10
theorem ib_n {b : Nat} (hb : b < 1024) : am_ib (nI b) = nI (pcN b) := by
  have : ∀ b, b < 1024 → am_ib (nI b) = nI (pcN b) := by decide +kernel
  exact this b hb
theorem pc_10 (b : Nat) : pcN b ≤ 10 := fb_ct_le _ 10
theorem low_kth (p : Nat → Bool) (i q : Nat) : ((p q && decide (i ≤ fb_ct p q)) && !ab_any (fun r => p r && decide (i ≤ fb_ct p r)) q) = (p q && decide (fb_ct p q = i)) := by
  rw [Bool.eq_iff_iff]
  simp only [Bool.and_eq_true, Bool.not_eq_true', decide_eq_true_eq]
  constructor
  · rintro ⟨⟨a, b⟩, c⟩
    refine ⟨a, ?_⟩
    by_cases e : fb_ct p q = i
    · exact e
    · obtain ⟨r, hr, pr, er⟩ := fb_ct_kth (k := i) (n := q) (by omega : i < fb_ct p q)
      have : ab_any (fun r => p r && decide (i ≤ fb_ct p r)) q = true := ab_any_iff.mpr ⟨r, hr, by simp [pr, er]⟩
      rw [this] at c; cases c
  · rintro ⟨a, b⟩
    refine ⟨⟨a, by omega⟩, ?_⟩
    cases e : ab_any (fun r => p r && decide (i ≤ fb_ct p r)) q
    · rfl
    · obtain ⟨r, hr, pr⟩ := ab_any_iff.mp e
      simp only [Bool.and_eq_true, decide_eq_true_eq] at pr
      have m := fb_ct_mono p (show r + 1 ≤ q by omega)
      rw [fb_ct_succ, pr.1] at m
      simp at m
      omega
theorem gob_ok (x : am_X) {w : Int64} (hw : abr w (gp x)) {b : Nat} (hb : b < 1024) : ∃ r, G_X7_gapsOfBits w (nI b) x = some (r, x) ∧ abr r (shs x b) := by
  have H := am_for (fun n i (s : Int64 × Int64) => L_X7_gapsOfBits_8 n (nI b) s.1 s.2 (nI i) x) 10
    (fun i s => abr s.1 (fun q => gp x q && decide (fb_ct (gp x) q < i) && b.testBit (fb_ct (gp x) q)) ∧ abr s.2 (fun q => gp x q && decide (i ≤ fb_ct (gp x) q)))
    (fun r => ∃ w, r = (w, x) ∧ abr w (shs x b))
    (fun n i s hi hp => Or.inl (by
      have h1 : ¬ (10 : Int32) ≤ nI i := nI_ge (b := 10) hi (by decide)
      obtain ⟨hc, hr⟩ := hp
      have hl : abr (s.2 &&& (-s.2)) (fun q => gp x q && decide (fb_ct (gp x) q = i)) := hr.low.congr (fun q _ => low_kth (gp x) i q)
      have hx : abr (s.2 ^^^ (s.2 &&& (-s.2))) (fun q => gp x q && decide (i + 1 ≤ fb_ct (gp x) q)) := by
        refine (hr.xor hl).congr (fun q _ => ?_)
        cases gp x q
        · rfl
        · by_cases a : fb_ct (gp x) q = i
          · simp [a]
          · by_cases c : i ≤ fb_ct (gp x) q
            · have : i + 1 ≤ fb_ct (gp x) q := by omega
              simp [a, c, this]
            · have : ¬ i + 1 ≤ fb_ct (gp x) q := by omega
              simp [a, c, this]
      cases t : b.testBit i
      · refine ⟨(s.1, s.2 ^^^ (s.2 &&& (-s.2))), ⟨hc.congr (fun q _ => ?_), hx⟩, ?_⟩
        · cases gp x q
          · rfl
          · by_cases a : fb_ct (gp x) q = i
            · rw [a]; simp [t]
            · have : (fb_ct (gp x) q < i) = (fb_ct (gp x) q < i + 1) := by apply propext; omega
              simp only [this]
        · rw [L_X7_gapsOfBits_8, if_neg h1, if_pos ((sh_bit hb hi).1.mpr t), nI_1]
      · refine ⟨(s.1 ||| (s.2 &&& (-s.2)), s.2 ^^^ (s.2 &&& (-s.2))), ⟨(hc.or hl).congr (fun q _ => ?_), hx⟩, ?_⟩
        · cases gp x q
          · rfl
          · by_cases a : fb_ct (gp x) q = i
            · rw [a]; simp [t]
            · have : (fb_ct (gp x) q < i) = (fb_ct (gp x) q < i + 1) := by apply propext; omega
              simp [this, a]
        · rw [L_X7_gapsOfBits_8, if_neg h1, if_neg (fun c => by rw [(sh_bit hb hi).1.mp c] at t; cases t), nI_1]))
    (fun n s hp => ⟨_, by rw [L_X7_gapsOfBits_8, if_pos (by decide)], s.1, rfl, hp.1.congr (fun q _ => by
      unfold shs
      by_cases a : fb_ct (gp x) q < 10
      · simp [a]
      · have : b.testBit (fb_ct (gp x) q) = false := Nat.testBit_lt_two_pow (Nat.lt_of_lt_of_le hb (Nat.pow_le_pow_right (n := 2) (by decide) (by omega : 10 ≤ fb_ct (gp x) q)))
        simp [this])⟩)
    11 0 (0, w) (by decide) (by decide) ⟨abr_0.congr (fun q _ => by simp), hw.congr (fun q _ => by simp)⟩
  obtain ⟨r, hF, w', rfl, hw'⟩ := H
  exact ⟨w', hF, hw'⟩
/-- she can be on a road while hs are held -/
noncomputable def gso (x : am_X) (hs : Nat → Bool) (v h : Nat) : Bool := cd (∃ q c, q < 36 ∧ rd5 x q = true ∧ rh x hs v h q c)
theorem fl_gs {x : am_X} (hI : am_Iv x) {h v : Nat} (hh : h < 36) (eh : x.1 36 = nI h) {sh : Int64} {hs : Nat → Bool} (hsh : abr sh hs) : ∃ r, G_X7_flooded sh x = some (r, x) ∧ abr r (fun q => cd (∃ c, rh x hs v h q c)) ∧ (r &&& am_sqo (x.2.2.2 2) 5 = 0 ↔ gso x hs v h = false) := by
  obtain ⟨r, hr, hR⟩ := flood_ok hI (v := v) hh eh hsh
  have hR' : abr r (fun q => cd (∃ c, rh x hs v h q c)) := hR.congr (fun q _ => by
    rw [Bool.eq_iff_iff, cd_iff, cd_iff]
    exact wk_iff_mn)
  refine ⟨r, hr, hR', ?_⟩
  rw [(hR'.and hI.g.road).zero]
  constructor
  · intro hz
    refine cd_no ?_
    rintro ⟨q, c, hq, hk, m⟩
    have := hz q hq
    rw [cd_iff.mpr ⟨c, m⟩, show kd (x.2.2.1 29) q 5 = true from hk] at this
    cases this
  · intro hg q hq
    cases e : (cd (∃ c, rh x hs v h q c) && kd (x.2.2.1 29) q 5)
    · rfl
    · rw [Bool.and_eq_true, cd_iff] at e
      obtain ⟨⟨c, m⟩, k⟩ := e
      have : gso x hs v h = true := cd_iff.mpr ⟨q, c, hq, k, m⟩
      rw [this] at hg; cases hg
theorem go_ok {x : am_X} (hI : am_Iv x) {h : Nat} (v : Nat) (hh : h < 36) (eh : x.1 36 = nI h) {sh : Int64} {hs : Nat → Bool} (hsh : abr sh hs) : G_X7_getsOut sh x = some (if gso x hs v h = false then 0 else 1, x) := by
  obtain ⟨r, hr, _, hz⟩ := fl_gs hI (v := v) hh eh hsh
  unfold G_X7_getsOut
  rw [hr]; dsimp only
  by_cases e : gso x hs v h = false
  · rw [if_pos ((lg_cmp0 _).mpr (hz.mpr e)), if_pos e]
  · rw [if_neg (fun c => e (hz.mp ((lg_cmp0 _).mp c))), if_neg e]
/-- minutesOut of the reference: never or not -/
theorem mo_gs {x : am_X} {v h : Nat} {hs : Nat → Bool} (hv : v ≤ 9) (ev : x.2.2.1 29 2 = nI v) (hh : h < 36) (e2 : x.2.2.1 29 0 = nI h) (nh : ¬ x.2.2.1 29 (20 + h) = 1) (hH : ∀ q, q < 36 → hsx x q = hs q) : ∃ f r, G_X8_minutesOut x = some (r, am_sA x 38 f) ∧ (r = 100000 ↔ gso x hs v h = false) ∧ ((100000 : Int32) ≤ r ↔ gso x hs v h = false) := by
  obtain ⟨f, F, M⟩ := mo_ok hv ev hh e2 nh
  rw [show rc x v h = rh x hs v h from rh_eq hh hH] at M
  rcases M with ⟨c, ⟨c140, ⟨q, hq, hk, hr⟩, _⟩, m⟩ | ⟨l, m⟩
  · have : gso x hs v h = true := cd_iff.mpr ⟨q, c, hq, hk, hr⟩
    refine ⟨f, nI c, m, ?_, ?_⟩
    · rw [this]
      constructor
      · intro e; exact absurd e (nI_far c140)
      · intro e; cases e
    · rw [this]
      constructor
      · intro e; exact absurd e (show ¬ (100000 : Int32) ≤ nI c from nI_ge (b := 100000) (by omega) (by decide))
      · intro e; cases e
  · have : gso x hs v h = false := cd_no (by rintro ⟨q, c, hq, hk, m⟩; exact l q c hq hk m)
    refine ⟨f, 100000, m, ?_, ?_⟩
    · rw [this]; simp
    · rw [this]
      constructor
      · intro _; rfl
      · intro _; decide
/-- the best so far -/
def shF (ok : Nat → Bool) : Nat → Option Nat
  | 0 => none
  | i + 1 => match shF ok i with
    | none => if ok i = true then some i else none
    | some b => if pcN b ≤ pcN i then some b else if ok i = true then some i else some b
theorem shF_lt (ok : Nat → Bool) : ∀ (i b : Nat), shF ok i = some b → b < i := by
  intro i
  induction i with
  | zero => intro b h; cases h
  | succ i ih =>
    intro b h
    rw [shF] at h
    cases e : shF ok i with
    | none =>
      rw [e] at h
      dsimp only at h
      split at h
      · cases h; omega
      · cases h
    | some c =>
      rw [e] at h
      have := ih c e
      dsimp only at h
      split at h
      · cases h; omega
      · split at h <;> (cases h; omega)
def shE : Option Nat → Int32
  | none => -9
  | some b => nI b
noncomputable def shk (x : am_X) (v h : Nat) (b : Nat) : Bool := !gso x (shs x b) v h
theorem sh_class {x : am_X} (hI : am_Iv x) {h : Nat} (v : Nat) (hh : h < 36) (e1 : x.1 36 = nI h) {G : Nat} (hG : G = if fb_ct (gp x) 36 < 10 then fb_ct (gp x) 36 else 10) : G_X7_shut x = some (shE (shF (shk x v h) (2 ^ G)), x) := by
  have G10 : G ≤ 10 := by rw [hG]; split <;> omega
  have p10 : 2 ^ G ≤ 1024 := Nat.pow_le_pow_right (by decide) G10
  have ech : (1 : Int32) <<< ((if (am_bc (am_sqo (x.2.2.2 2) (2 : Int32))) < 10 then (am_bc (am_sqo (x.2.2.2 2) (2 : Int32))) else 10) &&& 31) = nI (2 ^ G) := by
    have ebc : am_bc (am_sqo (x.2.2.2 2) (2 : Int32)) = nI (fb_ct (gp x) 36) := (hI.g.gaps).bc
    have ct := fb_ct_le (gp x) 36
    rw [ebc]
    have : (if nI (fb_ct (gp x) 36) < (10 : Int32) then nI (fb_ct (gp x) 36) else 10) = nI G := by
      rw [hG]
      by_cases l : fb_ct (gp x) 36 < 10
      · rw [if_pos (show nI (fb_ct (gp x) 36) < (10 : Int32) from nI_lt (b := 10) l (by decide)), if_pos l]
      · rw [if_neg (show ¬ nI (fb_ct (gp x) 36) < (10 : Int32) from nI_nlt (b := 10) (by omega) (by omega)), if_neg l]; rfl
    rw [this]
    have k : ∀ G, G ≤ 10 → (1 : Int32) <<< (nI G &&& 31) = nI (2 ^ G) := by decide +kernel
    exact k G G10
  have H := am_for (fun n i (s : Option Nat) => L_X7_shut_28 n (am_sqo (x.2.2.2 2) 2) (nI (2 ^ G)) (shE s) (nI i) x) (2 ^ G)
    (fun i s => s = shF (shk x v h) i) (fun r => r = (shE (shF (shk x v h) (2 ^ G)), x))
    (fun n i s hi hp => Or.inl (by
      have i1024 : i < 1024 := by omega
      have h1 : ¬ nI (2 ^ G) ≤ nI i := nI_ge hi (by omega)
      obtain ⟨w, hw, hW⟩ := gob_ok x hI.g.gaps i1024
      have hgo := go_ok hI v hh e1 hW
      refine ⟨shF (shk x v h) (i + 1), rfl, ?_⟩
      rw [L_X7_shut_28, if_neg h1, hw]; dsimp only
      rw [hgo]; dsimp only
      cases s with
      | none =>
        rw [show shE none = -9 from rfl, if_pos (by decide), shF, ← hp]
        dsimp only
        by_cases g : gso x (shs x i) v h = false
        · rw [if_pos g, if_pos rfl, if_pos (by unfold shk; rw [g]; rfl), nI_1]; rfl
        · have g' : gso x (shs x i) v h = true := by cases e : gso x (shs x i) v h
                                                     · exact absurd e g
                                                     · rfl
          rw [if_neg g, if_neg (by decide), if_neg (by unfold shk; rw [g']; decide), nI_1]; rfl
      | some b =>
        have hb := shF_lt _ i b hp.symm
        rw [show shE (some b) = nI b from rfl, if_neg (nI_pos (by omega)), shF, ← hp]
        dsimp only
        rw [ib_n i1024, ib_n (by omega : b < 1024)]
        have := pc_10 b
        have := pc_10 i
        by_cases l : pcN b ≤ pcN i
        · rw [if_pos (nI_le l (by omega)), if_pos l, nI_1]; rfl
        · rw [if_neg (nI_ge (by omega) (by omega)), if_neg l]
          by_cases g : gso x (shs x i) v h = false
          · rw [if_pos g, if_pos rfl, if_pos (by unfold shk; rw [g]; rfl), nI_1]; rfl
          · have g' : gso x (shs x i) v h = true := by cases e : gso x (shs x i) v h
                                                       · exact absurd e g
                                                       · rfl
            rw [if_neg g, if_neg (by decide), if_neg (by unfold shk; rw [g']; decide), nI_1]; rfl))
    (fun n s hp => ⟨_, by rw [L_X7_shut_28, if_pos (by rw [ii_le]; omega)], by rw [hp]⟩)
    1100 0 none (Nat.zero_le _) (by omega) rfl
  obtain ⟨r, hF, rfl⟩ := H
  unfold G_X7_shut
  rw [ech]
  exact hF
