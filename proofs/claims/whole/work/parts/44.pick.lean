/-! SEEKERS: which square is looked at next, in numbers -/
def apN (q p : Nat) : Nat := (if q / 6 ≤ p / 6 then p / 6 - q / 6 else q / 6 - p / 6) + (if q % 6 ≤ p % 6 then p % 6 - q % 6 else q % 6 - p % 6)
theorem ap_nb : ∀ q, q < 36 → ∀ r, r < 36 → ab_nb q r = true → ∀ t, t < 36 → apN q t ≤ apN r t + 1 := by decide +kernel
theorem ap_go : ∀ q, q < 36 → ∀ t, t < 36 → apN q t = 0 ∨ ∃ r, r < 36 ∧ ab_nb q r = true ∧ apN r t + 1 = apN q t := by decide +kernel
theorem ap_0 : ∀ q, q < 36 → ∀ t, t < 36 → (apN q t = 0 ↔ q = t) := by decide +kernel
theorem ap_10 : ∀ q, q < 36 → ∀ t, t < 36 → apN q t ≤ 10 := by decide +kernel
def cF (S : Nat → Bool) (w : Nat → Int) : Nat → Option Nat
  | 0 => none
  | i + 1 => if S i = true then (match cF S w i with | none => some i | some b => if w b ≤ w i then some b else some i) else cF S w i
def cE : Option Nat → Int32
  | none => -9
  | some q => nI q
theorem cF_c (S : Nat → Bool) (w : Nat → Int) : ∀ n, (cF S w n = none ∧ ∀ p, p < n → S p = false) ∨ ∃ b, cF S w n = some b ∧ b < n ∧ S b = true ∧ (∀ p, p < n → S p = true → w b ≤ w p) ∧ ∀ p, p < b → S p = true → w b < w p := by
  intro n
  induction n with
  | zero => exact Or.inl ⟨rfl, fun p hp => by omega⟩
  | succ n ih =>
    cases s : S n
    · have e : cF S w (n + 1) = cF S w n := by rw [cF, s, if_neg (by decide)]
      rw [e]
      rcases ih with ⟨h1, h2⟩ | ⟨b, h1, h2, h3, h4, h5⟩
      · refine Or.inl ⟨h1, fun p hp => ?_⟩
        by_cases ep : p = n
        · subst ep; exact s
        · exact h2 p (by omega)
      · refine Or.inr ⟨b, h1, by omega, h3, fun p hp sp => ?_, h5⟩
        by_cases ep : p = n
        · subst ep; rw [s] at sp; cases sp
        · exact h4 p (by omega) sp
    · rcases ih with ⟨h1, h2⟩ | ⟨b, h1, h2, h3, h4, h5⟩
      · refine Or.inr ⟨n, by rw [cF, s, if_pos rfl, h1], by omega, s, fun p hp sp => ?_, fun p hp sp => ?_⟩
        · by_cases ep : p = n
          · subst ep; exact Int.le_refl _
          · rw [h2 p (by omega)] at sp; cases sp
        · rw [h2 p hp] at sp; cases sp
      · by_cases l : w b ≤ w n
        · refine Or.inr ⟨b, by rw [cF, s, if_pos rfl, h1]; exact if_pos l, by omega, h3, fun p hp sp => ?_, h5⟩
          by_cases ep : p = n
          · subst ep; exact l
          · exact h4 p (by omega) sp
        · refine Or.inr ⟨n, by rw [cF, s, if_pos rfl, h1]; exact if_neg l, by omega, s, fun p hp sp => ?_, fun p hp sp => ?_⟩
          · by_cases ep : p = n
            · subst ep; exact Int.le_refl _
            · have := h4 p (by omega) sp; omega
          · have := h4 p hp sp; omega
def chP (S : Nat → Bool) (w : Nat → Int) (r : Int32) : Prop := (∃ q, q < 36 ∧ S q = true ∧ (∀ p, p < 36 → S p = true → w q ≤ w p) ∧ (∀ p, p < q → S p = true → w q < w p) ∧ r = nI q) ∨ ((∀ q, q < 36 → S q = false) ∧ r = -9)
theorem chP_eq {S : Nat → Bool} {w : Nat → Int} {r : Int32} (h : chP S w r) : r = cE (cF S w 36) := by
  rcases cF_c S w 36 with ⟨h1, h2⟩ | ⟨b, h1, h2, h3, h4, h5⟩
  · rcases h with ⟨q, k1, k2, _⟩ | ⟨_, k2⟩
    · rw [h2 q k1] at k2; cases k2
    · rw [h1, k2]; rfl
  · rcases h with ⟨q, k1, k2, k3, k4, rfl⟩ | ⟨k1, _⟩
    · have : q = b := by
        rcases Nat.lt_trichotomy q b with l | l | l
        · have a := h5 q l k2
          have c := k3 b h2 h3
          omega
        · exact l
        · have a := k4 b l h3
          have c := h4 q k1 k2
          omega
      rw [h1, this]; rfl
    · rw [k1 b h2] at h3; cases h3
theorem chP_cong {S : Nat → Bool} {w w' : Nat → Int} {r : Int32} (h : chP S w r) (e : ∀ q, q < 36 → w q = w' q) : chP S w' r := by
  rcases h with ⟨q, k1, k2, k3, k4, k5⟩ | h
  · refine Or.inl ⟨q, k1, k2, fun p hp sp => ?_, fun p hp sp => ?_, k5⟩
    · rw [← e q k1, ← e p hp]; exact k3 p hp sp
    · rw [← e q k1, ← e p (by omega)]; exact k4 p hp sp
  · exact Or.inr h
section
variable {s : Int64} {S : Nat → Bool}
theorem ch_least (hS : abr s S) : chP S (fun q => (q : Int)) (am_least s) := by
  rcases am_least_cases hS with ⟨j, hj, hp, hf, e⟩ | ⟨hz, e⟩
  · refine Or.inl ⟨j, hj, hp, fun p _ sp => ?_, fun p hp' sp => ?_, e⟩
    · by_cases l : p < j
      · rw [hf p l] at sp; cases sp
      · show (j : Int) ≤ p; omega
    · rw [hf p hp'] at sp; cases sp
  · exact Or.inr ⟨hz, e⟩
/-- d is the way to the nearest of T -/
def dP (T : Nat → Bool) (d : Nat → Nat) : Prop := ∀ q, q < 36 → (∃ t, t < 36 ∧ T t = true ∧ apN q t = d q) ∧ ∀ t, t < 36 → T t = true → d q ≤ apN q t
theorem neF_ok (hS : abr s S) {T : Nat → Bool} {d : Nat → Nat} (hd : dP T d) : ∀ (n i : Nat) (a : Int64), n + i = 10 → abr a (fun q => decide (d q ≤ i)) → (∀ q, q < 36 → S q = true → i ≤ d q) → ∃ j, abr (am_neF s n a) (fun q => decide (d q ≤ j)) ∧ (∀ q, q < 36 → S q = true → j ≤ d q) ∧ ((∃ q, q < 36 ∧ S q = true ∧ d q ≤ j) ∨ j = 10) := by
  intro n
  induction n with
  | zero => intro i a hi ha hb; exact ⟨i, ha, hb, Or.inr (by omega)⟩
  | succ n ih =>
    intro i a hi ha hb
    rw [am_neF]
    by_cases z : a &&& s = 0
    · rw [if_pos z]
      have hz := (ha.and hS).zero.mp z
      refine ih (i + 1) _ (by omega) ((ha.or (abr_bes ha)).congr (fun q hq => ?_)) (fun q hq sq => ?_)
      · rw [Bool.eq_iff_iff, Bool.or_eq_true, decide_eq_true_eq, decide_eq_true_eq, ab_bs_iff]
        constructor
        · rintro (h | ⟨r, hr, hn, h⟩)
          · omega
          · rw [decide_eq_true_eq] at h
            obtain ⟨⟨t, ht, tt, e⟩, _⟩ := hd r hr
            have a1 := ap_nb q hq r hr hn t ht
            have a2 := (hd q hq).2 t ht tt
            omega
        · intro h
          by_cases l : d q ≤ i
          · exact Or.inl l
          · refine Or.inr ?_
            obtain ⟨⟨t, ht, tt, e⟩, _⟩ := hd q hq
            rcases ap_go q hq t ht with a0 | ⟨r, hr, hn, er⟩
            · omega
            · refine ⟨r, hr, hn, ?_⟩
              rw [decide_eq_true_eq]
              have := (hd r hr).2 t ht tt
              omega
      · have h := hb q hq sq
        by_cases e : d q = i
        · have := hz q hq
          rw [sq, Bool.and_true, decide_eq_false_iff_not] at this
          omega
        · omega
    · rw [if_neg z]
      refine ⟨i, ha, hb, ?_⟩
      rcases ab_first (fun q => decide (d q ≤ i) && S q) 36 with ⟨q, hq, hp, _⟩ | h
      · rw [Bool.and_eq_true, decide_eq_true_eq] at hp
        exact Or.inl ⟨q, hq, hp.2, hp.1⟩
      · exact absurd ((ha.and hS).zero.mpr h) z
theorem ch_near (hS : abr s S) {T : Nat → Bool} {d : Nat → Nat} (hd : dP T d) {w : Int64} (hw : abr w T) : chP S (fun q => (d q : Int)) (am_ne s w) := by
  have h0 : abr w (fun q => decide (d q ≤ 0)) := hw.congr (fun q hq => by
    rw [Bool.eq_iff_iff, decide_eq_true_eq]
    constructor
    · intro t
      have := (hd q hq).2 q hq t
      rw [(ap_0 q hq q hq).mpr rfl] at this
      exact this
    · intro h
      obtain ⟨⟨t, ht, tt, e⟩, _⟩ := hd q hq
      have := (ap_0 q hq t ht).mp (by omega)
      rw [this]; exact tt)
  obtain ⟨j, h1, h2, h3⟩ := neF_ok hS hd 10 0 w rfl h0 (fun _ _ _ => Nat.zero_le _)
  unfold am_ne
  rcases am_least_cases (h1.and hS) with ⟨k, hk, hp, hf, e⟩ | ⟨hz, e⟩
  · rw [Bool.and_eq_true, decide_eq_true_eq] at hp
    refine Or.inl ⟨k, hk, hp.2, fun p hp' sp => ?_, fun p hp' sp => ?_, e⟩
    · have := h2 p hp' sp
      show (d k : Int) ≤ d p
      omega
    · have := hf p hp'
      rw [sp, Bool.and_true, decide_eq_false_iff_not] at this
      show (d k : Int) < d p
      omega
  · refine Or.inr ⟨fun q hq => ?_, e⟩
    cases sq : S q
    · rfl
    · have a := hz q hq
      rw [sq, Bool.and_true, decide_eq_false_iff_not] at a
      rcases h3 with ⟨q', hq', sq', l⟩ | rfl
      · have b := hz q' hq'
        rw [sq', Bool.and_true, decide_eq_false_iff_not] at b
        exact absurd l b
      · obtain ⟨⟨t, ht, tt, et⟩, _⟩ := hd q hq
        have := ap_10 q hq t ht
        omega
/-- how many beside one are in the set -/
def bsN (S : Nat → Bool) (i : Nat) : Nat := fb_ct (fun q => ab_nb i q && S q) 36
def nrN (S : Nat → Bool) (i : Nat) : Nat := if S i = true then bsN S i else 0
theorem nb_4 : ∀ i, i < 36 → fb_ct (fun q => ab_nb i q) 36 ≤ 4 := by decide +kernel
theorem bsN_4 {i : Nat} (hi : i < 36) : bsN S i ≤ 4 := Nat.le_trans (fb_ct_sub (fun k _ h => by rw [Bool.and_eq_true] at h; exact h.1)) (nb_4 i hi)
theorem nrN_4 {i : Nat} (hi : i < 36) : nrN S i ≤ 4 := by unfold nrN; split; exact bsN_4 hi; omega
theorem nr_ok (hS : abr s S) {i : Nat} (hi : i < 36) : am_nr s i = nI (nrN S i) := by
  have eb : (1 : Int64) <<< ((nI i).toInt64 &&& 63) = am_bit (nI i) := by unfold am_bit; rw [if_pos (ns_e hi)]
  unfold am_nr
  rw [eb, ((abr_bes ((abr_bit hi).and hS)).and hS).bc]
  congr 1
  unfold nrN
  cases si : S i
  · rw [if_neg (by decide)]
    refine fb_ct_zero.mpr (fun k _ => ?_)
    cases e : ab_bs (fun q => decide (q = i) && S q) k && S k
    · rfl
    · rw [Bool.and_eq_true, ab_bs_iff] at e
      obtain ⟨⟨r, hr, hn, h⟩, _⟩ := e
      rw [Bool.and_eq_true, decide_eq_true_eq] at h
      rw [h.1, si] at h
      cases h.2
  · rw [if_pos rfl]
    refine fb_ct_cong (fun k _ => ?_)
    rw [Bool.eq_iff_iff, Bool.and_eq_true, Bool.and_eq_true, ab_bs_iff]
    constructor
    · rintro ⟨⟨r, hr, hn, h⟩, sk⟩
      rw [Bool.and_eq_true, decide_eq_true_eq] at h
      rw [h.1] at hn
      exact ⟨by rw [ab_nb_sym]; exact hn, sk⟩
    · rintro ⟨hn, sk⟩
      exact ⟨⟨i, hi, by rw [ab_nb_sym]; exact hn, by simp [si]⟩, sk⟩
theorem nr_S {i : Nat} (h : 0 < nrN S i) : S i = true ∧ bsN S i = nrN S i := by
  unfold nrN at h ⊢
  cases si : S i
  · rw [si, if_neg (by decide)] at h; omega
  · rw [if_pos rfl]; exact ⟨rfl, rfl⟩
theorem nr_T {i : Nat} (h : S i = true) : nrN S i = bsN S i := if_pos h
theorem mo_ok' (hS : abr s S) : ∀ (n i : Nat) (b m : Int32), n + i = 36 → ((m = 0 ∧ b = am_least s ∧ ∀ j, j < i → nrN S j = 0) ∨ (∃ q, q < i ∧ b = nI q ∧ m = nI (nrN S q) ∧ 0 < nrN S q ∧ (∀ j, j < i → nrN S j ≤ nrN S q) ∧ ∀ j, j < q → nrN S j < nrN S q)) → chP S (fun q => -(bsN S q : Int)) (am_moF s n i b m) := by
  intro n
  induction n with
  | zero =>
    intro i b m hi h
    have : i = 36 := by omega
    subst this
    rw [am_moF]
    rcases h with ⟨_, rfl, h2⟩ | ⟨q, h1, rfl, _, h3, h4, h5⟩
    · rcases ch_least hS with ⟨j, k1, k2, k3, k4, k5⟩ | h
      · refine Or.inl ⟨j, k1, k2, fun p hp sp => ?_, fun p hp sp => ?_, k5⟩
        · have a := h2 p hp
          have c := h2 j k1
          rw [nr_T sp] at a
          rw [nr_T k2] at c
          show -(bsN S j : Int) ≤ -(bsN S p : Int)
          omega
        · have := k4 p hp sp
          have := k3 p (by omega) sp
          simp only at *
          omega
      · exact Or.inr h
    · have sq := nr_S h3
      refine Or.inl ⟨q, h1, sq.1, fun p hp sp => ?_, fun p hp sp => ?_, rfl⟩
      · have := h4 p hp
        rw [nr_T sp] at this
        show -(bsN S q : Int) ≤ -(bsN S p : Int)
        omega
      · have := h5 p hp
        rw [nr_T sp] at this
        show -(bsN S q : Int) < -(bsN S p : Int)
        omega
  | succ n ih =>
    intro i b m hi h
    have hi36 : i < 36 := by omega
    have i4 := nrN_4 (S := S) hi36
    rw [am_moF, nr_ok hS hi36]
    rcases h with ⟨rfl, hb, h2⟩ | ⟨q, h1, hb, rfl, h3, h4, h5⟩
    · by_cases l : nrN S i ≤ 0
      · rw [if_pos (show nI (nrN S i) ≤ (0 : Int32) from nI_le (b := 0) l (by decide))]
        refine ih (i + 1) _ _ (by omega) (Or.inl ⟨rfl, hb, fun j hj => ?_⟩)
        by_cases e : j = i
        · subst e; omega
        · exact h2 j (by omega)
      · rw [if_neg (show ¬ nI (nrN S i) ≤ (0 : Int32) from nI_ge (a := 0) (by omega) (by omega))]
        refine ih (i + 1) _ _ (by omega) (Or.inr ⟨i, by omega, rfl, rfl, by omega, fun j hj => ?_, fun j hj => ?_⟩)
        · by_cases e : j = i
          · subst e; exact Nat.le_refl _
          · have := h2 j (by omega); omega
        · have := h2 j (by omega); omega
    · have q4 := nrN_4 (S := S) (show q < 36 by omega)
      by_cases l : nrN S i ≤ nrN S q
      · rw [if_pos (nI_le l (by omega))]
        refine ih (i + 1) _ _ (by omega) (Or.inr ⟨q, by omega, hb, rfl, h3, fun j hj => ?_, h5⟩)
        by_cases e : j = i
        · subst e; exact l
        · exact h4 j (by omega)
      · rw [if_neg (nI_ge (by omega) (by omega))]
        refine ih (i + 1) _ _ (by omega) (Or.inr ⟨i, by omega, rfl, rfl, by omega, fun j hj => ?_, fun j hj => ?_⟩)
        · by_cases e : j = i
          · subst e; exact Nat.le_refl _
          · have := h4 j (by omega); omega
        · have := h4 j (by omega); omega
theorem ch_most (hS : abr s S) : chP S (fun q => -(bsN S q : Int)) (am_mo s) := mo_ok' hS 36 0 _ _ rfl (Or.inl ⟨rfl, rfl, fun j hj => by omega⟩)
def w3N (S : Nat → Bool) (q : Nat) : Int := if bsN S q = 0 then 100000 else (bsN S q : Int)
theorem fe_ok' (hS : abr s S) : ∀ (n i : Nat) (b m : Int32), n + i = 36 → ((m = 5 ∧ b = am_least s ∧ ∀ j, j < i → nrN S j = 0) ∨ (∃ q, q < i ∧ b = nI q ∧ m = nI (nrN S q) ∧ 0 < nrN S q ∧ (∀ j, j < i → 0 < nrN S j → nrN S q ≤ nrN S j) ∧ ∀ j, j < q → 0 < nrN S j → nrN S q < nrN S j)) → chP S (w3N S) (am_feF s n i b m) := by
  intro n
  induction n with
  | zero =>
    intro i b m hi h
    have : i = 36 := by omega
    subst this
    rw [am_feF]
    rcases h with ⟨_, rfl, h2⟩ | ⟨q, h1, rfl, _, h3, h4, h5⟩
    · rcases ch_least hS with ⟨j, k1, k2, k3, k4, k5⟩ | h
      · have cj := h2 j k1
        rw [nr_T k2] at cj
        refine Or.inl ⟨j, k1, k2, fun p hp sp => ?_, fun p hp sp => ?_, k5⟩
        · have a := h2 p hp
          rw [nr_T sp] at a
          unfold w3N
          rw [if_pos cj, if_pos a]
          exact Int.le_refl _
        · have := k4 p hp sp
          have := k3 p (by omega) sp
          simp only at *
          omega
      · exact Or.inr h
    · have sq := nr_S h3
      have q4 := nrN_4 (S := S) h1
      refine Or.inl ⟨q, h1, sq.1, fun p hp sp => ?_, fun p hp sp => ?_, rfl⟩
      · have := h4 p hp
        rw [nr_T sp] at this
        unfold w3N
        rw [sq.2, if_neg (by omega)]
        split <;> omega
      · have := h5 p hp
        rw [nr_T sp] at this
        unfold w3N
        rw [sq.2, if_neg (by omega)]
        split <;> omega
  | succ n ih =>
    intro i b m hi h
    have hi36 : i < 36 := by omega
    have i4 := nrN_4 (S := S) hi36
    rw [am_feF, nr_ok hS hi36]
    by_cases z : nrN S i = 0
    · rw [if_pos (Or.inl (show nI (nrN S i) ≤ (0 : Int32) from nI_le (b := 0) (by omega) (by decide)))]
      refine ih (i + 1) _ _ (by omega) ?_
      rcases h with ⟨h0, hb, h2⟩ | ⟨q, h1, hb, hm, h3, h4, h5⟩
      · refine Or.inl ⟨h0, hb, fun j hj => ?_⟩
        by_cases e : j = i
        · subst e; exact z
        · exact h2 j (by omega)
      · refine Or.inr ⟨q, by omega, hb, hm, h3, fun j hj p => ?_, h5⟩
        by_cases e : j = i
        · subst e; omega
        · exact h4 j (by omega) p
    · have nz : ¬ nI (nrN S i) ≤ (0 : Int32) := nI_ge (a := 0) (by omega) (by omega)
      rcases h with ⟨rfl, hb, h2⟩ | ⟨q, h1, hb, rfl, h3, h4, h5⟩
      · rw [if_neg (by
          rintro (c | c)
          · exact nz c
          · exact (show ¬ (5 : Int32) ≤ nI (nrN S i) from nI_ge (b := 5) (by omega) (by decide)) c)]
        refine ih (i + 1) _ _ (by omega) (Or.inr ⟨i, by omega, rfl, rfl, by omega, fun j hj p => ?_, fun j hj p => ?_⟩)
        · by_cases e : j = i
          · subst e; exact Nat.le_refl _
          · have := h2 j (by omega); omega
        · have := h2 j (by omega); omega
      · have q4 := nrN_4 (S := S) (show q < 36 by omega)
        by_cases l : nrN S q ≤ nrN S i
        · rw [if_pos (Or.inr (nI_le l (by omega)))]
          refine ih (i + 1) _ _ (by omega) (Or.inr ⟨q, by omega, hb, rfl, h3, fun j hj p => ?_, h5⟩)
          by_cases e : j = i
          · subst e; exact l
          · exact h4 j (by omega) p
        · rw [if_neg (by
            rintro (c | c)
            · exact nz c
            · exact nI_ge (by omega) (by omega) c)]
          refine ih (i + 1) _ _ (by omega) (Or.inr ⟨i, by omega, rfl, rfl, by omega, fun j hj p => ?_, fun j hj p => ?_⟩)
          · by_cases e : j = i
            · subst e; exact Nat.le_refl _
            · have := h4 j (by omega) p; omega
          · have := h4 j (by omega) p; omega
theorem ch_edge (hS : abr s S) : chP S (w3N S) (am_fe s) := fe_ok' hS 36 0 _ _ rfl (Or.inl ⟨rfl, rfl, fun j hj => by omega⟩)
end
