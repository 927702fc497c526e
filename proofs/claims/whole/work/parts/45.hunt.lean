/-! a hunt in numbers; the class' hunt -/
def trF (now : Nat → Int32) (q : Nat) : Nat → Nat
  | 0 => 100000
  | i + 1 => if kd now i 5 = true then (if apN q i < trF now q i then apN q i else trF now q i) else trF now q i
def trN (now : Nat → Int32) (q : Nat) : Nat := trF now q 36
theorem trF_c (now : Nat → Int32) {q : Nat} (hq : q < 36) : ∀ n, n ≤ 36 → (trF now q n = 100000 ∧ ∀ r, r < n → kd now r 5 = false) ∨ (trF now q n ≤ 10 ∧ (∃ r, r < n ∧ kd now r 5 = true ∧ apN q r = trF now q n) ∧ ∀ r, r < n → kd now r 5 = true → trF now q n ≤ apN q r) := by
  intro n
  induction n with
  | zero => intro _; exact Or.inl ⟨rfl, fun r hr => by omega⟩
  | succ n ih =>
    intro hn
    have a10 := ap_10 q hq n (by omega)
    rw [trF]
    by_cases k : kd now n 5 = true
    · rw [if_pos k]
      rcases ih (by omega) with ⟨h1, h2⟩ | ⟨h1, ⟨r, h2, h3, h4⟩, h5⟩
      · rw [h1, if_pos (by omega)]
        refine Or.inr ⟨a10, ⟨n, by omega, k, rfl⟩, fun r hr kr => ?_⟩
        by_cases e : r = n
        · subst e; exact Nat.le_refl _
        · rw [h2 r (by omega)] at kr; cases kr
      · by_cases l : apN q n < trF now q n
        · rw [if_pos l]
          refine Or.inr ⟨a10, ⟨n, by omega, k, rfl⟩, fun r hr kr => ?_⟩
          by_cases e : r = n
          · subst e; exact Nat.le_refl _
          · have := h5 r (by omega) kr; omega
        · rw [if_neg l]
          refine Or.inr ⟨h1, ⟨r, by omega, h3, h4⟩, fun r hr kr => ?_⟩
          by_cases e : r = n
          · subst e; omega
          · exact h5 r (by omega) kr
    · rw [if_neg k]
      rcases ih (by omega) with ⟨h1, h2⟩ | ⟨h1, ⟨r, h2, h3, h4⟩, h5⟩
      · refine Or.inl ⟨h1, fun r hr => ?_⟩
        by_cases e : r = n
        · subst e; exact kd_f k
        · exact h2 r (by omega)
      · refine Or.inr ⟨h1, ⟨r, by omega, h3, h4⟩, fun r hr kr => ?_⟩
        by_cases e : r = n
        · subst e; exact absurd kr k
        · exact h5 r (by omega) kr
def wtN (now : Nat → Int32) (S : Nat → Bool) (e q st : Nat) : Int :=
  if e = 0 then (q : Int) else if e = 1 then (apN q st : Int) else if e = 2 then -(bsN S q : Int) else if e = 3 then w3N S q else if trN now q < 100000 then (trN now q : Int) else (apN q st : Int)
theorem dP_one {st : Nat} (h : st < 36) : dP (fun q => decide (q = st)) (fun q => apN q st) := fun q hq => ⟨⟨st, h, by simp, rfl⟩, fun t ht e => by rw [decide_eq_true_eq] at e; rw [e]; exact Nat.le_refl _⟩
theorem ch_all {s rd : Int64} {S : Nat → Bool} {now : Nat → Int32} (hS : abr s S) (hr : abr rd (fun q => kd now q 5)) {stf : Nat → Int64} {k e st : Nat} (he : e < 5) (hst : st < 36) (es : am_sta stf (nI k) = am_bit (nI st)) : am_cho stf s rd (nI k) (nI e) = cE (cF S (fun q => wtN now S e q st) 36) := by
  apply chP_eq
  unfold am_cho
  have : e = 0 ∨ e = 1 ∨ e = 2 ∨ e = 3 ∨ e = 4 := by omega
  rcases this with rfl | rfl | rfl | rfl | rfl
  · rw [if_neg (by decide), if_neg (by decide), if_neg (by decide), if_neg (by decide)]
    exact ch_least hS
  · rw [if_pos (by decide), es]
    exact ch_near hS (dP_one hst) (abr_bit hst)
  · rw [if_neg (by decide), if_pos (by decide)]
    exact ch_most hS
  · rw [if_neg (by decide), if_neg (by decide), if_pos (by decide)]
    exact ch_edge hS
  · rw [if_neg (by decide), if_neg (by decide), if_neg (by decide), if_pos (by decide)]
    unfold am_gA
    by_cases z : rd = 0
    · rw [if_pos z, es]
      refine chP_cong (ch_near hS (dP_one hst) (abr_bit hst)) (fun q hq => ?_)
      have hz := hr.zero.mp z
      have : trN now q = 100000 := by
        rcases trF_c now hq 36 (by omega) with ⟨h1, _⟩ | ⟨_, ⟨r, h2, h3, _⟩, _⟩
        · exact h1
        · rw [hz r h2] at h3; cases h3
      show (apN q st : Int) = (if trN now q < 100000 then (trN now q : Int) else (apN q st : Int))
      rw [this, if_neg (by omega)]
    · rw [if_neg z]
      have hex : ∃ r, r < 36 ∧ kd now r 5 = true := by
        rcases ab_first (fun q => kd now q 5) 36 with ⟨j, hj, h, _⟩ | h
        · exact ⟨j, hj, h⟩
        · exact absurd (hr.zero.mpr h) z
      obtain ⟨r0, hr0, kr0⟩ := hex
      have hd : dP (fun q => kd now q 5) (trN now) := fun q hq => by
        rcases trF_c now hq 36 (by omega) with ⟨_, h2⟩ | ⟨_, h2, h3⟩
        · rw [h2 r0 hr0] at kr0; cases kr0
        · exact ⟨h2, h3⟩
      refine chP_cong (ch_near hS hd hr) (fun q hq => ?_)
      have : trN now q < 100000 := by
        rcases trF_c now hq 36 (by omega) with ⟨_, h2⟩ | ⟨h1, _, _⟩
        · rw [h2 r0 hr0] at kr0; cases kr0
        · show trF now q 36 < 100000; omega
      show (trN now q : Int) = (if trN now q < 100000 then (trN now q : Int) else (apN q st : Int))
      rw [if_pos this]
/-! states of a hunt: the set, the minute, where they stand -/
def HS : Type := (Nat → Bool) × Nat × (Nat → Nat)
def rmS (S : Nat → Bool) (o : Int32) (q : Nat) : Bool := S q && !decide (o = nI q)
def grS (now : Nat → Int32) (S : Nat → Bool) (q : Nat) : Bool := S q || (ab_bs (fun r => S r && !kd now r 5) q && !kd now q 1)
def nxS (now : Nat → Int32) (p t : Nat) (S : Nat → Bool) (o : Int32) : Nat → Bool := if (t + 1) % p = 0 then grS now (rmS S o) else rmS S o
def piH (now : Nat → Int32) (e k : Nat) (σ : HS) : Int32 := cE (cF σ.1 (fun q => wtN now σ.1 e q (σ.2.2 k)) 36)
def seH (e k : Nat) (o : Int32) (f : Nat → Nat) (i : Nat) : Nat := if i = k ∧ (e = 1 ∨ e = 4) ∧ ¬ o = -9 then o.toNatClampNeg else f i
def stH (now : Nat → Int32) (p e k : Nat) (σ : HS) : HS := (nxS now p σ.2.1 σ.1 (piH now e k σ), σ.2.1 + 1, seH e k (piH now e k σ) σ.2.2)
def HC (s : Nat) (y : am_X) (σ : HS) : Prop := abr (y.2.1 641) σ.1 ∧ y.1 642 = nI σ.2.1 ∧ ∀ i, i < s → y.2.2.2 21 i = am_bit (nI (σ.2.2 i)) ∧ σ.2.2 i < 36
theorem mod_n {a b : Nat} (ha : a < 1300) (h1 : 1 ≤ b) (h2 : b ≤ 9) : nI a - nI a / nI b * nI b = 0 ↔ a % b = 0 := by
  have : ∀ b, b ≤ 9 → 1 ≤ b → ∀ a, a < 1300 → (nI a - nI a / nI b * nI b = 0 ↔ a % b = 0) := by decide +kernel
  exact this b h2 h1 a ha
section
variable {y : am_X} {s p : Nat} {σ : HS}
theorem lk_ok (hI : am_Iv y) (p1 : 1 ≤ p) (p9 : p ≤ 9) (q1 : y.1 37 = nI p) (h : HC s y σ) (ht : σ.2.1 < 1250) (o : Int32) : HC s (am_lkx y o) (nxS (y.2.2.1 29) p σ.2.1 σ.1 o, σ.2.1 + 1, σ.2.2) := by
  obtain ⟨h1, h2, h3⟩ := h
  refine ⟨?_, ?_, h3⟩
  · show abr (am_lkS (y.2.2.2 2) (y.1 37) (y.2.1 641) (y.1 642) o) (nxS (y.2.2.1 29) p σ.2.1 σ.1 o)
    have hr : abr (y.2.1 641 &&& (am_bit o ^^^ (-1))) (rmS σ.1 o) := h1.andn abr_bitI
    unfold am_lkS nxS
    rw [q1, h2, nI_1, if_neg (show ¬ nI p ≤ (0 : Int32) from nI_ge (a := 0) (by omega) (by omega))]
    by_cases m : (σ.2.1 + 1) % p = 0
    · rw [if_pos ((mod_n (by omega) p1 p9).mpr m), if_pos m]
      exact (hr.or ((abr_bes (hr.andn hI.g.road)).and hI.g.opn)).congr (fun q _ => rfl)
    · rw [if_neg (fun c => m ((mod_n (by omega) p1 p9).mp c)), if_neg m]
      exact hr
  · show y.1 642 + 1 = nI (σ.2.1 + 1)
    rw [h2, nI_1]
theorem lk_kp (o : Int32) : am_kp y (am_lkx y o) := (am_kp.uI (by decide)).trans am_kp.uL
theorem sta_at {f : Nat → Int64} {k : Nat} (h : k < 3) : am_sta f (nI k) = f k := by
  have k3 : 0 ≤ (nI k).toInt ∧ (nI k).toInt < 3 := nIr (b := 3) h (by decide)
  unfold am_sta
  rw [if_pos k3, nI_clamp (by omega)]
theorem pi_c (now : Nat → Int32) (e k : Nat) (σ : HS) : (∃ q, q < 36 ∧ σ.1 q = true ∧ piH now e k σ = nI q) ∨ ((∀ q, q < 36 → σ.1 q = false) ∧ piH now e k σ = -9) := by
  unfold piH
  rcases cF_c σ.1 (fun q => wtN now σ.1 e q (σ.2.2 k)) 36 with ⟨h1, h2⟩ | ⟨b, h1, h2, h3, _⟩
  · exact Or.inr ⟨h2, by rw [h1]; rfl⟩
  · exact Or.inl ⟨b, h2, h3, by rw [h1]; rfl⟩
theorem n9 {q : Nat} (h : q < 2 ^ 31) : ¬ nI q = -9 := fun e => by
  have := congrArg Int32.toInt e
  rw [nI_toInt h, show (-9 : Int32).toInt = -9 by decide] at this
  omega
theorem chx_ok (hI : am_Iv y) (h : HC s y σ) {k e : Nat} (s3 : s ≤ 3) (hk : k < s) (he : e < 5) : am_chx y (nI k) (nI e) = piH (y.2.2.1 29) e k σ := by
  unfold am_chx piH
  exact ch_all h.1 hI.g.road he (h.2.2 k hk).2 (by rw [sta_at (by omega)]; exact (h.2.2 k hk).1)
theorem sk_ok (hI : am_Iv y) (p1 : 1 ≤ p) (p9 : p ≤ 9) (q1 : y.1 37 = nI p) (h : HC s y σ) (ht : σ.2.1 < 1250) {k e : Nat} (s3 : s ≤ 3) (hk : k < s) (he : e < 5) : HC s (am_skx y (nI k) (nI e)) (stH (y.2.2.1 29) p e k σ) ∧ am_kp y (am_skx y (nI k) (nI e)) := by
  have ec := chx_ok hI h s3 hk he
  have L := lk_ok hI p1 p9 q1 h ht (piH (y.2.2.1 29) e k σ)
  have k3 : 0 ≤ (nI k).toInt ∧ (nI k).toInt < 3 := nIr (b := 3) (by omega) (by decide)
  have e1 : nI e = 1 ↔ e = 1 := nI_1e (by omega)
  have e4 : nI e = 4 ↔ e = 4 := nI_eq (b := 4) (by omega) (by decide)
  unfold am_skx
  rw [ec]
  rcases pi_c (y.2.2.1 29) e k σ with ⟨q, hq, sq, eq⟩ | ⟨hz, eq⟩
  · by_cases c : e = 1 ∨ e = 4
    · have c' : nI e = 1 ∨ nI e = 4 := by rw [e1, e4]; exact c
      rw [if_pos ⟨c', by rw [eq]; exact ns_e hq, k3⟩]
      refine ⟨⟨L.1, L.2.1, fun i hi => ?_⟩, (lk_kp _).trans (am_kp.sB (by decide))⟩
      show vp_updL (y.2.2.2 21) (nI k).toNatClampNeg (am_bit (piH (y.2.2.1 29) e k σ)) i = am_bit (nI (seH e k (piH (y.2.2.1 29) e k σ) σ.2.2 i)) ∧ seH e k (piH (y.2.2.1 29) e k σ) σ.2.2 i < 36
      rw [nI_clamp (by omega), eq]
      unfold seH vp_updL
      by_cases ei : i = k
      · rw [if_pos ei, if_pos ⟨ei, c, n9 (by omega)⟩, nI_clamp (by omega)]
        exact ⟨rfl, hq⟩
      · rw [if_neg ei, if_neg (fun c => ei c.1)]
        exact h.2.2 i hi
    · have c' : ¬ ((nI e = 1 ∨ nI e = 4) ∧ (0 ≤ (piH (y.2.2.1 29) e k σ).toInt ∧ (piH (y.2.2.1 29) e k σ).toInt < 36) ∧ 0 ≤ (nI k).toInt ∧ (nI k).toInt < 3) := by
        rw [e1, e4]; exact fun d => c d.1
      rw [if_neg c']
      refine ⟨⟨L.1, L.2.1, fun i hi => ?_⟩, lk_kp _⟩
      show y.2.2.2 21 i = am_bit (nI (seH e k (piH (y.2.2.1 29) e k σ) σ.2.2 i)) ∧ seH e k (piH (y.2.2.1 29) e k σ) σ.2.2 i < 36
      unfold seH
      rw [if_neg (fun d => c d.2.1)]
      exact h.2.2 i hi
  · have c' : ¬ ((nI e = 1 ∨ nI e = 4) ∧ (0 ≤ (piH (y.2.2.1 29) e k σ).toInt ∧ (piH (y.2.2.1 29) e k σ).toInt < 36) ∧ 0 ≤ (nI k).toInt ∧ (nI k).toInt < 3) := by
      rw [eq]
      rintro ⟨_, ⟨d, _⟩, _⟩
      revert d
      decide
    rw [if_neg c']
    refine ⟨⟨L.1, L.2.1, fun i hi => ?_⟩, lk_kp _⟩
    show y.2.2.2 21 i = am_bit (nI (seH e k (piH (y.2.2.1 29) e k σ) σ.2.2 i)) ∧ seH e k (piH (y.2.2.1 29) e k σ) σ.2.2 i < 36
    unfold seH
    rw [if_neg (fun d => d.2.2 eq)]
    exact h.2.2 i hi
end
/-! how a hunt begins -/
def seatN (x : am_X) (i : Nat) : Nat := (x.2.2.1 29 (10 + 2 * i + 1)).toNatClampNeg
def skkN (x : am_X) (i : Nat) : Nat := (x.2.2.1 29 (10 + 2 * i)).toNatClampNeg
def seekp (x : am_X) (s : Nat) : Prop := s ≤ 3 ∧ x.1 35 = nI s ∧ x.2.2.1 29 3 = nI s ∧ ∀ i, i < s → (skkN x i < 5 ∧ x.2.2.1 3 i = nI (skkN x i) ∧ x.2.2.1 29 (10 + 2 * i) = nI (skkN x i)) ∧ seatN x i < 36 ∧ x.2.2.1 4 i = nI (seatN x i) ∧ x.2.2.1 29 (10 + 2 * i + 1) = nI (seatN x i)
theorem seek_n {x : am_X} (hI : am_Iv x) : ∃ s, seekp x s := by
  obtain ⟨s, s3, e1, e2, h⟩ := hI.g.seek
  refine ⟨s, s3, e1, e2, fun i hi => ?_⟩
  obtain ⟨⟨k, hk, a, b⟩, ⟨q, hq, c, d⟩⟩ := h i hi
  have ek : skkN x i = k := by unfold skkN; rw [b, nI_clamp (by omega)]
  have eq : seatN x i = q := by unfold seatN; rw [d, nI_clamp (by omega)]
  rw [ek, eq]
  exact ⟨⟨hk, a, b⟩, hq, c, d⟩
theorem bg_ok {x : am_X} {s : Nat} (hs : seekp x s) {w : Int64} {S : Nat → Bool} (hw : abr w S) (t : Nat) {y : am_X} (k : am_kp x y) : HC s (am_bgx y w (nI t)) (S, t, seatN x) ∧ am_kp y (am_bgx y w (nI t)) := by
  obtain ⟨s3, e1, e2, h⟩ := hs
  refine ⟨⟨hw, rfl, fun i hi => ?_⟩, (am_kp.uL.trans (am_kp.uI (by decide))).trans (am_kp.sB (by decide))⟩
  have i35 : y.1 35 = nI s := (k.i 35 (by decide)).trans e1
  have a4 : y.2.2.1 4 = x.2.2.1 4 := k.a 4 (by decide)
  obtain ⟨_, hq, a, b⟩ := h i hi
  refine ⟨?_, hq⟩
  show vp_updL (vp_updL (vp_updL (y.2.2.2 21) 0 (am_bit (am_ifs (y.1 35) (y.2.2.1 4) (0 : Int32) (-9)))) 1 (am_bit (am_ifs (y.1 35) (y.2.2.1 4) (1 : Int32) (-9)))) 2 (am_bit (am_ifs (y.1 35) (y.2.2.1 4) (2 : Int32) (-9))) i = am_bit (nI (seatN x i))
  rw [i35, a4]
  have key := ifs_at s3 hi (x.2.2.1 4) (-9)
  have : i = 0 ∨ i = 1 ∨ i = 2 := by omega
  rcases this with rfl | rfl | rfl
  · show am_bit (am_ifs (nI s) (x.2.2.1 4) (nI 0) (-9)) = _
    rw [key, a]
  · show am_bit (am_ifs (nI s) (x.2.2.1 4) (nI 1) (-9)) = _
    rw [key, a]
  · show am_bit (am_ifs (nI s) (x.2.2.1 4) (nI 2) (-9)) = _
    rw [key, a]
