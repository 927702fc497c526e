/-! garden alike -/
theorem nw_tk {lt : Nat → Nat} {a : Nat} {now m : Nat → Int32} (hN : nwP now) (h : tkN lt a now = some m) : nwP m := by
  obtain ⟨⟨h0, hh, e0⟩, c, c3, ec⟩ := hN
  have keep : ∀ j v, j ≠ 0 → j ≠ 3 → nwP (upd now j v) := fun j v j0 j3 => ⟨⟨h0, hh, by rw [upd_ne _ _ (fun d => j0 d.symm)]; exact e0⟩, c, c3, by rw [upd_ne _ _ (fun d => j3 d.symm)]; exact ec⟩
  have lay : ∀ k p q, tkL now k p q = some m → nwP m := by
    intro k p q h
    unfold tkL at h
    by_cases d : q < 36 ∧ p ≤ q ∧ ¬ (k = 1 ∧ p ≤ (now 0).toNatClampNeg ∧ (now 0).toNatClampNeg ≤ q)
    · rw [if_pos d] at h
      cases h
      exact ⟨⟨h0, hh, by unfold layF; rw [if_neg (by omega)]; exact e0⟩, c, c3, by unfold layF; rw [if_neg (by omega)]; exact ec⟩
    · rw [if_neg d] at h; cases h
  unfold tkN at h
  by_cases a1 : lt a = 107
  · rw [if_pos a1] at h; exact lay _ _ _ h
  rw [if_neg a1] at h
  by_cases a2 : lt a = 118
  · rw [if_pos a2] at h; exact lay _ _ _ h
  rw [if_neg a2] at h
  by_cases a3 : lt a = 104
  · rw [if_pos a3] at h
    by_cases d : prN lt (a + 1) < 36 ∧ ¬ now (20 + prN lt (a + 1)) = 1
    · rw [if_pos d] at h; cases h
      exact ⟨⟨_, d.1, upd_eq _ _ _⟩, c, c3, by rw [upd_ne _ _ (by decide)]; exact ec⟩
    · rw [if_neg d] at h; cases h
  rw [if_neg a3] at h
  by_cases a4 : lt a = 112
  · rw [if_pos a4] at h
    by_cases d : 0 < dgN lt (a + 1)
    · rw [if_pos d] at h; cases h; exact keep 1 _ (by decide) (by decide)
    · rw [if_neg d] at h; cases h
  rw [if_neg a4] at h
  by_cases a5 : lt a = 119
  · rw [if_pos a5] at h; cases h; exact keep 2 _ (by decide) (by decide)
  rw [if_neg a5] at h
  unfold tkS at h
  by_cases d : prN lt (a + 2) < 36 ∧ ¬ now 3 = 3
  · rw [if_pos d] at h; cases h
    have ecn : (now 3).toNatClampNeg = c := by rw [ec, nI_clamp (by omega)]
    have c4 : c ≠ 3 := fun e => d.2 (by rw [ec, e]; rfl)
    rw [ecn]
    exact ⟨⟨h0, hh, by rw [upd_ne _ _ (by decide), upd_ne _ _ (by omega), upd_ne _ _ (by omega)]; exact e0⟩, c + 1, by omega, upd_eq _ _ _⟩
  · rw [if_neg d] at h; cases h
/-- all statements, one after the other: the row at the end, and where it fell -/
def tlN (n : Nat) (lt : Nat → Nat) : Nat → (Nat → Int32) → Nat → (Nat → Int32) × Option Nat
  | 0, now, _ => (now, none)
  | f + 1, now, a => match tkN lt a now with
    | none => (now, some a)
    | some m => tlN n lt f m (stN n lt a).1
def tlA (v : Int32) : Option Nat → Int32
  | none => v
  | some b => (-2000 : Int32) - nI b
theorem st_pos {n : Nat} {lt : Nat → Nat} {a : Nat} (h : (stN n lt a).2 = true) : (stN n lt a).1 = a + 1 + (am_byt (shN (lt a))).length ∧ shN (lt a) ≠ 1000 := by
  have c : a < n ∧ shN (lt a) ≠ 1000 := by
    by_cases c : a < n ∧ shN (lt a) ≠ 1000
    · exact c
    · have : stN n lt a = (a, false) := if_neg c
      rw [this] at h; cases h
  have es : stN n lt a = foW n lt (am_byt (shN (lt a))) (a + 1, true) := if_pos c
  rw [es] at h ⊢
  exact ⟨(fo_wf n lt _ _ h).1, c.2⟩
theorem ltp_kp {x y : am_X} {n : Nat} {lt : Nat → Nat} (R : ltp x n lt) (k : am_kp x y) : ltp y n lt := ⟨R.1, (k.i 449 (by decide)).trans R.2.1, fun i hi => by rw [k.a 15 (by decide)]; exact R.2.2 i hi⟩
/-- the class: all statements -/
theorem tl_c {n : Nat} {lt : Nat → Nat} : ∀ (f a cnt F : Nat) (now : Nat → Int32) (y : am_X), chN n lt f a → f < F → cnt ≤ a → gdD y now → ltp y n lt → ∃ y', am_kp y y' ∧ L_X5_tellTo_13_5_20 F (nI cnt) (nI a) y = some (tlA (nI (cnt + f)) (tlN n lt f now a).2, y') ∧ ((tlN n lt f now a).2 = none → gdD y' (tlN n lt f now a).1) := by
  intro f
  induction f with
  | zero =>
    intro a cnt F now y h hF hc g R
    obtain ⟨F1, rfl⟩ : ∃ F1, F = F1 + 1 := ⟨F - 1, by omega⟩
    have ea : a = n := h
    refine ⟨y, am_kp.rfl, ?_, fun _ => g⟩
    rw [L_X5_tellTo_13_5_20, R.2.1, ea, if_pos (by rw [ii_le]; exact Int.le_refl _)]
    rfl
  | succ f ih =>
    intro a cnt F now y h hF hc g R
    obtain ⟨F1, rfl⟩ : ∃ F1, F = F1 + 1 := ⟨F - 1, by omega⟩
    obtain ⟨ha, hok, hch⟩ := h
    have n96 := R.1
    have W := wf_ok (fun h => (R.2.2 a h).1) hok
    obtain ⟨y1, h1, k1, g1⟩ := co_c R W g
    have l1 : ¬ nI n ≤ nI a := nI_ge ha (by omega)
    have l2 : ¬ (96 : Int32) ≤ nI cnt := nI_ge (b := 96) (by omega) (by decide)
    rw [L_X5_tellTo_13_5_20, R.2.1, if_neg l1, if_neg l2, h1]; dsimp only
    unfold tlN
    cases e : tkN lt a now with
    | none =>
      rw [if_pos (show b01 (none : Option (Nat → Int32)).isSome = 0 from rfl)]
      exact ⟨y1, k1, rfl, fun h => by cases h⟩
    | some m =>
      have R1 := ltp_kp R k1
      obtain ⟨p1, p2⟩ := st_pos hok
      obtain ⟨s0, s8, _, sl⟩ := okS_ge (okS_sh _ p2)
      rw [if_neg (show ¬ b01 (some m).isSome = 0 from (by decide : ¬ (1 : Int32) = 0)), R1.2.1, nat14_at n96 ha, (R1.2.2 a ha).2, sb_ok (R1.2.2 a ha).1]; dsimp only
      have es : nI a + ((1 : Int32) + nI (am_byt (shN (lt a))).length) = nI (stN n lt a).1 := by
        rw [p1, show (1 : Int32) + nI (am_byt (shN (lt a))).length = nI (1 + (am_byt (shN (lt a))).length) from nI_add 1 _, nI_add]
        congr 1
        omega
      rw [if_pos ⟨s0, s8⟩, es, nI_1]
      obtain ⟨y2, k2, h2, g2⟩ := ih (stN n lt a).1 (cnt + 1) F1 m y1 hch (by omega) (by omega) (g1 m e) R1
      refine ⟨y2, k1.trans k2, ?_, g2⟩
      rw [h2]
      have : cnt + 1 + f = cnt + (f + 1) := by omega
      rw [this]
section
variable {x : am_X} {n : Nat} {lt : Nat → Nat}
/-- the reference: the first reading -/
theorem r12_ch (R : RPn x n lt) {now : Nat → Int32} : ∀ (f a v F : Nat) (s : Int32) (g : Nat → Int32), chN n lt (f + 1) a → f < F → ∃ s' g', L_X8_read_12 F (nI v) (rx x now a true s g) = some (nI (v + (f + 1)), rx x now n true s' g') := by
  intro f
  induction f with
  | zero =>
    intro a v F s g h hF
    obtain ⟨F1, rfl⟩ : ∃ F1, F = F1 + 1 := ⟨F - 1, by omega⟩
    obtain ⟨ha, hok, hn⟩ := h
    have hn' : (stN n lt a).1 = n := hn
    obtain ⟨s', g', h1, _⟩ := sta_ok (now := now) (f := g) (s := s) R (Nat.le_of_lt ha)
    refine ⟨s', g', ?_⟩
    rw [L_X8_read_12, h1]; dsimp only
    rw [hok, hn', if_neg (show ¬ (rx x now n true s' g').1 871 = 0 from show ¬ b01 true = 0 by decide), if_neg (show ¬ (rx x now n true s' g').1 870 < (rx x now n true s' g').1 869 by
      show ¬ nI n < x.1 869
      rw [R.2.1, ii_lt]; omega), nI_1]
  | succ f ih =>
    intro a v F s g h hF
    obtain ⟨F1, rfl⟩ : ∃ F1, F = F1 + 1 := ⟨F - 1, by omega⟩
    obtain ⟨ha, hok, hn⟩ := h
    have ha2 : (stN n lt a).1 < n := hn.1
    have n96 := R.1
    obtain ⟨s', g', h1, _⟩ := sta_ok (now := now) (f := g) (s := s) R (Nat.le_of_lt ha)
    obtain ⟨s2, g2, h2⟩ := ih (stN n lt a).1 (v + 1) F1 s' g' hn (by omega)
    refine ⟨s2, g2, ?_⟩
    rw [L_X8_read_12, h1]; dsimp only
    rw [hok, if_neg (show ¬ (rx x now (stN n lt a).1 true s' g').1 871 = 0 from show ¬ b01 true = 0 by decide), if_pos (show (rx x now (stN n lt a).1 true s' g').1 870 < (rx x now (stN n lt a).1 true s' g').1 869 by
      show nI (stN n lt a).1 < x.1 869
      rw [R.2.1]; exact nI_lt ha2 (by omega)), nI_1, h2]
    have : v + 1 + (f + 1) = v + (f + 1 + 1) := by omega
    rw [this]
theorem r12_fl (R : RPn x n lt) {now : Nat → Int32} : ∀ (f a b v F : Nat) (s : Int32) (g : Nat → Int32), a ≤ n → flN n lt f a b → f < F → ∃ u s' g', L_X8_read_12 F (nI v) (rx x now a true s g) = some (u, rx x now b false s' g') := by
  intro f
  induction f with
  | zero =>
    intro a b v F s g ha h hF
    obtain ⟨F1, rfl⟩ : ∃ F1, F = F1 + 1 := ⟨F - 1, by omega⟩
    obtain ⟨hno, hb⟩ := h
    obtain ⟨s', g', h1, _⟩ := sta_ok (now := now) (f := g) (s := s) R ha
    refine ⟨nI v + 1, s', g', ?_⟩
    rw [L_X8_read_12, h1]; dsimp only
    rw [hno, hb, if_pos (show (rx x now b false s' g').1 871 = 0 from rfl)]
  | succ f ih =>
    intro a b v F s g _ h hF
    obtain ⟨F1, rfl⟩ : ∃ F1, F = F1 + 1 := ⟨F - 1, by omega⟩
    obtain ⟨ha, hok, ha2, hn⟩ := h
    have n96 := R.1
    obtain ⟨s', g', h1, _⟩ := sta_ok (now := now) (f := g) (s := s) R (Nat.le_of_lt ha)
    obtain ⟨u, s2, g2, h2⟩ := ih (stN n lt a).1 b (v + 1) F1 s' g' (Nat.le_of_lt ha2) hn (by omega)
    refine ⟨u, s2, g2, ?_⟩
    rw [L_X8_read_12, h1]; dsimp only
    rw [hok, if_neg (show ¬ (rx x now (stN n lt a).1 true s' g').1 871 = 0 from show ¬ b01 true = 0 by decide), if_pos (show (rx x now (stN n lt a).1 true s' g').1 870 < (rx x now (stN n lt a).1 true s' g').1 869 by
      show nI (stN n lt a).1 < x.1 869
      rw [R.2.1]; exact nI_lt ha2 (by omega)), nI_1, h2]
/-- the reference: all statements -/
theorem r69 (R : RPn x n lt) (v : Int32) : ∀ (f a F : Nat) (now : Nat → Int32) (s : Int32) (g : Nat → Int32), chN n lt f a → f < F → nwP now → ∃ b w s' g' m, L_X8_read_69 F v (rx x now a true s g) = some (tlA v (tlN n lt f now a).2, rx x m b w s' g') ∧ ((tlN n lt f now a).2 = none → m = (tlN n lt f now a).1) ∧ ((tlN n lt f now a).2 ≠ none → ∀ k, k < 56 → m k = x.2.2.1 36 k) := by
  intro f
  induction f with
  | zero =>
    intro a F now s g h hF hN
    obtain ⟨F1, rfl⟩ : ∃ F1, F = F1 + 1 := ⟨F - 1, by omega⟩
    have ea : a = n := h
    refine ⟨a, true, s, g, now, ?_, fun _ => rfl, fun c => absurd rfl c⟩
    rw [L_X8_read_69, if_pos (show (rx x now a true s g).1 869 ≤ (rx x now a true s g).1 870 by
      show x.1 869 ≤ nI a
      rw [R.2.1, ea, ii_le]; exact Int.le_refl _)]
    rfl
  | succ f ih =>
    intro a F now s g h hF hN
    obtain ⟨F1, rfl⟩ : ∃ F1, F = F1 + 1 := ⟨F - 1, by omega⟩
    obtain ⟨ha, hok, hch⟩ := h
    have n96 := R.1
    have W := wf_ok (fun h => (R.2.2.1 a h).1) hok
    obtain ⟨s', g', h1, hFI⟩ := sta_ok (now := now) (f := g) (s := s) R (Nat.le_of_lt ha)
    obtain ⟨m, h2, hm⟩ := tk_ok (x := x) (now := now) (w := (stN n lt a).2) hN W (b := (stN n lt a).1) (hFI hok)
    rw [L_X8_read_69, if_neg (show ¬ (rx x now a true s g).1 869 ≤ (rx x now a true s g).1 870 by
      show ¬ x.1 869 ≤ nI a
      rw [R.2.1]; exact nI_ge ha (by omega)), h1]; dsimp only
    rw [h2]; dsimp only
    unfold tlN
    cases e : tkN lt a now with
    | none =>
      obtain ⟨q, hq, hmv⟩ := mv_36_29 (rx x m (stN n lt a).1 (stN n lt a).2 s' g')
      refine ⟨(stN n lt a).1, (stN n lt a).2, s', g', q, ?_, (fun h => by cases h), fun _ k hk => hq k hk⟩
      rw [if_pos (show b01 (none : Option (Nat → Int32)).isSome = 0 from rfl), hmv]; dsimp only
      rw [rx_29]
      rfl
    | some m' =>
      have em := hm m' e
      subst em
      obtain ⟨b, w, s2, g2, q, h3, h4, h5⟩ := ih (stN n lt a).1 F1 m s' g' hch (by omega) (nw_tk hN e)
      refine ⟨b, w, s2, g2, q, ?_, h4, h5⟩
      rw [if_neg (show ¬ b01 (some m).isSome = 0 from (by decide : ¬ (1 : Int32) = 0)), hok, h3]
theorem rx_36 {now f g : Nat → Int32} {a : Nat} {w : Bool} {s : Int32} : am_sA (rx x now a w s f) 36 g = rx (am_sA x 36 g) now a w s f := by
  show am_uI (am_uI (am_uI (am_sA (am_sA (am_sA x 29 now) 35 f) 36 g) 875 s) 871 (b01 w)) 870 (nI a) = _
  rw [am_sAc (show (35 : Nat) ≠ 36 by decide), am_sAc (show (29 : Nat) ≠ 36 by decide)]
  rfl
theorem rx_in : rx x (x.2.2.1 29) 0 true (x.1 875) (x.2.2.1 35) = am_uI (am_uI x 870 0) 871 1 := by
  have h1 : am_sA (am_sA x 29 (x.2.2.1 29)) 35 (x.2.2.1 35) = x := by rw [am_sA_self, am_sA_self]
  show am_uI (am_uI (am_uI (am_sA (am_sA x 29 (x.2.2.1 29)) 35 (x.2.2.1 35)) 875 (x.1 875)) 871 1) 870 0 = _
  rw [h1, am_uI_self, am_uIc (show (871 : Nat) ≠ 870 by decide)]
/-- the reference's garden -/
theorem ga_ref (R : RPn x n lt) (hN : nwP (x.2.2.1 29)) : (∀ f, chN n lt (f + 1) 0 → ∃ x' b w s' g' m, (∃ q, x' = am_sA x 36 q) ∧ G_X8_read x = some (tlA (nI (f + 1)) (tlN n lt (f + 1) (x.2.2.1 29) 0).2, rx x' m b w s' g') ∧ ((tlN n lt (f + 1) (x.2.2.1 29) 0).2 = none → m = (tlN n lt (f + 1) (x.2.2.1 29) 0).1) ∧ ((tlN n lt (f + 1) (x.2.2.1 29) 0).2 ≠ none → ∀ k, k < 56 → m k = x.2.2.1 29 k)) ∧ ∀ f b, flN n lt f 0 b → ∃ s' g', G_X8_read x = some ((-1000 : Int32) - nI b, rx x (x.2.2.1 29) b false s' g') := by
  have n96 := R.1
  refine ⟨fun f h => ?_, fun f b h => ?_⟩
  · have hl := ch_len _ _ h
    obtain ⟨s1, g1, h1⟩ := r12_ch R (now := x.2.2.1 29) f 0 0 1000 (x.1 875) (x.2.2.1 35) h (by omega)
    obtain ⟨q, hq, hmv⟩ := mv_29_36 (rx x (x.2.2.1 29) 0 true s1 g1)
    have R' : RPn (am_sA x 36 q) n lt := R
    obtain ⟨b, w, s2, g2, m, h2, h3, h4⟩ := r69 R' (nI (f + 1)) (f + 1) 0 1000 (x.2.2.1 29) s1 g1 h (by omega) hN
    refine ⟨am_sA x 36 q, b, w, s2, g2, m, ⟨q, rfl⟩, ?_, h3, fun c k hk => ?_⟩
    · unfold G_X8_read
      rw [← rx_in, show (0 : Int32) = nI 0 from rfl, h1]; dsimp only
      rw [Nat.zero_add, if_neg (show ¬ (rx x (x.2.2.1 29) n true s1 g1).1 871 = nI 0 from show ¬ b01 true = 0 by decide), rx_870, hmv]; dsimp only
      rw [rx_36, h2]
    · rw [h4 c k hk]
      exact hq k hk
  · have hl := fl_len _ _ _ (Nat.zero_le _) h
    obtain ⟨u, s1, g1, h1⟩ := r12_fl R (now := x.2.2.1 29) f 0 b 0 1000 (x.1 875) (x.2.2.1 35) (Nat.zero_le _) h (by omega)
    refine ⟨s1, g1, ?_⟩
    unfold G_X8_read
    rw [← rx_in, show (0 : Int32) = nI 0 from rfl, h1]; dsimp only
    rw [if_pos (show (rx x (x.2.2.1 29) b false s1 g1).1 871 = nI 0 from rfl)]
    rfl
end
theorem bec5_kp (x : am_X) : am_kp x (am_bec_5_1 x) := ((((((am_kp.sB (by decide)).trans (am_kp.sA (by decide))).trans (am_kp.sA (by decide))).trans (am_kp.uI (by decide))).trans (am_kp.uI (by decide))).trans (am_kp.uI (by decide))).trans (am_kp.uI (by decide))
theorem neg_a : ∀ b, b < 97 → ((-1000 : Int32) - nI b ≤ 0 ∧ (-2000 : Int32) - nI b ≤ 0) := by decide +kernel
theorem rp_of {x y : am_X} (hI : am_Iv x) {n : Nat} {lt : Nat → Nat} (n96 : n ≤ 96) (e : y.1 869 = nI n) (h31 : ∀ i, i < n → lt i < 256 ∧ y.2.2.1 31 i = nI (lt i)) (c1 : y.2.2.1 32 = x.2.2.1 32) (c2 : y.2.2.1 33 = x.2.2.1 33) (c3 : y.2.2.1 34 = x.2.2.1 34) : RPn y n lt := by
  refine ⟨n96, e, h31, fun k hk => ?_, fun k hk => ?_, fun k hk => ?_⟩
  · obtain ⟨a0, a1, a2, a3, a4, a5⟩ := hI.cb
    rw [c1]
    have : k = 0 ∨ k = 1 ∨ k = 2 ∨ k = 3 ∨ k = 4 ∨ k = 5 := by omega
    rcases this with rfl | rfl | rfl | rfl | rfl | rfl
    · exact a0
    · exact a1
    · exact a2
    · exact a3
    · exact a4
    · exact a5
  · obtain ⟨a0, a1, a2, a3, a4, a5⟩ := hI.ck
    rw [c2]
    have : k = 0 ∨ k = 1 ∨ k = 2 ∨ k = 3 ∨ k = 4 ∨ k = 5 := by omega
    rcases this with rfl | rfl | rfl | rfl | rfl | rfl
    · exact a0
    · exact a1
    · exact a2
    · exact a3
    · exact a4
    · exact a5
  · obtain ⟨a0, a1, a2, a3, a4⟩ := hI.cs
    rw [c3]
    have : k = 0 ∨ k = 1 ∨ k = 2 ∨ k = 3 ∨ k = 4 := by omega
    rcases this with rfl | rfl | rfl | rfl | rfl
    · exact a0
    · exact a1
    · exact a2
    · exact a3
    · exact a4
theorem ok_garden : am_ok (fun x => G_X7_garden x) (fun x => G_X8_garden x) := by
  intro x hI
  show ∃ r y z, G_X7_garden x = some (r, y) ∧ G_X8_garden y = some (r, z) ∧ am_Iv z
  obtain ⟨n, n96, e1, e2, hl⟩ := hI.ltr
  have hlt : ∀ i, i < n → (x.2.2.1 31 i).toNatClampNeg < 256 ∧ x.2.2.1 15 i = nI (x.2.2.1 31 i).toNatClampNeg ∧ x.2.2.1 31 i = nI (x.2.2.1 31 i).toNatClampNeg := fun i hi => by
    obtain ⟨c, hc, a, b⟩ := hl i hi
    have : (x.2.2.1 31 i).toNatClampNeg = c := by rw [b, nI_clamp (by omega)]
    rw [this]
    exact ⟨hc, a, b⟩
  generalize elt : (fun i => (x.2.2.1 31 i).toNatClampNeg) = lt at *
  have hlt' : ∀ i, i < n → lt i < 256 ∧ x.2.2.1 15 i = nI (lt i) ∧ x.2.2.1 31 i = nI (lt i) := fun i hi => by rw [← elt]; exact hlt i hi
  have k5 := bec5_kp x
  have R5 : ltp (am_bec_5_1 x) n lt := ⟨n96, e1, fun i hi => ⟨(hlt' i hi).1, (hlt' i hi).2.1⟩⟩
  have g5 : gdD (am_bec_5_1 x) (x.2.2.1 29) := gd_congr hI.g (fun k hk => cpyB _ _ hk) (fun k hk => cpyA _ _ hk) (fun k hk => cpyA _ _ hk) (fun k _ => rfl)
  have hN : nwP (x.2.2.1 29) := nw_of hI.g
  have pre : n = 0 ∨ 0 < n := by omega
  have alt : (∃ f, chN n lt (f + 1) 0) ∨ ∃ f b, flN n lt f 0 b := by
    rcases pre with h0 | h0
    · exact Or.inr ⟨0, 0, by
        have : stN n lt 0 = (0, false) := if_neg (fun c => by omega)
        exact ⟨by rw [this], by rw [this]⟩⟩
    · exact ch_or n lt n 0 (by omega) h0
  rcases alt with ⟨f, hf⟩ | ⟨f, b, hf⟩
  · have hlen := ch_len _ _ hf
    obtain ⟨y, ky, hy, gy⟩ := tl_c (f + 1) 0 0 1000 (x.2.2.1 29) (am_bec_5_1 x) hf (by omega) (Nat.le_refl _) g5 R5
    rw [Nat.zero_add] at hy
    have kxy := k5.trans ky
    have hIy := hI.kp kxy
    have hT : G_X5_tellTo_13_5 (am_bec_5_1 x) = some (tlA (nI (f + 1)) (tlN n lt (f + 1) (x.2.2.1 29) 0).2, y) := by
      unfold G_X5_tellTo_13_5
      rw [mf_ch R5 hf]; dsimp only
      rw [if_pos (by decide)]
      exact hy
    cases et : (tlN n lt (f + 1) (x.2.2.1 29) 0).2 with
    | none =>
      rw [et] at hT
      have gm := gy et
      have np : ¬ nI (f + 1) ≤ (0 : Int32) := nI_ge (a := 0) (by omega) (by omega)
      have hC : G_X7_garden x = some (nI (f + 1), am_bec_1_5 (am_uI y 449 0)) := by
        unfold G_X7_garden
        rw [hT]; dsimp only [tlA]
        rw [if_neg np]
      have y29 : (am_bec_1_5 (am_uI y 449 0)).2.2.1 29 = x.2.2.1 29 := kxy.a 29 (by decide)
      have RP : RPn (am_bec_1_5 (am_uI y 449 0)) n lt := rp_of hI n96 ((kxy.i 869 (by decide)).trans e2) (fun i hi => ⟨(hlt' i hi).1, by
        show y.2.2.1 31 i = _
        rw [kxy.a 31 (by decide)]; exact (hlt' i hi).2.2⟩) (kxy.a 32 (by decide)) (kxy.a 33 (by decide)) (kxy.a 34 (by decide))
      obtain ⟨x', b, w, s', g', m, ⟨q, rfl⟩, h1, h2, _⟩ := (ga_ref RP (by rw [y29]; exact hN)).1 f hf
      rw [y29, et] at h1 h2
      have em := h2 rfl
      refine ⟨nI (f + 1), am_bec_1_5 (am_uI y 449 0), am_uI (rx (am_sA (am_bec_1_5 (am_uI y 449 0)) 36 q) m b w s' g') 869 0, hC, ?_, ?_⟩
      · unfold G_X8_garden
        rw [h1]
        rfl
      · obtain ⟨g, im, ltr, row, ref, hel, cb, ck, cs⟩ := hIy
        refine ⟨?_, im, ⟨0, by omega, rfl, rfl, fun i hi => by omega⟩, row, ref, hel, cb, ck, cs⟩
        rw [em] 
        exact gd_congr gm (fun k hk => cpyB _ _ hk) (fun k hk => cpyA _ _ hk) (fun k hk => cpyA _ _ hk) (fun k _ => rfl)
    | some b0 =>
      rw [et] at hT
      have hb0 : (-2000 : Int32) - nI b0 ≤ 0 := by
        by_cases d : b0 < 97
        · exact (neg_a b0 d).2
        · exact absurd et (by
            have key : ∀ (f a : Nat) (now : Nat → Int32), chN n lt f a → ∀ b, (tlN n lt f now a).2 = some b → b < 97 := by
              intro f
              induction f with
              | zero => intro a now _ b h; cases h
              | succ f ih =>
                intro a now h b hb
                unfold tlN at hb
                cases e : tkN lt a now with
                | none => rw [e] at hb; cases hb; have := h.1; omega
                | some m => rw [e] at hb; exact ih _ m h.2.2 b hb
            intro h
            exact d (key _ _ _ hf b0 h))
      have hC : G_X7_garden x = some ((-2000 : Int32) - nI b0, am_uI y 449 0) := by
        unfold G_X7_garden
        rw [hT]; dsimp only [tlA]
        rw [if_pos hb0]
      have y29 : (am_uI y 449 0).2.2.1 29 = x.2.2.1 29 := kxy.a 29 (by decide)
      have RP : RPn (am_uI y 449 0) n lt := rp_of hI n96 ((kxy.i 869 (by decide)).trans e2) (fun i hi => ⟨(hlt' i hi).1, by
        show y.2.2.1 31 i = _
        rw [kxy.a 31 (by decide)]; exact (hlt' i hi).2.2⟩) (kxy.a 32 (by decide)) (kxy.a 33 (by decide)) (kxy.a 34 (by decide))
      obtain ⟨x', b, w, s', g', m, ⟨q, rfl⟩, h1, _, h3⟩ := (ga_ref RP (by rw [y29]; exact hN)).1 f hf
      rw [y29, et] at h1 h3
      have em := h3 (by intro h; cases h)
      refine ⟨(-2000 : Int32) - nI b0, am_uI y 449 0, am_uI (rx (am_sA (am_uI y 449 0) 36 q) m b w s' g') 869 0, hC, ?_, ?_⟩
      · unfold G_X8_garden
        rw [h1]
        rfl
      · obtain ⟨g, im, ltr, row, ref, hel, cb, ck, cs⟩ := hIy
        refine ⟨?_, im, ⟨0, by omega, rfl, rfl, fun i hi => by omega⟩, row, ref, hel, cb, ck, cs⟩
        refine gd_congr g (fun k _ => rfl) (fun k _ => rfl) (fun k _ => rfl) (fun k hk => ?_)
        show m k = y.2.2.1 29 k
        rw [em k hk, kxy.a 29 (by decide)]
  · have hlen := fl_len _ _ _ (Nat.zero_le _) hf
    have hIy := hI.kp k5
    have hT : G_X5_tellTo_13_5 (am_bec_5_1 x) = some ((-1000 : Int32) - nI b, am_bec_5_1 x) := by
      unfold G_X5_tellTo_13_5
      rw [mf_fl R5 hf]; dsimp only
      rw [if_neg (nI_pos (by omega))]
    have hC : G_X7_garden x = some ((-1000 : Int32) - nI b, am_uI (am_bec_5_1 x) 449 0) := by
      unfold G_X7_garden
      rw [hT]; dsimp only
      rw [if_pos (neg_a b (by omega)).1]
    have RP : RPn (am_uI (am_bec_5_1 x) 449 0) n lt := rp_of hI n96 e2 (fun i hi => ⟨(hlt' i hi).1, (hlt' i hi).2.2⟩) rfl rfl rfl
    obtain ⟨s', g', h1⟩ := (ga_ref RP hN).2 f b hf
    refine ⟨(-1000 : Int32) - nI b, am_uI (am_bec_5_1 x) 449 0, am_uI (rx (am_uI (am_bec_5_1 x) 449 0) ((am_uI (am_bec_5_1 x) 449 0).2.2.1 29) b false s' g') 869 0, hC, ?_, ?_⟩
    · unfold G_X8_garden
      rw [h1]
    · obtain ⟨g, im, ltr, row, ref, hel, cb, ck, cs⟩ := hIy
      exact ⟨g, im, ⟨0, by omega, rfl, rfl, fun i hi => by omega⟩, row, ref, hel, cb, ck, cs⟩
