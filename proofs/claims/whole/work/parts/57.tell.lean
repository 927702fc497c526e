/-! A GARDEN is told: the letters' shapes in numbers; the class' first reading -/
def lkN : List Nat := [108, 104, 103, 115, 98, 114]
def lsN : List Nat := [102, 110, 109, 101, 97]
def lbN : List Nat := [107, 118, 104, 112, 119, 115]
def ixN : List Nat → Nat → Nat
  | [], _ => 0
  | b :: l, c => if c = b then 0 else ixN l c + 1
def fitN (s c : Nat) : Bool := if s = 68 then decide (48 ≤ c ∧ c ≤ 57) else if s = 75 then decide (ixN lkN c < 6) else if s = 83 then decide (ixN lsN c < 5) else decide (c = s)
def shN (c : Nat) : Nat := if c = 107 then 1001 else if c = 118 then 1002 else if c = 104 then 1003 else if c = 112 then 1004 else if c = 119 then 1004 else if c = 115 then 1005 else 1000
def shC (a : Int32) : Nat := (if a = 104 then 1003 else (if a = 105 then 1000 else (if a = 106 then 1000 else (if a = 107 then 1001 else (if a = 108 then 1000 else (if a = 109 then 1000 else (if a = 110 then 1000 else (if a = 111 then 1000 else (if a = 112 then 1004 else (if a = 113 then 1000 else (if a = 114 then 1000 else (if a = 115 then 1005 else (if a = 116 then 1000 else (if a = 117 then 1000 else (if a = 118 then 1002 else (if a = 119 then 1004 else 1000))))))))))))))))
theorem ite_som {c : Prop} [Decidable c] {u v : Nat} {x : am_X} {E : Option (Nat × am_X)} (h : E = some (v, x)) : (if c then some (u, x) else E) = some (if c then u else v, x) := by
  by_cases k : c
  · rw [if_pos k, if_pos k]
  · rw [if_neg k, if_neg k, h]
theorem sb_ok {c : Nat} (hc : c < 256) (x : am_X) : G_X5_shapeBehind (nI c) x = some (shN c, x) := by
  have h1 : G_X5_shapeBehind (nI c) x = some (shC (nI c), x) := by
    unfold G_X5_shapeBehind shC
    repeat (refine ite_som ?_)
    rfl
  have h2 : ∀ c, c < 256 → shC (nI c) = shN c := by decide +kernel
  rw [h1, h2 c hc]
def fitE (a b : Int32) : Int32 := (if b = 68 then (if a < 48 then (0 : Int32) else (if (57 : Int32) < a then (0 : Int32) else (1 : Int32))) else (if b = 75 then (if (am_idx ((a.toUInt32 % 65536).toInt32) (am_byt 1006) 0) < 0 then (0 : Int32) else (1 : Int32)) else (if b = 83 then (if (am_idx ((a.toUInt32 % 65536).toInt32) (am_byt 1007) 0) < 0 then (0 : Int32) else (1 : Int32)) else (if a = b then (1 : Int32) else (0 : Int32)))))
theorem ft_ok {c s : Nat} (hc : c < 256) (hs : s = 68 ∨ s = 75 ∨ s = 83 ∨ s = 59) (x : am_X) : G_X5_fits (nI c) (nI s) x = some (b01 (fitN s c), x) := by
  have h1 : G_X5_fits (nI c) (nI s) x = some (fitE (nI c) (nI s), x) := by
    unfold G_X5_fits fitE
    repeat' split
    all_goals rfl
  have a1 : ∀ c, c < 256 → fitE (nI c) (nI 68) = b01 (fitN 68 c) := by decide +kernel
  have a2 : ∀ c, c < 256 → fitE (nI c) (nI 75) = b01 (fitN 75 c) := by decide +kernel
  have a3 : ∀ c, c < 256 → fitE (nI c) (nI 83) = b01 (fitN 83 c) := by decide +kernel
  have a4 : ∀ c, c < 256 → fitE (nI c) (nI 59) = b01 (fitN 59 c) := by decide +kernel
  rw [h1]
  rcases hs with rfl | rfl | rfl | rfl
  · rw [a1 c hc]
  · rw [a2 c hc]
  · rw [a3 c hc]
  · rw [a4 c hc]
theorem byt_1 : am_byt 1001 = [75, 68, 68, 59] := by decide +kernel
theorem byt_2 : am_byt 1002 = [75, 68, 68, 68, 68, 59] := by decide +kernel
theorem byt_3 : am_byt 1003 = [68, 68, 59] := by decide +kernel
theorem byt_4 : am_byt 1004 = [68, 59] := by decide +kernel
theorem byt_5 : am_byt 1005 = [83, 68, 68, 59] := by decide +kernel
theorem byt_0 : am_byt 1000 = [] := by decide +kernel
/-- one sign more: where it stands, whether it is well -/
def stepW (n : Nat) (lt : Nat → Nat) (s : Nat) (p : Nat × Bool) : Nat × Bool := if p.2 = true ∧ p.1 < n ∧ fitN s (lt p.1) = true then (p.1 + 1, true) else (p.1, false)
def foW (n : Nat) (lt : Nat → Nat) : List Nat → Nat × Bool → Nat × Bool
  | [], p => p
  | s :: l, p => foW n lt l (stepW n lt s p)
theorem st_y {n : Nat} {lt : Nat → Nat} {s b : Nat} (h : b < n) (f : fitN s (lt b) = true) : stepW n lt s (b, true) = (b + 1, true) := if_pos ⟨rfl, h, f⟩
theorem st_n {n : Nat} {lt : Nat → Nat} {s b : Nat} {w : Bool} (h : ¬ (w = true ∧ b < n ∧ fitN s (lt b) = true)) : stepW n lt s (b, w) = (b, false) := if_neg h
theorem fo_f (n : Nat) (lt : Nat → Nat) : ∀ (l : List Nat) (b : Nat), foW n lt l (b, false) = (b, false)
  | [], _ => rfl
  | s :: l, b => by
    have : stepW n lt s (b, false) = (b, false) := if_neg (fun c => by cases c.1)
    rw [foW, this, fo_f n lt l b]
theorem fo_le (n : Nat) (lt : Nat → Nat) : ∀ (l : List Nat) (p : Nat × Bool), p.1 ≤ n → p.1 ≤ (foW n lt l p).1 ∧ (foW n lt l p).1 ≤ n
  | [], p, h => ⟨Nat.le_refl _, h⟩
  | s :: l, p, h => by
    rw [foW]
    unfold stepW
    by_cases c : p.2 = true ∧ p.1 < n ∧ fitN s (lt p.1) = true
    · rw [if_pos c]
      have := fo_le n lt l (p.1 + 1, true) (by show p.1 + 1 ≤ n; omega)
      exact ⟨by have := this.1; simp only at this; omega, this.2⟩
    · rw [if_neg c]
      exact fo_le n lt l (p.1, false) h
/-- a statement from a on -/
def stN (n : Nat) (lt : Nat → Nat) (a : Nat) : Nat × Bool := if a < n ∧ shN (lt a) ≠ 1000 then foW n lt (am_byt (shN (lt a))) (a + 1, true) else (a, false)
theorem st_le {n : Nat} {lt : Nat → Nat} {a : Nat} (h : a ≤ n) : a ≤ (stN n lt a).1 ∧ (stN n lt a).1 ≤ n ∧ ((stN n lt a).2 = true → a < (stN n lt a).1) := by
  unfold stN
  by_cases c : a < n ∧ shN (lt a) ≠ 1000
  · rw [if_pos c]
    have := fo_le n lt (am_byt (shN (lt a))) (a + 1, true) (by show a + 1 ≤ n; omega)
    simp only at this
    exact ⟨by omega, this.2, fun _ => by omega⟩
  · rw [if_neg c]
    exact ⟨Nat.le_refl _, h, fun e => by cases e⟩
/-- f statements, and no more -/
def chN (n : Nat) (lt : Nat → Nat) : Nat → Nat → Prop
  | 0, a => a = n
  | f + 1, a => a < n ∧ (stN n lt a).2 = true ∧ chN n lt f (stN n lt a).1
/-- f statements, then what is none, at b -/
def flN (n : Nat) (lt : Nat → Nat) : Nat → Nat → Nat → Prop
  | 0, a, b => (stN n lt a).2 = false ∧ (stN n lt a).1 = b
  | f + 1, a, b => a < n ∧ (stN n lt a).2 = true ∧ (stN n lt a).1 < n ∧ flN n lt f (stN n lt a).1 b
theorem ch_or (n : Nat) (lt : Nat → Nat) : ∀ (m a : Nat), n - a ≤ m → a < n → (∃ f, chN n lt (f + 1) a) ∨ ∃ f b, flN n lt f a b := by
  intro m
  induction m with
  | zero => intro a h1 h2; omega
  | succ m ih =>
    intro a h1 h2
    obtain ⟨l1, l2, l3⟩ := st_le (lt := lt) (Nat.le_of_lt h2)
    cases e : (stN n lt a).2
    · exact Or.inr ⟨0, _, e, rfl⟩
    · have := l3 e
      by_cases d : (stN n lt a).1 = n
      · exact Or.inl ⟨0, h2, e, d⟩
      · rcases ih (stN n lt a).1 (by omega) (by omega) with ⟨f, h⟩ | ⟨f, b, h⟩
        · exact Or.inl ⟨f + 1, h2, e, h⟩
        · exact Or.inr ⟨f + 1, b, h2, e, by omega, h⟩
theorem ch_len {n : Nat} {lt : Nat → Nat} : ∀ (f a : Nat), chN n lt f a → f + a ≤ n
  | 0, a, h => by rw [chN] at h; omega
  | f + 1, a, h => by
    obtain ⟨h1, h2, h3⟩ := h
    have := ch_len f _ h3
    have := (st_le (lt := lt) (Nat.le_of_lt h1)).2.2 h2
    omega
theorem fl_len {n : Nat} {lt : Nat → Nat} : ∀ (f a b : Nat), a ≤ n → flN n lt f a b → f + a ≤ n ∧ b ≤ n
  | 0, a, b, ha, h => by
    have := (st_le (lt := lt) ha).2.1
    rw [h.2] at this
    exact ⟨by omega, this⟩
  | f + 1, a, b, ha, h => by
    obtain ⟨h1, h2, h3, h4⟩ := h
    have := fl_len f _ b (Nat.le_of_lt h3) h4
    have := (st_le (lt := lt) ha).2.2 h2
    omega
def ltp (x : am_X) (n : Nat) (lt : Nat → Nat) : Prop := n ≤ 96 ∧ x.1 449 = nI n ∧ ∀ i, i < n → lt i < 256 ∧ x.2.2.1 15 i = nI (lt i)
theorem nat14_at {n i : Nat} (hn : n ≤ 96) (hi : i < n) (f : Nat → Int32) : am_nat14 (nI n) f (nI i) = f i := by
  unfold am_nat14
  rw [if_pos (by rw [nI_toInt (by omega), nI_toInt (by omega)]; omega), nI_clamp (by omega)]
def okS (s : Nat) : Prop := s = 1001 ∨ s = 1002 ∨ s = 1003 ∨ s = 1004 ∨ s = 1005
theorem okS_sh (c : Nat) (h : shN c ≠ 1000) : okS (shN c) := by
  unfold shN at h ⊢
  unfold okS
  repeat' split
  all_goals simp_all
theorem okS_sig {s : Nat} (h : okS s) : ∀ c, c ∈ am_byt s → c = 68 ∨ c = 75 ∨ c = 83 ∨ c = 59 := by
  rcases h with rfl | rfl | rfl | rfl | rfl
  · rw [byt_1]; simp
  · rw [byt_2]; simp
  · rw [byt_3]; simp
  · rw [byt_4]; simp
  · rw [byt_5]; simp
theorem okS_ge {s : Nat} (h : okS s) : 1000 ≤ s ∧ s < 1008 ∧ s ≠ 1000 ∧ (am_byt s).length ≤ 6 := by
  rcases h with rfl | rfl | rfl | rfl | rfl
  · rw [byt_1]; simp
  · rw [byt_2]; simp
  · rw [byt_3]; simp
  · rw [byt_4]; simp
  · rw [byt_5]; simp
section
variable {x : am_X} {n : Nat} {lt : Nat → Nat}
theorem cl_in (R : ltp x n lt) {s : Nat} (hs : okS s) : ∀ (l pre : List Nat) (b F : Nat), am_byt s = pre ++ l → b ≤ n → 0 < n → l.length < F → L_X5_firstMisfit_13_7 F s (nI pre.length) (nI b) x = if (foW n lt l (b, true)).2 = true then L_X5_firstMisfit_13_7 (F - l.length) s (nI (am_byt s).length) (nI (foW n lt l (b, true)).1) x else some (nI (foW n lt l (b, true)).1, x) := by
  obtain ⟨n96, e1, hl⟩ := R
  obtain ⟨s0, s8, _, sl⟩ := okS_ge hs
  intro l
  induction l with
  | nil =>
    intro pre b F hp hb hn hF
    have : (am_byt s).length = pre.length := by rw [hp, List.append_nil]
    rw [this]
    rfl
  | cons c l ih =>
    intro pre b F hp hb hn hF
    obtain ⟨F', rfl⟩ : ∃ F', F = F' + 1 := ⟨F - 1, by omega⟩
    have len : (am_byt s).length = pre.length + (l.length + 1) := by rw [hp, List.length_append]; rfl
    have hc := okS_sig hs c (by rw [hp]; simp)
    have gd : (am_byt s).getD pre.length 0 = c := by rw [hp]; simp
    have hlen : (c :: l).length = l.length + 1 := rfl
    rw [foW]
    by_cases hbn : b < n
    · obtain ⟨l256, hv⟩ := hl b hbn
      have h1 : ¬ nI n ≤ nI b := nI_ge hbn (by omega)
      have h2 : ¬ nI (am_byt s).length ≤ nI pre.length := nI_ge (by omega) (by omega)
      have h3 : 0 ≤ (nI pre.length).toInt ∧ (nI pre.length).toInt < ((am_byt s).length : Int) := nIr (by omega) (by omega)
      have ec : am_chr s (nI pre.length) = nI c := by unfold am_chr; rw [nI_clamp (by omega), gd]
      rw [L_X5_firstMisfit_13_7, e1, if_neg h1, if_pos ⟨s0, s8⟩, if_neg h2, if_pos h3, nat14_at n96 hbn, hv, ec, ft_ok l256 hc]; dsimp only
      cases f : fitN c (lt b)
      · rw [st_n (fun d => by rw [f] at d; cases d.2.2), fo_f, if_pos (show b01 false = 0 from rfl)]
        rfl
      · rw [st_y hbn f, if_neg (show ¬ b01 true = 0 by decide), nI_1, nI_1]
        have := ih (pre ++ [c]) (b + 1) F' (by rw [hp]; simp) (by omega) hn (by rw [hlen] at hF; omega)
        rw [List.length_append] at this
        rw [show pre.length + [c].length = pre.length + 1 from rfl] at this
        rw [this, hlen, Nat.add_sub_add_right]
    · have eb : b = n := by omega
      have h1 : nI n ≤ nI b := by rw [eb, ii_le]; exact Int.le_refl _
      have n0 : ¬ nI n ≤ (0 : Int32) := nI_ge (a := 0) (by omega) (by omega)
      have ne : ¬ nI pre.length = nI (am_byt s).length := nI_nat (by omega) (by omega) (by omega)
      rw [L_X5_firstMisfit_13_7, e1, if_pos h1, if_neg n0, if_pos ⟨s0, s8⟩, if_neg ne, st_n (fun d => hbn d.2.1), fo_f, eb]
      rfl
/-- from a border between statements -/
theorem cl_st (R : ltp x n lt) {v : Nat} (hv : 1000 ≤ v ∧ v < 1008) (hv6 : (am_byt v).length ≤ 6) {a : Nat} (ha : a < n) {F : Nat} (hF : 8 ≤ F) : ∃ F', F - 7 ≤ F' ∧ L_X5_firstMisfit_13_7 F v (nI (am_byt v).length) (nI a) x = if (stN n lt a).2 = true then L_X5_firstMisfit_13_7 F' (shN (lt a)) (nI (am_byt (shN (lt a))).length) (nI (stN n lt a).1) x else some (nI (stN n lt a).1, x) := by
  have R' := R
  obtain ⟨n96, e1, hl⟩ := R
  obtain ⟨F1, rfl⟩ : ∃ F1, F = F1 + 1 := ⟨F - 1, by omega⟩
  obtain ⟨l256, hva⟩ := hl a ha
  have h1 : ¬ nI n ≤ nI a := nI_ge ha (by omega)
  have h2 : nI (am_byt v).length ≤ nI (am_byt v).length := by rw [ii_le]; exact Int.le_refl _
  have start : L_X5_firstMisfit_13_7 (F1 + 1) v (nI (am_byt v).length) (nI a) x = (if 1000 ≤ shN (lt a) ∧ shN (lt a) < 1008 then (if (am_ise (shN (lt a))) = 0 then L_X5_firstMisfit_13_7 F1 (shN (lt a)) (0 : Int32) (nI (a + 1)) x else some (nI a, x)) else none) := by
    rw [L_X5_firstMisfit_13_7, e1, if_neg h1, if_pos hv, if_pos h2, nat14_at n96 ha, hva, sb_ok l256]; dsimp only
    rw [nI_1]
  by_cases z : shN (lt a) = 1000
  · refine ⟨F1, by omega, ?_⟩
    rw [start, z, if_pos (by decide), if_neg (show ¬ am_ise 1000 = 0 by decide)]
    have : stN n lt a = (a, false) := if_neg (fun c => c.2 z)
    rw [this, if_neg (show ¬ ((a, false) : Nat × Bool).2 = true from fun e => by cases e)]
  · have hs := okS_sh _ z
    obtain ⟨s0, s8, _, sl⟩ := okS_ge hs
    have ez : am_ise (shN (lt a)) = 0 := if_neg z
    refine ⟨F1 - (am_byt (shN (lt a))).length, by omega, ?_⟩
    rw [start, if_pos ⟨s0, s8⟩, if_pos ez]
    have := cl_in R' hs (am_byt (shN (lt a))) [] (a + 1) F1 rfl (by omega) (by omega) (by omega)
    rw [show nI ([] : List Nat).length = (0 : Int32) from rfl] at this
    rw [this]
    have e : stN n lt a = foW n lt (am_byt (shN (lt a))) (a + 1, true) := if_pos ⟨ha, z⟩
    rw [e]
theorem cl_ch (R : ltp x n lt) : ∀ (f a v F : Nat), chN n lt f a → 0 < n → (1000 ≤ v ∧ v < 1008) → (am_byt v).length ≤ 6 → 8 * f + 8 ≤ F → L_X5_firstMisfit_13_7 F v (nI (am_byt v).length) (nI a) x = some (-1, x) := by
  intro f
  induction f with
  | zero =>
    intro a v F h hn hv hv6 hF
    obtain ⟨n96, e1, hl⟩ := R
    obtain ⟨F1, rfl⟩ : ∃ F1, F = F1 + 1 := ⟨F - 1, by omega⟩
    have ea : a = n := h
    have n0 : ¬ nI n ≤ (0 : Int32) := nI_ge (a := 0) (by omega) (by omega)
    rw [L_X5_firstMisfit_13_7, e1, ea, if_pos (by rw [ii_le]; exact Int.le_refl _), if_neg n0, if_pos hv, if_pos rfl]
  | succ f ih =>
    intro a v F h hn hv hv6 hF
    obtain ⟨h1, h2, h3⟩ := h
    obtain ⟨F', hF', e⟩ := cl_st R hv hv6 h1 (F := F) (by omega)
    have z : shN (lt a) ≠ 1000 := by
      intro z
      have : stN n lt a = (a, false) := if_neg (fun c => c.2 z)
      rw [this] at h2; cases h2
    obtain ⟨s0, s8, _, sl⟩ := okS_ge (okS_sh _ z)
    rw [e, if_pos h2]
    exact ih _ _ _ h3 hn ⟨s0, s8⟩ sl (by omega)
theorem cl_fl (R : ltp x n lt) : ∀ (f a b v F : Nat), flN n lt f a b → a < n → (1000 ≤ v ∧ v < 1008) → (am_byt v).length ≤ 6 → 8 * f + 8 ≤ F → L_X5_firstMisfit_13_7 F v (nI (am_byt v).length) (nI a) x = some (nI b, x) := by
  intro f
  induction f with
  | zero =>
    intro a b v F h ha hv hv6 hF
    obtain ⟨h1, h2⟩ := h
    obtain ⟨F', hF', e⟩ := cl_st R hv hv6 ha (F := F) (by omega)
    rw [e, h1, if_neg (by decide), h2]
  | succ f ih =>
    intro a b v F h ha hv hv6 hF
    obtain ⟨h1, h2, h3, h4⟩ := h
    obtain ⟨F', hF', e⟩ := cl_st R hv hv6 h1 (F := F) (by omega)
    have z : shN (lt a) ≠ 1000 := by
      intro z
      have : stN n lt a = (a, false) := if_neg (fun c => c.2 z)
      rw [this] at h2; cases h2
    obtain ⟨s0, s8, _, sl⟩ := okS_ge (okS_sh _ z)
    rw [e, if_pos h2]
    exact ih _ _ _ _ h4 h3 ⟨s0, s8⟩ sl (by omega)
/-- the class' first reading -/
theorem mf_ch (R : ltp x n lt) {f : Nat} (h : chN n lt (f + 1) 0) : G_X5_firstMisfit_13 x = some (-1, x) := by
  have hn : 0 < n := by have := ch_len _ _ h; omega
  have := ch_len _ _ h
  have n96 := R.1
  have g := cl_ch R (f + 1) 0 1000 1000 h hn (by decide) (by rw [byt_0]; decide) (by omega)
  rw [byt_0] at g
  exact g
theorem mf_fl (R : ltp x n lt) {f b : Nat} (h : flN n lt f 0 b) : G_X5_firstMisfit_13 x = some (nI b, x) := by
  have n96 := R.1
  by_cases hn : 0 < n
  · have := (fl_len _ _ _ (Nat.zero_le _) h).1
    have g := cl_fl R f 0 b 1000 1000 h hn (by decide) (by rw [byt_0]; decide) (by omega)
    rw [byt_0] at g
    exact g
  · have n0 : n = 0 := by omega
    have e1 := R.2.1
    have hb : b = 0 := by
      have := (fl_len _ _ _ (Nat.zero_le _) h).2
      omega
    unfold G_X5_firstMisfit_13
    rw [L_X5_firstMisfit_13_7, e1, n0, hb]
    rfl
end
