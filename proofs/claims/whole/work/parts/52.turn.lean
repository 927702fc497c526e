/-! TURNING, LOTS -/
def wN (f : Nat) : Nat := if f = 2 then 3 else if f = 3 then 2 else f
theorem wN_4 {f : Nat} (h : f < 4) : wN f < 4 := by
  have : ∀ f, f < 4 → wN f < 4 := by decide +kernel
  exact this f h
theorem mv_bit : ∀ q, q < 36 → ∀ f, f < 4 → am_mv (am_bit (nI q)) (nI f) = if bsd q (wN f) = 99 then 0 else am_bit (nI (bsd q (wN f))) := by decide +kernel
theorem mv_0 : ∀ f, f < 4 → am_mv 0 (nI f) = 0 := by decide +kernel
/-- the square that a step goes to; none -/
def nqN (now : Nat → Int32) (q w : Nat) : Option Nat := if bsd q w < 36 ∧ kd now (bsd q w) 1 = false ∧ kd now q 5 = false then some (bsd q w) else none
def oW : Option Nat → Int64
  | none => 0
  | some r => am_bit (nI r)
theorem bit_op {op : Int64} {P : Nat → Bool} (ho : abr op P) {r : Nat} (hr : r < 36) : am_bit (nI r) &&& op = if P r = true then am_bit (nI r) else 0 := by
  by_cases c : P r = true
  · rw [if_pos c]
    exact (((abr_bit hr).and ho).congr (fun q hq => by
      by_cases e : q = r
      · subst e; rw [c]; simp
      · simp [e])).uniq (abr_bit hr)
  · rw [if_neg c]
    refine (((abr_bit hr).and ho).zero).mpr (fun q hq => ?_)
    by_cases e : q = r
    · subst e
      cases s : P q
      · simp
      · exact absurd s c
    · simp [e]
theorem bit_n0 {r : Nat} (hr : r < 36) : ¬ am_bit (nI r) = 0 := fun e => by
  have := (abr_bit hr).zero.mp e r hr
  simp at this
section
variable {x : am_X} {sk hm pc wm : Int32} {w : Nat → Int64} {sK sS now : Nat → Int32}
theorem go_w (g : am_gd sk hm pc wm w sK sS now) {q f : Nat} (hq : q < 36) (hf : f < 4) (k5 : kd now q 5 = false) : am_mv (am_bit (nI q)) (nI f) &&& am_open w = oW (nqN now q (wN f)) := by
  rw [mv_bit q hq f hf]
  unfold nqN
  rcases bsd_99 q hq (wN f) (wN_4 hf) with l | l
  · rw [if_neg (by omega), bit_op g.opn l]
    cases k1 : kd now (bsd q (wN f)) 1
    · rw [if_pos (show (!false) = true from rfl), if_pos ⟨l, rfl, k5⟩]; rfl
    · rw [if_neg (by decide), if_neg (fun c => by cases c.2.1)]; rfl
  · rw [if_pos l, if_neg (fun c => by omega)]
    exact abr_0.and g.opn |>.zero.mpr (fun q _ => rfl)
theorem lv_w (g : am_gd sk hm pc wm w sK sS now) : abr ((68719476735 : Int64) &&& (am_sqo w 5 ^^^ (-1))) (fun q => !kd now q 5) := (abr_all.andn g.road).congr (fun q _ => by simp)
theorem go_l (g : am_gd sk hm pc wm w sK sS now) {q f : Nat} (hq : q < 36) (hf : f < 4) : am_mv (am_bit (nI q) &&& ((68719476735 : Int64) &&& (am_sqo w 5 ^^^ (-1)))) (nI f) &&& am_open w = oW (nqN now q (wN f)) := by
  rw [bit_op (lv_w g) hq]
  cases k5 : kd now q 5
  · rw [if_pos (by decide)]; exact go_w g hq hf k5
  · rw [if_neg (by decide), mv_0 f hf]
    have : nqN now q (wN f) = none := by
      unfold nqN
      rw [if_neg (fun c => by rw [k5] at c; cases c.2.2)]
    rw [this]
    exact abr_0.and g.opn |>.zero.mpr (fun q _ => rfl)
theorem oW_0 {now : Nat → Int32} {q v : Nat} : oW (nqN now q v) = 0 ↔ nqN now q v = none := by
  cases e : nqN now q v with
  | none => simp [oW]
  | some r =>
    have : r < 36 := by
      unfold nqN at e
      by_cases c : bsd q v < 36 ∧ kd now (bsd q v) 1 = false ∧ kd now q 5 = false
      · rw [if_pos c] at e
        cases e
        exact c.1
      · rw [if_neg c] at e; cases e
    constructor
    · intro h; exact absurd h (bit_n0 this)
    · intro h; cases h
theorem nq_36 {now : Nat → Int32} {q v r : Nat} (e : nqN now q v = some r) : r < 36 ∧ kd now q 5 = false := by
  unfold nqN at e
  by_cases c : bsd q v < 36 ∧ kd now (bsd q v) 1 = false ∧ kd now q 5 = false
  · rw [if_pos c] at e; cases e; exact ⟨c.1, c.2.2⟩
  · rw [if_neg c] at e; cases e
/-- TURNING, step by step: square and face -/
def tuS (now : Nat → Int32) (s : Nat × Nat) : Nat × Nat := match nqN now s.1 (wN s.2) with
  | some r => (r, s.2)
  | none => (s.1, (s.2 + 1) % 4)
def tuF (now : Nat → Int32) (s : Nat × Nat) : Nat → Nat × Nat
  | 0 => s
  | i + 1 => tuS now (tuF now s i)
theorem tu_lt (now : Nat → Int32) {s : Nat × Nat} (h : s.1 < 36 ∧ s.2 < 4) : ∀ i, (tuF now s i).1 < 36 ∧ (tuF now s i).2 < 4 := by
  intro i
  induction i with
  | zero => exact h
  | succ i ih =>
    show (tuS now (tuF now s i)).1 < 36 ∧ (tuS now (tuF now s i)).2 < 4
    unfold tuS
    cases e : nqN now (tuF now s i).1 (wN (tuF now s i).2) with
    | none => exact ⟨ih.1, Nat.mod_lt _ (by decide)⟩
    | some r => exact ⟨(nq_36 e).1, ih.2⟩
theorem tu_stay (now : Nat → Int32) {s : Nat × Nat} {i : Nat} (k5 : kd now (tuF now s i).1 5 = true) : ∀ j, (tuF now s (i + j)).1 = (tuF now s i).1 := by
  intro j
  induction j with
  | zero => rfl
  | succ j ih =>
    show (tuS now (tuF now s (i + j))).1 = _
    unfold tuS
    cases e : nqN now (tuF now s (i + j)).1 (wN (tuF now s (i + j)).2) with
    | none => exact ih
    | some r =>
      have := (nq_36 e).2
      rw [ih, k5] at this
      cases this
theorem f4 : ∀ f, f < 4 → (nI f + 1) - (nI f + 1) / 4 * 4 = nI ((f + 1) % 4) := by decide +kernel
theorem tu_class (hI : am_Iv x) {h f n : Nat} (hh : h < 36) (e1 : x.1 36 = nI h) (hf : f < 4) (hn : n ≤ 99) : G_X7_afterTurning (nI f) (nI n) x = some (am_bit (nI (tuF (x.2.2.1 29) (h, f) n).1), x) := by
  have H := am_for (fun n' i (_ : Unit) => L_X7_afterTurning_35 n' (nI n) ((68719476735 : Int64) &&& ((am_sqo (x.2.2.2 2) 5) ^^^ (-1))) (am_bit (nI (tuF (x.2.2.1 29) (h, f) i).1)) (nI (tuF (x.2.2.1 29) (h, f) i).2) (nI i) x) n
    (fun _ _ => True) (fun r => r = (am_bit (nI (tuF (x.2.2.1 29) (h, f) n).1), x))
    (fun n' i _ hi _ => by
      have h1 : ¬ nI n ≤ nI i := nI_ge hi (by omega)
      obtain ⟨l1, l2⟩ := tu_lt (x.2.2.1 29) (s := (h, f)) ⟨hh, hf⟩ i
      rw [L_X7_afterTurning_35, if_neg h1, bit_op (lv_w hI.g) l1]
      cases k5 : kd (x.2.2.1 29) (tuF (x.2.2.1 29) (h, f) i).1 5
      · rw [if_pos (show (!false) = true from rfl), if_neg (fun c => bit_n0 l1 ((lg_cmp0 _).mp c)), go_w hI.g l1 l2 k5]
        refine Or.inl ⟨(), trivial, ?_⟩
        show _ = L_X7_afterTurning_35 n' (nI n) _ (am_bit (nI (tuS (x.2.2.1 29) (tuF (x.2.2.1 29) (h, f) i)).1)) (nI (tuS (x.2.2.1 29) (tuF (x.2.2.1 29) (h, f) i)).2) (nI (i + 1)) x
        unfold tuS
        cases e : nqN (x.2.2.1 29) (tuF (x.2.2.1 29) (h, f) i).1 (wN (tuF (x.2.2.1 29) (h, f) i).2) with
        | none => rw [if_pos (show lg_cmp (oW none) 0 = 0 from (lg_cmp0 _).mpr rfl), f4 _ l2, nI_1]
        | some r =>
          rw [if_neg (show ¬ lg_cmp (oW (some r)) 0 = 0 from fun c => bit_n0 (nq_36 e).1 ((lg_cmp0 _).mp c)), nI_1]
          rfl
      · rw [if_neg (show ¬ (!true) = true by decide), if_pos ((lg_cmp0 _).mpr rfl)]
        refine Or.inr ⟨_, rfl, ?_⟩
        have := tu_stay (x.2.2.1 29) k5 (n - i)
        rw [show i + (n - i) = n by omega] at this
        rw [this])
    (fun n' _ _ => ⟨_, by rw [L_X7_afterTurning_35, if_pos (by rw [ii_le]; omega)], rfl⟩)
    1000 0 () (by omega) (by omega) trivial
  obtain ⟨r, hF, rfl⟩ := H
  unfold G_X7_afterTurning
  rw [e1]
  exact hF
/-- the reference: where a step goes to -/
theorem cb_n (h0 : ∀ q, q < 36 → x.2.2.1 37 q = 0) {r : Nat} (hr : r < 36) : G_X8_canBe (nI r) x = some (if kd (x.2.2.1 29) r 1 = false then 1 else 0, x) := by
  rw [cbe_ok x hr]
  have : hsx x r = false := by unfold hsx; rw [h0 r hr]; decide
  unfold gcb
  rw [this, Bool.not_false, Bool.and_true]
  cases kd (x.2.2.1 29) r 1 <;> rfl
theorem go_r (h0 : ∀ q, q < 36 → x.2.2.1 37 q = 0) {q w : Nat} (hq : q < 36) (hw : w < 4) {α : Type} (A : am_X → Option α) (C : Int32 → am_X → Option α) : (match G_X8_beside (nI q) (nI w) x with | none => none | some (r5, x6) => (if r5 = (-9) then A x6 else (match G_X8_canBe r5 x6 with | none => none | some (r9, x10) => (if r9 = 0 then A x10 else (match G_X8_kindOf (nI q) x10 with | none => none | some (r13, x14) => (if r13 = 5 then A x14 else C r5 x14)))))) = (match nqN (x.2.2.1 29) q w with | none => A x | some r => C (nI r) x) := by
  rw [bs_ok, bsE_n q hq w hw]; dsimp only
  unfold nqN
  rcases bsd_99 q hq w hw with l | l
  · rw [if_neg (show ¬ bsd q w = 99 by omega), if_neg (n9 (by omega)), cb_n h0 l]; dsimp only
    cases k1 : kd (x.2.2.1 29) (bsd q w) 1
    · rw [if_neg (show ¬ (if false = false then (1 : Int32) else 0) = 0 by decide), ko hq]; dsimp only
      by_cases k5 : x.2.2.1 29 (20 + q) = 5
      · rw [if_pos k5, if_neg (fun c => by rw [(kd5 x q).mpr k5] at c; cases c.2.2)]
      · rw [if_neg k5, if_pos ⟨l, rfl, kd_f (fun c => k5 ((kd5 x q).mp c))⟩]
    · rw [if_pos (show (if true = false then (1 : Int32) else 0) = 0 by decide), if_neg (fun c => by cases c.2.1)]
  · rw [if_pos l, if_pos rfl, if_neg (fun c => by omega)]
theorem tu_ref (h0 : ∀ q, q < 36 → x.2.2.1 37 q = 0) {h f n : Nat} (hh : h < 36) (hf : f < 4) (hn : n ≤ 99) : ∃ w1 w2, L_X8_turning_53 1000 (nI n) (nI h) (nI f) 0 x = some (nI n, nI (tuF (x.2.2.1 29) (h, f) n).1, w1, w2, x) := by
  have H := am_for (fun n' i (_ : Unit) => L_X8_turning_53 n' (nI n) (nI (tuF (x.2.2.1 29) (h, f) i).1) (nI (tuF (x.2.2.1 29) (h, f) i).2) (nI i) x) n
    (fun _ _ => True) (fun r => ∃ w1 w2, r = (nI n, nI (tuF (x.2.2.1 29) (h, f) n).1, w1, w2, x))
    (fun n' i _ hi _ => by
      have h1 : ¬ nI n ≤ nI i := nI_ge hi (by omega)
      obtain ⟨l1, l2⟩ := tu_lt (x.2.2.1 29) (s := (h, f)) ⟨hh, hf⟩ i
      refine Or.inl ⟨(), trivial, ?_⟩
      have F4 := f4 _ l2
      have R := go_r h0 l1 (wN_4 l2) (A := fun y => L_X8_turning_53 n' (nI n) (nI (tuF (x.2.2.1 29) (h, f) i).1) (nI (((tuF (x.2.2.1 29) (h, f) i).2 + 1) % 4)) (nI (i + 1)) y) (C := fun r y => L_X8_turning_53 n' (nI n) r (nI (tuF (x.2.2.1 29) (h, f) i).2) (nI (i + 1)) y)
      have fin : (match nqN (x.2.2.1 29) (tuF (x.2.2.1 29) (h, f) i).1 (wN (tuF (x.2.2.1 29) (h, f) i).2) with | none => L_X8_turning_53 n' (nI n) (nI (tuF (x.2.2.1 29) (h, f) i).1) (nI (((tuF (x.2.2.1 29) (h, f) i).2 + 1) % 4)) (nI (i + 1)) x | some r => L_X8_turning_53 n' (nI n) (nI r) (nI (tuF (x.2.2.1 29) (h, f) i).2) (nI (i + 1)) x) = L_X8_turning_53 n' (nI n) (nI (tuF (x.2.2.1 29) (h, f) (i + 1)).1) (nI (tuF (x.2.2.1 29) (h, f) (i + 1)).2) (nI (i + 1)) x := by
        show _ = L_X8_turning_53 n' (nI n) (nI (tuS (x.2.2.1 29) (tuF (x.2.2.1 29) (h, f) i)).1) (nI (tuS (x.2.2.1 29) (tuF (x.2.2.1 29) (h, f) i)).2) (nI (i + 1)) x
        unfold tuS
        cases nqN (x.2.2.1 29) (tuF (x.2.2.1 29) (h, f) i).1 (wN (tuF (x.2.2.1 29) (h, f) i).2) <;> rfl
      rw [← fin, ← R]
      rw [L_X8_turning_53, if_neg h1, F4, nI_1]
      by_cases c2 : (tuF (x.2.2.1 29) (h, f) i).2 = 2
      · rw [if_pos (show nI (tuF (x.2.2.1 29) (h, f) i).2 = 2 by rw [c2]; rfl), show wN (tuF (x.2.2.1 29) (h, f) i).2 = 3 by rw [c2]; rfl]
        rfl
      · rw [if_neg (show ¬ nI (tuF (x.2.2.1 29) (h, f) i).2 = (2 : Int32) from nI_nat (m := 2) (by omega) (by decide) c2)]
        by_cases c3 : (tuF (x.2.2.1 29) (h, f) i).2 = 3
        · rw [if_pos (show nI (tuF (x.2.2.1 29) (h, f) i).2 = 3 by rw [c3]; rfl), show wN (tuF (x.2.2.1 29) (h, f) i).2 = 2 by rw [c3]; rfl]
          rfl
        · rw [if_neg (show ¬ nI (tuF (x.2.2.1 29) (h, f) i).2 = (3 : Int32) from nI_nat (m := 3) (by omega) (by decide) c3), show wN (tuF (x.2.2.1 29) (h, f) i).2 = (tuF (x.2.2.1 29) (h, f) i).2 by unfold wN; rw [if_neg c2, if_neg c3]]
          rfl)
    (fun n' _ _ => ⟨_, by rw [L_X8_turning_53, if_pos (by rw [ii_le]; omega)], _, _, rfl⟩)
    1000 0 () (by omega) (by omega) trivial
  obtain ⟨r, hF, w1, w2, rfl⟩ := H
  exact ⟨w1, w2, hF⟩
end
theorem ok_turning (a b : Int32) : am_ok (G_X7_turning a b) (G_X8_turning a b) := by
  intro x hI
  obtain ⟨h, hh, e1, e2, e3⟩ := hI.g.home
  unfold G_X7_turning G_X8_turning
  by_cases a0 : a < 0
  · exact ⟨-2, am_r7 2 x, am_r8 2 (am_r7 2 x), by rw [if_pos a0, c2], by rw [if_pos a0, n2], r78 (j := 2) hI⟩
  obtain ⟨f, hf', rfl⟩ := nI_of a0
  by_cases f4' : f < 4
  case neg =>
    have l1 : ¬ nI f < (4 : Int32) := nI_nlt (b := 4) (by omega) hf'
    have l2 : ¬ nI f ≤ (3 : Int32) := nI_ge (a := 3) (by omega) hf'
    exact ⟨-2, am_r7 2 x, am_r8 2 (am_r7 2 x), by rw [if_neg a0, if_neg l1, c2], by rw [if_neg a0, if_neg l2, n2], r78 (j := 2) hI⟩
  have l1 : nI f < (4 : Int32) := nI_lt (b := 4) f4' (by decide)
  have l2 : nI f ≤ (3 : Int32) := nI_le (b := 3) (by omega) (by decide)
  by_cases b0 : (0 : Int32) ≤ b
  case neg => exact ⟨-4, am_r7 4 x, am_r8 4 (am_r7 4 x), by rw [if_neg a0, if_pos l1, if_neg b0, c4], by rw [if_neg a0, if_pos l2, if_neg b0, n4], r78 (j := 4) hI⟩
  by_cases b9 : b ≤ 99
  case neg => exact ⟨-6, am_r7 6 x, am_r8 6 (am_r7 6 x), by rw [if_neg a0, if_pos l1, if_pos b0, if_neg b9, c6], by rw [if_neg a0, if_pos l2, if_pos b0, if_neg b9, n6], r78 (j := 6) hI⟩
  have b0' : ¬ b < 0 := by rw [ii_lt]; rw [ii_le] at b0; omega
  obtain ⟨n, hn, rfl⟩ := nI_of2 (n := 99) (by decide) b0' b9
  obtain ⟨w1, w2, hr⟩ := tu_ref (x := x) hI.hel hh f4' hn
  refine ⟨nI (tuF (x.2.2.1 29) (h, f) n).1, x, x, ?_, ?_, hI⟩
  · rw [if_neg a0, if_pos l1, if_pos b0, if_pos b9, tu_class hI hh e1 f4' hn]; dsimp only
    have := (tu_lt (x.2.2.1 29) (s := (h, f)) ⟨hh, f4'⟩ n).1
    rw [(abr_bit this).least this (by simp) (fun i hi => by simp; omega)]
  · rw [if_neg a0, if_pos l2, if_pos b0, if_pos b9, e2, hr]
