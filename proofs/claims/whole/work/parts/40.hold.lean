/-! HOLD by the class -/
def rowv (x : am_X) (i : Nat) : Nat := (x.2.2.1 42 i).toNatClampNeg
theorem row_n {x : am_X} (hI : am_Iv x) : ∃ n, n ≤ 12 ∧ x.1 513 = nI n ∧ x.1 885 = nI n ∧ ∀ i, i < n → rowv x i < 100 ∧ x.2.2.1 17 i = nI (rowv x i) ∧ x.2.2.1 42 i = nI (rowv x i) := by
  obtain ⟨n, hn, e1, e2, h⟩ := hI.row
  refine ⟨n, hn, e1, e2, fun i hi => ?_⟩
  obtain ⟨v, hv, a, b⟩ := h i hi
  have e : rowv x i = v := by unfold rowv; rw [b, nI_clamp (by omega)]
  rw [e]
  exact ⟨hv, a, b⟩
theorem nat16_at {n i : Nat} (hn : n ≤ 12) (hi : i < n) (f : Nat → Int32) : am_nat16 (nI n) f (nI i) = f i := by
  unfold am_nat16
  rw [if_pos (by rw [nI_toInt (by omega), nI_toInt (by omega)]; omega), nI_clamp (by omega)]
theorem sq_n {v : Nat} (h : v < 2 ^ 31) : am_sq (nI v) ↔ v < 36 := by
  constructor
  · rintro ⟨_, b⟩
    rw [nI_toInt h] at b; omega
  · intro b; exact am_sqn b
section
variable {x : am_X} {n : Nat}
def rowp (x : am_X) (n : Nat) : Prop := n ≤ 12 ∧ x.1 513 = nI n ∧ x.1 885 = nI n ∧ ∀ i, i < n → rowv x i < 100 ∧ x.2.2.1 17 i = nI (rowv x i) ∧ x.2.2.1 42 i = nI (rowv x i)
theorem rts_ok (R : rowp x n) {d m : Nat} (hd : d = 1 ∨ d = 2) (hm : n = d * m) : G_X7_rowTellsSquares (nI d) x = some (b01 (cd (∀ k, k < m → rowv x (d * k) < 36)), x) := by
  obtain ⟨n12, e1, e2, hr⟩ := R
  have H := am_for (fun n' i (_ : Unit) => L_X7_rowTellsSquares_2 n' (nI d) (nI (d * i)) x) m (fun i _ => ∀ k, k < i → rowv x (d * k) < 36) (fun r => r = (b01 (cd (∀ k, k < m → rowv x (d * k) < 36)), x))
    (fun n' i s hi hp => by
      have hin : d * i < n := by rcases hd with rfl | rfl <;> omega
      have h1 : ¬ nI n ≤ nI (d * i) := nI_ge hin (by omega)
      obtain ⟨v100, a, b⟩ := hr _ hin
      have en : nI (d * i) + (if (1 : Int32) < nI d then nI d else 1) = nI (d * (i + 1)) := by
        rcases hd with rfl | rfl
        · have : 1 * (i + 1) = 1 * i + 1 := by omega
          rw [if_neg (by decide), nI_1, this]
        · rw [if_pos (by decide), nI_add]; congr 1
      by_cases c : rowv x (d * i) < 36
      · refine Or.inl ⟨(), fun k hk => ?_, ?_⟩
        · by_cases e : k = i
          · subst e; exact c
          · exact hp k (by omega)
        · rw [L_X7_rowTellsSquares_2, e1, if_neg h1, nat16_at n12 hin, a, if_pos ((sq_n (by omega)).mpr c), en]
      · refine Or.inr ⟨_, by rw [L_X7_rowTellsSquares_2, e1, if_neg h1, nat16_at n12 hin, a, if_neg (fun k => c ((sq_n (by omega)).mp k))], ?_⟩
        rw [cd_no (fun k => c (k i hi))]
        rfl)
    (fun n' s hp => ⟨_, by rw [L_X7_rowTellsSquares_2, e1, if_pos (by rw [hm, ii_le]; omega)], by rw [cd_iff.mpr hp]; rfl⟩)
    1000 0 () (by omega) (by rcases hd with rfl | rfl <;> omega) (fun k hk => by omega)
  obtain ⟨r, hF, rfl⟩ := H
  unfold G_X7_rowTellsSquares
  exact hF
noncomputable def rset (x : am_X) (n : Nat) (q : Nat) : Bool := cd (∃ i, i < n ∧ rowv x i = q)
theorem sor_ok (R : rowp x n) : ∃ r, G_X7_squaresOfRow x = some (r, x) ∧ abr r (rset x n) := by
  obtain ⟨n12, e1, e2, hr⟩ := R
  have H := am_for (fun n' i (s : Int64) => L_X7_squaresOfRow_4 n' s (nI i) x) n (fun i s => abr s (rset x i)) (fun r => ∃ w, r = (w, x) ∧ abr w (rset x n))
    (fun n' i s hi hp => Or.inl (by
      have h1 : ¬ nI n ≤ nI i := nI_ge hi (by omega)
      obtain ⟨v100, a, b⟩ := hr i hi
      refine ⟨s ||| am_bit (nI (rowv x i)), (hp.or abr_bitI).congr (fun q hq => ?_), ?_⟩
      · rw [Bool.eq_iff_iff, Bool.or_eq_true]
        unfold rset
        rw [cd_iff, cd_iff, decide_eq_true_eq, nI_eq (by omega) (by omega)]
        constructor
        · rintro (⟨k, hk, e⟩ | e)
          · exact ⟨k, by omega, e⟩
          · exact ⟨i, by omega, e⟩
        · rintro ⟨k, hk, e⟩
          by_cases ek : k = i
          · subst ek; exact Or.inr e
          · exact Or.inl ⟨k, by omega, e⟩
      · rw [L_X7_squaresOfRow_4, e1, if_neg h1, nat16_at n12 hi, a, nI_1]))
    (fun n' s hp => ⟨_, by rw [L_X7_squaresOfRow_4, e1, if_pos (by rw [ii_le]; omega)], s, rfl, hp⟩)
    1000 0 0 (by omega) (by omega) (abr_0.congr (fun q _ => by
      unfold rset
      rw [cd_no]
      rintro ⟨k, hk, _⟩
      omega))
  obtain ⟨r, hF, w, rfl, hw⟩ := H
  exact ⟨w, hF, hw⟩
/-- what can be reached while hs are held -/
noncomputable def rch (x : am_X) (hs : Nat → Bool) (v h q : Nat) : Bool := cd (∃ c, rh x hs v h q c)
noncomputable def rcn (x : am_X) (hs : Nat → Bool) (v h : Nat) : Nat := fb_ct (rch x hs v h) 36
/-- held, but for HOME -/
def bh (S : Nat → Bool) (h q : Nat) : Bool := S q && !decide (q = h)
theorem rwh_ok (hI : am_Iv x) {h : Nat} (v : Nat) (hh : h < 36) (eh : x.1 36 = nI h) {w : Int64} {S : Nat → Bool} (hw : abr w S) : ∃ r, G_X7_reachedWhenHeld w x = some (r, x) ∧ abr r (rch x (bh S h) v h) ∧ (r &&& am_sqo (x.2.2.2 2) 5 = 0 ↔ gso x (bh S h) v h = false) := by
  have hs : abr (w &&& (am_bit (x.1 36) ^^^ (-1))) (bh S h) := by rw [eh]; exact hw.andn (abr_bit hh)
  obtain ⟨r, hr, hR, hz⟩ := fl_gs hI (v := v) hh eh hs
  refine ⟨r, ?_, hR, hz⟩
  unfold G_X7_reachedWhenHeld
  rw [hr]
/-- the square that leaves fewest -/
def omF (cnt : Nat → Nat) : Nat → Option Nat
  | 0 => none
  | i + 1 => match omF cnt i with
    | none => some i
    | some b => if cnt b ≤ cnt i then some b else some i
theorem omF_s (cnt : Nat → Nat) : ∀ i, omF cnt (i + 1) ≠ none := by
  intro i
  rw [omF]
  cases omF cnt i with
  | none => intro h; cases h
  | some b =>
    dsimp only
    split <;> (intro h; cases h)
def om7 (cnt : Nat → Nat) : Option Nat → Int32 × Int32
  | none => (-9, 37)
  | some b => (nI b, nI (cnt b))
def om8 (cnt : Nat → Nat) : Option Nat → Int32 × Int32
  | none => (-9, 100000)
  | some b => (nI b, nI (cnt b))
theorem om_one (cnt : Nat → Nat) (o : Option Nat) : (om7 cnt o).1 = (om8 cnt o).1 := by cases o <;> rfl
/-- one square more -/
def wm (S : Nat → Bool) (i q : Nat) : Bool := S q || decide (q = i)
theorem rcn_36 (hs : Nat → Bool) (v h : Nat) : rcn x hs v h ≤ 36 := fb_ct_le _ 36
theorem om_class (hI : am_Iv x) {h : Nat} (v : Nat) (hh : h < 36) (eh : x.1 36 = nI h) {w : Int64} {S : Nat → Bool} (hw : abr w S) : G_X7_oneMore w x = some ((om7 (fun i => rcn x (bh (wm S i) h) v h) (omF (fun i => rcn x (bh (wm S i) h) v h) 36)).1, x) := by
  have H := am_for (fun n' i (o : Option Nat) => L_X7_oneMore_10 n' w (om7 (fun i => rcn x (bh (wm S i) h) v h) o).1 (om7 (fun i => rcn x (bh (wm S i) h) v h) o).2 (nI i) x) 36
    (fun i o => o = omF (fun i => rcn x (bh (wm S i) h) v h) i)
    (fun r => r = ((om7 (fun i => rcn x (bh (wm S i) h) v h) (omF (fun i => rcn x (bh (wm S i) h) v h) 36)).1, x))
    (fun n' i o hi hp => Or.inl (by
      have h1 : ¬ (36 : Int32) ≤ nI i := nI_ge (b := 36) hi (by decide)
      obtain ⟨r, hr, hR, _⟩ := rwh_ok hI v hh eh (hw.or (abr_bit hi))
      have hR' : abr r (rch x (bh (wm S i) h) v h) := hR
      have b36 := rcn_36 (x := x) (bh (wm S i) h) v h
      have bc : am_bc r = nI (rcn x (bh (wm S i) h) v h) := hR'.bc
      have E : ∀ b l, L_X7_oneMore_10 (n' + 1) w b l (nI i) x = if l ≤ nI (rcn x (bh (wm S i) h) v h) then L_X7_oneMore_10 n' w b l (nI (i + 1)) x else L_X7_oneMore_10 n' w (nI i) (nI (rcn x (bh (wm S i) h) v h)) (nI (i + 1)) x := by
        intro b l
        rw [L_X7_oneMore_10, if_neg h1, hr]; dsimp only
        rw [bc, nI_1]
      refine ⟨omF (fun i => rcn x (bh (wm S i) h) v h) (i + 1), rfl, ?_⟩
      rw [omF, ← hp]
      cases o with
      | none =>
        dsimp only [om7]
        rw [E, if_neg (show ¬ (37 : Int32) ≤ nI (rcn x (bh (wm S i) h) v h) from nI_ge (b := 37) (by omega) (by decide))]
      | some b =>
        dsimp only [om7]
        have b36' := rcn_36 (x := x) (bh (wm S b) h) v h
        by_cases l : rcn x (bh (wm S b) h) v h ≤ rcn x (bh (wm S i) h) v h
        · rw [E, if_pos (nI_le l (by omega)), if_pos l]
        · rw [E, if_neg (nI_ge (by omega) (by omega)), if_neg l]))
    (fun n' o hp => ⟨_, by rw [L_X7_oneMore_10, if_pos (by decide)], by rw [hp]⟩)
    1000 0 none (by decide) (by decide) rfl
  obtain ⟨r, hF, rfl⟩ := H
  unfold G_X7_oneMore
  exact hF
end
/-- hold by the class -/
noncomputable def hoA (x : am_X) (n v h : Nat) (a : Int32) : Int32 :=
  if a = 0 then (if gso x (bh (rset x n) h) v h = false then 0 else 1) else if a = 1 then nI (rcn x (bh (rset x n) h) v h) else (om7 (fun i => rcn x (bh (wm (rset x n) i) h) v h) (omF (fun i => rcn x (bh (wm (rset x n) i) h) v h) 36)).1
theorem ho_class {x : am_X} (hI : am_Iv x) {n h : Nat} (R : rowp x n) (v : Nat) (hh : h < 36) (eh : x.1 36 = nI h) {a : Int32} (a0 : ¬ a < 0) (a2 : a ≤ 2) : G_X7_hold a x = if (∀ k, k < n → rowv x k < 36) then some (hoA x n v h a, x) else some (-3, am_r7 3 x) := by
  unfold G_X7_hold
  have hn : n = 1 * n := by omega
  have r1 := rts_ok R (d := 1) (Or.inl rfl) hn
  rw [if_neg a0, if_pos a2, show G_X7_rowTellsSquares (1 : Int32) x = _ from r1]; dsimp only
  have e1 : (∀ k, k < n → rowv x (1 * k) < 36) ↔ ∀ k, k < n → rowv x k < 36 := by
    constructor
    · intro h k hk; have := h k hk; rwa [Nat.one_mul] at this
    · intro h k hk; rw [Nat.one_mul]; exact h k hk
  by_cases c : ∀ k, k < n → rowv x k < 36
  · obtain ⟨w, hw, hW⟩ := sor_ok R
    obtain ⟨r, hr, hR, hz⟩ := rwh_ok hI v hh eh hW
    rw [if_pos c, cd_iff.mpr (e1.mpr c), if_neg (by decide), hw]; dsimp only
    unfold hoA
    by_cases b0 : a = 0
    · rw [if_pos b0, if_pos b0, hr]; dsimp only
      by_cases g : gso x (bh (rset x n) h) v h = false
      · rw [if_pos ((lg_cmp0 _).mpr (hz.mpr g)), if_pos g]
      · rw [if_neg (fun k => g (hz.mp ((lg_cmp0 _).mp k))), if_neg g]
    rw [if_neg b0, if_neg b0]
    by_cases b1 : a = 1
    · rw [if_pos b1, if_pos b1, hr]; dsimp only
      rw [hR.bc]; rfl
    rw [if_neg b1, if_neg b1, om_class hI v hh eh hW]
  · rw [if_neg c, cd_no (fun k => c (e1.mp k)), if_pos (by decide), c3]
