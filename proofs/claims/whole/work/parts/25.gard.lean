/-! the garden's words and the reference's kinds -/
section
variable {sk hm pc wm : Int32} {w : Nat → Int64} {sK sS now : Nat → Int32}
theorem sqo0 (f : Nat → Int64) : am_sqo f 0 = f 0 := rfl
theorem sqo1 (f : Nat → Int64) : am_sqo f 1 = f 1 := rfl
theorem sqo2 (f : Nat → Int64) : am_sqo f 2 = f 2 := rfl
theorem sqo3 (f : Nat → Int64) : am_sqo f 3 = f 3 := rfl
theorem sqo4 (f : Nat → Int64) : am_sqo f 4 = f 4 := rfl
theorem sqo5 (f : Nat → Int64) : am_sqo f 5 = f 5 := rfl
/-- the kind of a square -/
def kd (now : Nat → Int32) (q k : Nat) : Bool := decide (now (20 + q) = nI k)
theorem am_gd.sq (g : am_gd sk hm pc wm w sK sS now) (k : Nat) (hk : k < 6) : abr (w k) (fun q => kd now q k) := g.wrd k hk
theorem am_gd.road (g : am_gd sk hm pc wm w sK sS now) : abr (am_sqo w 5) (fun q => kd now q 5) := g.wrd 5 (by decide)
theorem am_gd.gaps (g : am_gd sk hm pc wm w sK sS now) : abr (am_sqo w 2) (fun q => kd now q 2) := g.wrd 2 (by decide)
theorem am_gd.opn (g : am_gd sk hm pc wm w sK sS now) : abr (am_open w) (fun q => !kd now q 1) := by
  refine (abr_all.andn (g.wrd 1 (by decide))).congr (fun q _ => ?_)
  simp [kd]
theorem kd_6 (g : am_gd sk hm pc wm w sK sS now) {q : Nat} (hq : q < 36) : ∃ k, k < 6 ∧ now (20 + q) = nI k ∧ ∀ j, j < 6 → kd now q j = decide (k = j) := by
  obtain ⟨k, hk, e⟩ := g.kin q hq
  refine ⟨k, hk, e, fun j hj => ?_⟩
  unfold kd
  rw [e]
  by_cases h : k = j
  · subst h; simp
  · have : ¬ nI k = nI j := fun e' => h ((nI_eq (by omega) (by omega)).mp e')
    simp [h, this]
theorem am_gd.kat (g : am_gd sk hm pc wm w sK sS now) {q : Nat} (hq : q < 36) : am_kat w (nI q) = now (20 + q) := by
  obtain ⟨k, hk, e, hj⟩ := kd_6 g hq
  have H : ∀ j, j < 6 → ((¬ w j &&& am_bit (nI q) = 0) ↔ k = j) := fun j h => by
    refine ((g.sq j h).hasb hq).trans ?_
    rw [hj j h, decide_eq_true_eq]
  unfold am_kat
  rw [sqo0, sqo1, sqo2, sqo3, sqo4, sqo5, e]
  by_cases h0 : k = 0
  · rw [if_pos ((H 0 (by decide)).mpr h0), h0]; rfl
  rw [if_neg (fun c => h0 ((H 0 (by decide)).mp c))]
  by_cases h1 : k = 1
  · rw [if_pos ((H 1 (by decide)).mpr h1), h1]; rfl
  rw [if_neg (fun c => h1 ((H 1 (by decide)).mp c))]
  by_cases h2 : k = 2
  · rw [if_pos ((H 2 (by decide)).mpr h2), h2]; rfl
  rw [if_neg (fun c => h2 ((H 2 (by decide)).mp c))]
  by_cases h3 : k = 3
  · rw [if_pos ((H 3 (by decide)).mpr h3), h3]; rfl
  rw [if_neg (fun c => h3 ((H 3 (by decide)).mp c))]
  by_cases h4 : k = 4
  · rw [if_pos ((H 4 (by decide)).mpr h4), h4]; rfl
  rw [if_neg (fun c => h4 ((H 4 (by decide)).mp c))]
  have h5 : k = 5 := by omega
  rw [if_pos ((H 5 (by decide)).mpr h5), h5]; rfl
/-- laying kinds down -/
theorem seg_m : ∀ a, a < 36 → ∀ b, b < 36 → ∀ q, q < 64 → a ≤ b → ab (am_seg (nI a) (nI b)) q = (decide (q < 36) && decide (a ≤ q ∧ q ≤ b)) := by decide +kernel
theorem abr_seg {a b : Nat} (ha : a < 36) (hb : b < 36) (h : a ≤ b) : abr (am_seg (nI a) (nI b)) (fun q => decide (a ≤ q ∧ q ≤ b)) := fun q => by
  by_cases hq : q < 64
  · exact seg_m a ha b hb q hq h
  · rw [ab_big (by omega)]
    have : ¬ q < 36 := by omega
    simp [this]
theorem laf_at (s : Int64) : ∀ (n i : Nat) (f : Nat → Int64) (k : Nat), am_laf s n i f k = if i ≤ k ∧ k < i + n then f k &&& (s ^^^ (-1)) else f k := by
  intro n
  induction n with
  | zero => intro i f k; rw [am_laf, if_neg (by omega)]
  | succ n ih =>
    intro i f k
    rw [am_laf, ih]
    by_cases e : k = i
    · subst e
      rw [if_neg (by omega), if_pos (by omega)]
      exact if_pos rfl
    · have : vp_updL f i (f i &&& (s ^^^ (-1))) k = f k := if_neg e
      rw [this]
      by_cases h : i ≤ k ∧ k < i + (n + 1)
      · rw [if_pos (by omega), if_pos h]
      · rw [if_neg (by omega), if_neg h]
/-- the reference's row with kinds laid down -/
def lay_now (now now' : Nat → Int32) (k a b : Nat) : Prop := (∀ j, j < 20 → now' j = now j) ∧ ∀ q, q < 36 → now' (20 + q) = if a ≤ q ∧ q ≤ b then nI k else now (20 + q)
def lay_w (w : Nat → Int64) (k a b : Int32) : Nat → Int64 := vp_updL (am_laf (am_seg a b) 6 0 w) k.toNatClampNeg (am_laf (am_seg a b) 6 0 w k.toNatClampNeg ||| am_seg a b)
theorem am_gd.lay (g : am_gd sk hm pc wm w sK sS now) {now' : Nat → Int32} {k a b h : Nat} (hk : k < 6) (ha : a < 36) (hb : b < 36) (hab : a ≤ b) (hh : h < 36) (eh : now 0 = nI h) (hn : ¬ (k = 1 ∧ a ≤ h ∧ h ≤ b)) (L : lay_now now now' k a b) : am_gd sk hm pc wm (lay_w w (nI k) (nI a) (nI b)) sK sS now' := by
  obtain ⟨g1, g2, g3, g4, g5, g6⟩ := g
  obtain ⟨L1, L2⟩ := L
  refine ⟨fun q hq => ?_, fun j hj => ?_, ?_, ?_, ?_, ?_⟩
  · rw [L2 q hq]
    split
    · exact ⟨k, hk, rfl⟩
    · exact g1 q hq
  · have hs := abr_seg ha hb hab
    have hl : abr (am_laf (am_seg (nI a) (nI b)) 6 0 w j) (fun q => decide (now (20 + q) = nI j) && !decide (a ≤ q ∧ q ≤ b)) := by
      rw [laf_at, if_pos (by omega)]
      exact (g2 j hj).andn hs
    unfold lay_w
    rw [nI_clamp (by omega : k < 2 ^ 31)]
    by_cases e : j = k
    · subst e
      have : vp_updL (am_laf (am_seg (nI a) (nI b)) 6 0 w) j (am_laf (am_seg (nI a) (nI b)) 6 0 w j ||| am_seg (nI a) (nI b)) j = am_laf (am_seg (nI a) (nI b)) 6 0 w j ||| am_seg (nI a) (nI b) := if_pos rfl
      rw [this]
      refine (hl.or hs).congr (fun q hq => ?_)
      rw [L2 q hq]
      by_cases c : a ≤ q ∧ q ≤ b
      · simp [c]
      · simp [c]
    · have : vp_updL (am_laf (am_seg (nI a) (nI b)) 6 0 w) k (am_laf (am_seg (nI a) (nI b)) 6 0 w k ||| am_seg (nI a) (nI b)) j = am_laf (am_seg (nI a) (nI b)) 6 0 w j := if_neg e
      rw [this]
      refine hl.congr (fun q hq => ?_)
      rw [L2 q hq]
      by_cases c : a ≤ q ∧ q ≤ b
      · have : ¬ nI k = nI j := fun e' => e ((nI_eq (by omega) (by omega)).mp e').symm
        simp [c, this]
      · simp [c]
  · obtain ⟨h', hh', e1, e2, e3⟩ := g3
    have : h' = h := (nI_eq (by omega) (by omega)).mp (e2.symm.trans eh)
    subst this
    refine ⟨h', hh', e1, by rw [L1 0 (by decide)]; exact e2, ?_⟩
    rw [L2 h' hh']
    split
    · rename_i c
      intro e
      exact hn ⟨(nI_eq (b := 1) (by omega) (by decide)).mp e, c⟩
    · exact e3
  · obtain ⟨p, h1, h2, h3, h4⟩ := g4
    exact ⟨p, h1, h2, h3, by rw [L1 1 (by decide)]; exact h4⟩
  · obtain ⟨p, h1, h2, h3⟩ := g5
    exact ⟨p, h1, h2, by rw [L1 2 (by decide)]; exact h3⟩
  · obtain ⟨s, h1, h2, h3, h4⟩ := g6
    refine ⟨s, h1, h2, by rw [L1 3 (by decide)]; exact h3, fun i hi => ?_⟩
    obtain ⟨⟨k', k1, k2, k3⟩, ⟨q', q1, q2, q3⟩⟩ := h4 i hi
    exact ⟨⟨k', k1, k2, by rw [L1 _ (by omega)]; exact k3⟩, ⟨q', q1, q2, by rw [L1 _ (by omega)]; exact q3⟩⟩
end
