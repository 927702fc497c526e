/-! WAYS, in numbers; the class -/
theorem am_sBc {x : am_X} {k l : Nat} {f g : Nat → Int64} (h : k ≠ l) : am_sB (am_sB x k f) l g = am_sB (am_sB x l g) k f := by
  have e : am_up (am_up x.2.2.2 k f) l g = am_up (am_up x.2.2.2 l g) k f := by
    funext j
    unfold am_up
    by_cases a : j = k
    · have : ¬ j = l := fun e => h (a.symm.trans e)
      simp [a, h]
    · simp [a]
  show (x.1, x.2.1, x.2.2.1, am_up (am_up x.2.2.2 k f) l g) = (x.1, x.2.1, x.2.2.1, am_up (am_up x.2.2.2 l g) k f)
  rw [e]
theorem uL_eq (f : Nat → Int64) (k : Nat) (v : Int64) : vp_updL f k v k = v := if_pos rfl
theorem uL_ne (f : Nat → Int64) {k j : Nat} (v : Int64) (h : j ≠ k) : vp_updL f k v j = f j := if_neg h
def gW (now : Nat → Int32) (w : Nat → Nat) (q r : Nat) : Nat := if ab_nb q r = true ∧ kd now r 5 = false ∧ kd now q 1 = false then w r else 0
def nwN (now : Nat → Int32) (w : Nat → Nat) (q : Nat) : Nat := w q + fb_sm (gW now w q) 36
def wyN (now : Nat → Int32) (h : Nat) : Nat → Nat → Nat
  | 0 => fun q => if q = h then 1 else 0
  | n + 1 => nwN now (wyN now h n)
theorem sm_one (k v : Nat) : ∀ n, fb_sm (fun r => if r = k then v else 0) n = if k < n then v else 0 := by
  intro n
  induction n with
  | zero => rw [if_neg (by omega)]; rfl
  | succ n ih =>
    rw [fb_sm_succ, ih]
    by_cases e : n = k
    · subst e; rw [if_neg (by omega), if_pos rfl, if_pos (by omega)]; omega
    · rw [if_neg e]
      by_cases l : k < n
      · rw [if_pos l, if_pos (by omega)]; omega
      · rw [if_neg l, if_neg (by omega)]
/-- what comes by one way -/
def cW (now : Nat → Int32) (w : Nat → Nat) (q v : Nat) : Nat := if bsd q v < 36 ∧ kd now (bsd q v) 5 = false ∧ kd now q 1 = false then w (bsd q v) else 0
def vW (now : Nat → Int32) (w : Nat → Nat) (q v : Nat) : Nat := if kd now (bsd q v) 5 = false ∧ kd now q 1 = false then w (bsd q v) else 0
theorem cW_v (now : Nat → Int32) (w : Nat → Nat) (q v : Nat) : cW now w q v = if bsd q v < 36 then vW now w q v else 0 := by
  unfold cW vW
  by_cases l : bsd q v < 36
  · rw [if_pos l]
    by_cases c : kd now (bsd q v) 5 = false ∧ kd now q 1 = false
    · rw [if_pos ⟨l, c⟩, if_pos c]
    · rw [if_neg (fun d => c d.2), if_neg c]
  · rw [if_neg l, if_neg (fun d => l d.1)]
theorem gW_pt (now : Nat → Int32) (w : Nat → Nat) {q r : Nat} (hq : q < 36) (hr : r < 36) : gW now w q r = (((if r = bsd q 0 then vW now w q 0 else 0) + (if r = bsd q 1 then vW now w q 1 else 0)) + (if r = bsd q 2 then vW now w q 2 else 0)) + (if r = bsd q 3 then vW now w q 3 else 0) := by
  obtain ⟨j0, j1, j2⟩ := bsd_dj q hq
  have nb := nb_ways q hq r hr
  have val : ∀ v, r = bsd q v → ab_nb q r = true → gW now w q r = vW now w q v := by
    intro v e n
    unfold gW vW
    rw [← e]
    by_cases c : kd now r 5 = false ∧ kd now q 1 = false
    · rw [if_pos ⟨n, c⟩, if_pos c]
    · rw [if_neg (fun d => c d.2), if_neg c]
  by_cases a0 : r = bsd q 0
  · have h := j0 (by omega)
    have n : ab_nb q r = true := by rw [nb]; simp [a0]
    have b1 : ¬ r = bsd q 1 := fun c => h.1 (by omega)
    have b2 : ¬ r = bsd q 2 := fun c => h.2.1 (by omega)
    have b3 : ¬ r = bsd q 3 := fun c => h.2.2 (by omega)
    rw [val 0 a0 n, if_pos a0, if_neg b1, if_neg b2, if_neg b3]; omega
  · rw [if_neg a0]
    by_cases a1 : r = bsd q 1
    · have h := j1 (by omega)
      have n : ab_nb q r = true := by rw [nb]; simp [a1]
      have b2 : ¬ r = bsd q 2 := fun c => h.1 (by omega)
      have b3 : ¬ r = bsd q 3 := fun c => h.2 (by omega)
      rw [val 1 a1 n, if_pos a1, if_neg b2, if_neg b3]; omega
    · rw [if_neg a1]
      by_cases a2 : r = bsd q 2
      · have h := j2 (by omega)
        have n : ab_nb q r = true := by rw [nb]; simp [a2]
        have b3 : ¬ r = bsd q 3 := fun c => h (by omega)
        rw [val 2 a2 n, if_pos a2, if_neg b3]; omega
      · rw [if_neg a2]
        by_cases a3 : r = bsd q 3
        · have n : ab_nb q r = true := by rw [nb]; simp [a3]
          rw [val 3 a3 n, if_pos a3]; omega
        · have n : ¬ ab_nb q r = true := by rw [nb]; simp [a0, a1, a2, a3]
          rw [if_neg a3]
          unfold gW
          rw [if_neg (fun d => n d.1)]
theorem gW_sum (now : Nat → Int32) (w : Nat → Nat) {q : Nat} (hq : q < 36) : fb_sm (gW now w q) 36 = ((cW now w q 0 + cW now w q 1) + cW now w q 2) + cW now w q 3 := by
  rw [fb_sm_cong (fun r hr => gW_pt now w hq hr), fb_sm_add, fb_sm_add, fb_sm_add, sm_one, sm_one, sm_one, sm_one, cW_v, cW_v, cW_v, cW_v]
def cS (c : Nat → Nat) : Nat → Nat → Nat
  | 0, _ => 0
  | n + 1, i => c i + cS c n (i + 1)
section
variable {sk hm pc wm : Int32} {g : Nat → Int64} {sK sS now : Nat → Int32}
theorem cq_ok (G : am_gd sk hm pc wm g sK sS now) {q i : Nat} (hq : q < 36) (hi : i < 4) : am_cq (am_bit (nI q) &&& am_open g) (am_sqo g 5) (nI i) = if bsd q (wN i) < 36 ∧ kd now (bsd q (wN i)) 5 = false ∧ kd now q 1 = false then nI (bsd q (wN i)) else -9 := by
  unfold am_cq
  rw [bit_op G.opn hq]
  have z : ∀ u : Int64, am_least ((0 : Int64) &&& u) = -9 := fun u => by
    have : (0 : Int64) &&& u = 0 := ab_ext (fun k _ => by rw [ab_and, ab_0]; simp)
    rw [this]
    exact if_pos rfl
  cases k1 : kd now q 1
  · rw [if_pos (show (!false) = true from rfl), mv_bit q hq i hi]
    rcases bsd_99 q hq (wN i) (wN_4 hi) with l | l
    · rw [if_neg (by omega)]
      have hA := (abr_bit l).andn G.road
      cases k5 : kd now (bsd q (wN i)) 5
      · rw [if_pos ⟨l, rfl, rfl⟩]
        refine hA.least l (by simp [k5]) (fun j hj => ?_)
        have : ¬ j = bsd q (wN i) := by omega
        simp [this]
      · rw [if_neg (fun c => by cases c.2.1)]
        refine hA.least0 (fun j hj => ?_)
        by_cases e : j = bsd q (wN i)
        · subst e; simp [k5]
        · simp [e]
    · rw [if_pos l, if_neg (fun c => by omega)]
      exact z _
  · rw [if_neg (show ¬ (!true) = true by decide), mv_0 i hi, if_neg (fun c => by cases c.2.2)]
    exact z _
theorem coF_ok (G : am_gd sk hm pc wm g sK sS now) {b : Nat → Int64} {w : Nat → Nat} (hb : ∀ r, r < 36 → b r = lN (w r)) {q : Nat} (hq : q < 36) : ∀ (n i a : Nat), n + i = 4 → am_coF b (am_bit (nI q) &&& am_open g) (am_sqo g 5) n i (lN a) = lN (a + cS (fun i => cW now w q (wN i)) n i) := by
  intro n
  induction n with
  | zero => intro i a _; rw [am_coF, cS, Nat.add_zero]
  | succ n ih =>
    intro i a hi
    rw [am_coF, cq_ok G hq (by omega : i < 4), cS]
    by_cases c : bsd q (wN i) < 36 ∧ kd now (bsd q (wN i)) 5 = false ∧ kd now q 1 = false
    · have e : cW now w q (wN i) = w (bsd q (wN i)) := if_pos c
      rw [if_pos c, if_pos (ns_e c.1), nI_clamp (by omega), hb _ c.1, lN_add, ih (i + 1) _ (by omega), e, Nat.add_assoc]
    · have e : cW now w q (wN i) = 0 := if_neg c
      rw [if_neg c, if_neg (by decide), ih (i + 1) _ (by omega), e, Nat.zero_add]
theorem co_ok (G : am_gd sk hm pc wm g sK sS now) {b : Nat → Int64} {w : Nat → Nat} (hb : ∀ r, r < 36 → b r = lN (w r)) {q : Nat} (hq : q < 36) : am_co b g (nI q) = lN (fb_sm (gW now w q) 36) := by
  unfold am_co
  have := coF_ok G hb hq 4 0 0 rfl
  rw [show (0 : Int64) = lN 0 from rfl, this, gW_sum now w hq]
  congr 1
  show 0 + (cW now w q 0 + (cW now w q 1 + (cW now w q 3 + (cW now w q 2 + 0)))) = _
  omega
end
section
variable {x : am_X}
def wb (x : am_X) (b f : Nat → Int64) : am_X := am_sB (am_sB x 24 b) 23 f
theorem wb_23 (b f f' : Nat → Int64) : am_sB (wb x b f) 23 f' = wb x b f' := by unfold wb; rw [am_sBB]
theorem wb_24 (b f b' : Nat → Int64) : am_sB (wb x b f) 24 b' = wb x b' f := by unfold wb; rw [am_sBc (show (23 : Nat) ≠ 24 by decide), am_sBB]
theorem wb_self : wb x (x.2.2.2 24) (x.2.2.2 23) = x := by
  show am_sB (am_sB x 24 (x.2.2.2 24)) 23 ((am_sB x 24 (x.2.2.2 24)).2.2.2 23) = x
  rw [am_sB_self, am_sB_self]
theorem wb_kp (b f : Nat → Int64) : am_kp x (wb x b f) := (am_kp.sB (by decide)).trans (am_kp.sB (by decide))
theorem wk58_ok (hI : am_Iv x) {w : Nat → Nat} {b : Nat → Int64} (hb : ∀ r, r < 36 → b r = lN (w r)) (v2 v3 : Int32) (f0 : Nat → Int64) : ∃ u f, L_X0_walk_22_1_58 100 v2 v3 0 (wb x b f0) = some (v2, v3, u, wb x b f) ∧ ∀ q, q < 36 → f q = lN (nwN (x.2.2.1 29) w q) := by
  have H := am_for (fun n i (f : Nat → Int64) => L_X0_walk_22_1_58 n v2 v3 (nI i) (wb x b f)) 36 (fun i f => ∀ q, q < i → f q = lN (nwN (x.2.2.1 29) w q))
    (fun r => ∃ u f, r = (v2, v3, u, wb x b f) ∧ ∀ q, q < 36 → f q = lN (nwN (x.2.2.1 29) w q))
    (fun n i f hi hf => by
      have h1 : ¬ (36 : Int32) ≤ nI i := nI_ge (b := 36) hi (by decide)
      refine Or.inl ⟨vp_updL f i (lN (nwN (x.2.2.1 29) w i)), fun q hq => ?_, ?_⟩
      · by_cases e : q = i
        · subst e; rw [uL_eq]
        · rw [uL_ne _ _ e]; exact hf q (by omega)
      · rw [L_X0_walk_22_1_58, if_neg h1, if_pos (ns_e hi), nI_clamp (by omega), nI_1, wb_23, show (wb x b f).2.2.2 24 = b from rfl, show (wb x b f).2.2.2 2 = x.2.2.2 2 from rfl, co_ok hI.g hb hi, hb i hi, lN_add]
        rfl)
    (fun n f hf => ⟨_, by rw [L_X0_walk_22_1_58, if_pos (by decide)], _, f, rfl, hf⟩)
    100 0 f0 (by decide) (by decide) (fun q hq => by omega)
  obtain ⟨r, hF, u, f, rfl, hf⟩ := H
  exact ⟨u, f, hF, hf⟩
theorem wk35_ok (hI : am_Iv x) {h m : Nat} (hm : m ≤ 20) {b0 f0 : Nat → Int64} (h0 : ∀ q, q < 36 → f0 q = lN (wyN (x.2.2.1 29) h 0 q)) : ∃ b f, L_X0_walk_22_1_35 100 (nI m) 0 (wb x b0 f0) = some ((), wb x b f) ∧ ∀ q, q < 36 → f q = lN (wyN (x.2.2.1 29) h m q) := by
  have H := am_for (fun n i (s : (Nat → Int64) × (Nat → Int64)) => L_X0_walk_22_1_35 n (nI m) (nI i) (wb x s.1 s.2)) m (fun i s => ∀ q, q < 36 → s.2 q = lN (wyN (x.2.2.1 29) h i q))
    (fun r => ∃ b f, r = ((), wb x b f) ∧ ∀ q, q < 36 → f q = lN (wyN (x.2.2.1 29) h m q))
    (fun n i s hi hf => by
      have h1 : ¬ nI m ≤ nI i := nI_ge hi (by omega)
      obtain ⟨u, f, h58, hf'⟩ := wk58_ok hI (w := wyN (x.2.2.1 29) h i) (b := va_cpy s.2 s.1 0 0 36) (fun r hr => by rw [cpyB _ _ hr]; exact hf r hr) (nI m) (nI i) s.2
      refine Or.inl ⟨(va_cpy s.2 s.1 0 0 36, f), hf', ?_⟩
      rw [L_X0_walk_22_1_35, if_neg h1, wb_24, show (wb x s.1 s.2).2.2.2 23 = s.2 from rfl, show (wb x s.1 s.2).2.2.2 24 = s.1 from rfl, h58]; dsimp only
      rw [nI_1])
    (fun n s hf => ⟨((), wb x s.1 s.2), by rw [L_X0_walk_22_1_35, if_pos (by rw [ii_le]; omega)], s.1, s.2, rfl, hf⟩)
    100 0 (b0, f0) (by omega) (by omega) h0
  obtain ⟨r, hF, b, f, rfl, hf⟩ := H
  exact ⟨b, f, hF, hf⟩
theorem wk_ok (hI : am_Iv x) {h m : Nat} (hh : h < 36) (e1 : x.1 36 = nI h) (hm : m ≤ 20) : ∃ b f, G_X0_walk_22_1 (nI m) x = some ((), wb x b f) ∧ ∀ q, q < 36 → f q = lN (wyN (x.2.2.1 29) h m q) := by
  have H := am_for (fun n i (f : Nat → Int64) => L_X0_walk_22_1_2 n (nI m) (nI i) (wb x (x.2.2.2 24) f)) 36 (fun i f => ∀ q, q < i → f q = lN (wyN (x.2.2.1 29) h 0 q))
    (fun r => ∃ b f, r = ((), wb x b f) ∧ ∀ q, q < 36 → f q = lN (wyN (x.2.2.1 29) h m q))
    (fun n i f hi hf => by
      have h1 : ¬ (36 : Int32) ≤ nI i := nI_ge (b := 36) hi (by decide)
      refine Or.inl ⟨vp_updL f i (lN (wyN (x.2.2.1 29) h 0 i)), fun q hq => ?_, ?_⟩
      · by_cases e : q = i
        · subst e; rw [uL_eq]
        · rw [uL_ne _ _ e]; exact hf q (by omega)
      · rw [L_X0_walk_22_1_2, if_neg h1, show (wb x (x.2.2.2 24) f).1 36 = nI h from e1]
        by_cases e : i = h
        · have : wyN (x.2.2.1 29) h 0 i = 1 := if_pos e
          rw [if_pos (by rw [e]), if_pos (ns_e hi), nI_clamp (by omega), nI_1, wb_23, this]; rfl
        · have : wyN (x.2.2.1 29) h 0 i = 0 := if_neg e
          rw [if_neg (fun c => e ((nI_eq (by omega) (by omega)).mp c)), if_pos (ns_e hi), nI_clamp (by omega), nI_1, wb_23, this]; rfl)
    (fun n f hf => by
      obtain ⟨b, f', h35, hf'⟩ := wk35_ok hI hm (b0 := x.2.2.2 24) hf
      exact ⟨((), wb x b f'), by rw [L_X0_walk_22_1_2, if_pos (by decide), h35], b, f', rfl, hf'⟩)
    100 0 (x.2.2.2 23) (by decide) (by decide) (fun q hq => by omega)
  obtain ⟨r, hF, b, f, rfl, hf⟩ := H
  have hF' : L_X0_walk_22_1_2 100 (nI m) 0 (wb x (x.2.2.2 24) (x.2.2.2 23)) = some ((), wb x b f) := hF
  rw [wb_self] at hF'
  exact ⟨b, f, hF', hf⟩
end
