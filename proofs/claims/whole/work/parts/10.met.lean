theorem am_pl0 (oc : Nat) (h : oc ≠ 23) : plainName (am_own oc) = true := by
  unfold am_own
  split <;> first | (exact absurd rfl h) | decide
theorem am_oc1 : (List.range 190).all (fun M => decide ((am_me M).1 ≠ 23)) = true := by decide +kernel
theorem am_oc23 {M : Nat} (h : M < 190) : (am_me M).1 ≠ 23 := by
  have := List.all_eq_true.mp am_oc1 M (List.mem_range.mpr h)
  simpa using this
theorem am_ent_entry (ad : Nat → Nat) : ∀ (vs : List Value) (k : Nat), am_ent k (am_cl ad (am_entry vs)) = lv_args k (vs.map (am_cv ad)) := by
  intro vs
  induction vs with
  | nil => intro k; rfl
  | cons v vs ih =>
    intro k
    have := ih
    unfold am_cl at this ⊢
    cases v with
    | null =>
      by_cases hz : ad 1201 = 0
      · have hn : am_nv ad = .null := if_pos hz
        simp [am_entry, am_ent, lv_args, Value.category, am_cv, hn, this]
      · have hn : am_nv ad = .ref (ad 1200) := if_neg hz
        simp [am_entry, am_ent, lv_args, Value.category, am_cv, hn, this]
    | _ => simp [am_entry, am_ent, lv_args, Value.category, am_cv, this]
theorem am_sl_cons (w : Value) (ws : List Value) : (lg_sl (w :: ws)).length = (if w.category = 2 then 2 else 1) + (lg_sl ws).length := by
  unfold lg_sl
  rw [List.flatMap_cons, List.length_append]
  split <;> rfl
theorem am_entry_len (ad : Nat → Nat) (vs : List Value) : (lg_sl (vs.map (am_cv ad))).length = (am_entry vs).length := by
  induction vs with
  | nil => rfl
  | cons v vs ih =>
    rw [List.map_cons, am_sl_cons, ih, am_cv_cat]
    cases v <;> simp [am_entry, Value.category] <;> omega
theorem am_pad_none (n i : Nat) (v : Value) : (am_pad n [])[i]? = some (some v) → False := by
  induction n generalizing i with
  | zero => intro h; simp [am_pad] at h
  | succ n ih =>
    intro h
    cases i with
    | zero => simp [am_pad] at h
    | succ i => exact ih i (by simpa [am_pad] using h)
theorem am_ent0_has {ad : Nat → Nat} {M : Nat} {as : List Value} {nL : Nat} (h : (am_entry as).length ≤ nL) : am_has ad ((lg_sl (as.map (am_cv ad)) ++ List.replicate (nL - (lg_sl (as.map (am_cv ad))).length) Slot.unset).toArray) nL (am_ent0 M as) := by
  have h1 := lv_entry (as.map (am_cv ad)) (n := nL) (by rw [am_entry_len]; exact h)
  have h2 : am_has ad ((lg_sl (as.map (am_cv ad)) ++ List.replicate (nL - (lg_sl (as.map (am_cv ad))).length) Slot.unset).toArray) nL (am_entry as) := by
    unfold am_has
    rw [am_ent_entry]
    exact h1
  refine am_has_sub h2 (fun i v hi => ?_)
  unfold am_ent0 at hi
  by_cases hl : i < (am_entry as).length
  · rwa [List.getElem?_append_left hl] at hi
  · rw [List.getElem?_append_right (by omega)] at hi
    exact (am_pad_none _ _ _ hi).elim
/-- every method of the tables meets what the abstract machine says of it -/
theorem am_met : ∀ (d M : Nat) (as : List Value) (x : am_X) (r : Option Value) (x' : am_X), am_Ev d M as x r x' → M < 190 → ∀ (l : Launch) (D : va_G) (ad adV : Nat → Nat) (tc : Nat → ClassId) (sz : Nat), Met l (am_me M).2.1 (am_ws M) (am_rm (d - 1)) (am_Pc D ad adV tc sz as x) (am_Qc D ad tc sz r x') 0 0 (am_A ad sz) := by
  intro d
  induction d with
  | zero => intro M as x r x' h; exact h.elim
  | succ d ih =>
    intro M as x r x' h hM l D ad adV tc sz
    obtain ⟨hd, hlen, n, hrun⟩ := h
    · have hpl : plainName (am_me M).2.1.cls = true := by rw [(am_me_w hM).2.2.2.1]; exact am_pl0 _ (by have := am_oc hM; have := am_oc23 hM; omega)
      refine Met.ofW (cc := (am_me M).2.2.1) (maxL := (am_me M).2.2.2.1) (ret := (am_me M).2.2.2.2.1) hpl rfl ?_
      intro p e s m args below meth c s₁ B hml hv
      obtain ⟨rfl, hsz, hP, hD, hC⟩ := hv
      subst hsz
      have hts : ∀ w ∈ am_ws M, w.before (as.map (am_cv ad)).toArray s = true := atoms_spec (ws := am_ws M) B.pre
      have hown : s.vm.findClass (am_me M).2.1.cls = some m.cls := findClass_of_methodNamed B.named
      rw [(am_me_w hM).2.2.2.1] at hown
      rw [lg_entry_eq]
      exact am_walk (d := d) hM B.exec B.bytes B.returns B.notSynchronized hml hown (fun w hw => hts w (List.mem_cons_of_mem _ hw)) hC rfl hd (fun M' as' x1 r1 x2 h1 hM' sz' => ih M' as' x1 r1 x2 h1 hM' l D ad adV tc sz') n _ r x' hrun s.heap [] _ hP hD va_S.rf (am_ent0_has (Nat.le_of_ble_eq_true hlen))
/-! reasoning about the abstract machine -/
def am_Rr (d : Nat) (cd : am_C) (σ : am_S) (post : Option Value → am_X → Prop) : Prop := ∃ n r x', am_run (am_Ev d) cd n σ r x' ∧ post r x'
def am_T (d M : Nat) (as : List Value) (x : am_X) (post : Option Value → am_X → Prop) : Prop := ∃ r x', am_Ev d M as x r x' ∧ post r x'
theorem am_le_rf : ∀ (a : am_L), am_le a a
  | [] => trivial
  | none :: t => am_le_rf t
  | some _ :: t => ⟨rfl, am_le_rf t⟩
theorem am_le_nil : ∀ (a b : am_L), am_le a [] → am_le a b
  | [], _, _ => trivial
  | none :: t, [], h => h
  | none :: t, _ :: u, h => am_le_nil t u h
  | some _ :: _, _, h => h.elim
theorem am_le_tr : ∀ (a b c : am_L), am_le a b → am_le b c → am_le a c
  | [], _, _, _, _ => trivial
  | none :: t, [], c, h, _ => am_le_nil (none :: t) c h
  | some _ :: _, [], _, h, _ => h.elim
  | none :: t, none :: u, [], h, g => am_le_tr t u [] h g
  | none :: t, none :: u, _ :: w, h, g => am_le_tr t u w h g
  | none :: t, some _ :: u, [], _, g => g.elim
  | none :: t, some _ :: u, _ :: w, h, g => am_le_tr t u w h g.2
  | some v :: t, o :: u, c, h, g => by
    obtain ⟨rfl, h⟩ := h
    match c, g with
    | [], g => exact g.elim
    | o2 :: w, g => exact ⟨g.1, am_le_tr t u w h g.2⟩
def am_go (cd : am_C) : Nat → am_S → Option am_S
  | 0, σ => some σ
  | n + 1, σ => match am_step cd σ with
    | some (.inl σ') => am_go cd n σ'
    | _ => none
section RR
variable {d : Nat} {cd : am_C} {σ σ' : am_S} {post : Option Value → am_X → Prop} {P : Prop}
theorem am_Rr.weak {pc : Nat} {ls ls0 : am_L} {st : List Value} {x : am_X} (h : am_le ls0 ls) (k : am_Rr d cd (pc, ls0, st, x) post) : am_Rr d cd (pc, ls, st, x) post := by
  obtain ⟨n, r, x', h1, h2⟩ := k
  cases n with
  | zero => exact h1.elim
  | succ n =>
    obtain ⟨l0, h3, h4⟩ := h1
    exact ⟨n + 1, r, x', ⟨l0, am_le_tr _ _ _ h3 h, h4⟩, h2⟩
theorem am_Rr.step1 (h : am_step cd σ = some (.inl σ')) (k : am_Rr d cd σ' post) : am_Rr d cd σ post := by
  obtain ⟨n, r, x', h1, h2⟩ := k
  exact ⟨n + 1, r, x', ⟨σ.2.1, am_le_rf _, by rw [show (σ.1, σ.2.1, σ.2.2.1, σ.2.2.2) = σ from rfl, h]; exact h1⟩, h2⟩
theorem am_Rr.go (n : Nat) (h : am_go cd n σ = some σ') (k : am_Rr d cd σ' post) : am_Rr d cd σ post := by
  induction n generalizing σ with
  | zero => simp only [am_go, Option.some.injEq] at h; rw [h]; exact k
  | succ n ih =>
    simp only [am_go] at h
    split at h
    · rename_i h1; exact am_Rr.step1 h1 (ih h)
    · cases h
theorem am_Rr.chk (h : am_step cd σ = some (.inr (.inl (P, σ')))) (p : P) (k : am_Rr d cd σ' post) : am_Rr d cd σ post := by
  obtain ⟨n, r, x', h1, h2⟩ := k
  exact ⟨n + 1, r, x', ⟨σ.2.1, am_le_rf _, by rw [show (σ.1, σ.2.1, σ.2.2.1, σ.2.2.2) = σ from rfl, h]; exact ⟨p, h1⟩⟩, h2⟩
theorem am_Rr.ret {v : Option Value} {x : am_X} (h : am_step cd σ = some (.inr (.inr (.inl (v, P, x))))) (p : P) (k : post v x) : am_Rr d cd σ post :=
  ⟨1, v, x, ⟨σ.2.1, am_le_rf _, by rw [show (σ.1, σ.2.1, σ.2.2.1, σ.2.2.2) = σ from rfl, h]; exact ⟨p, rfl, rfl⟩⟩, k⟩
theorem am_Rr.call {M pc : Nat} {as st : List Value} {ls : am_L} {x : am_X} {q : Option Value → am_X → Prop} (h : am_step cd σ = some (.inr (.inr (.inr (M, as, (pc, ls, st, x)))))) (hT : am_T d M as x q)
    (k : ∀ r1 x1, q r1 x1 → am_Rr d cd (pc, ls, r1.toList ++ st, x1) post) : am_Rr d cd σ post := by
  obtain ⟨r1, x1, h1, h2⟩ := hT
  obtain ⟨n, r, x', h3, h4⟩ := k r1 x1 h2
  exact ⟨n + 1, r, x', ⟨σ.2.1, am_le_rf _, by rw [show (σ.1, σ.2.1, σ.2.2.1, σ.2.2.2) = σ from rfl, h]; exact ⟨r1, x1, h1, h3⟩⟩, h4⟩
theorem am_Rr.ite {c : Prop} [Decidable c] {a b : Nat} {ls : am_L} {st : List Value} {x : am_X} (h1 : c → am_Rr d cd (a, ls, st, x) post) (h2 : ¬ c → am_Rr d cd (b, ls, st, x) post) : am_Rr d cd (if c then a else b, ls, st, x) post := by
  by_cases h : c
  · rw [if_pos h]; exact h1 h
  · rw [if_neg h]; exact h2 h
theorem am_Rr.cong {pc : Nat} {ls : am_L} {st : List Value} {x1 x2 : am_X} (h : x2 = x1) (k : am_Rr d cd (pc, ls, st, x1) post) : am_Rr d cd (pc, ls, st, x2) post := h ▸ k
theorem am_Rr.mono {q : Option Value → am_X → Prop} (h : am_Rr d cd σ q) (k : ∀ r x, q r x → post r x) : am_Rr d cd σ post := by
  obtain ⟨n, r, x', h1, h2⟩ := h
  exact ⟨n, r, x', h1, k _ _ h2⟩
theorem am_T.of {M : Nat} {as : List Value} {x : am_X} (hl : Nat.ble (am_entry as).length (am_me M).2.2.2.1 = true) (h : am_Rr (d + 1) (am_code M) (0, am_ent0 M as, [], x) post) : am_T (d + 2) M as x post := by
  obtain ⟨n, r, x', h1, h2⟩ := h
  exact ⟨r, x', ⟨by omega, hl, n, h1⟩, h2⟩
theorem am_T.mono {M : Nat} {as : List Value} {x : am_X} {q : Option Value → am_X → Prop} (h : am_T d M as x q) (k : ∀ r x, q r x → post r x) : am_T d M as x post := by
  obtain ⟨r, x', h1, h2⟩ := h
  exact ⟨r, x', h1, k _ _ h2⟩
end RR
theorem am_upp {α : Type} (f : Nat → α) (k : Nat) (v w : α) : am_up (am_up f k v) k w = am_up f k w := by
  funext j
  simp only [am_up]
  split <;> rfl
theorem am_up_self {α : Type} (f : Nat → α) (k : Nat) : am_up f k (f k) = f := by
  funext j
  simp only [am_up]
  split
  · rename_i h; rw [h]
  · rfl
theorem am_uII (x : am_X) (k : Nat) (v w : Int32) : am_uI (am_uI x k v) k w = am_uI x k w := by simp only [am_uI, am_upp]
theorem am_uLL (x : am_X) (k : Nat) (v w : Int64) : am_uL (am_uL x k v) k w = am_uL x k w := by simp only [am_uL, am_upp]
theorem am_sAA (x : am_X) (k : Nat) (v w : Nat → Int32) : am_sA (am_sA x k v) k w = am_sA x k w := by simp only [am_sA, am_upp]
theorem am_sBB (x : am_X) (k : Nat) (v w : Nat → Int64) : am_sB (am_sB x k v) k w = am_sB x k w := by simp only [am_sB, am_upp]
theorem am_uI_self (x : am_X) (k : Nat) : am_uI x k (x.1 k) = x := by simp only [am_uI, am_up_self]
theorem am_uL_self (x : am_X) (k : Nat) : am_uL x k (x.2.1 k) = x := by simp only [am_uL, am_up_self]
theorem am_sA_self (x : am_X) (k : Nat) : am_sA x k (x.2.2.1 k) = x := by simp only [am_sA, am_up_self]
theorem am_sB_self (x : am_X) (k : Nat) : am_sB x k (x.2.2.2 k) = x := by simp only [am_sB, am_up_self]
