section AMC
variable {p : Program} {l : Launch} {e : Env} {R : Room} {s : State} {m : MethodId} {args : Array Value} {below : List Frame} {meth : Method} {c : Code} {H : Heap} {locs : List Loc} {Q : State → Prop}
variable {cc : ByteArray} {pc : Nat} {sl : Array Slot} {ad adV : Nat → Nat} {tc : Nat → ClassId} {D : va_G}
variable {oc nL a nx : Nat} {ret : Option FieldType} {i : Instr} {v : Value} {tb : List (Int32 × Nat)} {st st' : List Value} {x x' : am_X} {P : Prop}
theorem am_callg {st0 rest : List Value} {r : Option Value} {x1 : am_X} {aa : Array Value} (hr : va_Run p l e R s m args below meth c H locs 0 0 0 0 (F0 m pc sl st0) rest (am_Qc D ad tc H.size r x1 aa) (am_A ad H.size)) (hS : va_S (am_A ad s.heap.size) s.heap H locs)
    (kk : ∀ (H1 : Heap) (locs1 : List Loc), va_P D vwCl (am_W ad tc x1) H1 → va_S (am_A ad s.heap.size) s.heap H1 locs1 → W p l e R s m args below meth c H1 locs1 0 0 Q (F0 m (pc + 3) sl ((r.map (am_cv ad)).toList ++ rest))) : W p l e R s m args below meth c H locs 0 0 Q (F0 m pc sl st0) := by
  have hAB : ∀ q, am_A ad H.size q → am_A ad s.heap.size q := fun q hq => hq.imp id (fun h => Nat.le_trans hS.1 h)
  intro T hT X
  obtain ⟨v, st₀, t, T', L, h0, X', hL, e1, e2, ⟨⟨hv, hp⟩, hz, hk⟩, st⟩ := hr T hT X
  cases hv
  rw [h0] at hz hk
  obtain ⟨t2, a1, b1⟩ := kk T'.heap (locs ++ L) (by rw [e1]; exact hp)
    ⟨Nat.le_trans hS.1 (by rw [e1]; exact hz), fun q h1 h2 => by rw [e1, hk q (Nat.lt_of_lt_of_le h1 hS.1) (fun z => h2 (hAB q z))]; exact hS.2.1 q h1 h2, fun q hq => by
      rcases List.mem_append.mp hq with h | h
      · exact hS.2.2 q h
      · exact hAB _ (hL q h)⟩ T' rfl X'
  exact ⟨t2, st t2 a1, b1⟩
theorem am_spl_eq : ∀ (n : Nat) (acc st as r : List Value), am_spl n acc st = some (as, r) → ∃ b, st = b ++ r ∧ b.length = n ∧ as = b.reverse ++ acc
  | 0, acc, st, as, r, h => by simp [am_spl] at h; obtain ⟨rfl, rfl⟩ := h; exact ⟨[], rfl, rfl, rfl⟩
  | n + 1, acc, [], as, r, h => by simp [am_spl] at h
  | n + 1, acc, v :: st, as, r, h => by
    obtain ⟨b, h1, h2, h3⟩ := am_spl_eq n (v :: acc) st as r h
    exact ⟨v :: b, by rw [h1]; rfl, by simp [h2], by simp [h3]⟩
theorem am_spl_st {n : Nat} {st as r : List Value} (h : am_spl n [] st = some (as, r)) : st = as.reverse ++ r ∧ as.length = n := by
  obtain ⟨b, h1, h2, h3⟩ := am_spl_eq n [] st as r h
  simp only [List.append_nil] at h3
  subst h3
  exact ⟨by simp [h1], by simp [h2]⟩
/-- what stands in the tables of a method -/
theorem am_me_w {M : Nat} (h : M < 190) : lw_tbl[(am_me M).2.2.2.2.2.2.2.2.1]? = some (if (am_me M).2.2.2.2.2.1 then .static (am_me M).2.1 else .instanceMethod (am_me M).2.1) ∧ ((am_me M).2.2.2.2.2.1 = true ∨ lw_tbl[(am_me M).2.2.2.2.2.2.2.2.2.1]? = some (.selects (am_me M).2.1.cls (am_me M).2.1 (am_me M).2.1)) ∧ lw_tbl[(am_me M).2.2.2.2.2.2.2.2.2.2]? = some (.initialized (am_me M).2.1.cls) ∧
    (am_me M).2.1.cls = am_own (am_me M).1 ∧ (am_me M).2.1.cls ≠ "java/lang/invoke/MethodHandle" ∧ (am_me M).2.1.cls ≠ "java/lang/invoke/VarHandle" ∧ (parseMethodDescriptor (am_me M).2.1.desc).map (fun d => d.parameters.length) = some (am_me M).2.2.2.2.2.2.1 ∧ (am_me M).2.2.2.1 ≤ 22 ∧
    goodWord (.static (am_me M).2.1) = true ∧ goodWord (.instanceMethod (am_me M).2.1) = true ∧ goodWord (.selects (am_me M).2.1.cls (am_me M).2.1 (am_me M).2.1) = true ∧ goodWord (.initialized (am_me M).2.1.cls) = true := by
  have h1 := am_me_ok h
  unfold am_me1 at h1
  split at h1
  rename_i oc y b nL ret stc n p1 p2 p3 p4 he
  rw [he]
  simp only [Bool.and_eq_true, Bool.or_eq_true, decide_eq_true_eq] at h1
  obtain ⟨⟨⟨⟨⟨⟨⟨⟨⟨⟨⟨q2, q3⟩, q4⟩, q5⟩, q6⟩, q7⟩, q8⟩, q9⟩, g2⟩, g3⟩, g4⟩, g5⟩ := h1
  exact ⟨q2, q3, q4, q5, q6, q7, q8, q9, g2, g3, g4, g5⟩
theorem am_mle {ix : Nat} (h : am_ml.any (fun e => decide (e.1 = oc ∧ e.2.1 = ix ∧ e.2.2.1 = a)) = true) : ∃ e ∈ am_ml, e.1 = oc ∧ e.2.1 = ix ∧ e.2.2.1 = a ∧ a < 190 ∧ lw_tbl[e.2.2.2.1]? = some (am_mlw e) ∧ (e.2.2.2.2 = 1 ∨ goodWord (am_mlw e) = true) := by
  obtain ⟨e, he, h1⟩ := List.any_eq_true.mp h
  obtain ⟨r1, r2, r3⟩ := of_decide_eq_true h1
  have h2 := List.all_eq_true.mp am_ml_ok e he
  simp only [am_ml1, Bool.and_eq_true, Bool.or_eq_true, decide_eq_true_eq] at h2
  obtain ⟨⟨z1, z2⟩, z3⟩ := h2
  refine ⟨e, he, r1, r2, r3, by rw [← r3]; exact z3, z1, ?_⟩
  rcases z2 with z | z
  · exact Or.inl (Nat.eq_of_beq_eq_true z)
  · exact Or.inr z
theorem am_blind {sz : Nat} {as : List Value} {x : am_X} : FrameBlind (am_Pc D ad adV tc sz as x) := fun _ _ _ _ h => ⟨h.1, h.2.1, h.2.2.1, h.2.2.2.1, am_Cx_blind h.2.2.2.2⟩
theorem am_pre {as : List Value} (hP : va_P D vwCl (am_W ad tc x) H) (hD : va_D (am_A ad s.heap.size) (am_W ad tc x)) (hC : am_Cx D ad adV tc s.heap.size s) (hS : va_S (am_A ad s.heap.size) s.heap H locs) (U : State) (hU : U.heap = H) (hW : s.WarmedH U.vm) : am_Pc D ad adV tc H.size as x (as.map (am_cv ad)).toArray U := by
  refine ⟨rfl, by rw [hU], by rw [hU]; exact hP, ⟨hD.1, fun k q hk => ?_⟩, am_Cx_call hC hS hU hW⟩
  rw [am_W_at] at hk
  cases hs : am_shp[k]? with
  | none => rw [hs] at hk; cases hk
  | some z =>
    rw [hs] at hk
    cases hk
    exact Or.inl ⟨k, by rw [← am_shp_len]; exact (List.getElem?_eq_some_iff.mp hs).1, rfl⟩
theorem am_own_cc {ci : Nat} (h : ci < 9) : (am_cc ci).1 = am_own ci := by
  match ci, h with
  | 0, _ | 1, _ | 2, _ | 3, _ | 4, _ | 5, _ | 6, _ | 7, _ | 8, _ => rfl
  | n + 9, h => omega
theorem am_recv {b : Nat} (hP : va_P D vwCl (am_W ad tc x) H) (hC : am_Cx D ad adV tc s.heap.size s) (hS : va_S (am_A ad s.heap.size) s.heap H locs) (hoc : am_cls b < 9 ∨ (20 ≤ am_cls b ∧ am_cls b < 30)) : ∃ cellB : Cell, H[ad b]? = some cellB ∧ cellB.vm.isStatics = false ∧ s.vm.findClass (am_own (am_cls b)) = some cellB.cls := by
  unfold am_cls at hoc ⊢
  rw [am_at_eq] at hoc ⊢
  split at hoc
  · rename_i ci fs he
    have h9 : ci < 9 := by
      have := am_shp_at he
      simp only [am_shp1, Bool.and_eq_true, decide_eq_true_eq] at this
      exact this.1.1
    have := va_recv hC.1 hP (am_cc_at h9) (am_W_obj he)
    rw [am_own_cc h9] at this
    exact this
  · omega
  · cases hb : (Nat.ble 1000 b && Nat.blt b 1008) with
    | false => rw [hb] at hoc; simp at hoc
    | true =>
      have h1 : 1000 ≤ b ∧ b < 1008 := by
        simp only [Bool.and_eq_true] at hb
        exact ⟨Nat.le_of_ble_eq_true hb.1, by have := hb.2; simp [Nat.blt] at this; omega⟩
      have := vk_recv hC.2.2.2.1 (i := b - 1000) (by omega) hS
      rw [show 1000 + (b - 1000) = b by omega] at this
      exact this
/-- a call, out of the callee's contract -/
theorem am_s5 {d M : Nat} {as r : List Value} {r1 : Option Value} {x1 : am_X} (hx : p.tables.exec = Jvm.exec) (hb : c.code = cc) (hml : c.maxLocals = nL) (hsl : sl.size = nL) (hown : s.vm.findClass (am_own oc) = some m.cls) (hts : ∀ w ∈ am_tb, w.before args s = true)
    (hP : va_P D vwCl (am_W ad tc x) H) (hD : va_D (am_A ad s.heap.size) (am_W ad tc x)) (hC : am_Cx D ad adV tc s.heap.size s) (hS : va_S (am_A ad s.heap.size) s.heap H locs) (hR : R = am_rm d) (hd1 : 1 ≤ d)
    (ht : am_tie oc cc nL ret (pc, i, a, v, nx, tb) = true) (h9 : ∀ ix, i = .invokestatic ix → Nat.ble 999 a = false) (h : am_inv i a v st = some (M, as, r))
    (hM : M < 190 → Met l (am_me M).2.1 (am_ws M) (am_rm (d - 1)) (am_Pc D ad adV tc H.size as x) (am_Qc D ad tc H.size r1 x1) 0 0 (am_A ad H.size))
    (k : ∀ (H1 : Heap) (locs1 : List Loc), va_P D vwCl (am_W ad tc x1) H1 → va_S (am_A ad s.heap.size) s.heap H1 locs1 → W p l e R s m args below meth c H1 locs1 0 0 Q (F0 m nx sl ((r1.toList ++ r).map (am_cv ad)))) : W p l e R s m args below meth c H locs 0 0 Q (F0 m pc sl (st.map (am_cv ad))) := by
  obtain ⟨hd, hn, h2⟩ := am_tie_d ht
  have hroom : ∀ {M}, M < 190 → (am_rm (d - 1)).frames + 1 ≤ R.frames ∧ 8 + ((am_me M).2.2.2.1 + 11) + (am_rm (d - 1)).locals ≤ R.locals := by
    intro M hM
    have := (am_me_w hM).2.2.2.2.2.2.2.1
    subst hR
    simp only [am_rm]
    omega
  have hcells : 0 + 0 ≤ R.cells ∧ 0 + 0 ≤ R.slots := ⟨Nat.zero_le _, Nat.zero_le _⟩
  have hcat : ∀ {r : List Value}, am_sum r ≤ 8 → 2 * (F0 m pc sl (st.map (am_cv ad))).monitorRoom + (((r.map (am_cv ad))).map fun v => v.category).sum ≤ 8 := fun h => lv_room (by rw [am_cv_sum]; exact h)
  have hin : ∀ {M}, M < 190 → (Cond.initialized (am_me M).2.1.cls).before args s = true := fun hM => hts _ (am_tb_in (am_me_w hM).2.2.1 (am_me_w hM).2.2.2.2.2.2.2.2.2.2.2)
  have happ : ∀ (q : List Value), (q ++ r).map (am_cv ad) = q.map (am_cv ad) ++ r.map (am_cv ad) := fun q => by simp
  have hkr : ∀ (H1 : Heap) (locs1 : List Loc), va_P D vwCl (am_W ad tc x1) H1 → va_S (am_A ad s.heap.size) s.heap H1 locs1 → W p l e R s m args below meth c H1 locs1 0 0 Q (F0 m nx sl ((r1.map (am_cv ad)).toList ++ r.map (am_cv ad))) := by
    intro H1 locs1 a1 a2
    have := k H1 locs1 a1 a2
    rw [happ] at this
    rw [show (r1.map (am_cv ad)).toList = r1.toList.map (am_cv ad) by cases r1 <;> rfl]
    exact this
  cases i with
  | invokestatic ix =>
    simp only [am_inv] at h
    split at h
    · rename_i n
      split at h
      · rename_i as' r' hs
        cases hbb : Nat.ble (am_sum r') 8 with
        | false => rw [hbb] at h; cases h
        | true =>
          rw [hbb] at h
          cases h
          obtain ⟨rfl, hlen⟩ := am_spl_st hs
          have hf9 := h9 ix rfl
          simp only [am_tie2, hf9, cond_false, Bool.and_eq_true, decide_eq_true_eq] at h2
          obtain ⟨h3, h4, h5⟩ := h2
          obtain ⟨e0, he, rfl, rfl, rfl, hM0, g1, g2⟩ := am_mle h3
          obtain ⟨q2, -, -, q5, q6, q7, q8, -, w2, -, -, -⟩ := am_me_w hM0
          rw [h4] at q2
          have hstt := hts _ (am_tb_in q2 w2)
          rw [hn] at hkr
          have hst : List.map (am_cv ad) (as.reverse ++ r) = (as.map (am_cv ad)).reverse ++ r.map (am_cv ad) := by simp
          by_cases hne : e0.2.2.2.2 = 1
          · have hl := hC.2.1.2 e0 he hne
            have hw : am_mlw e0 = .methodLinkNest (am_own e0.1) e0.2.1 (am_me e0.2.2.1).2.1 RX7 := by simp only [am_mlw, hne]
            rw [hw] at hl
            exact am_callg (va_runSN (As := as.map (am_cv ad)) (rest := r.map (am_cv ad)) ⟨hx, hb, hml, hown, hts⟩ (hM hM0) ⟨va_cnB n hts (am_good_in hM0) rfl rfl rfl hl (hin hM0) ⟨q6, q7, by rw [q8, h5]⟩ (hroom hM0), hstt, trivial⟩ ⟨am_blind, am_pre hP hD hC hS⟩ rfl (by simpa using hlen) hsl hst (hcat (Nat.le_of_ble_eq_true hbb)) hd hcells) hS hkr
          · have hl := hts _ (am_tb_in g1 (g2.resolve_left hne))
            have hw : am_mlw e0 = .methodLink (am_own e0.1) e0.2.1 (am_me e0.2.2.1).2.1 := by
              unfold am_mlw; split
              · rename_i z; exact absurd z hne
              · rfl
            rw [hw] at hl
            exact am_callg (va_runS (As := as.map (am_cv ad)) (rest := r.map (am_cv ad)) ⟨hx, hb, hml, hown, hts⟩ (hM hM0) ⟨callB_of n hts (am_good_in hM0) rfl rfl rfl (hin hM0) hl ⟨q6, q7, by rw [q8, h5]⟩ (hroom hM0), hstt⟩ ⟨am_blind, am_pre hP hD hC hS⟩ rfl (by simpa using hlen) hsl hst (hcat (Nat.le_of_ble_eq_true hbb)) hd hcells) hS hkr
      · cases h
    · cases h
  | invokevirtual ix =>
    simp only [am_inv] at h
    split at h
    · rename_i n
      split at h
      · rename_i as' b r' hs
        cases hbb : (Nat.beq (am_cls b + 1) (n / 10) && Nat.ble (am_sum r') 8) with
        | false => rw [hbb] at h; cases h
        | true =>
          rw [hbb] at h
          cases h
          simp only [Bool.and_eq_true] at hbb
          obtain ⟨hb1, hb2⟩ := hbb
          have hb1 := Nat.eq_of_beq_eq_true hb1
          obtain ⟨rfl, hlen⟩ := am_spl_st hs
          simp only [am_tie2, Bool.and_eq_true, decide_eq_true_eq] at h2
          obtain ⟨h3, h4, h5, h6⟩ := h2
          obtain ⟨e0, he, rfl, rfl, rfl, hM0, g1, g2⟩ := am_mle h3
          obtain ⟨q2, q3, -, q5, q6, q7, q8, -, -, w3, w4, -⟩ := am_me_w hM0
          have hoc : am_cls b = (am_me e0.2.2.1).1 := by omega
          rw [h4] at q2
          have hins := hts _ (am_tb_in q2 w3)
          have hsel := hts _ (am_tb_in (q3.resolve_left (by rw [h4]; decide)) w4)
          have hrecv := am_recv hP hC hS (b := b) (by rw [hoc]; exact am_oc hM0)
          rw [hoc, ← q5] at hrecv
          rw [hn] at hkr
          have hst : List.map (am_cv ad) (as'.reverse ++ .ref b :: r) = (as'.map (am_cv ad)).reverse ++ .ref (ad b) :: r.map (am_cv ad) := by simp [am_cv]
          by_cases hne : e0.2.2.2.2 = 1
          · have hl := hC.2.1.2 e0 he hne
            have hw : am_mlw e0 = .methodLinkNest (am_own e0.1) e0.2.1 (am_me e0.2.2.1).2.1 RX7 := by simp only [am_mlw, hne]
            rw [hw] at hl
            exact am_callg (va_runVN (As := as'.map (am_cv ad)) (rest := r.map (am_cv ad)) (b := ad b) ⟨hx, hb, hml, hown, hts⟩ (hM hM0) ⟨va_cnB (n % 10) hts (am_good_in hM0) rfl rfl rfl hl (hin hM0) ⟨q6, q7, by rw [q8, h5]⟩ (hroom hM0), hins, hsel⟩ ⟨am_blind, hrecv, am_pre (as := .ref b :: as') hP hD hC hS⟩ rfl (by simpa using hlen) hsl hst (hcat (Nat.le_of_ble_eq_true hb2)) hd hcells) hS hkr
          · have hl := hts _ (am_tb_in g1 (g2.resolve_left hne))
            have hw : am_mlw e0 = .methodLink (am_own e0.1) e0.2.1 (am_me e0.2.2.1).2.1 := by
              unfold am_mlw; split
              · rename_i z; exact absurd z hne
              · rfl
            rw [hw] at hl
            exact am_callg (va_runV (As := as'.map (am_cv ad)) (rest := r.map (am_cv ad)) (b := ad b) ⟨hx, hb, hml, hown, hts⟩ (hM hM0) ⟨callB_of (n % 10) hts (am_good_in hM0) rfl rfl rfl (hin hM0) hl ⟨q6, q7, by rw [q8, h5]⟩ (hroom hM0), hins, hsel⟩ ⟨am_blind, hrecv, am_pre (as := .ref b :: as') hP hD hC hS⟩ rfl (by simpa using hlen) hsl hst (hcat (Nat.le_of_ble_eq_true hb2)) hd hcells) hS hkr
      · cases h
    · cases h
  | _ => simp [am_inv] at h
/-- an end -/
theorem am_s6 {d : Nat} {r : Option Value} (hx : p.tables.exec = Jvm.exec) (hb : c.code = cc) (hr : meth.sig.returnType = ret) (hlocks : meth.locks = false) (hP : va_P D vwCl (am_W ad tc x) H) (hS : va_S (am_A ad s.heap.size) s.heap H locs)
    (ht : am_tie oc cc nL ret (pc, i, a, v, nx, tb) = true) (h : am_ret i a st = some (r, P)) (hp : P) : W p l e R s m args below meth c H locs 0 0 (MQ below (am_Qc D ad tc s.heap.size r x) args s 0 0 (am_A ad s.heap.size)) (F0 m pc sl (st.map (am_cv ad))) := by
  obtain ⟨hd, hn, h2⟩ := am_tie_d ht
  cases i with
  | ireturn =>
    simp only [am_ret] at h
    cases a with
    | zero =>
      split at h
      · cases h
        simp only [am_tie2, decide_eq_true_eq] at h2
        exact W.iret hx hb (hr.trans h2) (fun t e1 _ => ⟨⟨rfl, by rw [e1]; exact hP⟩, hS.F e1⟩) hS.2.2 hd
      · cases h
    | succ a =>
      cases a with
      | zero =>
        split at h
        · cases h
          simp only [am_tie2, decide_eq_true_eq] at h2
          rcases h2 with h2 | h2
          · exact W.zret hx hb (hr.trans h2) (by rcases hp with rfl | rfl <;> rfl) (fun t e1 _ => ⟨⟨rfl, by rw [e1]; exact hP⟩, hS.F e1⟩) hS.2.2 hd
          · exact W.zret hx hb (hr.trans h2) (by rcases hp with rfl | rfl <;> rfl) (fun t e1 _ => ⟨⟨rfl, by rw [e1]; exact hP⟩, hS.F e1⟩) hS.2.2 hd
        · cases h
      | succ a =>
        split at h
        · cases h
          have h2 : decide (ret = some .char) = true := h2
          simp only [decide_eq_true_eq] at h2
          exact W.zret hx hb (hr.trans h2) hp (fun t e1 _ => ⟨⟨rfl, by rw [e1]; exact hP⟩, hS.F e1⟩) hS.2.2 hd
        · cases h
  | lreturn =>
    simp only [am_ret] at h
    split at h <;> cases h
    simp only [am_tie2, decide_eq_true_eq] at h2
    exact W.lret hx hb (hr.trans h2) (fun t e1 _ => ⟨⟨rfl, by rw [e1]; exact hP⟩, hS.F e1⟩) hS.2.2 hd
  | areturn =>
    simp only [am_ret] at h
    split at h <;> cases h
    simp only [am_tie2, decide_eq_true_eq] at h2
    exact W.aret hx hb (hr.trans h2) (Or.inl ⟨_, rfl⟩) (Or.inr ⟨_, rfl⟩) (fun t e1 _ => ⟨⟨rfl, by rw [e1]; exact hP⟩, hS.F e1⟩) hS.2.2 hd
  | return_ =>
    simp only [am_ret] at h
    split at h <;> cases h
    simp only [am_tie2, decide_eq_true_eq] at h2
    exact W.vret hx hb (hr.trans h2) (fun t e1 _ => ⟨⟨rfl, by rw [e1]; exact hP⟩, hS.F e1⟩) hS.2.2 hd
  | _ => simp [am_ret] at h
/-- THE WALK: what the abstract machine does, the machine does -/
theorem am_walk {M d : Nat} (hM : M < 190) (hx : p.tables.exec = Jvm.exec) (hb : c.code = (am_me M).2.2.1) (hr : meth.sig.returnType = (am_me M).2.2.2.2.1) (hlocks : meth.locks = false) (hml : c.maxLocals = (am_me M).2.2.2.1) (hown : s.vm.findClass (am_own (am_me M).1) = some m.cls) (hts : ∀ w ∈ am_tb, w.before args s = true)
    (hC : am_Cx D ad adV tc s.heap.size s) (hR : R = am_rm d) (hd1 : 1 ≤ d)
    (IH : ∀ (M : Nat) (as : List Value) (x : am_X) (r : Option Value) (x' : am_X), am_Ev d M as x r x' → M < 190 → ∀ sz, Met l (am_me M).2.1 (am_ws M) (am_rm (d - 1)) (am_Pc D ad adV tc sz as x) (am_Qc D ad tc sz r x') 0 0 (am_A ad sz)) :
    ∀ (n : Nat) (σ : am_S) (r : Option Value) (x' : am_X), am_run (am_Ev d) (am_code M) n σ r x' → ∀ (H : Heap) (locs : List Loc) (sl : Array Slot), va_P D vwCl (am_W ad tc σ.2.2.2) H → va_D (am_A ad s.heap.size) (am_W ad tc σ.2.2.2) → va_S (am_A ad s.heap.size) s.heap H locs → am_has ad sl (am_me M).2.2.2.1 σ.2.1 →
      W p l e R s m args below meth c H locs 0 0 (MQ below (am_Qc D ad tc s.heap.size r x') args s 0 0 (am_A ad s.heap.size)) (F0 m σ.1 sl (σ.2.2.1.map (am_cv ad))) := by
  intro n
  induction n with
  | zero => intro σ r x' h; exact h.elim
  | succ n ih =>
    intro σ r x' h H locs sl hP hD hS hl
    obtain ⟨pc, ls, st, x⟩ := σ
    obtain ⟨ls0, hle, h⟩ := h
    have hl0 : am_has ad sl (am_me M).2.2.2.1 ls0 := am_has_sub hl (am_le_at _ _ hle)
    dsimp only at h hP hD hl ⊢
    cases hf : am_find (am_code M) pc with
    | none => simp [am_step, hf] at h
    | some q =>
      obtain ⟨i, a, v, nx, tb⟩ := q
      have ht : am_tie (am_me M).1 (am_me M).2.2.1 (am_me M).2.2.2.1 (am_me M).2.2.2.2.1 (pc, i, a, v, nx, tb) = true := List.all_eq_true.mp (am_k_ok hM) _ (am_find_in hf)
      simp only [am_step, hf] at h
      generalize hE : am_exec (i, a, v, nx, tb) ls0 st x = o at h
      match o, hE, h with
      | none, _, h => exact h.elim
      | some (.inl σ'), hE, h =>
        unfold am_exec at hE
        dsimp only at hE
        split at hE
        · split at hE
          · rename_i hq; cases hE; exact am_s0 hC.2.2.2 hS hx hb hown hts hC.2.2.1 ht hq (ih _ _ _ h _ _ _ hP hD hS hl0)
          · cases hE
        · split at hE <;> cases hE
        · split at hE
          · rename_i hq; cases hE; exact am_s2 hx hb ht hq hl0 (fun sl' hl' => ih _ _ _ h _ _ _ hP hD hS hl')
          · cases hE
        · split at hE
          · rename_i hq; cases hE; exact am_s3 hx hb ht hq (ih _ _ _ h _ _ _ hP hD hS hl0)
          · cases hE
        · split at hE
          · rename_i hq; cases hE; exact am_s4 hx hb (hml.trans hl0.1.symm) hown hts hC.2.1 hC.1 hP hD hS hC.2.2.2 (by subst hR; exact ⟨hd1, by simp only [am_rm]; omega⟩) ht hq (fun Q hQ => by cases hQ) (fun H1 locs1 a1 a2 => ih _ _ _ h _ _ _ a1 (am_W_D hD) a2 hl0)
          · cases hE
          · cases hE
        · split at hE <;> cases hE
        · split at hE <;> cases hE
      | some (.inr (.inl (P, σ'))), hE, h =>
        unfold am_exec at hE
        dsimp only at hE
        split at hE
        · split at hE <;> cases hE
        · split at hE
          · rename_i hq; cases hE; exact am_s1 hx hb ht hq h.1 (ih _ _ _ h.2 _ _ _ hP hD hS hl0)
          · cases hE
        · split at hE <;> cases hE
        · split at hE <;> cases hE
        · split at hE
          · cases hE
          · rename_i hq; cases hE; exact am_s4 hx hb (hml.trans hl0.1.symm) hown hts hC.2.1 hC.1 hP hD hS hC.2.2.2 (by subst hR; exact ⟨hd1, by simp only [am_rm]; omega⟩) ht hq (fun Q hQ => by cases hQ; exact h.1) (fun H1 locs1 a1 a2 => ih _ _ _ h.2 _ _ _ a1 (am_W_D hD) a2 hl0)
          · cases hE
        · split at hE <;> cases hE
        · split at hE <;> cases hE
      | some (.inr (.inr (.inl (w, P, y)))), hE, h =>
        unfold am_exec at hE
        dsimp only at hE
        split at hE
        · split at hE <;> cases hE
        · split at hE <;> cases hE
        · split at hE <;> cases hE
        · split at hE <;> cases hE
        · split at hE <;> cases hE
        · split at hE <;> cases hE
        · split at hE
          · rename_i hq; cases hE
            obtain ⟨h1, rfl, rfl⟩ := h
            exact am_s6 (d := d) hx hb hr hlocks hP hS ht hq h1
          · cases hE
      | some (.inr (.inr (.inr (M', as, (pc', ls', st', y))))), hE, h =>
        unfold am_exec at hE
        dsimp only at hE
        split at hE
        · split at hE <;> cases hE
        · split at hE <;> cases hE
        · split at hE <;> cases hE
        · split at hE <;> cases hE
        · split at hE <;> cases hE
        · rename_i hg
          split at hE
          · rename_i hq; cases hE
            obtain ⟨r1, x1, h1, h2⟩ := h
            have h9 : ∀ ix, i = .invokestatic ix → Nat.ble 999 a = false := by
              rintro ix rfl
              cases hz : Nat.ble 999 a with
              | false => rfl
              | true => simp [am_grp, hz] at hg
            exact am_s5 hx hb hml hl0.1 hown hts hP hD hC hS hR hd1 ht h9 hq (fun hM' => IH _ _ _ _ _ h1 hM' _) (fun H1 locs1 a1 a2 => ih _ _ _ h2 _ _ _ a1 (am_W_D hD) a2 hl0)
          · cases hE
        · split at hE <;> cases hE
end AMC
