def am_Cx (D : va_G) (ad adV : Nat → Nat) (tc : Nat → ClassId) (sz : Nat) (U : State) : Prop := va_K D vwCl (am_tys tc) U ∧ am_Nst U ∧ am_Str ad U ∧ am_Zs ad (am_A ad sz) U
theorem am_Nst_same {u U : State} (hv : u.vm = U.vm) (h : am_Nst u) : am_Nst U := by
  refine ⟨fun e he hn => va_Nw.same ?_ hv (h.1 e he hn), fun e he hn => va_Nw.same ?_ hv (h.2 e he hn)⟩
  · unfold am_flw; rw [hn]; rfl
  · unfold am_mlw; rw [hn]; rfl
theorem am_Nst_warm {s U : State} (hW : s.WarmedH U.vm) (h : am_Nst s) : am_Nst U := by
  refine ⟨fun e he hn => ?_, fun e he hn => ?_⟩
  · have := h.1 e he hn
    unfold am_flw at this ⊢
    rw [hn] at this ⊢
    exact va_Nw.warmF hW this
  · have := h.2 e he hn
    unfold am_mlw at this ⊢
    rw [hn] at this ⊢
    exact va_Nw.warmM hW this
theorem am_Cx_blind {D : va_G} {ad adV : Nat → Nat} {tc : Nat → ClassId} {sz : Nat} {U : State} {g : JFrame} {mk : MethodId} {a : Array Value} (h : am_Cx D ad adV tc sz U) : am_Cx D ad adV tc sz (U.calling g mk a) := by
  obtain ⟨h1, h2, h3, h4, h5, h6⟩ := h
  exact ⟨va_K.moved (u := U) (U := U.calling g mk a) (Vm.Alike.refl U.vm) h1, am_Nst_same (u := U) rfl h2, fun k q hq => vk_R.same (u := U) rfl (h3 k q hq),
    vk_S.moved (u := U) (U := U.calling g mk a) (Vm.Alike.refl U.vm) h4, va_Z.moved (u := U) (U := U.calling g mk a) (Vm.Alike.refl U.vm) h5, va_Z.moved (u := U) (U := U.calling g mk a) (Vm.Alike.refl U.vm) h6⟩
theorem am_Cx_call {D : va_G} {ad adV : Nat → Nat} {tc : Nat → ClassId} {s U : State} {H : Heap} {locs : List Loc} (h : am_Cx D ad adV tc s.heap.size s) (hS : va_S (am_A ad s.heap.size) s.heap H locs) (hU : U.heap = H) (hW : s.WarmedH U.vm) : am_Cx D ad adV tc H.size U := by
  obtain ⟨h1, h2, h3, h4, h5, h6⟩ := h
  have hAB : ∀ q, am_A ad H.size q → am_A ad s.heap.size q := fun q hq => hq.imp id (fun h => Nat.le_trans hS.1 h)
  subst hU
  refine ⟨va_K.moved hW.alike h1, am_Nst_warm hW h2, fun k q hq => vk_R.warm hW (h3 k q hq), ?_, ?_, ?_⟩
  · exact ((h4.moved hW.alike).kept hS.2.1).narrow hAB
  · exact ((h5.moved hW.alike).kept hS.2.1).narrow hAB
  · exact ((h6.moved hW.alike).kept hS.2.1).narrow hAB
def am_Pc (D : va_G) (ad adV : Nat → Nat) (tc : Nat → ClassId) (sz : Nat) (as : List Value) (x : am_X) : Array Value → State → Prop :=
  va_Pc (as.map (am_cv ad)) (fun U => U.heap.size = sz ∧ va_P D vwCl (am_W ad tc x) U.heap ∧ va_D (am_A ad sz) (am_W ad tc x) ∧ am_Cx D ad adV tc sz U)
def am_Qc (D : va_G) (ad : Nat → Nat) (tc : Nat → ClassId) (sz : Nat) (r : Option Value) (x' : am_X) : Array Value → State → Outcome → State → Prop :=
  fun _ st oc t => (oc = .returned (r.map (am_cv ad)) ∧ va_P D vwCl (am_W ad tc x') t.heap) ∧ va_F (am_A ad sz) st t
def am_ws (M : Nat) : List Cond := .code (am_me M).2.1 (am_me M).2.2.1 (am_me M).2.2.2.1 (am_me M).2.2.2.2.1 :: am_tb
def am_rm (d : Nat) : Room := { frames := d, cells := 0, slots := 0, locals := 41 * d }
theorem am_mt_len : am_mt.length = 190 := by decide +kernel
theorem am_me_in {M : Nat} (h : M < 190) : am_me M ∈ am_mt := by
  unfold am_me
  rw [am_at_eq]
  have hl : M < am_mt.length := by rw [am_mt_len]; exact h
  rw [List.getElem?_eq_getElem hl]
  exact List.getElem_mem hl
theorem am_oc0 : (List.range 190).all (fun M => decide ((am_me M).1 < 9 ∨ ((am_me M).1 ≥ 20 ∧ (am_me M).1 < 30))) = true := by decide +kernel
theorem am_oc {M : Nat} (h : M < 190) : (am_me M).1 < 9 ∨ ((am_me M).1 ≥ 20 ∧ (am_me M).1 < 30) := by
  have := List.all_eq_true.mp am_oc0 M (List.mem_range.mpr h)
  simpa using this
theorem am_good_in {M : Nat} (h : M < 190) : GoodIn am_tb (am_ws M) := by
  have hg : goodWord (.code (am_me M).2.1 (am_me M).2.2.1 (am_me M).2.2.2.1 (am_me M).2.2.2.2.1) = true := rfl
  have key : ∀ w ∈ am_tb, w ∈ am_tb ∧ ((w.onTables && w.keeps) = true ∨ ∃ ty, w = .arrayClass ty) := fun w hw => ⟨hw, good_of_word (List.mem_filter.mp hw).2⟩
  intro w hw
  rcases List.mem_cons.mp hw with rfl | hw
  · exact key _ (am_tb_in (am_cw _ (am_me_in h)) hg)
  · exact key w hw
section AMR
variable {p : Program} {l : Launch} {e : Env} {R : Room} {s : State} {m : MethodId} {args : Array Value} {below : List Frame} {meth : Method} {c : Code} {H : Heap} {locs : List Loc} {Q : State → Prop}
variable {cc : ByteArray} {pc : Nat} {sl : Array Slot} {ad : Nat → Nat} {tc : Nat → ClassId} {D : va_G} {A : Nat → Prop}
variable {oc nL a nx : Nat} {ret : Option FieldType} {i : Instr} {v : Value} {tb : List (Int32 × Nat)} {st st' : List Value} {x x' : am_X} {P : Prop}
theorem am_cat0 {r : List Value} (h : (List.map (am_cv ad) r) = []) : r = [] := by simpa using h
theorem am_j9 (i : Nat) : 1000 + i + 100 = 1100 + i := by omega
theorem am_j10 {j : Nat} (h : (Nat.ble 1000 j && Nat.blt j 1008) = true) : ∃ i, j = 1000 + i ∧ i < 8 := by
  simp only [Bool.and_eq_true] at h
  have h1 := Nat.le_of_ble_eq_true h.1
  have h2 := h.2
  simp [Nat.blt] at h2
  exact ⟨j - 1000, by omega, by omega⟩
theorem am_j11 {j : Nat} (h : (Nat.ble 1100 j && Nat.blt j 1108) = true) : ∃ i, j = 1100 + i ∧ i < 8 := by
  simp only [Bool.and_eq_true] at h
  have h1 := Nat.le_of_ble_eq_true h.1
  have h2 := h.2
  simp [Nat.blt] at h2
  exact ⟨j - 1100, by omega, by omega⟩
set_option maxHeartbeats 40000000 in
theorem am_s4 (hx : p.tables.exec = Jvm.exec) (hb : c.code = cc) (hml : c.maxLocals = sl.size) (hown : s.vm.findClass (am_own oc) = some m.cls) (hts : ∀ w ∈ am_tb, w.before args s = true) (hN : am_Nst s)
    (hK : va_K D vwCl (am_tys tc) s) (hP : va_P D vwCl (am_W ad tc x) H) (hD : va_D A (am_W ad tc x)) (hS : va_S A s.heap H locs) (hZ : am_Zs ad A s) (hR : 1 ≤ R.frames ∧ 41 ≤ R.locals) (ht : am_tie oc cc nL ret (pc, i, a, v, nx, tb) = true) {oP : Option Prop} (h : am_cel i a v st x = some (oP, st', x')) (hp : ∀ Q : Prop, oP = some Q → Q)
    (k : ∀ (H1 : Heap) (locs1 : List Loc), va_P D vwCl (am_W ad tc x') H1 → va_S A s.heap H1 locs1 → W p l e R s m args below meth c H1 locs1 0 0 Q (F0 m nx sl (st'.map (am_cv ad)))) : W p l e R s m args below meth c H locs 0 0 Q (F0 m pc sl (st.map (am_cv ad))) := by
  obtain ⟨hd, hn, h2⟩ := am_tie_d ht
  have t0 : (am_tys tc)[0]? = some (tc 0, .int) := rfl
  have t1 : (am_tys tc)[1]? = some (tc 1, .long) := rfl
  have t2 : (am_tys tc)[2]? = some (tc 2, .boolean) := rfl
  have t3 : (am_tys tc)[3]? = some (tc 3, .char) := rfl
  cases i with
  | getfield ix =>
    simp only [am_cel] at h
    split at h
    · rename_i j r ci
      cases h20 : Nat.beq ci 20 with
      | true =>
        obtain rfl := Nat.eq_of_beq_eq_true h20
        have h2 : decide (oc = 20 ∧ ((ix = 9 ∧ a = 0) ∨ (ix = 15 ∧ a = 1))) = true := h2
        simp only [decide_eq_true_eq] at h2
        simp only [h20, cond_true] at h
        cases hj : (Nat.ble 1000 j && Nat.blt j 1008) with
        | false => rw [hj] at h; cases h
        | true =>
          rw [hj] at h
          cases h
          rw [hn] at k
          obtain ⟨i0, e0, h0⟩ := am_j10 hj
          subst e0
          have hs := (hZ.1.1 i0 h0)
          dsimp only at hs
          obtain ⟨rfl, ⟨rfl, rfl⟩ | ⟨rfl, rfl⟩⟩ := h2
          · refine vk_getf hx hb (v := .ref (ad (1100 + i0))) hs.2.2.1 hS hown (hts _ (am_tb_in (i := 1235) (by decide +kernel) rfl)) (fun _ h => h) hd ?_
            have hk := k H locs hP hS
            rw [am_j9 i0] at hk
            exact hk
          · exact vk_getf hx hb (v := .int 0) hs.2.1 hS hown (hts _ (am_tb_in (i := 1236) (by decide +kernel) rfl)) (fun _ h => h) hd (k H locs hP hS)
      | false =>
        simp only [am_tie2, h20, cond_false] at h2
        simp only [h20, cond_false] at h
        split at h
        · rename_i q hq
          cases h
          rw [hn] at k
          exact am_get hx hb hown hts hN hK hP h2 hq hd (k H locs hP hS)
        · cases h
    · cases h
  | putfield ix =>
    simp only [am_cel] at h
    split at h
    · rename_i y j r ci
      split at h
      · rename_i id hq
        cases h
        have hkt := am_kty_ok (am_fld_eq hq).choose_spec.1 (am_fld_eq hq).choose_spec.2
        simp only [am_kty, decide_eq_true_eq] at hkt
        rw [hn] at k
        exact am_put (w := .int y) hx hb hown hts hN hK hP hD hS h2 hq (by decide) hd (by rw [hkt.1]; rfl) (by rw [hkt.1]; rfl) (fun fs g1 g2 => am_W_uI g1 g2 (Or.inl rfl)) k
      · rename_i id hq
        cases h
        have hkt := am_kty_ok (am_fld_eq hq).choose_spec.1 (am_fld_eq hq).choose_spec.2
        simp only [am_kty, decide_eq_true_eq] at hkt
        rw [hn] at k
        exact am_put (w := .int y) hx hb hown hts hN hK hP hD hS h2 hq (by decide) hd (by rw [hkt.1]; rcases hp _ rfl with rfl | rfl <;> rfl) (by rw [hkt.1]; rcases hp _ rfl with rfl | rfl <;> rfl) (fun fs g1 g2 => am_W_uI g1 g2 (Or.inr rfl)) k
      · cases h
    · rename_i y j r ci
      split at h
      · rename_i id hq
        cases h
        have hkt := am_kty_ok (am_fld_eq hq).choose_spec.1 (am_fld_eq hq).choose_spec.2
        simp only [am_kty, decide_eq_true_eq] at hkt
        rw [hn] at k
        exact am_put (w := .long y) hx hb hown hts hN hK hP hD hS h2 hq (by decide) hd (by rw [hkt.1]; rfl) (by rw [hkt.1]; rfl) (fun fs g1 g2 => am_W_uL g1 g2) k
      · cases h
    · cases h
  | arraylength =>
    simp only [am_cel] at h
    split at h
    · split at h
      · rename_i t n hq
        cases h
        rw [hn] at k
        have h4 := am_shp_at (am_arr_eq hq)
        simp only [am_shp1, decide_eq_true_eq] at h4
        match t, h4, hq with
        | 0, _, hq => exact va_alen hx hb hK hP _ 0 (am_W_arrI hq (by decide)) t0 rfl hd (k H locs hP hS)
        | 1, _, hq => exact va_alen hx hb hK hP _ 1 (am_W_arrL hq) t1 rfl hd (k H locs hP hS)
        | 2, _, hq => exact va_alen hx hb hK hP _ 2 (am_W_arrI hq (by decide)) t2 rfl hd (k H locs hP hS)
        | 3, _, hq => exact va_alen hx hb hK hP _ 3 (am_W_arrI hq (by decide)) t3 rfl hd (k H locs hP hS)
        | n + 4, h4, _ => omega
      · cases hj : (Nat.ble 1100 _ && Nat.blt _ 1108) with
        | false => rw [hj] at h; cases h
        | true =>
          rw [hj] at h
          cases h
          rw [hn] at k
          obtain ⟨i0, e0, h0⟩ := am_j11 hj
          have hs := (hZ.1.1 i0 h0).2.2.2
          dsimp only at hs
          rw [← e0] at hs
          exact va_tlen hx hb hs hS (by rw [e0, Nat.add_sub_cancel_left]) hd (k H locs hP hS)
    · cases h
  | iaload =>
    simp only [am_cel] at h
    split at h
    · split at h
      · rename_i hq
        cases h
        rw [hn] at k
        exact va_iald hx hb hK hP _ 0 (am_W_arrI hq (by decide)) t0 (hp _ rfl) hd (k H locs hP hS)
      · cases h
    · cases h
  | baload =>
    simp only [am_cel] at h
    split at h
    · split at h
      · rename_i hq
        cases h
        rw [hn] at k
        exact va_zald hx hb hK hP _ 2 (am_W_arrI hq (by decide)) t2 (hp _ rfl) hd (k H locs hP hS)
      · cases h
      · cases hj : (Nat.ble 1100 _ && Nat.blt _ 1108) with
        | false => rw [hj] at h; cases h
        | true =>
          rw [hj] at h
          cases h
          rw [hn] at k
          obtain ⟨i0, e0, h0⟩ := am_j11 hj
          have hs := (hZ.1.1 i0 h0).2.2.2
          dsimp only at hs
          rw [← e0] at hs
          have hv := hp _ rfl
          rw [e0, Nat.add_sub_cancel_left] at hv
          refine va_tb hx hb hs hS hv rfl hd ?_
          have := k H locs hP hS
          simp only [am_bat, e0, Nat.add_sub_cancel_left] at this
          exact this
    · cases h
  | caload =>
    simp only [am_cel] at h
    split at h
    · split at h
      · rename_i hq
        cases h
        rw [hn] at k
        exact va_cald hx hb hK hP _ 3 (am_W_arrI hq (by decide)) t3 (hp _ rfl) hd (k H locs hP hS)
      · cases h
    · cases h
  | laload =>
    simp only [am_cel] at h
    split at h
    · split at h
      · rename_i hq
        cases h
        rw [hn] at k
        exact va_lald hx hb hK hP _ 1 (am_W_arrL hq) t1 (hp _ rfl) hd (k H locs hP hS)
      · cases h
    · cases h
  | iastore =>
    simp only [am_cel] at h
    split at h
    · split at h
      · rename_i hq
        cases h
        rw [hn] at k
        exact va_iast hx hb hK hP hD hS _ 0 (am_W_arrI hq (by decide)) t0 (hp _ rfl) hd (fun H1 locs1 a1 _ a3 => k H1 locs1 (by rw [← am_W_sA hq (by decide)]; exact a1) a3)
      · cases h
    · cases h
  | bastore =>
    simp only [am_cel] at h
    split at h
    · split at h
      · rename_i hq
        cases h
        rw [hn] at k
        exact va_zast hx hb hK hP hD hS _ 2 (am_W_arrI hq (by decide)) t2 (hp _ rfl) hd (fun H1 locs1 a1 _ a3 => k H1 locs1 (by rw [← am_W_sA hq (by decide)]; exact a1) a3)
      · cases h
    · cases h
  | lastore =>
    simp only [am_cel] at h
    split at h
    · split at h
      · rename_i hq
        cases h
        rw [hn] at k
        exact va_last hx hb hK hP hD hS _ 1 (am_W_arrL hq) t1 (hp _ rfl) hd (fun H1 locs1 a1 _ a3 => k H1 locs1 (by rw [← am_W_sB hq]; exact a1) a3)
      · cases h
    · cases h
  | invokestatic ix =>
    simp only [am_cel] at h
    split at h
    · have h2 : decide ((oc = 1 ∧ ix = 34) ∨ (oc = 0 ∧ ix = 24)) = true := h2
      simp only [decide_eq_true_eq] at h2
      have hw : (Cond.methodLink (am_own oc) ix arraycopyName).before args s = true ∧ (Cond.native arraycopyName).before args s = true ∧ (Cond.static arraycopyName).before args s = true ∧ (Cond.initialized "java/lang/System").before args s = true := by
        refine ⟨?_, hts _ (am_tb_in (i := 305) (by decide +kernel) rfl), hts _ (am_tb_in (i := 304) (by decide +kernel) rfl), hts _ (am_tb_in (i := 108) (by decide +kernel) rfl)⟩
        rcases h2 with ⟨rfl, rfl⟩ | ⟨rfl, rfl⟩
        · exact hts _ (am_tb_in (i := 303) (by decide +kernel) rfl)
        · exact hts _ (am_tb_in (i := 780) (by decide +kernel) rfl)
      obtain ⟨w1, w2, w3, w4⟩ := hw
      split at h
      · split at h
        · rename_i hq0 hq1
          cases h
          obtain ⟨⟨q1, q2, q3, q4, q5⟩, rfl⟩ := hp _ rfl
          rw [hn] at k
          exact va_copyi hx hb hml hown w1 w2 w3 w4 hK hP hD hS _ _ 0 0 (am_W_arrI hq0 (by decide)) (am_W_arrI hq1 (by decide)) t0 t0 rfl q1 q2 q3 q4 q5 (fun _ _ => rfl) hR.1 (by show 0 + (7 + 11) ≤ R.locals; omega) hd (fun H1 locs1 a1 _ a3 => k H1 locs1 (by rw [← am_W_sA hq1 (by decide)]; exact a1) a3)
        · rename_i hq0 hq1
          cases h
          obtain ⟨⟨q1, q2, q3, q4, q5⟩, rfl⟩ := hp _ rfl
          rw [hn] at k
          exact va_copyl hx hb hml hown w1 w2 w3 w4 hK hP hD hS _ _ 1 1 (am_W_arrL hq0) (am_W_arrL hq1) t1 t1 rfl q1 q2 q3 q4 q5 (fun _ _ => rfl) hR.1 (by show 0 + (7 + 11) ≤ R.locals; omega) hd (fun H1 locs1 a1 _ a3 => k H1 locs1 (by rw [← am_W_sB hq1]; exact a1) a3)
        · cases h
      · cases h
    · have h2 : decide ((oc = 7 ∧ ix = 331) ∨ (oc = 8 ∧ ix = 151) ∨ (oc = 24 ∧ ix = 92)) = true := h2
      simp only [decide_eq_true_eq] at h2
      split at h
      · rename_i y z r
        cases hbb : Nat.ble (am_sum r) 8 with
        | false => rw [hbb] at h; cases h
        | true =>
          rw [hbb] at h
          cases h
          rw [hn] at k
          have hs := Nat.le_of_ble_eq_true hbb
          refine va_mmax hx hb hml hown ?_ (hts _ (am_tb_in (i := 174) (by decide +kernel) rfl)) (hts _ (am_tb_in (i := 102) (by decide +kernel) rfl)) (hts _ (am_tb_in (i := 175) (by decide +kernel) rfl)) hR.1 (by rw [am_cv_sum]; omega) (Nat.zero_le _) (Nat.zero_le _) hd (k H locs hP hS)
          rcases h2 with ⟨rfl, rfl⟩ | ⟨rfl, rfl⟩ | ⟨rfl, rfl⟩
          · exact hts _ (am_tb_in (i := 751) (by decide +kernel) rfl)
          · exact hts _ (am_tb_in (i := 1095) (by decide +kernel) rfl)
          · exact hts _ (am_tb_in (i := 386) (by decide +kernel) rfl)
      · cases h
    · have h2 : decide ((oc = 7 ∧ ix = 179) ∨ (oc = 8 ∧ ix = 140) ∨ (oc = 24 ∧ ix = 38)) = true := h2
      simp only [decide_eq_true_eq] at h2
      split at h
      · rename_i y z r
        cases hbb : Nat.ble (am_sum r) 8 with
        | false => rw [hbb] at h; cases h
        | true =>
          rw [hbb] at h
          cases h
          rw [hn] at k
          have hs := Nat.le_of_ble_eq_true hbb
          refine va_mmin hx hb hml hown ?_ (hts _ (am_tb_in (i := 388) (by decide +kernel) rfl)) (hts _ (am_tb_in (i := 102) (by decide +kernel) rfl)) (hts _ (am_tb_in (i := 389) (by decide +kernel) rfl)) hR.1 (by rw [am_cv_sum]; omega) (Nat.zero_le _) (Nat.zero_le _) hd (k H locs hP hS)
          rcases h2 with ⟨rfl, rfl⟩ | ⟨rfl, rfl⟩ | ⟨rfl, rfl⟩
          · exact hts _ (am_tb_in (i := 629) (by decide +kernel) rfl)
          · exact hts _ (am_tb_in (i := 1082) (by decide +kernel) rfl)
          · exact hts _ (am_tb_in (i := 387) (by decide +kernel) rfl)
      · cases h
    · have h2 : decide (oc = 8 ∧ ix = 154) = true := h2
      simp only [decide_eq_true_eq] at h2
      split at h
      · rename_i z r
        cases hbb : Nat.ble (am_sum r) 8 with
        | false => rw [hbb] at h; cases h
        | true =>
          rw [hbb] at h
          cases h
          rw [hn] at k
          have hs := Nat.le_of_ble_eq_true hbb
          obtain ⟨rfl, rfl⟩ := h2
          exact va_mabs hx hb hml hown (hts _ (am_tb_in (i := 1132) (by decide +kernel) rfl)) (hts _ (am_tb_in (i := 1133) (by decide +kernel) rfl)) (hts _ (am_tb_in (i := 102) (by decide +kernel) rfl)) (hts _ (am_tb_in (i := 1134) (by decide +kernel) rfl)) hR.1 (by rw [am_cv_sum]; omega) (Nat.zero_le _) (Nat.zero_le _) hd (k H locs hP hS)
      · cases h
    · cases h
  | _ => simp [am_cel] at h
end AMR
