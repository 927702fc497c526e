theorem am_sw_T {pc : Nat} {d : Int} {a : Nat} (hd : (pc : Int) + d = (a : Int)) : ∀ (lo : Int) (os : List Int) (tb : List (Int32 × Nat)) (z : Int32), am_swT pc lo os tb = true → ∃ tgt : Nat, am_sw a tb z = tgt ∧ ((z.toInt < lo ∨ lo + os.length ≤ z.toInt) → (pc : Int) + d = (tgt : Int)) ∧ (lo ≤ z.toInt → z.toInt < lo + os.length → ∃ off, os[(z.toInt - lo).toNat]? = some off ∧ (pc : Int) + off = (tgt : Int))
  | lo, [], [], z, _ => ⟨a, rfl, fun _ => hd, fun h1 h2 => by simp at h2; omega⟩
  | lo, o :: os, (k, t) :: r, z, h => by
    simp only [am_swT, Bool.and_eq_true, decide_eq_true_eq] at h
    obtain ⟨⟨h1, h2⟩, h3⟩ := h
    by_cases hz : z = k
    · subst hz
      refine ⟨t, by simp [am_sw], fun q => ?_, fun q1 q2 => ⟨o, ?_, h2⟩⟩
      · simp only [List.length_cons] at q
        omega
      · rw [show (z.toInt - lo).toNat = 0 by omega]; rfl
    · obtain ⟨tgt, e1, e2, e3⟩ := am_sw_T hd (lo + 1) os r z h3
      have hne : z.toInt ≠ lo := fun q => hz (Int32.toInt_inj.mp (by omega))
      refine ⟨tgt, by simp [am_sw, hz, e1], fun q => e2 ?_, fun q1 q2 => ?_⟩
      · simp only [List.length_cons] at q
        omega
      · simp only [List.length_cons] at q2
        obtain ⟨off, f1, f2⟩ := e3 (by omega) (by omega)
        refine ⟨off, ?_, f2⟩
        rw [show (z.toInt - lo).toNat = (z.toInt - (lo + 1)).toNat + 1 by omega]
        simpa using f1
  | _, [], _ :: _, _, h => by simp [am_swT] at h
  | _, _ :: _, [], _, h => by simp [am_swT] at h
theorem am_sw_L {pc : Nat} {d : Int} {a : Nat} (hd : (pc : Int) + d = (a : Int)) : ∀ (os : List (Int × Int)) (tb : List (Int32 × Nat)) (z : Int32), am_swL pc os tb = true → (pc : Int) + Op.lookupswitch.offset os d z.toInt = (am_sw a tb z : Int)
  | [], [], z, _ => hd
  | (k0, o) :: os, (k, t) :: r, z, h => by
    simp only [am_swL, Bool.and_eq_true, decide_eq_true_eq] at h
    obtain ⟨⟨h1, h2⟩, h3⟩ := h
    rw [Op.lookupswitch.offset_cons]
    by_cases hz : z = k
    · subst hz
      rw [if_pos h1.symm]
      simp [am_sw, h2]
    · rw [if_neg (fun q => hz (Int32.toInt_inj.mp (by omega)))]
      simp only [am_sw, hz, if_false]
      exact am_sw_L hd os r z h3
  | [], _ :: _, _, h => by simp [am_swL] at h
  | _ :: _, [], _, h => by simp [am_swL] at h
section AMR
variable {p : Program} {l : Launch} {e : Env} {R : Room} {s : State} {m : MethodId} {args : Array Value} {below : List Frame} {meth : Method} {c : Code} {H : Heap} {locs : List Loc} {Q : State → Prop}
variable {cc : ByteArray} {pc : Nat} {sl : Array Slot} {ad : Nat → Nat} {tc : Nat → ClassId} {D : va_G} {A : Nat → Prop}
variable {oc nL a nx pc' : Nat} {ret : Option FieldType} {i : Instr} {v : Value} {tb : List (Int32 × Nat)} {st st' : List Value} {x x' : am_X} {P : Prop}
theorem am_s3 (hx : p.tables.exec = Jvm.exec) (hb : c.code = cc) (ht : am_tie oc cc nL ret (pc, i, a, v, nx, tb) = true) (h : am_br i a nx tb st = some (pc', st'))
    (k : W p l e R s m args below meth c H locs 0 0 Q (F0 m pc' sl (st'.map (am_cv ad)))) : W p l e R s m args below meth c H locs 0 0 Q (F0 m pc sl (st.map (am_cv ad))) := by
  obtain ⟨hd, hn, h2⟩ := am_tie_d ht
  cases i with
  | goto off =>
    simp only [am_tie2, decide_eq_true_eq] at h2
    simp only [am_br, Option.some.injEq, Prod.mk.injEq] at h; obtain ⟨rfl, rfl⟩ := h
    exact lv_goto hx hb hd h2 k
  | if_icmp cnd off =>
    simp only [am_tie2, decide_eq_true_eq] at h2
    cases cnd with
    | eq => simp only [am_br] at h; split at h <;> cases h; rw [hn] at k; exact lv_icmp_eq hx hb hd h2 (fun z => by rw [if_pos z] at k; exact k) (fun z => by rw [if_neg z] at k; exact k)
    | ne => simp only [am_br] at h; split at h <;> cases h; rw [hn] at k; exact lv_icmp_ne hx hb hd h2 (fun z => by rw [if_neg z] at k; exact k) (fun z => by rw [if_pos z] at k; exact k)
    | lt => simp only [am_br] at h; split at h <;> cases h; rw [hn] at k; exact lv_icmp_lt hx hb hd h2 (fun z => by rw [if_pos z] at k; exact k) (fun z => by rw [if_neg z] at k; exact k)
    | ge => simp only [am_br] at h; split at h <;> cases h; rw [hn] at k; exact lv_icmp_ge hx hb hd h2 (fun z => by rw [if_pos z] at k; exact k) (fun z => by rw [if_neg z] at k; exact k)
    | gt => simp only [am_br] at h; split at h <;> cases h; rw [hn] at k; exact lv_icmp_gt hx hb hd h2 (fun z => by rw [if_pos z] at k; exact k) (fun z => by rw [if_neg z] at k; exact k)
    | le => simp only [am_br] at h; split at h <;> cases h; rw [hn] at k; exact lv_icmp_le hx hb hd h2 (fun z => by rw [if_pos z] at k; exact k) (fun z => by rw [if_neg z] at k; exact k)
  | ifCond cnd off =>
    simp only [am_tie2, decide_eq_true_eq] at h2
    cases cnd with
    | eq => simp only [am_br] at h; split at h <;> cases h; rw [hn] at k; exact lv_if_eq hx hb hd h2 (fun z => by rw [if_pos z] at k; exact k) (fun z => by rw [if_neg z] at k; exact k)
    | ne => simp only [am_br] at h; split at h <;> cases h; rw [hn] at k; exact lv_if_ne hx hb hd h2 (fun z => by rw [if_neg z] at k; exact k) (fun z => by rw [if_pos z] at k; exact k)
    | lt => simp only [am_br] at h; split at h <;> cases h; rw [hn] at k; exact lv_if_lt hx hb hd h2 (fun z => by rw [if_pos z] at k; exact k) (fun z => by rw [if_neg z] at k; exact k)
    | ge => simp only [am_br] at h; split at h <;> cases h; rw [hn] at k; exact lv_if_ge hx hb hd h2 (fun z => by rw [if_pos z] at k; exact k) (fun z => by rw [if_neg z] at k; exact k)
    | gt => simp only [am_br] at h; split at h <;> cases h; rw [hn] at k; exact lv_if_gt hx hb hd h2 (fun z => by rw [if_pos z] at k; exact k) (fun z => by rw [if_neg z] at k; exact k)
    | le => simp only [am_br] at h; split at h <;> cases h; rw [hn] at k; exact lv_if_le hx hb hd h2 (fun z => by rw [if_pos z] at k; exact k) (fun z => by rw [if_neg z] at k; exact k)
  | tableswitch d lo hi offs =>
    simp only [am_tie2, Bool.and_eq_true, decide_eq_true_eq] at h2
    obtain ⟨⟨h3, h4, -⟩, h5⟩ := h2
    cases st with
    | nil => simp [am_br] at h
    | cons w r =>
      cases w with
      | int z =>
        simp only [am_br, Option.some.injEq, Prod.mk.injEq] at h; obtain ⟨rfl, rfl⟩ := h
        obtain ⟨tgt, e1, e2, e3⟩ := am_sw_T h3 lo offs.toList tb z h5
        rw [e1] at k
        have hsz : (offs.toList.length : Int) = (offs.size : Int) := by simp
        by_cases q : z.toInt < lo ∨ hi < z.toInt
        · exact lv_tableOut hx hb hd q (e2 (by omega)) k
        · obtain ⟨off, f1, f2⟩ := e3 (by omega) (by omega)
          exact lv_tableIn hx hb hd (by omega) (by omega) (by simpa using f1) f2 k
      | _ => simp [am_br] at h
  | lookupswitch d ps =>
    simp only [am_tie2, Bool.and_eq_true, decide_eq_true_eq] at h2
    obtain ⟨⟨h3, h4⟩, h5⟩ := h2
    simp only [am_br] at h; split at h <;> cases h
    exact lv_lookup hx hb hd h4 rfl (am_sw_L h3 _ _ _ h5) k
  | _ => simp [am_br] at h
/-- words of nest mates -/
def am_Nst (s : State) : Prop := (∀ e ∈ am_fl, e.2.2.2.2.2 = 1 → va_Nw (am_flw e) s) ∧ ∀ e ∈ am_ml, e.2.2.2.2 = 1 → va_Nw (am_mlw e) s
theorem am_cc_at {ci : Nat} (h : ci < 9) : vwCl[ci]? = some ((am_cc ci).1, (am_cc ci).2.1, (am_cc ci).2.2) := by
  have : ∀ ci, ci < 9 → vwCl[ci]? = some ((am_cc ci).1, (am_cc ci).2.1, (am_cc ci).2.2) := by
    intro ci h
    match ci, h with
    | 0, _ | 1, _ | 2, _ | 3, _ | 4, _ | 5, _ | 6, _ | 7, _ | 8, _ => rfl
    | n + 9, h => omega
  exact this ci h
/-- the classes' own words -/
def am_lay (ci : Nat) : List Cond := u_ws (am_cc ci).1 (am_cc ci).2.1 (am_cc ci).2.2
def am_ty (ci : Nat) : Nat → FieldType := match ci with
  | 0 => tyX0 | 1 => tyX1 | 2 => tyX2 | 3 => tyX3 | 4 => tyX4 | 5 => tyX5 | 6 => tyX6 | 7 => tyX7 | _ => tyX8
theorem am_ty_ok {ci : Nat} (h : ci < 9) : (∀ k, k < (am_cc ci).2.2 → parseFieldDescriptor ((am_cc ci).2.1 k).2.2.1 = some (am_ty ci k)) ∧ ∀ a, a < (am_cc ci).2.2 → ∀ b, b < (am_cc ci).2.2 → a ≠ b → ((am_cc ci).2.1 a).2.1 ≠ ((am_cc ci).2.1 b).2.1 := by
  match ci, h with
  | 0, _ => exact ⟨tyX0_ok, nmX0⟩
  | 1, _ => exact ⟨tyX1_ok, nmX1⟩
  | 2, _ => exact ⟨tyX2_ok, nmX2⟩
  | 3, _ => exact ⟨tyX3_ok, nmX3⟩
  | 4, _ => exact ⟨tyX4_ok, nmX4⟩
  | 5, _ => exact ⟨tyX5_ok, nmX5⟩
  | 6, _ => exact ⟨tyX6_ok, nmX6⟩
  | 7, _ => exact ⟨tyX7_ok, nmX7⟩
  | 8, _ => exact ⟨tyX8_ok, nmX8⟩
  | n + 9, h => omega
set_option maxRecDepth 100000 in
theorem am_lay_in0 : (List.range 9).all (fun ci => (am_lay ci).all (fun w => decide (w ∈ am_tb))) = true := by decide +kernel
theorem am_lay_in {ci : Nat} (h : ci < 9) : ∀ w ∈ u_ws (am_cc ci).1 (am_cc ci).2.1 (am_cc ci).2.2, w ∈ am_tb := by
  intro w hw
  have := List.all_eq_true.mp (List.all_eq_true.mp am_lay_in0 ci (List.mem_range.mpr h)) w hw
  simpa using this
theorem am_fle {ix ci : Nat} (h : am_fl.any (fun e => decide (e.1 = oc ∧ e.2.1 = ix ∧ e.2.2.1 = ci ∧ e.2.2.2.1 = a)) = true) : ∃ e ∈ am_fl, e.1 = oc ∧ e.2.1 = ix ∧ e.2.2.1 = ci ∧ e.2.2.2.1 = a ∧ ci < 9 ∧ a < (am_cc ci).2.2 ∧ lw_tbl[e.2.2.2.2.1]? = some (am_flw e) ∧ (e.2.2.2.2.2 = 1 ∨ goodWord (am_flw e) = true) := by
  obtain ⟨e, he, h1⟩ := List.any_eq_true.mp h
  obtain ⟨r1, r2, r3, r4⟩ := of_decide_eq_true h1
  have h2 := List.all_eq_true.mp am_fl_ok e he
  simp only [am_fl1, Bool.and_eq_true, Bool.or_eq_true, decide_eq_true_eq] at h2
  obtain ⟨⟨⟨z1, z2⟩, z3⟩, z4⟩ := h2
  refine ⟨e, he, r1, r2, r3, r4, by rw [← r3]; exact z3, by rw [← r3, ← r4]; exact z4, z1, ?_⟩
  rcases z2 with z | z
  · exact Or.inl (Nat.eq_of_beq_eq_true z)
  · exact Or.inr z
theorem am_same {C n d : String} : ∀ y, s.fieldFound? C n d = some y → s.fieldFound? C n d = some y := fun _ h => h
/-- the declaring class of every field is the class itself -/
theorem am_decl0 : (List.range 9).all (fun ci => (List.range (am_cc ci).2.2).all (fun k => decide (((am_cc ci).2.1 k).1 = (am_cc ci).1))) = true := by decide +kernel
theorem am_decl {ci k : Nat} (h : ci < 9) (hk : k < (am_cc ci).2.2) : ((am_cc ci).2.1 k).1 = (am_cc ci).1 := by
  have := List.all_eq_true.mp (List.all_eq_true.mp am_decl0 ci (List.mem_range.mpr h)) k (List.mem_range.mpr hk)
  simpa using this
/-- the kinds of the fields in the world are their types -/
def am_kty (ci k : Nat) (q : Nat × Nat) : Bool := match q.1 with
  | 0 => true
  | 1 => decide (am_ty ci k = .int ∧ ((am_cc ci).2.1 k).2.2.2 = false)
  | 2 => decide (am_ty ci k = .long ∧ ((am_cc ci).2.1 k).2.2.2 = false)
  | 3 => decide (am_ty ci k = .boolean ∧ ((am_cc ci).2.1 k).2.2.2 = false)
  | _ => false
theorem am_kty0 : am_shp.all (fun s => match s with | .inl (ci, fs) => (List.range fs.length).all (fun k => match fs[k]? with | some q => am_kty ci k q | none => true) | _ => true) = true := by decide +kernel
theorem am_kty_ok {j ci k : Nat} {fs : List (Nat × Nat)} {q : Nat × Nat} (h : am_shp[j]? = some (.inl (ci, fs))) (hk : fs[k]? = some q) : am_kty ci k q = true := by
  have h1 := List.all_eq_true.mp am_kty0 _ (List.mem_of_getElem? h)
  have h2 := List.all_eq_true.mp h1 k (List.mem_range.mpr (List.getElem?_eq_some_iff.mp hk).1)
  rw [hk] at h2
  exact h2
theorem am_get {j ix ci : Nat} {r : List Value} {q : Nat × Nat} (hx : p.tables.exec = Jvm.exec) (hb : c.code = cc) (hown : s.vm.findClass (am_own oc) = some m.cls) (hts : ∀ w ∈ am_tb, w.before args s = true) (hN : am_Nst s)
    (hK : va_K D vwCl (am_tys tc) s) (hP : va_P D vwCl (am_W ad tc x) H) (h2 : am_fl.any (fun e => decide (e.1 = oc ∧ e.2.1 = ix ∧ e.2.2.1 = ci ∧ e.2.2.2.1 = a)) = true) (hf : am_fld ci a j = some q) (hd : decode cc pc = .ok (.getfield ix, 3))
    (k : W p l e R s m args below meth c H locs 0 0 Q (F0 m (pc + 3) sl (am_cv ad (am_fv x q) :: r))) : W p l e R s m args below meth c H locs 0 0 Q (F0 m pc sl (.ref (ad j) :: r)) := by
  obtain ⟨e, he, rfl, rfl, rfl, rfl, h3, h4, h5, h6⟩ := am_fle h2
  obtain ⟨fs, g1, g2⟩ := am_fld_eq hf
  have hsame := am_decl h3 h4
  by_cases hn : e.2.2.2.2.2 = 1
  · have hl := va_Nw.use (A := args) (by simp only [am_flw, hn]; rfl) (hN.1 e he hn)
    simp only [am_flw, hn] at hl
    exact va_getN hx hb hts (am_lay_in h3) hown hK hP j (am_W_obj g1) (am_cc_at h3) _ h4 hl (fun y hy => by rw [hsame] at hy; exact hy) (by rw [List.getElem?_map, g2]; rfl) hd k
  · have hw : am_flw e = .fieldLink (am_own e.1) e.2.1 (am_cc e.2.2.1).1 ((am_cc e.2.2.1).2.1 e.2.2.2.1).2.1 ((am_cc e.2.2.1).2.1 e.2.2.2.1).2.2.1 := by
      unfold am_flw; split
      · rename_i z; exact absurd z hn
      · rfl
    have hl := hts _ (am_tb_in h5 (h6.resolve_left hn))
    rw [hw] at hl
    exact va_get hx hb hts (am_lay_in h3) hown hK hP j (am_W_obj g1) (am_cc_at h3) _ h4 hl (fun y hy => by rw [hsame] at hy; exact hy) (by rw [List.getElem?_map, g2]; rfl) hd k
theorem am_put {j ix ci : Nat} {r : List Value} {kd id : Nat} {w : Value} {H0 : Heap} (hx : p.tables.exec = Jvm.exec) (hb : c.code = cc) (hown : s.vm.findClass (am_own oc) = some m.cls) (hts : ∀ w ∈ am_tb, w.before args s = true) (hN : am_Nst s)
    (hK : va_K D vwCl (am_tys tc) s) (hP : va_P D vwCl (am_W ad tc x) H) (hD : va_D A (am_W ad tc x)) (hS : va_S A H0 H locs) (h2 : am_fl.any (fun e => decide (e.1 = oc ∧ e.2.1 = ix ∧ e.2.2.1 = ci ∧ e.2.2.2.1 = a)) = true) (hf : am_fld ci a j = some (kd, id)) (h0 : kd ≠ 0) (hd : decode cc pc = .ok (.putfield ix, 3))
    (hn1 : narrow (am_ty ci a) w = w) (hn2 : fits (am_ty ci a) w = true)
    (hset : ∀ fs, am_shp[j]? = some (.inl (ci, fs)) → fs[a]? = some (kd, id) → (am_W ad tc x).set j (ad j, .inr (ci, (fs.map (fun q => am_cv ad (am_fv x q))).set a w)) = am_W ad tc x')
    (k : ∀ (H1 : Heap) (locs1 : List Loc), va_P D vwCl (am_W ad tc x') H1 → va_S A H0 H1 locs1 → W p l e R s m args below meth c H1 locs1 0 0 Q (F0 m (pc + 3) sl r)) : W p l e R s m args below meth c H locs 0 0 Q (F0 m pc sl (w :: .ref (ad j) :: r)) := by
  obtain ⟨e, he, rfl, rfl, rfl, rfl, h3, h4, h5, h6⟩ := am_fle h2
  obtain ⟨fs, g1, g2⟩ := am_fld_eq hf
  have hsame := am_decl h3 h4
  have hty := am_ty_ok h3
  have hkt := am_kty_ok g1 g2
  have hfin : ((am_cc e.2.2.1).2.1 e.2.2.2.1).2.2.2 = false := by
    match kd, h0, hkt with
    | 0, h0, _ => exact absurd rfl h0
    | 1, _, hkt => simp only [am_kty, decide_eq_true_eq] at hkt; exact hkt.2
    | 2, _, hkt => simp only [am_kty, decide_eq_true_eq] at hkt; exact hkt.2
    | 3, _, hkt => simp only [am_kty, decide_eq_true_eq] at hkt; exact hkt.2
    | n + 4, _, hkt => simp [am_kty] at hkt
  have hlen : e.2.2.2.1 < (fs.map (fun q => am_cv ad (am_fv x q))).length := by
    simpa using (List.getElem?_eq_some_iff.mp g2).1
  have hs := hset fs g1 g2
  by_cases hn : e.2.2.2.2.2 = 1
  · have hl := va_Nw.use (A := args) (by simp only [am_flw, hn]; rfl) (hN.1 e he hn)
    simp only [am_flw, hn] at hl
    exact va_putN hx hb hts (am_lay_in h3) (am_ty e.2.2.1) hty.1 hty.2 hown hK hP hD hS j (am_W_obj g1) (am_cc_at h3) _ h4 hl (fun y hy => by rw [hsame] at hy; exact hy) hfin (hty.1 _ h4) hn1 hn2 hlen hd (fun H1 locs1 a1 _ a3 => k H1 locs1 (by rw [← hs]; exact a1) a3)
  · have hw : am_flw e = .fieldLink (am_own e.1) e.2.1 (am_cc e.2.2.1).1 ((am_cc e.2.2.1).2.1 e.2.2.2.1).2.1 ((am_cc e.2.2.1).2.1 e.2.2.2.1).2.2.1 := by
      unfold am_flw; split
      · rename_i z; exact absurd z hn
      · rfl
    have hl := hts _ (am_tb_in h5 (h6.resolve_left hn))
    rw [hw] at hl
    exact va_put hx hb hts (am_lay_in h3) (am_ty e.2.2.1) hty.1 hty.2 hown hK hP hD hS j (am_W_obj g1) (am_cc_at h3) _ h4 hl (fun y hy => by rw [hsame] at hy; exact hy) hfin (hty.1 _ h4) hn1 hn2 hlen hd (fun H1 locs1 a1 _ a3 => k H1 locs1 (by rw [← hs]; exact a1) a3)
end AMR
