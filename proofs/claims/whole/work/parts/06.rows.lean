def am_A (ad : Nat → Nat) (sz : Nat) : Nat → Prop := fun q => (∃ i, i < 45 ∧ q = ad i) ∨ sz ≤ q
/-- the String constants' cells (their byte arrays at 1100 and on), and the statics that their methods read -/
def am_Zs (ad : Nat → Nat) (A : Nat → Prop) (U : State) : Prop := vk_S 8 am_len am_bI (fun i => ad (1000 + i)) (fun i => ad (1100 + i)) A U U.heap ∧ va_Z "java/lang/String" "COMPACT_STRINGS" "Z" (.int 1) A U U.heap ∧ va_Z "jdk/internal/util/Preconditions" "SIOOBE_FORMATTER" "Ljava/util/function/BiFunction;" (am_nv ad) A U U.heap
section AMR
variable {p : Program} {l : Launch} {e : Env} {R : Room} {s : State} {m : MethodId} {args : Array Value} {below : List Frame} {meth : Method} {c : Code} {H : Heap} {locs : List Loc} {Q : State → Prop}
variable {cc : ByteArray} {pc : Nat} {sl : Array Slot} {ad : Nat → Nat} {tc : Nat → ClassId} {D : va_G} {A : Nat → Prop}
variable {oc nL a nx : Nat} {ret : Option FieldType} {i : Instr} {v : Value} {tb : List (Int32 × Nat)} {st st' : List Value} {x x' : am_X} {P : Prop}
/-- group 1: divisions -/
theorem am_s1 (hx : p.tables.exec = Jvm.exec) (hb : c.code = cc) (ht : am_tie oc cc nL ret (pc, i, a, v, nx, tb) = true) (h : am_div i st = some (P, st')) (hP : P)
    (k : W p l e R s m args below meth c H locs 0 0 Q (F0 m nx sl (st'.map (am_cv ad)))) : W p l e R s m args below meth c H locs 0 0 Q (F0 m pc sl (st.map (am_cv ad))) := by
  obtain ⟨hd, hn, -⟩ := am_tie_d ht
  cases i with
  | idiv =>
    simp only [am_div] at h; split at h
    · cases h; rw [hn] at k; exact lv_idiv hx hb hd hP k
    · cases h
  | irem =>
    simp only [am_div] at h; split at h
    · cases h; rw [hn] at k; exact lv_irem hx hb hd hP k
    · cases h
  | ldiv =>
    simp only [am_div] at h; split at h
    · cases h; rw [hn] at k; exact lv_ldiv hx hb hd hP k
    · cases h
  | lrem =>
    simp only [am_div] at h; split at h
    · cases h; rw [hn] at k; exact lv_lrem hx hb hd hP k
    · cases h
  | _ => simp [am_div] at h
/-- the String constants -/
def am_Str (ad : Nat → Nat) (s : State) : Prop := ∀ (k : Nat) (q : Nat × String × Nat), am_st[k]? = some q → vk_R RX5 q.1 q.2.1 (ad (1000 + k)) s
theorem am_ciw {ix : Nat} {z : Int32} (hts : ∀ w ∈ am_tb, w.before args s = true) (h : am_ci.any (fun e => decide (e.1 = oc ∧ e.2.1 = ix ∧ e.2.2.1 = z)) = true) : (Cond.constant (am_own oc) ix z).before args s = true := by
  obtain ⟨q, hq, h1⟩ := List.any_eq_true.mp h
  obtain ⟨rfl, rfl, rfl⟩ := of_decide_eq_true h1
  have h2 := List.all_eq_true.mp am_ci_ok q hq
  simp only [Bool.and_eq_true, decide_eq_true_eq] at h2
  exact hts _ (am_tb_in h2.1 h2.2)
theorem am_cjw {ix : Nat} {z : Int64} (hts : ∀ w ∈ am_tb, w.before args s = true) (h : am_cj.any (fun e => decide (e.1 = oc ∧ e.2.1 = ix ∧ e.2.2.1 = z)) = true) : (Cond.constantLong (am_own oc) ix z).before args s = true := by
  obtain ⟨q, hq, h1⟩ := List.any_eq_true.mp h
  obtain ⟨rfl, rfl, rfl⟩ := of_decide_eq_true h1
  have h2 := List.all_eq_true.mp am_cj_ok q hq
  simp only [Bool.and_eq_true, decide_eq_true_eq] at h2
  exact hts _ (am_tb_in h2.1 h2.2)
theorem am_s0 {A : Nat → Prop} (hZ : am_Zs ad A s) (hS : va_S A s.heap H locs) (hx : p.tables.exec = Jvm.exec) (hb : c.code = cc) (hown : s.vm.findClass (am_own oc) = some m.cls) (hts : ∀ w ∈ am_tb, w.before args s = true) (hst : am_Str ad s) (ht : am_tie oc cc nL ret (pc, i, a, v, nx, tb) = true) (h : am_pure i v st = some st')
    (k : W p l e R s m args below meth c H locs 0 0 Q (F0 m nx sl (st'.map (am_cv ad)))) : W p l e R s m args below meth c H locs 0 0 Q (F0 m pc sl (st.map (am_cv ad))) := by
  obtain ⟨hd, hn, h2⟩ := am_tie_d ht
  cases i with
  | iconst n =>
    simp only [am_tie2, decide_eq_true_eq] at h2; subst h2
    simp only [am_pure, Option.some.injEq] at h; subst h
    rw [hn] at k; exact lv_iconst hx hb hd rfl k
  | bipush n =>
    simp only [am_tie2, decide_eq_true_eq] at h2; subst h2
    simp only [am_pure, Option.some.injEq] at h; subst h
    rw [hn] at k; exact lv_bipush hx hb hd rfl k
  | sipush n =>
    simp only [am_tie2, decide_eq_true_eq] at h2; subst h2
    simp only [am_pure, Option.some.injEq] at h; subst h
    rw [hn] at k; exact lv_sipush hx hb hd rfl k
  | lconst n =>
    simp only [am_tie2, decide_eq_true_eq] at h2; subst h2
    simp only [am_pure, Option.some.injEq] at h; subst h
    rw [hn] at k; exact lv_lconst hx hb hd rfl k
  | ldc ix =>
    simp only [am_pure, Option.some.injEq] at h; subst h
    cases v with
    | int z => rw [hn] at k; exact lv_ldc hx hb hown (am_ciw hts h2) hd k
    | ref z =>
      simp only [am_tie2, decide_eq_true_eq, am_at_eq] at h2
      obtain ⟨rfl, h3, h4⟩ := h2
      obtain ⟨q, hq, rfl⟩ := Option.map_eq_some_iff.mp h4
      have h5 := hst _ _ hq
      rw [show 1000 + (z - 1000) = z from Nat.add_sub_of_le h3] at h5
      rw [hn] at k; exact va_ldcS hx hb hown h5 hd k
    | _ => simp [am_tie2] at h2
  | ldc_w ix =>
    simp only [am_pure, Option.some.injEq] at h; subst h
    cases v with
    | int z => rw [hn] at k; exact lv_ldcw hx hb hown (am_ciw hts h2) hd k
    | _ => simp [am_tie2] at h2
  | ldc2_w ix =>
    simp only [am_pure, Option.some.injEq] at h; subst h
    cases v with
    | long z => rw [hn] at k; exact lv_ldc2 hx hb hown (am_cjw hts h2) hd k
    | _ => simp [am_tie2] at h2
  | iadd => simp only [am_pure] at h; split at h <;> cases h; rw [hn] at k; exact lv_iadd hx hb hd k
  | isub => simp only [am_pure] at h; split at h <;> cases h; rw [hn] at k; exact lv_isub hx hb hd k
  | imul => simp only [am_pure] at h; split at h <;> cases h; rw [hn] at k; exact lv_imul hx hb hd k
  | iand => simp only [am_pure] at h; split at h <;> cases h; rw [hn] at k; exact lv_iand hx hb hd k
  | ishl => simp only [am_pure] at h; split at h <;> cases h; rw [hn] at k; exact lv_ishl hx hb hd k
  | ishr => simp only [am_pure] at h; split at h <;> cases h; rw [hn] at k; exact lv_ishr hx hb hd k
  | iushr => simp only [am_pure] at h; split at h <;> cases h; rw [hn] at k; exact lv_iushr hx hb hd rfl k
  | ineg => simp only [am_pure] at h; split at h <;> cases h; rw [hn] at k; exact lv_ineg hx hb hd k
  | ladd => simp only [am_pure] at h; split at h <;> cases h; rw [hn] at k; exact lv_ladd hx hb hd k
  | lsub => simp only [am_pure] at h; split at h <;> cases h; rw [hn] at k; exact lv_lsub hx hb hd k
  | land => simp only [am_pure] at h; split at h <;> cases h; rw [hn] at k; exact lv_land hx hb hd k
  | lor => simp only [am_pure] at h; split at h <;> cases h; rw [hn] at k; exact lv_lor hx hb hd k
  | lxor => simp only [am_pure] at h; split at h <;> cases h; rw [hn] at k; exact lv_lxor hx hb hd k
  | lneg => simp only [am_pure] at h; split at h <;> cases h; rw [hn] at k; exact lv_lneg hx hb hd k
  | lshl => simp only [am_pure] at h; split at h <;> cases h; rw [hn] at k; exact lv_lshl hx hb hd rfl k
  | lushr => simp only [am_pure] at h; split at h <;> cases h; rw [hn] at k; exact lv_lushr hx hb hd rfl k
  | i2l => simp only [am_pure] at h; split at h <;> cases h; rw [hn] at k; exact lv_i2l hx hb hd rfl k
  | l2i => simp only [am_pure] at h; split at h <;> cases h; rw [hn] at k; exact lv_l2i hx hb hd rfl k
  | getstatic ix =>
    simp only [am_pure, Option.some.injEq] at h; subst h
    simp only [am_tie2, decide_eq_true_eq] at h2
    rw [hn] at k
    rcases h2 with ⟨rfl, rfl, rfl⟩ | ⟨rfl, rfl, rfl⟩
    · exact va_gets hx hb hZ.2.1 hS hown (hts _ (am_tb_in (i := 327) (by decide +kernel) rfl)) (fun _ h => h) hd k
    · exact va_gets hx hb hZ.2.2 hS hown (hts _ (am_tb_in (i := 343) (by decide +kernel) rfl)) (fun _ h => h) hd k
  | i2b => simp only [am_pure] at h; split at h <;> cases h; rw [hn] at k; exact lv_i2b hx hb hd rfl k
  | i2c => simp only [am_pure] at h; split at h <;> cases h; rw [hn] at k; exact lv_i2c hx hb hd rfl k
  | lcmp => simp only [am_pure] at h; split at h <;> cases h; rw [hn] at k; exact W.lcmp hx hb hd k
  | dup =>
    simp only [am_pure] at h; split at h
    · cases h; rw [hn] at k; exact lv_dup hx hb hd rfl k
    · cases h; rw [hn] at k; exact lv_dup hx hb hd rfl k
    · cases h
  | dup2 => simp only [am_pure] at h; split at h <;> cases h; rw [hn] at k; exact lv_dup2_11 hx hb hd rfl rfl k
  | pop =>
    simp only [am_pure] at h; split at h
    · cases h; rw [hn] at k; exact lv_pop hx hb hd rfl k
    · cases h; rw [hn] at k; exact lv_pop hx hb hd rfl k
    · cases h
  | pop2 => simp only [am_pure] at h; split at h <;> cases h; rw [hn] at k; exact lv_pop2_2 hx hb hd rfl k
  | _ => simp [am_pure] at h
/-- group 2: locals -/
theorem am_s2 {ls ls' : am_L} (hx : p.tables.exec = Jvm.exec) (hb : c.code = cc) (ht : am_tie oc cc nL ret (pc, i, a, v, nx, tb) = true) (h : am_loc i a v ls st = some (ls', st')) (hl : am_has ad sl nL ls)
    (k : ∀ sl', am_has ad sl' nL ls' → W p l e R s m args below meth c H locs 0 0 Q (F0 m nx sl' (st'.map (am_cv ad)))) : W p l e R s m args below meth c H locs 0 0 Q (F0 m pc sl (st.map (am_cv ad))) := by
  obtain ⟨hd, hn, h2⟩ := am_tie_d ht
  cases i with
  | iload n =>
    simp only [am_tie2, decide_eq_true_eq] at h2; subst h2
    simp only [am_loc] at h; split at h <;> cases h
    rw [hn] at k; exact lv_iload hx hb hd (am_has_at hl (by assumption)) (k _ hl)
  | iload_n n =>
    simp only [am_tie2, decide_eq_true_eq] at h2; subst h2
    simp only [am_loc] at h; split at h <;> cases h
    rw [hn] at k; exact lv_iload_n hx hb hd rfl (am_has_at hl (by assumption)) (k _ hl)
  | lload n =>
    simp only [am_tie2, decide_eq_true_eq] at h2; subst h2
    simp only [am_loc] at h; split at h <;> cases h
    rw [hn] at k; exact lv_lload hx hb hd (am_has_at hl (by assumption)) (k _ hl)
  | lload_n n =>
    simp only [am_tie2, decide_eq_true_eq] at h2; subst h2
    simp only [am_loc] at h; split at h <;> cases h
    rw [hn] at k; exact lv_lload_n hx hb hd rfl (am_has_at hl (by assumption)) (k _ hl)
  | aload n =>
    simp only [am_tie2, decide_eq_true_eq] at h2; subst h2
    simp only [am_loc] at h; split at h <;> cases h
    rw [hn] at k; exact lv_aload hx hb hd (am_has_at hl (by assumption)) (k _ hl)
  | aload_n n =>
    simp only [am_tie2, decide_eq_true_eq] at h2; subst h2
    simp only [am_loc] at h; split at h <;> cases h
    rw [hn] at k; exact lv_aload_n hx hb hd rfl (am_has_at hl (by assumption)) (k _ hl)
  | istore n =>
    simp only [am_tie2, decide_eq_true_eq] at h2; obtain ⟨rfl, h3⟩ := h2
    simp only [am_loc] at h; split at h <;> cases h
    rw [hn] at k; exact lv_istore hx hb hd hl h3 rfl (fun sl' h' => k sl' (am_has_set1 h'))
  | istore_n n =>
    simp only [am_tie2, decide_eq_true_eq] at h2; obtain ⟨rfl, h3⟩ := h2
    simp only [am_loc] at h; split at h <;> cases h
    rw [hn] at k; exact lv_istore_n hx hb hd rfl hl h3 rfl (fun sl' h' => k sl' (am_has_set1 h'))
  | astore n =>
    simp only [am_tie2, decide_eq_true_eq] at h2; obtain ⟨rfl, h3⟩ := h2
    simp only [am_loc] at h; split at h <;> cases h
    rw [hn] at k; exact lv_astore hx hb hd hl h3 rfl (fun sl' h' => k sl' (am_has_set1 (v := .ref _) h'))
  | astore_n n =>
    simp only [am_tie2, decide_eq_true_eq] at h2; obtain ⟨rfl, h3⟩ := h2
    simp only [am_loc] at h; split at h <;> cases h
    rw [hn] at k; exact lv_astore_n hx hb hd rfl hl h3 rfl (fun sl' h' => k sl' (am_has_set1 (v := .ref _) h'))
  | lstore n =>
    simp only [am_tie2, decide_eq_true_eq] at h2; obtain ⟨rfl, h3⟩ := h2
    simp only [am_loc] at h; split at h <;> cases h
    rw [hn] at k; exact lv_lstore hx hb hd hl h3 rfl (fun sl' h' => k sl' (am_has_set2 h'))
  | lstore_n n =>
    simp only [am_tie2, decide_eq_true_eq] at h2; obtain ⟨rfl, h3⟩ := h2
    simp only [am_loc] at h; split at h <;> cases h
    rw [hn] at k; exact lv_lstore_n hx hb hd rfl hl h3 rfl (fun sl' h' => k sl' (am_has_set2 h'))
  | iinc n z =>
    simp only [am_tie2, decide_eq_true_eq] at h2; obtain ⟨rfl, h3, rfl⟩ := h2
    simp only [am_loc] at h; split at h <;> cases h
    rename_i y hy
    have hm : (a, Value.int y) ∈ am_ent 0 (am_cl ad ls) := (am_ent_mem _ _ _ _).mpr ⟨a, by omega, by rw [am_at_eq] at hy; simp [am_cl, hy, am_cv]⟩
    obtain ⟨j, hj⟩ := List.mem_iff_getElem?.mp hm
    rw [hn] at k; exact lv_iinc hx hb hd hl hj rfl h3 rfl (fun sl' h' => k sl' (am_has_set1 h'))
  | _ => simp [am_loc] at h
end AMR
