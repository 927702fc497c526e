/-! the law's loop, and what holds at its start: printed by wip/whole/p68.py -/
section LLP
variable {p : Program} {e : Env} {s : State} {m : MethodId} {below : List Frame} {meth : Method} {c : Code} {b L : Nat} {xs : Nat → Int32} {ad adV : Nat → Nat} {tc : Nat → ClassId} {D : va_G}
theorem lw_le {i : Nat} (hL : L ≤ 2048) (hi : i ≤ L) (h : ¬ nI L - nI 4 < nI i) : i + 4 ≤ L := by
  rcases Nat.lt_or_ge L (i + 4) with q | q
  · refine absurd ?_ h
    rw [Int32.lt_iff_toInt_lt, pk_sub_toInt (by omega) (by omega), nI_toInt (by omega)]
    omega
  · exact q
set_option maxHeartbeats 4000000 in
theorem law_loop (l : Launch) (hL : L ≤ 2048) (C0 : lw_At p s m meth c b L xs) (X0 : lw_Lx D ad adV tc s) : ∀ (n i : Nat) (x : am_X), i ≤ L → L < n + i → am_Iv x → ∀ (H : Heap) (locs : List Loc) (ls : Array Slot), va_P D vwCl (am_W ad tc x) H → va_S (fun q => s.heap.size ≤ q) s.heap H locs → lv_has ls 4 (lw_lv b ad i) →
    W p l e room_1 s m #[Value.ref b] below meth c H locs 45 958 (lw_Z below #[Value.ref b] s) (F0 m 18 ls []) := by
  intro n
  induction n with
  | zero => intro i x h1 h2; exact absurd h2 (by omega)
  | succ n ih =>
    intro i x hi hin hIv H locs ls hP hS hl
    obtain ⟨hx, hb, hr, hml, hown, hts0, hX, hbl, hlocks, hgv⟩ := id C0
    have hbA : ¬ (fun q : Nat => s.heap.size ≤ q) b := Nat.not_le.mpr hbl
    refine lv_iload_n hx hb dL_law_18 rfl (lv_at hl 3 rfl) ?_
    refine lv_aload_n hx hb dL_law_19 rfl (lv_at hl 0 rfl) ?_
    refine va_slen hx hb hX hbl hbA hS dL_law_20 ?_
    refine lv_iconst (v := nI 4) hx hb dL_law_21 (by decide) ?_
    refine lv_isub hx hb dL_law_22 ?_
    refine lv_icmp_gt (tgt := 986) hx hb dL_law_23 (by decide) (fun h => ?_) (fun h => ?_)
    · refine lv_iconst (v := 1) hx hb dL_law_986 (by decide) ?_
      refine va_forget (fun q hq => hS.2.2 q hq) ?_
      refine W.widen (k := 600000) (n := 7302250) (Nat.le_of_ble_eq_true rfl) (Nat.le_of_ble_eq_true rfl) ?_
      exact lw_ret hx hb hr hlocks dL_law_987
    · have h4 : i + 4 ≤ L := lw_le hL hi h
      have kk : ∀ (z : am_X) (H1 : Heap) (locs1 : List Loc), am_Iv z → va_P D vwCl (am_W ad tc z) H1 → va_S (fun q => s.heap.size ≤ q) s.heap H1 locs1 → W p l e room_1 s m #[Value.ref b] below meth c H1 locs1 45 958 (lw_Z below #[Value.ref b] s) (F0 m 980 ls []) := by
        intro z H1 locs1 hz hP1 hS1
        refine lv_iinc (v := nI (i + 4)) (lv' := [(3, .int (nI (i + 4))), (0, .ref b), (1, .ref (ad 0)), (2, .ref (ad 27))]) hx hb dL_law_980 hl (k := 3) rfl (nI_add i 4) (by decide) rfl (fun ls hl => ?_)
        refine lv_goto (tgt := 18) hx hb dL_law_983 (by decide) ?_
        exact ih (i + 4) z h4 (by omega) hz H1 locs1 ls hP1 hS1 (lv_sub hl [1, 2, 3, 0] rfl)
      refine lv_aload_n hx hb dL_law_26 rfl (lv_at hl 0 rfl) ?_
      refine lv_iload_n hx hb dL_law_27 rfl (lv_at hl 3 rfl) ?_
      refine va_sld hx hb hX hbl hbA hS (vp_in_nI (show i < L by omega) (by omega)) dL_law_28 ?_
      refine lv_bipush (v := 31) hx hb dL_law_29 (by decide) ?_
      refine lv_iand hx hb dL_law_31 ?_
      obtain ⟨v, hv, ev⟩ := pk_andE (xs (nI i).toNatClampNeg) (m := 31) 5 (by decide)
      rw [ev]
      match v, hv with
      | 0, _ => exact lv_tableIn (tgt := 168) (off := 136) hx hb dL_law_32 (by decide) (by decide) rfl (by decide) (lw_c0 hL C0 X0 h4 hIv hP hS hl kk)
      | 1, _ => exact lv_tableIn (tgt := 191) (off := 159) hx hb dL_law_32 (by decide) (by decide) rfl (by decide) (lw_c1 hL C0 X0 h4 hIv hP hS hl kk)
      | 2, _ => exact lv_tableIn (tgt := 204) (off := 172) hx hb dL_law_32 (by decide) (by decide) rfl (by decide) (lw_c2 hL C0 X0 h4 hIv hP hS hl kk)
      | 3, _ => exact lv_tableIn (tgt := 237) (off := 205) hx hb dL_law_32 (by decide) (by decide) rfl (by decide) (lw_c3 hL C0 X0 h4 hIv hP hS hl kk)
      | 4, _ => exact lv_tableIn (tgt := 270) (off := 238) hx hb dL_law_32 (by decide) (by decide) rfl (by decide) (lw_c4 hL C0 X0 h4 hIv hP hS hl kk)
      | 5, _ => exact lv_tableIn (tgt := 303) (off := 271) hx hb dL_law_32 (by decide) (by decide) rfl (by decide) (lw_c5 hL C0 X0 h4 hIv hP hS hl kk)
      | 6, _ => exact lv_tableIn (tgt := 336) (off := 304) hx hb dL_law_32 (by decide) (by decide) rfl (by decide) (lw_c6 hL C0 X0 h4 hIv hP hS hl kk)
      | 7, _ => exact lv_tableIn (tgt := 369) (off := 337) hx hb dL_law_32 (by decide) (by decide) rfl (by decide) (lw_c7 hL C0 X0 h4 hIv hP hS hl kk)
      | 8, _ => exact lv_tableIn (tgt := 392) (off := 360) hx hb dL_law_32 (by decide) (by decide) rfl (by decide) (lw_c8 hL C0 X0 h4 hIv hP hS hl kk)
      | 9, _ => exact lv_tableIn (tgt := 425) (off := 393) hx hb dL_law_32 (by decide) (by decide) rfl (by decide) (lw_c9 hL C0 X0 h4 hIv hP hS hl kk)
      | 10, _ => exact lv_tableIn (tgt := 448) (off := 416) hx hb dL_law_32 (by decide) (by decide) rfl (by decide) (lw_c10 hL C0 X0 h4 hIv hP hS hl kk)
      | 11, _ => exact lv_tableIn (tgt := 461) (off := 429) hx hb dL_law_32 (by decide) (by decide) rfl (by decide) (lw_c11 hL C0 X0 h4 hIv hP hS hl kk)
      | 12, _ => exact lv_tableIn (tgt := 474) (off := 442) hx hb dL_law_32 (by decide) (by decide) rfl (by decide) (lw_c12 hL C0 X0 h4 hIv hP hS hl kk)
      | 13, _ => exact lv_tableIn (tgt := 507) (off := 475) hx hb dL_law_32 (by decide) (by decide) rfl (by decide) (lw_c13 hL C0 X0 h4 hIv hP hS hl kk)
      | 14, _ => exact lv_tableIn (tgt := 550) (off := 518) hx hb dL_law_32 (by decide) (by decide) rfl (by decide) (lw_c14 hL C0 X0 h4 hIv hP hS hl kk)
      | 15, _ => exact lv_tableIn (tgt := 593) (off := 561) hx hb dL_law_32 (by decide) (by decide) rfl (by decide) (lw_c15 hL C0 X0 h4 hIv hP hS hl kk)
      | 16, _ => exact lv_tableIn (tgt := 626) (off := 594) hx hb dL_law_32 (by decide) (by decide) rfl (by decide) (lw_c16 hL C0 X0 h4 hIv hP hS hl kk)
      | 17, _ => exact lv_tableIn (tgt := 649) (off := 617) hx hb dL_law_32 (by decide) (by decide) rfl (by decide) (lw_c17 hL C0 X0 h4 hIv hP hS hl kk)
      | 18, _ => exact lv_tableIn (tgt := 672) (off := 640) hx hb dL_law_32 (by decide) (by decide) rfl (by decide) (lw_c18 hL C0 X0 h4 hIv hP hS hl kk)
      | 19, _ => exact lv_tableIn (tgt := 706) (off := 674) hx hb dL_law_32 (by decide) (by decide) rfl (by decide) (lw_c19 hL C0 X0 h4 hIv hP hS hl kk)
      | 20, _ => exact lv_tableIn (tgt := 750) (off := 718) hx hb dL_law_32 (by decide) (by decide) rfl (by decide) (lw_c20 hL C0 X0 h4 hIv hP hS hl kk)
      | 21, _ => exact lv_tableIn (tgt := 773) (off := 741) hx hb dL_law_32 (by decide) (by decide) rfl (by decide) (lw_c21 hL C0 X0 h4 hIv hP hS hl kk)
      | 22, _ => exact lv_tableIn (tgt := 806) (off := 774) hx hb dL_law_32 (by decide) (by decide) rfl (by decide) (lw_c22 hL C0 X0 h4 hIv hP hS hl kk)
      | 23, _ => exact lv_tableIn (tgt := 829) (off := 797) hx hb dL_law_32 (by decide) (by decide) rfl (by decide) (lw_c23 hL C0 X0 h4 hIv hP hS hl kk)
      | 24, _ => exact lv_tableIn (tgt := 852) (off := 820) hx hb dL_law_32 (by decide) (by decide) rfl (by decide) (lw_c24 hL C0 X0 h4 hIv hP hS hl kk)
      | 25, _ => exact lv_tableIn (tgt := 875) (off := 843) hx hb dL_law_32 (by decide) (by decide) rfl (by decide) (lw_c25 hL C0 X0 h4 hIv hP hS hl kk)
      | 26, _ => exact lv_tableIn (tgt := 898) (off := 866) hx hb dL_law_32 (by decide) (by decide) rfl (by decide) (lw_c26 hL C0 X0 h4 hIv hP hS hl kk)
      | 27, _ => exact lv_tableIn (tgt := 931) (off := 899) hx hb dL_law_32 (by decide) (by decide) rfl (by decide) (lw_c27 hL C0 X0 h4 hIv hP hS hl kk)
      | 28, _ => exact lv_tableIn (tgt := 944) (off := 912) hx hb dL_law_32 (by decide) (by decide) rfl (by decide) (lw_c28 hL C0 X0 h4 hIv hP hS hl kk)
      | 29, _ => exact lv_tableIn (tgt := 957) (off := 925) hx hb dL_law_32 (by decide) (by decide) rfl (by decide) (lw_c29 hL C0 X0 h4 hIv hP hS hl kk)
      | 30, _ => exact lv_tableOut (tgt := 980) hx hb dL_law_32 (by decide) (by decide) (kk x H locs hIv hP hS)
      | 31, _ => exact lv_tableOut (tgt := 980) hx hb dL_law_32 (by decide) (by decide) (kk x H locs hIv hP hS)
      | k + 32, h => exact absurd h (by omega)
end LLP
section LSS
variable {args : Array Value} {s : State} {b : Nat}
theorem am_arri (h : (Cond.arrayClass .int).before args s = true) : ∃ cA, ArrOfT s cA .int ∧ va_RA s cA .int := by
  obtain ⟨c, k, comp, h1, h2, h3⟩ := Cond.arrayClass_spec h
  exact ⟨c, fun n z => ⟨fun k h => (by cases h), k, h2, comp, h3⟩, h1⟩
theorem am_arrl (h : (Cond.arrayClass .long).before args s = true) : ∃ cA, ArrOfT s cA .long ∧ va_RA s cA .long := by
  obtain ⟨c, k, comp, h1, h2, h3⟩ := Cond.arrayClass_spec h
  exact ⟨c, fun n z => ⟨fun k h => (by cases h), k, h2, comp, h3⟩, h1⟩
theorem am_arrz (h : (Cond.arrayClass .boolean).before args s = true) : ∃ cA, ArrOfT s cA .boolean ∧ va_RA s cA .boolean := by
  obtain ⟨c, k, comp, h1, h2, h3⟩ := Cond.arrayClass_spec h
  exact ⟨c, fun n z => ⟨fun k h => (by cases h), k, h2, comp, h3⟩, h1⟩
theorem am_arrc (h : (Cond.arrayClass .char).before args s = true) : ∃ cA, ArrOfT s cA .char ∧ va_RA s cA .char := by
  obtain ⟨c, k, comp, h1, h2, h3⟩ := Cond.arrayClass_spec h
  exact ⟨c, fun n z => ⟨fun k h => (by cases h), k, h2, comp, h3⟩, h1⟩
def am_tm (i : Nat) : Term := .string RX5 ((am_st.map (fun q => q.1)).getD i 0)
def am_fc : List Cond := flatC (Jvm.Cond.and given_1 narrow_1)
theorem am_sl : (List.range 8).all (fun i => decide (am_len.getD i 0 < 2 ^ 31)) = true := by decide +kernel
theorem am_se : (List.range 8).all (fun i => decide (Cond.exactly (am_tm i) "java/lang/String" ∈ am_fc)) = true := by decide +kernel
theorem am_sco : (List.range 8).all (fun i => decide (Cond.eq (.field (am_tm i) "java/lang/String" "coder" "B") (.int 0) ∈ am_fc)) = true := by decide +kernel
theorem am_sv : (List.range 8).all (fun i => decide (Cond.arrayOf (.field (am_tm i) "java/lang/String" "value" "[B") .byte ∈ am_fc)) = true := by decide +kernel
theorem am_sn : (List.range 8).all (fun i => decide (Cond.eq (.length (.field (am_tm i) "java/lang/String" "value" "[B")) (.int (Int32.ofNat (am_len.getD i 0))) ∈ am_fc)) = true := by decide +kernel
theorem am_sb : (List.range 8).all (fun i => (List.range (am_len.getD i 0)).all (fun j => decide (Cond.eq (.elem (.field (am_tm i) "java/lang/String" "value" "[B") (.int (Int32.ofNat j))) (.int ((am_bI.getD i []).getD j 0)) ∈ am_fc))) = true := by decide +kernel
theorem am_sd : (List.range 8).all (fun i => (List.range 8).all (fun j => decide (i = j) || decide (Cond.not (Cond.eq (am_tm i) (am_tm j)) ∈ am_fc) || decide (Cond.not (Cond.eq (am_tm j) (am_tm i)) ∈ am_fc))) = true := by decide +kernel
theorem am_al {n : Nat} {P : Nat → Bool} (h : (List.range n).all P = true) {i : Nat} (hi : i < n) : P i = true := List.all_eq_true.mp h i (List.mem_range.mpr hi)
theorem lw_str (hs : ∀ w ∈ am_fc, w.before args s = true) {A : Nat → Prop} (hA : ∀ a : Nat, a < s.heap.size → ¬ A a) :
    ∃ adK adV : Nat → Nat, vk_S 8 am_len am_bI adK adV A s s.heap ∧ ∀ i : Nat, i < 8 → (am_tm i).eval args s none [] s = some (.ref (adK i)) := by
  refine vk_Sof (args := args) (tm := am_tm) ?_ ?_ ?_ ?_ ?_ ?_ ?_ hA
  · intro i hi
    exact of_decide_eq_true (am_al am_sl hi)
  · intro i hi
    exact hs _ (of_decide_eq_true (am_al am_se hi))
  · intro i hi
    exact hs _ (of_decide_eq_true (am_al am_sco hi))
  · intro i hi
    exact hs _ (of_decide_eq_true (am_al am_sv hi))
  · intro i hi
    exact hs _ (of_decide_eq_true (am_al am_sn hi))
  · intro i hi j hj
    exact hs _ (of_decide_eq_true (am_al (am_al am_sb hi) hj))
  · intro i j hi hj hij
    have := am_al (am_al am_sd hi) hj
    simp only [Bool.or_eq_true, decide_eq_true_eq] at this
    rcases this with (h | h) | h
    · exact absurd h hij
    · exact Or.inl (hs _ h)
    · exact Or.inr (hs _ h)
theorem vk_Scong {N : Nat} {len : List Nat} {byt : List (List Int32)} {adK adV adK' adV' : Nat → Nat} {A : Nat → Prop} {H : Heap} (h : vk_S N len byt adK adV A s H) (h1 : ∀ i, i < N → adK' i = adK i) (h2 : ∀ i, i < N → adV' i = adV i) : vk_S N len byt adK' adV' A s H := by
  refine ⟨fun i hi => ?_, fun i j hi hj e => h.2 i j hi hj (by rw [← h1 i hi, ← h1 j hj]; exact e)⟩
  rw [h1 i hi, h2 i hi]
  exact h.1 i hi
theorem am_Nst_of (hts : ∀ w ∈ lw_tbl, w.before args s = true) : am_Nst s := by
  refine ⟨fun q hq hn => ?_, fun q hq hn => ?_⟩
  · have h2 := List.all_eq_true.mp am_fl_ok q hq
    simp only [am_fl1, Bool.and_eq_true, Bool.or_eq_true, decide_eq_true_eq] at h2
    exact va_Nw.of (by unfold am_flw; rw [hn]; rfl) (hts _ (List.mem_of_getElem? h2.1.1.1))
  · have h2 := List.all_eq_true.mp am_ml_ok q hq
    simp only [am_ml1, Bool.and_eq_true, Bool.or_eq_true, decide_eq_true_eq] at h2
    exact va_Nw.of (by unfold am_mlw; rw [hn]; rfl) (hts _ (List.mem_of_getElem? h2.1.1))
theorem lw_cs (hts : ∀ w ∈ lw_tbl, w.before args s = true) (hs : ∀ w ∈ am_fc, w.before args s = true) {A : Nat → Prop} (hA : ∀ a : Nat, a < s.heap.size → ¬ A a) : va_Z "java/lang/String" "COMPACT_STRINGS" "Z" (.int 1) A s s.heap :=
  va_Zof (args := args) (hts _ (List.mem_of_getElem? (i := 328) (by decide +kernel))) (hts _ (List.mem_of_getElem? (i := 109) (by decide +kernel))) (va_eqi (hs _ (by decide +kernel))) hA
theorem lw_sf (hts : ∀ w ∈ lw_tbl, w.before args s = true) (hs : ∀ w ∈ am_fc, w.before args s = true) {A : Nat → Prop} (hA : ∀ a : Nat, a < s.heap.size → ¬ A a) : ∃ n q : Nat, va_Z "jdk/internal/util/Preconditions" "SIOOBE_FORMATTER" "Ljava/util/function/BiFunction;" (if n = 0 then .null else .ref q) A s s.heap := by
  have h : (Cond.isRef (.static "jdk/internal/util/Preconditions" "SIOOBE_FORMATTER" "Ljava/util/function/BiFunction;")).before args s = true := hs _ (by decide +kernel)
  obtain ⟨v, hv, hr⟩ := Cond.isRef_spec h
  cases v with
  | ref q => exact ⟨1, q, va_Zof (args := args) (hts _ (List.mem_of_getElem? (i := 344) (by decide +kernel))) (hts _ (List.mem_of_getElem? (i := 111) (by decide +kernel))) hv hA⟩
  | null => exact ⟨0, 0, va_Zof (args := args) (hts _ (List.mem_of_getElem? (i := 344) (by decide +kernel))) (hts _ (List.mem_of_getElem? (i := 111) (by decide +kernel))) hv hA⟩
  | _ => cases hr
end LSS
