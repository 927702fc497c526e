/-! THE LAW, from its entry: printed by wip/whole/p69.py -/
set_option maxHeartbeats 16000000 in
set_option maxRecDepth 100000 in
theorem whole_start {p : Program} {e : Env} {s : State} {m : MethodId} {below : List Frame} {meth : Method} {c : Code} (l : Launch) (hflags : l.flags = flags0) {b L : Nat} {xs : Nat → Int32} (hL : L ≤ 2048) (C0 : lw_At p s m meth c b L xs) : W p l e room_1 s m #[Value.ref b] below meth c s.heap [] 0 0 (lw_Z below #[Value.ref b] s) (entryFrame m ([Value.ref b] : List Value).toArray 4) := by
  obtain ⟨hx, hb, hr, hml, hown, hts0, hX, hbl, hlocks, hgv⟩ := id C0
  have hts := lw_hts C0
  have hs : ∀ w ∈ am_fc, w.before #[Value.ref b] s = true := flat_of_before _ hgv
  have hA : ∀ q : Nat, s.heap.size ≤ q → (fun q : Nat => s.heap.size ≤ q) q := fun _ h => h
  have hnA : ∀ a : Nat, a < s.heap.size → ¬ (fun q : Nat => s.heap.size ≤ q) a := fun a h => Nat.not_le.mpr h
  obtain ⟨c0, i0, k0⟩ := u_known (C := RX0) (T := TX0) (N := 2) (n := 2) hts am_ly0 (hts _ (am_tb_in (i := 223) (by decide +kernel) rfl))
  obtain ⟨c1, i1, k1⟩ := u_known (C := RX1) (T := TX1) (N := 7) (n := 7) hts am_ly1 (hts _ (am_tb_in (i := 125) (by decide +kernel) rfl))
  obtain ⟨c2, i2, k2⟩ := u_known (C := RX2) (T := TX2) (N := 3) (n := 3) hts am_ly2 (hts _ (am_tb_in (i := 206) (by decide +kernel) rfl))
  obtain ⟨c3, i3, k3⟩ := u_known (C := RX3) (T := TX3) (N := 1) (n := 1) hts am_ly3 (hts _ (am_tb_in (i := 236) (by decide +kernel) rfl))
  obtain ⟨c4, i4, k4⟩ := u_known (C := RX4) (T := TX4) (N := 2) (n := 2) hts am_ly4 (hts _ (am_tb_in (i := 168) (by decide +kernel) rfl))
  obtain ⟨c5, i5, k5⟩ := u_known (C := RX5) (T := TX5) (N := 1) (n := 1) hts am_ly5 (hts _ (am_tb_in (i := 162) (by decide +kernel) rfl))
  obtain ⟨c6, i6, k6⟩ := u_known (C := RX6) (T := TX6) (N := 2) (n := 2) hts am_ly6 (hts _ (am_tb_in (i := 193) (by decide +kernel) rfl))
  obtain ⟨c7, i7, k7⟩ := u_known (C := RX7) (T := TX7) (N := 11) (n := 11) hts am_ly7 (hts _ (am_tb_in (i := 117) (by decide +kernel) rfl))
  obtain ⟨c8, i8, k8⟩ := u_known (C := RX8) (T := TX8) (N := 24) (n := 24) hts am_ly8 (hts _ (am_tb_in (i := 888) (by decide +kernel) rfl))
  obtain ⟨dC, dI, hKc⟩ : ∃ (dC : Nat → ClassId) (dI : Nat → Nat → Nat), ∀ (k : Nat) (q : vw_C), vwCl[k]? = some q → u_Kn s q.1 q.2.1 q.2.2 (dC k) (dI k) := by
    refine ⟨fun k => [c0, c1, c2, c3, c4, c5, c6, c7, c8].getD k c0, fun k => [i0, i1, i2, i3, i4, i5, i6, i7, i8].getD k i0, ?_⟩
    intro k q hq
    match k, hq with
    | 0, hq => cases hq; exact k0
    | 1, hq => cases hq; exact k1
    | 2, hq => cases hq; exact k2
    | 3, hq => cases hq; exact k3
    | 4, hq => cases hq; exact k4
    | 5, hq => cases hq; exact k5
    | 6, hq => cases hq; exact k6
    | 7, hq => cases hq; exact k7
    | 8, hq => cases hq; exact k8
    | k + 9, hq => simp [vwCl] at hq
  obtain ⟨t0, z0, y0⟩ := am_arri (hts _ (am_tb_in (i := 160) (by decide +kernel) rfl))
  obtain ⟨t1, z1, y1⟩ := am_arrl (hts _ (am_tb_in (i := 159) (by decide +kernel) rfl))
  obtain ⟨t2, z2, y2⟩ := am_arrz (hts _ (am_tb_in (i := 967) (by decide +kernel) rfl))
  obtain ⟨t3, z3, y3⟩ := am_arrc (hts _ (am_tb_in (i := 966) (by decide +kernel) rfl))
  obtain ⟨tc, hT⟩ : ∃ tc : Nat → ClassId, ∀ (k : Nat) (q : ClassId × FieldType), (am_tys tc)[k]? = some q → ArrOfT s q.1 q.2 ∧ va_RA s q.1 q.2 := by
    refine ⟨fun k => [t0, t1, t2, t3].getD k t0, ?_⟩
    intro k q hq
    match k, hq with
    | 0, hq => cases hq; exact ⟨z0, y0⟩
    | 1, hq => cases hq; exact ⟨z1, y1⟩
    | 2, hq => cases hq; exact ⟨z2, y2⟩
    | 3, hq => cases hq; exact ⟨z3, y3⟩
    | k + 4, hq => simp [am_tys] at hq
  have hK : va_K (dC, dI) vwCl (am_tys tc) s := ⟨hKc, hT⟩
  have hN : am_Nc s := ⟨va_Nw.of rfl (hts0 _ (List.mem_of_getElem? (i := 126) (by decide +kernel))), va_Nw.of rfl (hts0 _ (List.mem_of_getElem? (i := 163) (by decide +kernel))), va_Nw.of rfl (hts0 _ (List.mem_of_getElem? (i := 191) (by decide +kernel))), va_Nw.of rfl (hts0 _ (List.mem_of_getElem? (i := 194) (by decide +kernel))), va_Nw.of rfl (hts0 _ (List.mem_of_getElem? (i := 207) (by decide +kernel))), va_Nw.of rfl (hts0 _ (List.mem_of_getElem? (i := 224) (by decide +kernel))), va_Nw.of rfl (hts0 _ (List.mem_of_getElem? (i := 237) (by decide +kernel))), va_Nw.of rfl (hts0 _ (List.mem_of_getElem? (i := 169) (by decide +kernel)))⟩
  obtain ⟨adK, adV, hVS, hVE⟩ := lw_str hs hnA
  obtain ⟨nf, qf, hZf⟩ := lw_sf hts0 hs hnA
  have hZc := lw_cs hts0 hs hnA
  generalize hDe : ((dC, dI) : va_G) = D at hK
  have hS : va_S (fun q : Nat => s.heap.size ≤ q) s.heap s.heap [] := va_S.rf
  have hP : va_P D vwCl [] s.heap := fun k q h => by simp at h
  have hD : va_D (fun q : Nat => s.heap.size ≤ q) [] := ⟨fun i j p q h => by simp at h, fun k q h => by simp at h⟩
  have hl := lv_entry ([.ref b]) (n := 4) (Nat.le_of_ble_eq_true rfl)
  rw [lg_entry_eq]
  generalize (lg_sl ([.ref b]) ++ List.replicate (4 - (lg_sl ([.ref b])).length) Slot.unset).toArray = ls at hl ⊢
  have hl : lv_has ls 4 [(0, .ref b)] := hl
  refine va_new (ci := 7) (fs := [.null, .null, .null, .null, .null, .null, .null, .null, .null, .null, .int 0]) (C := RX7) (T := TX7) (N := 11) hx hb hts am_ly7 tyX7 tyX7_ok hown (hts _ (am_tb_in (i := 116) (by decide +kernel) rfl)) (hts _ (am_tb_in (i := 117) (by decide +kernel) rfl)) (hts _ (am_tb_in (i := 98) (by decide +kernel) rfl)) hK hP hD hS hA rfl am_df7 (Nat.le_of_ble_eq_true rfl) (Nat.le_of_ble_eq_true rfl) dL_law_0 (fun qa H hP hD hS => ?_)
  have hP : va_P D vwCl [(qa, .inr (7, [.null, .null, .null, .null, .null, .null, .null, .null, .null, .null, .int 0]))] H := hP
  have hD : va_D (fun q : Nat => s.heap.size ≤ q) [(qa, .inr (7, [.null, .null, .null, .null, .null, .null, .null, .null, .null, .null, .int 0]))] := hD
  refine W.widen (k := 1) (n := 11) (Nat.le_of_ble_eq_true rfl) (Nat.le_of_ble_eq_true rfl) ?_
  refine lv_dup hx hb dL_law_3 rfl ?_
  have hPc := hP.sub (ws' := [(qa, .inr (7, [.null, .null, .null, .null, .null, .null, .null, .null, .null, .null, .int 0]))]) [0] rfl
  have hDc := hD.sub (ws' := [(qa, .inr (7, [.null, .null, .null, .null, .null, .null, .null, .null, .null, .null, .int 0]))]) [0] (by decide) rfl
  have hFc := va_free (wc := [(qa, .inr (7, [.null, .null, .null, .null, .null, .null, .null, .null, .null, .null, .int 0]))]) hD hS hA [0] rfl
  refine va_callv (va_runI (As := []) (rest := [.ref qa]) ⟨hx, hb, hml, hown, hts⟩ (c_X7 l D tc qa H.size) ⟨callB_of 0 hts (am_gi (am_tb_in (i := 120) (by decide +kernel) rfl)) rfl rfl rfl (hts _ (am_tb_in (i := 98) (by decide +kernel) rfl)) (hts _ (am_tb_in (i := 118) (by decide +kernel) rfl)) (by decide +kernel) ⟨(Nat.le_of_ble_eq_true rfl), (Nat.le_of_ble_eq_true rfl)⟩, rfl, (hts _ (am_tb_in (i := 119) (by decide +kernel) rfl))⟩ ⟨fun a U g mk q => by obtain ⟨q0, q1, qP, qK, qD, qN⟩ := q; exact ⟨q0, q1, qP, va_K.moved (u := U) (U := U.calling g mk a) (Vm.Alike.refl U.vm) qK, qD, am_Nc_same (u := U) rfl qN⟩, fun U hU hW => ⟨rfl, by rw [hU], by rw [hU]; exact hPc, va_K.moved hW.alike hK, hDc.weaken (fun _ _ _ _ => trivial), am_Nc_warm hW hN⟩⟩ rfl rfl hl.1 rfl (lv_room (Nat.le_of_ble_eq_true rfl)) dL_law_4 ⟨(Nat.le_of_ble_eq_true rfl), (Nat.le_of_ble_eq_true rfl)⟩) hS (fun q _ h => hFc q h) hFc (fun u t H locs ht hvm hw hB hz1 hk1 hS => ?_)
  obtain ⟨qax0, qax1, qax2, qax3, qax4, qax5, qax6, qax7, qax8, qax9, qax10, qax11, qax12, qax13, qax14, qax15, qax16, qax17, qax18, qax19, qax20, qax21, qax22, qax23, qax24, qax25, hP1, hD1⟩ := hB
  rw [ht] at hP1
  obtain ⟨hP, hD⟩ := va_join (wr := []) (w1 := [(qa, .inr (7, [.ref qax0, .ref qax4, .ref qax8, .ref qax12, .ref qax15, .ref qax17, .ref qax19, .ref qax21, .ref qax24, .ref qax25, .int 0])), (qax0, .inr (1, [.ref qax1, .ref qax2, .ref qax3, .int 0, .int 14, .int 2, .int 5])), (qax1, .inl (tc 1, 6, .inr (.inl (vp_updL (fun _ => 0) 0 68719476735)))), (qax2, .inl (tc 0, 3, .inl (fun _ => 0))), (qax3, .inl (tc 0, 3, .inl (fun _ => 0))), (qax4, .inr (1, [.ref qax5, .ref qax6, .ref qax7, .int 0, .int 14, .int 2, .int 5])), (qax5, .inl (tc 1, 6, .inr (.inl (vp_updL (fun _ => 0) 0 68719476735)))), (qax6, .inl (tc 0, 3, .inl (fun _ => 0))), (qax7, .inl (tc 0, 3, .inl (fun _ => 0))), (qax8, .inr (1, [.ref qax9, .ref qax10, .ref qax11, .int 0, .int 14, .int 2, .int 5])), (qax9, .inl (tc 1, 6, .inr (.inl (vp_updL (fun _ => 0) 0 68719476735)))), (qax10, .inl (tc 0, 3, .inl (fun _ => 0))), (qax11, .inl (tc 0, 3, .inl (fun _ => 0))), (qax12, .inr (5, [.ref qax13])), (qax13, .inr (4, [.ref qax14, .int 0])), (qax14, .inl (tc 0, 96, .inl (fun _ => 0))), (qax15, .inr (4, [.ref qax16, .int 0])), (qax16, .inl (tc 0, 12, .inl (fun _ => 0))), (qax17, .inr (6, [.ref qax18, .int 0])), (qax18, .inl (tc 1, 141, .inr (.inl (fun _ => 0)))), (qax19, .inr (2, [.ref qax20, .long 0, .int 0])), (qax20, .inl (tc 1, 3, .inr (.inl (fun _ => 0)))), (qax21, .inr (0, [.ref qax22, .ref qax23])), (qax22, .inl (tc 1, 36, .inr (.inl (fun _ => 0)))), (qax23, .inl (tc 1, 36, .inr (.inl (fun _ => 0)))), (qax24, .inr (3, [.int 0])), (qax25, .inl (tc 0, 7, .inl (fun _ => 0)))]) hP hD [0] [] rfl rfl (by decide) (by decide) hk1 hFc hP1 hD1
  have hP : va_P D vwCl [(qa, .inr (7, [.ref qax0, .ref qax4, .ref qax8, .ref qax12, .ref qax15, .ref qax17, .ref qax19, .ref qax21, .ref qax24, .ref qax25, .int 0])), (qax0, .inr (1, [.ref qax1, .ref qax2, .ref qax3, .int 0, .int 14, .int 2, .int 5])), (qax1, .inl (tc 1, 6, .inr (.inl (vp_updL (fun _ => 0) 0 68719476735)))), (qax2, .inl (tc 0, 3, .inl (fun _ => 0))), (qax3, .inl (tc 0, 3, .inl (fun _ => 0))), (qax4, .inr (1, [.ref qax5, .ref qax6, .ref qax7, .int 0, .int 14, .int 2, .int 5])), (qax5, .inl (tc 1, 6, .inr (.inl (vp_updL (fun _ => 0) 0 68719476735)))), (qax6, .inl (tc 0, 3, .inl (fun _ => 0))), (qax7, .inl (tc 0, 3, .inl (fun _ => 0))), (qax8, .inr (1, [.ref qax9, .ref qax10, .ref qax11, .int 0, .int 14, .int 2, .int 5])), (qax9, .inl (tc 1, 6, .inr (.inl (vp_updL (fun _ => 0) 0 68719476735)))), (qax10, .inl (tc 0, 3, .inl (fun _ => 0))), (qax11, .inl (tc 0, 3, .inl (fun _ => 0))), (qax12, .inr (5, [.ref qax13])), (qax13, .inr (4, [.ref qax14, .int 0])), (qax14, .inl (tc 0, 96, .inl (fun _ => 0))), (qax15, .inr (4, [.ref qax16, .int 0])), (qax16, .inl (tc 0, 12, .inl (fun _ => 0))), (qax17, .inr (6, [.ref qax18, .int 0])), (qax18, .inl (tc 1, 141, .inr (.inl (fun _ => 0)))), (qax19, .inr (2, [.ref qax20, .long 0, .int 0])), (qax20, .inl (tc 1, 3, .inr (.inl (fun _ => 0)))), (qax21, .inr (0, [.ref qax22, .ref qax23])), (qax22, .inl (tc 1, 36, .inr (.inl (fun _ => 0)))), (qax23, .inl (tc 1, 36, .inr (.inl (fun _ => 0)))), (qax24, .inr (3, [.int 0])), (qax25, .inl (tc 0, 7, .inl (fun _ => 0)))] H := hP
  have hD : va_D (fun q : Nat => s.heap.size ≤ q) [(qa, .inr (7, [.ref qax0, .ref qax4, .ref qax8, .ref qax12, .ref qax15, .ref qax17, .ref qax19, .ref qax21, .ref qax24, .ref qax25, .int 0])), (qax0, .inr (1, [.ref qax1, .ref qax2, .ref qax3, .int 0, .int 14, .int 2, .int 5])), (qax1, .inl (tc 1, 6, .inr (.inl (vp_updL (fun _ => 0) 0 68719476735)))), (qax2, .inl (tc 0, 3, .inl (fun _ => 0))), (qax3, .inl (tc 0, 3, .inl (fun _ => 0))), (qax4, .inr (1, [.ref qax5, .ref qax6, .ref qax7, .int 0, .int 14, .int 2, .int 5])), (qax5, .inl (tc 1, 6, .inr (.inl (vp_updL (fun _ => 0) 0 68719476735)))), (qax6, .inl (tc 0, 3, .inl (fun _ => 0))), (qax7, .inl (tc 0, 3, .inl (fun _ => 0))), (qax8, .inr (1, [.ref qax9, .ref qax10, .ref qax11, .int 0, .int 14, .int 2, .int 5])), (qax9, .inl (tc 1, 6, .inr (.inl (vp_updL (fun _ => 0) 0 68719476735)))), (qax10, .inl (tc 0, 3, .inl (fun _ => 0))), (qax11, .inl (tc 0, 3, .inl (fun _ => 0))), (qax12, .inr (5, [.ref qax13])), (qax13, .inr (4, [.ref qax14, .int 0])), (qax14, .inl (tc 0, 96, .inl (fun _ => 0))), (qax15, .inr (4, [.ref qax16, .int 0])), (qax16, .inl (tc 0, 12, .inl (fun _ => 0))), (qax17, .inr (6, [.ref qax18, .int 0])), (qax18, .inl (tc 1, 141, .inr (.inl (fun _ => 0)))), (qax19, .inr (2, [.ref qax20, .long 0, .int 0])), (qax20, .inl (tc 1, 3, .inr (.inl (fun _ => 0)))), (qax21, .inr (0, [.ref qax22, .ref qax23])), (qax22, .inl (tc 1, 36, .inr (.inl (fun _ => 0)))), (qax23, .inl (tc 1, 36, .inr (.inl (fun _ => 0)))), (qax24, .inr (3, [.int 0])), (qax25, .inl (tc 0, 7, .inl (fun _ => 0)))] := hD
  refine W.widen (k := 27) (n := 412) (Nat.le_of_ble_eq_true rfl) (Nat.le_of_ble_eq_true rfl) ?_
  refine lv_astore_n (lv' := [(1, .ref qa), (0, .ref b)]) hx hb dL_law_7 rfl hl (by decide) rfl (fun ls hl => ?_)
  refine va_new (ci := 8) (fs := [.null, .null, .null, .int 0, .null, .int 0, .int 0, .int 0, .null, .null, .null, .int 0, .null, .null, .null, .null, .null, .null, .null, .int 0, .null, .int 0, .null, .null]) (C := RX8) (T := TX8) (N := 24) hx hb hts am_ly8 tyX8 tyX8_ok hown (hts _ (am_tb_in (i := 887) (by decide +kernel) rfl)) (hts _ (am_tb_in (i := 888) (by decide +kernel) rfl)) (hts _ (am_tb_in (i := 107) (by decide +kernel) rfl)) hK hP hD hS hA rfl am_df8 (Nat.le_of_ble_eq_true rfl) (Nat.le_of_ble_eq_true rfl) dL_law_8 (fun qb H hP hD hS => ?_)
  have hP : va_P D vwCl [(qa, .inr (7, [.ref qax0, .ref qax4, .ref qax8, .ref qax12, .ref qax15, .ref qax17, .ref qax19, .ref qax21, .ref qax24, .ref qax25, .int 0])), (qax0, .inr (1, [.ref qax1, .ref qax2, .ref qax3, .int 0, .int 14, .int 2, .int 5])), (qax1, .inl (tc 1, 6, .inr (.inl (vp_updL (fun _ => 0) 0 68719476735)))), (qax2, .inl (tc 0, 3, .inl (fun _ => 0))), (qax3, .inl (tc 0, 3, .inl (fun _ => 0))), (qax4, .inr (1, [.ref qax5, .ref qax6, .ref qax7, .int 0, .int 14, .int 2, .int 5])), (qax5, .inl (tc 1, 6, .inr (.inl (vp_updL (fun _ => 0) 0 68719476735)))), (qax6, .inl (tc 0, 3, .inl (fun _ => 0))), (qax7, .inl (tc 0, 3, .inl (fun _ => 0))), (qax8, .inr (1, [.ref qax9, .ref qax10, .ref qax11, .int 0, .int 14, .int 2, .int 5])), (qax9, .inl (tc 1, 6, .inr (.inl (vp_updL (fun _ => 0) 0 68719476735)))), (qax10, .inl (tc 0, 3, .inl (fun _ => 0))), (qax11, .inl (tc 0, 3, .inl (fun _ => 0))), (qax12, .inr (5, [.ref qax13])), (qax13, .inr (4, [.ref qax14, .int 0])), (qax14, .inl (tc 0, 96, .inl (fun _ => 0))), (qax15, .inr (4, [.ref qax16, .int 0])), (qax16, .inl (tc 0, 12, .inl (fun _ => 0))), (qax17, .inr (6, [.ref qax18, .int 0])), (qax18, .inl (tc 1, 141, .inr (.inl (fun _ => 0)))), (qax19, .inr (2, [.ref qax20, .long 0, .int 0])), (qax20, .inl (tc 1, 3, .inr (.inl (fun _ => 0)))), (qax21, .inr (0, [.ref qax22, .ref qax23])), (qax22, .inl (tc 1, 36, .inr (.inl (fun _ => 0)))), (qax23, .inl (tc 1, 36, .inr (.inl (fun _ => 0)))), (qax24, .inr (3, [.int 0])), (qax25, .inl (tc 0, 7, .inl (fun _ => 0))), (qb, .inr (8, [.null, .null, .null, .int 0, .null, .int 0, .int 0, .int 0, .null, .null, .null, .int 0, .null, .null, .null, .null, .null, .null, .null, .int 0, .null, .int 0, .null, .null]))] H := hP
  have hD : va_D (fun q : Nat => s.heap.size ≤ q) [(qa, .inr (7, [.ref qax0, .ref qax4, .ref qax8, .ref qax12, .ref qax15, .ref qax17, .ref qax19, .ref qax21, .ref qax24, .ref qax25, .int 0])), (qax0, .inr (1, [.ref qax1, .ref qax2, .ref qax3, .int 0, .int 14, .int 2, .int 5])), (qax1, .inl (tc 1, 6, .inr (.inl (vp_updL (fun _ => 0) 0 68719476735)))), (qax2, .inl (tc 0, 3, .inl (fun _ => 0))), (qax3, .inl (tc 0, 3, .inl (fun _ => 0))), (qax4, .inr (1, [.ref qax5, .ref qax6, .ref qax7, .int 0, .int 14, .int 2, .int 5])), (qax5, .inl (tc 1, 6, .inr (.inl (vp_updL (fun _ => 0) 0 68719476735)))), (qax6, .inl (tc 0, 3, .inl (fun _ => 0))), (qax7, .inl (tc 0, 3, .inl (fun _ => 0))), (qax8, .inr (1, [.ref qax9, .ref qax10, .ref qax11, .int 0, .int 14, .int 2, .int 5])), (qax9, .inl (tc 1, 6, .inr (.inl (vp_updL (fun _ => 0) 0 68719476735)))), (qax10, .inl (tc 0, 3, .inl (fun _ => 0))), (qax11, .inl (tc 0, 3, .inl (fun _ => 0))), (qax12, .inr (5, [.ref qax13])), (qax13, .inr (4, [.ref qax14, .int 0])), (qax14, .inl (tc 0, 96, .inl (fun _ => 0))), (qax15, .inr (4, [.ref qax16, .int 0])), (qax16, .inl (tc 0, 12, .inl (fun _ => 0))), (qax17, .inr (6, [.ref qax18, .int 0])), (qax18, .inl (tc 1, 141, .inr (.inl (fun _ => 0)))), (qax19, .inr (2, [.ref qax20, .long 0, .int 0])), (qax20, .inl (tc 1, 3, .inr (.inl (fun _ => 0)))), (qax21, .inr (0, [.ref qax22, .ref qax23])), (qax22, .inl (tc 1, 36, .inr (.inl (fun _ => 0)))), (qax23, .inl (tc 1, 36, .inr (.inl (fun _ => 0)))), (qax24, .inr (3, [.int 0])), (qax25, .inl (tc 0, 7, .inl (fun _ => 0))), (qb, .inr (8, [.null, .null, .null, .int 0, .null, .int 0, .int 0, .int 0, .null, .null, .null, .int 0, .null, .null, .null, .null, .null, .null, .null, .int 0, .null, .int 0, .null, .null]))] := hD
  refine W.widen (k := 28) (n := 436) (Nat.le_of_ble_eq_true rfl) (Nat.le_of_ble_eq_true rfl) ?_
  refine lv_dup hx hb dL_law_11 rfl ?_
  have hPc := hP.sub (ws' := [(qb, .inr (8, [.null, .null, .null, .int 0, .null, .int 0, .int 0, .int 0, .null, .null, .null, .int 0, .null, .null, .null, .null, .null, .null, .null, .int 0, .null, .int 0, .null, .null]))]) [27] rfl
  have hDc := hD.sub (ws' := [(qb, .inr (8, [.null, .null, .null, .int 0, .null, .int 0, .int 0, .int 0, .null, .null, .null, .int 0, .null, .null, .null, .null, .null, .null, .null, .int 0, .null, .int 0, .null, .null]))]) [27] (by decide) rfl
  have hFc := va_free (wc := [(qb, .inr (8, [.null, .null, .null, .int 0, .null, .int 0, .int 0, .int 0, .null, .null, .null, .int 0, .null, .null, .null, .null, .null, .null, .null, .int 0, .null, .int 0, .null, .null]))]) hD hS hA [27] rfl
  refine va_callv (va_runI (As := []) (rest := [.ref qb]) ⟨hx, hb, hml, hown, hts⟩ (c_X8 l D tc qb H.size) ⟨callB_of 0 hts (am_gi (am_tb_in (i := 891) (by decide +kernel) rfl)) rfl rfl rfl (hts _ (am_tb_in (i := 107) (by decide +kernel) rfl)) (hts _ (am_tb_in (i := 889) (by decide +kernel) rfl)) (by decide +kernel) ⟨(Nat.le_of_ble_eq_true rfl), (Nat.le_of_ble_eq_true rfl)⟩, rfl, (hts _ (am_tb_in (i := 890) (by decide +kernel) rfl))⟩ ⟨fun a U g mk q => by obtain ⟨q0, q1, qP, qK, qD⟩ := q; exact ⟨q0, q1, qP, va_K.moved (u := U) (U := U.calling g mk a) (Vm.Alike.refl U.vm) qK, qD⟩, fun U hU hW => ⟨rfl, by rw [hU], by rw [hU]; exact hPc, va_K.moved hW.alike hK, hDc.weaken (fun _ _ _ _ => trivial)⟩⟩ rfl rfl hl.1 rfl (lv_room (Nat.le_of_ble_eq_true rfl)) dL_law_12 ⟨(Nat.le_of_ble_eq_true rfl), (Nat.le_of_ble_eq_true rfl)⟩) hS (fun q _ h => hFc q h) hFc (fun u t H locs ht hvm hw hB hz1 hk1 hS => ?_)
  obtain ⟨qbx0, qbx1, qbx2, qbx3, qbx4, qbx5, qbx6, qbx7, qbx8, qbx9, qbx10, qbx11, qbx12, qbx13, qbx14, qbx15, qbx16, hP1, hD1⟩ := hB
  rw [ht] at hP1
  obtain ⟨hP, hD⟩ := va_join (wr := [(qa, .inr (7, [.ref qax0, .ref qax4, .ref qax8, .ref qax12, .ref qax15, .ref qax17, .ref qax19, .ref qax21, .ref qax24, .ref qax25, .int 0])), (qax0, .inr (1, [.ref qax1, .ref qax2, .ref qax3, .int 0, .int 14, .int 2, .int 5])), (qax1, .inl (tc 1, 6, .inr (.inl (vp_updL (fun _ => 0) 0 68719476735)))), (qax2, .inl (tc 0, 3, .inl (fun _ => 0))), (qax3, .inl (tc 0, 3, .inl (fun _ => 0))), (qax4, .inr (1, [.ref qax5, .ref qax6, .ref qax7, .int 0, .int 14, .int 2, .int 5])), (qax5, .inl (tc 1, 6, .inr (.inl (vp_updL (fun _ => 0) 0 68719476735)))), (qax6, .inl (tc 0, 3, .inl (fun _ => 0))), (qax7, .inl (tc 0, 3, .inl (fun _ => 0))), (qax8, .inr (1, [.ref qax9, .ref qax10, .ref qax11, .int 0, .int 14, .int 2, .int 5])), (qax9, .inl (tc 1, 6, .inr (.inl (vp_updL (fun _ => 0) 0 68719476735)))), (qax10, .inl (tc 0, 3, .inl (fun _ => 0))), (qax11, .inl (tc 0, 3, .inl (fun _ => 0))), (qax12, .inr (5, [.ref qax13])), (qax13, .inr (4, [.ref qax14, .int 0])), (qax14, .inl (tc 0, 96, .inl (fun _ => 0))), (qax15, .inr (4, [.ref qax16, .int 0])), (qax16, .inl (tc 0, 12, .inl (fun _ => 0))), (qax17, .inr (6, [.ref qax18, .int 0])), (qax18, .inl (tc 1, 141, .inr (.inl (fun _ => 0)))), (qax19, .inr (2, [.ref qax20, .long 0, .int 0])), (qax20, .inl (tc 1, 3, .inr (.inl (fun _ => 0)))), (qax21, .inr (0, [.ref qax22, .ref qax23])), (qax22, .inl (tc 1, 36, .inr (.inl (fun _ => 0)))), (qax23, .inl (tc 1, 36, .inr (.inl (fun _ => 0)))), (qax24, .inr (3, [.int 0])), (qax25, .inl (tc 0, 7, .inl (fun _ => 0)))]) (w1 := [(qb, .inr (8, [.ref qbx0, .ref qbx1, .ref qbx2, .int 0, .ref qbx3, .int 0, .int 0, .int 0, .ref qbx4, .ref qbx5, .ref qbx6, .int 0, .ref qbx7, .ref qbx8, .ref qbx9, .ref qbx10, .ref qbx11, .ref qbx12, .ref qbx13, .int 0, .ref qbx14, .int 0, .ref qbx15, .ref qbx16])), (qbx0, .inl (tc 0, 7, .inl (fun _ => 0))), (qbx1, .inl (tc 0, 56, .inl (upd (upd (upd (fun _ => 0) 0 14) 1 2) 2 5))), (qbx2, .inl (tc 0, 56, .inl (fun _ => 0))), (qbx3, .inl (tc 0, 96, .inl (fun _ => 0))), (qbx4, .inl (tc 3, 6, .inl (upd (upd (upd (upd (upd (upd (fun _ => 0) 0 (vp_nar .char 107)) 1 (vp_nar .char 118)) 2 (vp_nar .char 104)) 3 (vp_nar .char 112)) 4 (vp_nar .char 119)) 5 (vp_nar .char 115)))), (qbx5, .inl (tc 3, 6, .inl (upd (upd (upd (upd (upd (upd (fun _ => 0) 0 (vp_nar .char 108)) 1 (vp_nar .char 104)) 2 (vp_nar .char 103)) 3 (vp_nar .char 115)) 4 (vp_nar .char 98)) 5 (vp_nar .char 114)))), (qbx6, .inl (tc 3, 5, .inl (upd (upd (upd (upd (upd (fun _ => 0) 0 (vp_nar .char 102)) 1 (vp_nar .char 110)) 2 (vp_nar .char 109)) 3 (vp_nar .char 101)) 4 (vp_nar .char 97)))), (qbx7, .inl (tc 0, 3, .inl (fun _ => 0))), (qbx8, .inl (tc 0, 56, .inl (fun _ => 0))), (qbx9, .inl (tc 2, 36, .inl (fun _ => 0))), (qbx10, .inl (tc 0, 36, .inl (fun _ => 0))), (qbx11, .inl (tc 2, 36, .inl (fun _ => 0))), (qbx12, .inl (tc 2, 36, .inl (fun _ => 0))), (qbx13, .inl (tc 0, 3, .inl (fun _ => 0))), (qbx14, .inl (tc 0, 12, .inl (fun _ => 0))), (qbx15, .inl (tc 1, 36, .inr (.inl (fun _ => 0)))), (qbx16, .inl (tc 1, 36, .inr (.inl (fun _ => 0))))]) hP hD [27] [0, 1, 2, 3, 4, 5, 6, 7, 8, 9, 10, 11, 12, 13, 14, 15, 16, 17, 18, 19, 20, 21, 22, 23, 24, 25, 26] rfl rfl (by decide) (by decide) hk1 hFc hP1 hD1
  have hP : va_P D vwCl [(qa, .inr (7, [.ref qax0, .ref qax4, .ref qax8, .ref qax12, .ref qax15, .ref qax17, .ref qax19, .ref qax21, .ref qax24, .ref qax25, .int 0])), (qax0, .inr (1, [.ref qax1, .ref qax2, .ref qax3, .int 0, .int 14, .int 2, .int 5])), (qax1, .inl (tc 1, 6, .inr (.inl (vp_updL (fun _ => 0) 0 68719476735)))), (qax2, .inl (tc 0, 3, .inl (fun _ => 0))), (qax3, .inl (tc 0, 3, .inl (fun _ => 0))), (qax4, .inr (1, [.ref qax5, .ref qax6, .ref qax7, .int 0, .int 14, .int 2, .int 5])), (qax5, .inl (tc 1, 6, .inr (.inl (vp_updL (fun _ => 0) 0 68719476735)))), (qax6, .inl (tc 0, 3, .inl (fun _ => 0))), (qax7, .inl (tc 0, 3, .inl (fun _ => 0))), (qax8, .inr (1, [.ref qax9, .ref qax10, .ref qax11, .int 0, .int 14, .int 2, .int 5])), (qax9, .inl (tc 1, 6, .inr (.inl (vp_updL (fun _ => 0) 0 68719476735)))), (qax10, .inl (tc 0, 3, .inl (fun _ => 0))), (qax11, .inl (tc 0, 3, .inl (fun _ => 0))), (qax12, .inr (5, [.ref qax13])), (qax13, .inr (4, [.ref qax14, .int 0])), (qax14, .inl (tc 0, 96, .inl (fun _ => 0))), (qax15, .inr (4, [.ref qax16, .int 0])), (qax16, .inl (tc 0, 12, .inl (fun _ => 0))), (qax17, .inr (6, [.ref qax18, .int 0])), (qax18, .inl (tc 1, 141, .inr (.inl (fun _ => 0)))), (qax19, .inr (2, [.ref qax20, .long 0, .int 0])), (qax20, .inl (tc 1, 3, .inr (.inl (fun _ => 0)))), (qax21, .inr (0, [.ref qax22, .ref qax23])), (qax22, .inl (tc 1, 36, .inr (.inl (fun _ => 0)))), (qax23, .inl (tc 1, 36, .inr (.inl (fun _ => 0)))), (qax24, .inr (3, [.int 0])), (qax25, .inl (tc 0, 7, .inl (fun _ => 0))), (qb, .inr (8, [.ref qbx0, .ref qbx1, .ref qbx2, .int 0, .ref qbx3, .int 0, .int 0, .int 0, .ref qbx4, .ref qbx5, .ref qbx6, .int 0, .ref qbx7, .ref qbx8, .ref qbx9, .ref qbx10, .ref qbx11, .ref qbx12, .ref qbx13, .int 0, .ref qbx14, .int 0, .ref qbx15, .ref qbx16])), (qbx0, .inl (tc 0, 7, .inl (fun _ => 0))), (qbx1, .inl (tc 0, 56, .inl (upd (upd (upd (fun _ => 0) 0 14) 1 2) 2 5))), (qbx2, .inl (tc 0, 56, .inl (fun _ => 0))), (qbx3, .inl (tc 0, 96, .inl (fun _ => 0))), (qbx4, .inl (tc 3, 6, .inl (upd (upd (upd (upd (upd (upd (fun _ => 0) 0 (vp_nar .char 107)) 1 (vp_nar .char 118)) 2 (vp_nar .char 104)) 3 (vp_nar .char 112)) 4 (vp_nar .char 119)) 5 (vp_nar .char 115)))), (qbx5, .inl (tc 3, 6, .inl (upd (upd (upd (upd (upd (upd (fun _ => 0) 0 (vp_nar .char 108)) 1 (vp_nar .char 104)) 2 (vp_nar .char 103)) 3 (vp_nar .char 115)) 4 (vp_nar .char 98)) 5 (vp_nar .char 114)))), (qbx6, .inl (tc 3, 5, .inl (upd (upd (upd (upd (upd (fun _ => 0) 0 (vp_nar .char 102)) 1 (vp_nar .char 110)) 2 (vp_nar .char 109)) 3 (vp_nar .char 101)) 4 (vp_nar .char 97)))), (qbx7, .inl (tc 0, 3, .inl (fun _ => 0))), (qbx8, .inl (tc 0, 56, .inl (fun _ => 0))), (qbx9, .inl (tc 2, 36, .inl (fun _ => 0))), (qbx10, .inl (tc 0, 36, .inl (fun _ => 0))), (qbx11, .inl (tc 2, 36, .inl (fun _ => 0))), (qbx12, .inl (tc 2, 36, .inl (fun _ => 0))), (qbx13, .inl (tc 0, 3, .inl (fun _ => 0))), (qbx14, .inl (tc 0, 12, .inl (fun _ => 0))), (qbx15, .inl (tc 1, 36, .inr (.inl (fun _ => 0)))), (qbx16, .inl (tc 1, 36, .inr (.inl (fun _ => 0))))] H := hP
  have hD : va_D (fun q : Nat => s.heap.size ≤ q) [(qa, .inr (7, [.ref qax0, .ref qax4, .ref qax8, .ref qax12, .ref qax15, .ref qax17, .ref qax19, .ref qax21, .ref qax24, .ref qax25, .int 0])), (qax0, .inr (1, [.ref qax1, .ref qax2, .ref qax3, .int 0, .int 14, .int 2, .int 5])), (qax1, .inl (tc 1, 6, .inr (.inl (vp_updL (fun _ => 0) 0 68719476735)))), (qax2, .inl (tc 0, 3, .inl (fun _ => 0))), (qax3, .inl (tc 0, 3, .inl (fun _ => 0))), (qax4, .inr (1, [.ref qax5, .ref qax6, .ref qax7, .int 0, .int 14, .int 2, .int 5])), (qax5, .inl (tc 1, 6, .inr (.inl (vp_updL (fun _ => 0) 0 68719476735)))), (qax6, .inl (tc 0, 3, .inl (fun _ => 0))), (qax7, .inl (tc 0, 3, .inl (fun _ => 0))), (qax8, .inr (1, [.ref qax9, .ref qax10, .ref qax11, .int 0, .int 14, .int 2, .int 5])), (qax9, .inl (tc 1, 6, .inr (.inl (vp_updL (fun _ => 0) 0 68719476735)))), (qax10, .inl (tc 0, 3, .inl (fun _ => 0))), (qax11, .inl (tc 0, 3, .inl (fun _ => 0))), (qax12, .inr (5, [.ref qax13])), (qax13, .inr (4, [.ref qax14, .int 0])), (qax14, .inl (tc 0, 96, .inl (fun _ => 0))), (qax15, .inr (4, [.ref qax16, .int 0])), (qax16, .inl (tc 0, 12, .inl (fun _ => 0))), (qax17, .inr (6, [.ref qax18, .int 0])), (qax18, .inl (tc 1, 141, .inr (.inl (fun _ => 0)))), (qax19, .inr (2, [.ref qax20, .long 0, .int 0])), (qax20, .inl (tc 1, 3, .inr (.inl (fun _ => 0)))), (qax21, .inr (0, [.ref qax22, .ref qax23])), (qax22, .inl (tc 1, 36, .inr (.inl (fun _ => 0)))), (qax23, .inl (tc 1, 36, .inr (.inl (fun _ => 0)))), (qax24, .inr (3, [.int 0])), (qax25, .inl (tc 0, 7, .inl (fun _ => 0))), (qb, .inr (8, [.ref qbx0, .ref qbx1, .ref qbx2, .int 0, .ref qbx3, .int 0, .int 0, .int 0, .ref qbx4, .ref qbx5, .ref qbx6, .int 0, .ref qbx7, .ref qbx8, .ref qbx9, .ref qbx10, .ref qbx11, .ref qbx12, .ref qbx13, .int 0, .ref qbx14, .int 0, .ref qbx15, .ref qbx16])), (qbx0, .inl (tc 0, 7, .inl (fun _ => 0))), (qbx1, .inl (tc 0, 56, .inl (upd (upd (upd (fun _ => 0) 0 14) 1 2) 2 5))), (qbx2, .inl (tc 0, 56, .inl (fun _ => 0))), (qbx3, .inl (tc 0, 96, .inl (fun _ => 0))), (qbx4, .inl (tc 3, 6, .inl (upd (upd (upd (upd (upd (upd (fun _ => 0) 0 (vp_nar .char 107)) 1 (vp_nar .char 118)) 2 (vp_nar .char 104)) 3 (vp_nar .char 112)) 4 (vp_nar .char 119)) 5 (vp_nar .char 115)))), (qbx5, .inl (tc 3, 6, .inl (upd (upd (upd (upd (upd (upd (fun _ => 0) 0 (vp_nar .char 108)) 1 (vp_nar .char 104)) 2 (vp_nar .char 103)) 3 (vp_nar .char 115)) 4 (vp_nar .char 98)) 5 (vp_nar .char 114)))), (qbx6, .inl (tc 3, 5, .inl (upd (upd (upd (upd (upd (fun _ => 0) 0 (vp_nar .char 102)) 1 (vp_nar .char 110)) 2 (vp_nar .char 109)) 3 (vp_nar .char 101)) 4 (vp_nar .char 97)))), (qbx7, .inl (tc 0, 3, .inl (fun _ => 0))), (qbx8, .inl (tc 0, 56, .inl (fun _ => 0))), (qbx9, .inl (tc 2, 36, .inl (fun _ => 0))), (qbx10, .inl (tc 0, 36, .inl (fun _ => 0))), (qbx11, .inl (tc 2, 36, .inl (fun _ => 0))), (qbx12, .inl (tc 2, 36, .inl (fun _ => 0))), (qbx13, .inl (tc 0, 3, .inl (fun _ => 0))), (qbx14, .inl (tc 0, 12, .inl (fun _ => 0))), (qbx15, .inl (tc 1, 36, .inr (.inl (fun _ => 0)))), (qbx16, .inl (tc 1, 36, .inr (.inl (fun _ => 0))))] := hD
  refine W.widen (k := 45) (n := 958) (Nat.le_of_ble_eq_true rfl) (Nat.le_of_ble_eq_true rfl) ?_
  refine lv_astore_n (lv' := [(2, .ref qb), (1, .ref qa), (0, .ref b)]) hx hb dL_law_15 rfl hl (by decide) rfl (fun ls hl => ?_)
  refine lv_iconst (v := 0) hx hb dL_law_16 (by decide) ?_
  refine lv_istore_n (lv' := [(3, .int 0), (2, .ref qb), (1, .ref qa), (0, .ref b)]) hx hb dL_law_17 rfl hl (by decide) rfl (fun ls hl => ?_)
  obtain ⟨ad, had⟩ : ∃ ad : Nat → Nat, ad = fun i => if i < 45 then [qa, qax0, qax1, qax2, qax3, qax4, qax5, qax6, qax7, qax8, qax9, qax10, qax11, qax12, qax13, qax14, qax15, qax16, qax17, qax18, qax19, qax20, qax21, qax22, qax23, qax24, qax25, qb, qbx0, qbx1, qbx2, qbx3, qbx4, qbx5, qbx6, qbx7, qbx8, qbx9, qbx10, qbx11, qbx12, qbx13, qbx14, qbx15, qbx16].getD i 0 else if i < 1100 then adK (i - 1000) else if i < 1200 then adV (i - 1100) else if i = 1200 then qf else nf := ⟨_, rfl⟩
  have e0 : ad 0 = qa := by rw [had]; rfl
  have e1 : ad 1 = qax0 := by rw [had]; rfl
  have e2 : ad 2 = qax1 := by rw [had]; rfl
  have e3 : ad 3 = qax2 := by rw [had]; rfl
  have e4 : ad 4 = qax3 := by rw [had]; rfl
  have e5 : ad 5 = qax4 := by rw [had]; rfl
  have e6 : ad 6 = qax5 := by rw [had]; rfl
  have e7 : ad 7 = qax6 := by rw [had]; rfl
  have e8 : ad 8 = qax7 := by rw [had]; rfl
  have e9 : ad 9 = qax8 := by rw [had]; rfl
  have e10 : ad 10 = qax9 := by rw [had]; rfl
  have e11 : ad 11 = qax10 := by rw [had]; rfl
  have e12 : ad 12 = qax11 := by rw [had]; rfl
  have e13 : ad 13 = qax12 := by rw [had]; rfl
  have e14 : ad 14 = qax13 := by rw [had]; rfl
  have e15 : ad 15 = qax14 := by rw [had]; rfl
  have e16 : ad 16 = qax15 := by rw [had]; rfl
  have e17 : ad 17 = qax16 := by rw [had]; rfl
  have e18 : ad 18 = qax17 := by rw [had]; rfl
  have e19 : ad 19 = qax18 := by rw [had]; rfl
  have e20 : ad 20 = qax19 := by rw [had]; rfl
  have e21 : ad 21 = qax20 := by rw [had]; rfl
  have e22 : ad 22 = qax21 := by rw [had]; rfl
  have e23 : ad 23 = qax22 := by rw [had]; rfl
  have e24 : ad 24 = qax23 := by rw [had]; rfl
  have e25 : ad 25 = qax24 := by rw [had]; rfl
  have e26 : ad 26 = qax25 := by rw [had]; rfl
  have e27 : ad 27 = qb := by rw [had]; rfl
  have e28 : ad 28 = qbx0 := by rw [had]; rfl
  have e29 : ad 29 = qbx1 := by rw [had]; rfl
  have e30 : ad 30 = qbx2 := by rw [had]; rfl
  have e31 : ad 31 = qbx3 := by rw [had]; rfl
  have e32 : ad 32 = qbx4 := by rw [had]; rfl
  have e33 : ad 33 = qbx5 := by rw [had]; rfl
  have e34 : ad 34 = qbx6 := by rw [had]; rfl
  have e35 : ad 35 = qbx7 := by rw [had]; rfl
  have e36 : ad 36 = qbx8 := by rw [had]; rfl
  have e37 : ad 37 = qbx9 := by rw [had]; rfl
  have e38 : ad 38 = qbx10 := by rw [had]; rfl
  have e39 : ad 39 = qbx11 := by rw [had]; rfl
  have e40 : ad 40 = qbx12 := by rw [had]; rfl
  have e41 : ad 41 = qbx13 := by rw [had]; rfl
  have e42 : ad 42 = qbx14 := by rw [had]; rfl
  have e43 : ad 43 = qbx15 := by rw [had]; rfl
  have e44 : ad 44 = qbx16 := by rw [had]; rfl
  have e1200 : ad 1200 = qf := by rw [had]; rfl
  have e1201 : ad 1201 = nf := by rw [had]; rfl
  have eK : ∀ i, i < 8 → ad (1000 + i) = adK i := by
    intro i hi
    simp only [had]
    rw [if_neg (by omega), if_pos (by omega), Nat.add_sub_cancel_left]
  have eV : ∀ i, i < 8 → ad (1100 + i) = adV i := by
    intro i hi
    simp only [had]
    rw [if_neg (by omega), if_neg (by omega), if_pos (by omega), Nat.add_sub_cancel_left]
  have hP : va_P D vwCl (am_W ad tc am_x0) H := by
    rw [am_W0]
    simp only [e0, e1, e2, e3, e4, e5, e6, e7, e8, e9, e10, e11, e12, e13, e14, e15, e16, e17, e18, e19, e20, e21, e22, e23, e24, e25, e26, e27, e28, e29, e30, e31, e32, e33, e34, e35, e36, e37, e38, e39, e40, e41, e42, e43, e44]
    exact hP
  have hD : va_D (fun q : Nat => s.heap.size ≤ q) (am_W ad tc am_x0) := by
    rw [am_W0]
    simp only [e0, e1, e2, e3, e4, e5, e6, e7, e8, e9, e10, e11, e12, e13, e14, e15, e16, e17, e18, e19, e20, e21, e22, e23, e24, e25, e26, e27, e28, e29, e30, e31, e32, e33, e34, e35, e36, e37, e38, e39, e40, e41, e42, e43, e44]
    exact hD
  have hW : ∀ i, i < 45 → ∃ z, (am_W ad tc am_x0)[i]? = some (ad i, z) := by
    intro i hi
    rw [am_W_at, List.getElem?_eq_getElem (by rw [am_shp_len]; exact hi)]
    exact ⟨_, rfl⟩
  have hnv : am_nv ad = if nf = 0 then .null else .ref qf := by unfold am_nv; rw [e1200, e1201]
  have X0 : lw_Lx D ad adV tc s := by
    refine ⟨⟨hK, am_Nst_of hts0, ?_, vk_Scong hVS eK eV, hZc, by rw [hnv]; exact hZf⟩, fun i hi => ?_, fun i j hi hj h => ?_⟩
    · intro k q hq
      match k, hq with
      | 0, hq => cases hq; rw [eK 0 (by decide)]; exact vk_R.of (hts0 _ (List.mem_of_getElem? (i := 314) (by decide +kernel))) (hVE 0 (by decide))
      | 1, hq => cases hq; rw [eK 1 (by decide)]; exact vk_R.of (hts0 _ (List.mem_of_getElem? (i := 432) (by decide +kernel))) (hVE 1 (by decide))
      | 2, hq => cases hq; rw [eK 2 (by decide)]; exact vk_R.of (hts0 _ (List.mem_of_getElem? (i := 433) (by decide +kernel))) (hVE 2 (by decide))
      | 3, hq => cases hq; rw [eK 3 (by decide)]; exact vk_R.of (hts0 _ (List.mem_of_getElem? (i := 434) (by decide +kernel))) (hVE 3 (by decide))
      | 4, hq => cases hq; rw [eK 4 (by decide)]; exact vk_R.of (hts0 _ (List.mem_of_getElem? (i := 435) (by decide +kernel))) (hVE 4 (by decide))
      | 5, hq => cases hq; rw [eK 5 (by decide)]; exact vk_R.of (hts0 _ (List.mem_of_getElem? (i := 436) (by decide +kernel))) (hVE 5 (by decide))
      | 6, hq => cases hq; rw [eK 6 (by decide)]; exact vk_R.of (hts0 _ (List.mem_of_getElem? (i := 370) (by decide +kernel))) (hVE 6 (by decide))
      | 7, hq => cases hq; rw [eK 7 (by decide)]; exact vk_R.of (hts0 _ (List.mem_of_getElem? (i := 428) (by decide +kernel))) (hVE 7 (by decide))
      | k + 8, hq => simp [am_st] at hq
    · obtain ⟨z, hz⟩ := hW i hi
      exact hD.2 i _ hz
    · obtain ⟨z, hz⟩ := hW i hi
      obtain ⟨z', hz'⟩ := hW j hj
      exact hD.1 i j _ _ hz hz' h
  have hl2 : lv_has ls 4 (lw_lv b ad 0) := by
    show lv_has ls 4 [(0, .ref b), (1, .ref (ad 0)), (2, .ref (ad 27)), (3, .int (nI 0))]
    rw [e0, e27, nI_0]
    exact lv_sub hl [3, 2, 1, 0] rfl
  exact law_loop l hL C0 X0 (L + 1) 0 am_x0 (Nat.zero_le L) (by omega) am_x0_ok H locs ls hP hS hl2
