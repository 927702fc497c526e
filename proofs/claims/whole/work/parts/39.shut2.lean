/-! SHUT by the reference -/
theorem sh_cnt (x : am_X) (b : Nat) : ∀ i, fb_ct (shs x b) i = fb_ct (fun k => b.testBit k) (fb_ct (gp x) i) := by
  intro i
  induction i with
  | zero => rfl
  | succ i ih =>
    rw [fb_ct_succ, fb_ct_succ, ih]
    unfold shs
    cases g : gp x i
    · simp
    · simp only [Bool.true_and, if_true]
      rw [fb_ct_succ]
theorem ct_cut {p : Nat → Bool} {g m : Nat} (h : g ≤ m) (hz : ∀ k, g ≤ k → p k = false) : fb_ct p m = fb_ct p g := by
  have e : m = g + (m - g) := by omega
  rw [e, fb_ct_split]
  have : fb_ct (fun k => p (g + k)) (m - g) = 0 := fb_ct_zero.mpr (fun k _ => hz _ (by omega))
  omega
def shG (x : am_X) : Nat := if fb_ct (gp x) 36 < 10 then fb_ct (gp x) 36 else 10
theorem sh_tb {b g k : Nat} (hb : b < 2 ^ g) (hk : g ≤ k) : b.testBit k = false := Nat.testBit_lt_two_pow (Nat.lt_of_lt_of_le hb (Nat.pow_le_pow_right (n := 2) (by decide) hk))
theorem sh_pc (x : am_X) {b : Nat} (hb : b < 2 ^ shG x) : fb_ct (shs x b) 36 = pcN b := by
  have h10 : shG x ≤ 10 := by unfold shG; split <;> omega
  have hc : shG x ≤ fb_ct (gp x) 36 := by unfold shG; split <;> omega
  rw [sh_cnt, ct_cut hc (fun k hk => sh_tb hb hk)]
  unfold pcN
  rw [ct_cut h10 (fun k hk => sh_tb hb hk)]
theorem l4_ok (x : am_X) : ∃ w, L_X8_shut_4 1000 0 0 x = some (nI (shG x), w, x) := by
  obtain ⟨r, hF, w, rfl⟩ := am_for (fun n i (s : Nat) => L_X8_shut_4 n (nI s) (nI i) x) 36 (fun i s => s = if fb_ct (gp x) i < 10 then fb_ct (gp x) i else 10) (fun r => ∃ w, r = (nI (shG x), w, x))
    (fun n i s hi hp => Or.inl (by
      have h1 : ¬ (36 : Int32) ≤ nI i := nI_ge (b := 36) hi (by decide)
      have s10 : s ≤ 10 := by rw [hp]; split <;> omega
      by_cases e : x.2.2.1 29 (20 + i) = 2
      · have g : gp x i = true := (kd2 x i).mpr e
        by_cases l : 10 ≤ s
        · refine ⟨s, ?_, ?_⟩
          · rw [fb_ct_succ, g, if_pos rfl]
            split at hp
            · omega
            · rw [if_neg (by omega)]; exact hp
          · rw [L_X8_shut_4, if_neg h1, ko hi]; dsimp only
            rw [if_pos e, if_pos (show (10 : Int32) ≤ nI s from nI_le (a := 10) l (by omega)), nI_1, show nI s + 0 = nI s from nI_add s 0]
        · refine ⟨s + 1, ?_, ?_⟩
          · rw [fb_ct_succ, g, if_pos rfl]
            split at hp
            · by_cases l9 : fb_ct (gp x) i + 1 < 10
              · rw [if_pos l9]; omega
              · rw [if_neg l9]; omega
            · omega
          · rw [L_X8_shut_4, if_neg h1, ko hi]; dsimp only
            rw [if_pos e, if_neg (show ¬ (10 : Int32) ≤ nI s from nI_ge (b := 10) (by omega) (by decide)), nI_1, nI_1]
      · have g : gp x i = false := kd_f (fun c => e ((kd2 x i).mp c))
        refine ⟨s, ?_, ?_⟩
        · have : fb_ct (gp x) (i + 1) = fb_ct (gp x) i := by rw [fb_ct_succ, g]; simp
          rw [this]; exact hp
        · rw [L_X8_shut_4, if_neg h1, ko hi]; dsimp only
          rw [if_neg e, nI_1, show nI s + 0 = nI s from nI_add s 0]))
    (fun n s hp => ⟨_, by rw [L_X8_shut_4, if_pos (by decide)], nI 36, by rw [hp]; rfl⟩)
    1000 0 0 (by decide) (by decide) (by simp [fb_ct])
  exact ⟨w, hF⟩
def b01 (b : Bool) : Int32 := if b = true then 1 else 0
theorem b01_0 (b : Bool) : b01 b = 0 ↔ b = false := by cases b <;> decide
theorem nI_p0 (a : Nat) : nI a + 0 = nI a := nI_add a 0
theorem l65_ok (x : am_X) {b : Nat} (hb : b < 2 ^ shG x) (v2 v3 : Int32) (a0 : Nat → Int32) : ∃ w6 w7 a, L_X8_shut_65 1000 (nI (shG x)) v2 v3 (nI b) 0 0 0 (am_sA x 37 a0) = some (nI (shG x), v2, v3, nI b, nI (pcN b), w6, w7, am_sA x 37 a) ∧ ∀ q, q < 36 → hsx (am_sA x 37 a) q = shs x b q := by
  have h10 : shG x ≤ 10 := by unfold shG; split <;> omega
  have hb2 : b < 1024 := Nat.lt_of_lt_of_le hb (Nat.pow_le_pow_right (by decide) h10)
  obtain ⟨r, hF, w6, w7, a, rfl, ha⟩ := am_for (fun n i (s : Nat × Nat × (Nat → Int32)) => L_X8_shut_65 n (nI (shG x)) v2 v3 (nI b) (nI s.1) (nI s.2.1) (nI i) (am_sA x 37 s.2.2)) 36
    (fun i s => s.1 = fb_ct (shs x b) i ∧ s.2.1 = (if fb_ct (gp x) i < shG x then fb_ct (gp x) i else shG x) ∧ ∀ q, q < i → s.2.2 q = b01 (shs x b q))
    (fun r => ∃ w6 w7 a, r = (nI (shG x), v2, v3, nI b, nI (pcN b), w6, w7, am_sA x 37 a) ∧ ∀ q, q < 36 → hsx (am_sA x 37 a) q = shs x b q)
    (fun n i s hi hp => Or.inl (by
      obtain ⟨m, k, a⟩ := s
      obtain ⟨hm, hk, ha⟩ := hp
      dsimp only at hm hk ha ⊢
      have h1 : ¬ (36 : Int32) ≤ nI i := nI_ge (b := 36) hi (by decide)
      have k10 : k ≤ 10 := by rw [hk]; split <;> omega
      have nx : ∀ c : Int32, c = b01 (shs x b i) → ∀ q, q < i + 1 → upd a i c q = b01 (shs x b q) := fun c hc q hq => by
        by_cases e : q = i
        · subst e; rw [upd_eq, hc]
        · rw [upd_ne _ _ e]; exact ha q (by omega)
      by_cases e : x.2.2.1 29 (20 + i) = 2
      · have g : gp x i = true := (kd2 x i).mpr e
        by_cases l : shG x ≤ k
        · have hs : shs x b i = false := by
            unfold shs
            rw [sh_tb hb (by split at hk <;> omega), Bool.and_false]
          refine ⟨(m, k, upd a i 0), ⟨?_, ?_, nx 0 (by rw [hs]; rfl)⟩, ?_⟩
          · dsimp only
            rw [fb_ct_succ, hs, if_neg (by decide)]; exact hm
          · dsimp only
            rw [fb_ct_succ, g, if_pos rfl]
            split at hk
            · omega
            · rw [if_neg (by omega)]; exact hk
          · rw [L_X8_shut_65, if_neg h1, ko hi]; dsimp only
            rw [if_pos (show (am_sA x 37 a).2.2.1 29 (20 + i) = 2 from e), if_pos (nI_le l (by omega)), if_pos (ns_e hi), nI_clamp (by omega), upd_eq, if_pos rfl, nI_p0, nI_p0, nI_1, am_sAA]
            rfl
        · have ek : fb_ct (gp x) i = k := by split at hk <;> omega
          have hs : shs x b i = b.testBit k := by unfold shs; rw [g, ek]; rfl
          have hk' : k + 1 = if fb_ct (gp x) (i + 1) < shG x then fb_ct (gp x) (i + 1) else shG x := by
            rw [fb_ct_succ, g, if_pos rfl, ek]
            split <;> omega
          cases t : b.testBit k
          · refine ⟨(m, k + 1, upd a i 0), ⟨?_, hk', nx 0 (by rw [hs, t]; rfl)⟩, ?_⟩
            · dsimp only
              rw [fb_ct_succ, hs, t, if_neg (by decide)]; exact hm
            · rw [L_X8_shut_65, if_neg h1, ko hi]; dsimp only
              rw [if_pos (show (am_sA x 37 a).2.2.1 29 (20 + i) = 2 from e), if_neg (nI_ge (by omega) (by omega)), if_neg (fun c => by rw [(sh_bit hb2 (by omega)).2.mp c] at t; cases t), if_pos (ns_e hi), nI_clamp (by omega), upd_eq, if_pos rfl, nI_p0, nI_1, nI_1, am_sAA]
              rfl
          · refine ⟨(m + 1, k + 1, upd a i 1), ⟨?_, hk', nx 1 (by rw [hs, t]; rfl)⟩, ?_⟩
            · dsimp only
              rw [fb_ct_succ, hs, t, if_pos rfl, hm]
            · rw [L_X8_shut_65, if_neg h1, ko hi]; dsimp only
              rw [if_pos (show (am_sA x 37 a).2.2.1 29 (20 + i) = 2 from e), if_neg (nI_ge (by omega) (by omega)), if_pos ((sh_bit hb2 (by omega)).2.mpr t), if_pos (ns_e hi), nI_clamp (by omega), upd_eq, if_neg (by decide), nI_1, nI_1, nI_1, am_sAA]
              rfl
      · have g : gp x i = false := kd_f (fun c => e ((kd2 x i).mp c))
        have hs : shs x b i = false := by unfold shs; rw [g]; rfl
        refine ⟨(m, k, upd a i 0), ⟨?_, ?_, nx 0 (by rw [hs]; rfl)⟩, ?_⟩
        · dsimp only
          rw [fb_ct_succ, hs, if_neg (by decide)]; exact hm
        · dsimp only
          have : fb_ct (gp x) (i + 1) = fb_ct (gp x) i := by rw [fb_ct_succ, g]; simp
          rw [this]; exact hk
        · rw [L_X8_shut_65, if_neg h1, ko hi]; dsimp only
          rw [if_neg (show ¬ (am_sA x 37 a).2.2.1 29 (20 + i) = 2 from e), if_pos (ns_e hi), nI_clamp (by omega), upd_eq, if_pos rfl, nI_p0, nI_p0, nI_1, am_sAA]
          rfl))
    (fun n s hp => by
      obtain ⟨m, k, a⟩ := s
      obtain ⟨hm, hk, ha⟩ := hp
      dsimp only at hm hk ha ⊢
      refine ⟨_, by rw [L_X8_shut_65, if_pos (by decide)], nI k, nI 36, a, by rw [hm, sh_pc x hb], fun q hq => ?_⟩
      show decide (¬ a q = 0) = _
      rw [ha q hq]
      cases shs x b q <;> decide)
    1000 0 (0, 0, a0) (by decide) (by decide) ⟨rfl, (by
      show 0 = if 0 < shG x then 0 else shG x
      by_cases z : 0 < shG x
      · rw [if_pos z]
      · rw [if_neg z]; omega), fun q hq => by omega⟩
  exact ⟨w6, w7, a, hF, ha⟩
def shV : Option Nat → Int32
  | none => 11
  | some b => nI (pcN b)
theorem hn_ok (x : am_X) : ∃ a, (∀ q, q < 36 → a q = 0) ∧ G_X8_holdNone x = some ((), am_sA x 37 a) := by
  obtain ⟨r, hF, w, a, rfl, ha⟩ := am_for (fun n i (f : Nat → Int32) => L_X8_holdNone_2 n (nI i) (am_sA x 37 f)) 36 (fun i f => ∀ q, q < i → f q = 0) (fun r => ∃ w a, r = (w, am_sA x 37 a) ∧ ∀ q, q < 36 → a q = 0)
    (fun n i f hi hp => Or.inl ⟨upd f i 0, fun q hq => by
        by_cases e : q = i
        · subst e; rw [upd_eq]
        · rw [upd_ne _ _ e]; exact hp q (by omega), by
        have h1 : ¬ (36 : Int32) ≤ nI i := nI_ge (b := 36) hi (by decide)
        rw [L_X8_holdNone_2, if_neg h1, if_pos (ns_e hi), nI_clamp (by omega), nI_1, am_sAA]
        rfl⟩)
    (fun n f hp => ⟨_, by rw [L_X8_holdNone_2, if_pos (by decide)], _, f, rfl, hp⟩)
    1000 0 (x.2.2.1 37) (by decide) (by decide) (fun k hk => by omega)
  have hF' : L_X8_holdNone_2 1000 (0 : Int32) (am_sA x 37 (x.2.2.1 37)) = some (w, am_sA x 37 a) := hF
  rw [am_sA_self] at hF'
  refine ⟨a, ha, ?_⟩
  unfold G_X8_holdNone
  rw [hF']
theorem sh_ref {x : am_X} {v h : Nat} (hv : v ≤ 9) (v2 : x.2.2.1 29 2 = nI v) (hh : h < 36) (e2 : x.2.2.1 29 0 = nI h) (e3 : ¬ x.2.2.1 29 (20 + h) = 1) : ∃ y, am_h0 x y ∧ G_X8_shut x = some (shE (shF (shk x v h) (2 ^ shG x)), y) := by
  have h10 : shG x ≤ 10 := by unfold shG; split <;> omega
  have p10 : 2 ^ shG x ≤ 1024 := Nat.pow_le_pow_right (by decide) h10
  have ech : (1 : Int32) <<< (nI (shG x) &&& 31) = nI (2 ^ shG x) := by
    have k : ∀ G, G ≤ 10 → (1 : Int32) <<< (nI G &&& 31) = nI (2 ^ G) := by decide +kernel
    exact k _ h10
  obtain ⟨w, h4⟩ := l4_ok x
  have H := am_for (fun n i (s : Option Nat × (Nat → Int32) × (Nat → Int32)) => L_X8_shut_48 n (nI (shG x)) (shE s.1) (shV s.1) (nI i) (am_sA (am_sA x 38 s.2.2) 37 s.2.1)) (2 ^ shG x)
    (fun i s => s.1 = shF (shk x v h) i) (fun r => ∃ w1 w2 w3 a b, r = (w1, shE (shF (shk x v h) (2 ^ shG x)), w2, w3, am_sA (am_sA x 38 b) 37 a))
    (fun n i s hi hp => Or.inl (by
      obtain ⟨o, a, b⟩ := s
      dsimp only at hp ⊢
      have h1 : ¬ nI (2 ^ shG x) ≤ nI i := nI_ge hi (by omega)
      obtain ⟨w6, w7, a', h65, ha'⟩ := l65_ok (am_sA x 38 b) (b := i) hi (shE o) (shV o) a
      obtain ⟨f, r, hm, hr, _⟩ := mo_gs (x := am_sA (am_sA x 38 b) 37 a') (v := v) (h := h) hv v2 hh e2 e3 ha'
      have E : L_X8_shut_48 (n + 1) (nI (shG x)) (shE o) (shV o) (nI i) (am_sA (am_sA x 38 b) 37 a) = if shV o ≤ nI (pcN i) then L_X8_shut_48 n (nI (shG x)) (shE o) (shV o) (nI (i + 1)) (am_sA (am_sA x 38 b) 37 a') else (if r = 100000 then L_X8_shut_48 n (nI (shG x)) (nI i) (nI (pcN i)) (nI (i + 1)) (am_sA (am_sA x 38 f) 37 a') else L_X8_shut_48 n (nI (shG x)) (shE o) (shV o) (nI (i + 1)) (am_sA (am_sA x 38 f) 37 a')) := by
        have h65' : L_X8_shut_65 1000 (nI (shG x)) (shE o) (shV o) (nI i) 0 0 0 (am_sA (am_sA x 38 b) 37 a) = some (nI (shG x), shE o, shV o, nI i, nI (pcN i), w6, w7, am_sA (am_sA x 38 b) 37 a') := h65
        rw [L_X8_shut_48, ech, if_neg h1, h65']; dsimp only
        rw [hm]; dsimp only
        rw [nI_1, am_sAc (show (37 : Nat) ≠ 38 by decide), am_sAA]
      have hr' : r = 100000 ↔ gso x (shs x i) v h = false := hr
      have := pc_10 i
      cases o with
      | none =>
        have l : ¬ shV none ≤ nI (pcN i) := show ¬ (11 : Int32) ≤ nI (pcN i) from nI_ge (b := 11) (by omega) (by decide)
        rw [E, if_neg l]
        by_cases g : gso x (shs x i) v h = false
        · refine ⟨(some i, a', f), ?_, ?_⟩
          · rw [shF, ← hp]; dsimp only; rw [if_pos (by unfold shk; rw [g]; rfl)]
          · rw [if_pos (hr'.mpr g)]; rfl
        · have g' : gso x (shs x i) v h = true := by cases e : gso x (shs x i) v h
                                                     · exact absurd e g
                                                     · rfl
          refine ⟨(none, a', f), ?_, ?_⟩
          · rw [shF, ← hp]; dsimp only; rw [if_neg (by unfold shk; rw [g']; decide)]
          · rw [if_neg (fun c => g (hr'.mp c))]
      | some c =>
        have hc := shF_lt _ i c hp.symm
        have := pc_10 c
        rw [E]
        by_cases l : pcN c ≤ pcN i
        · refine ⟨(some c, a', b), ?_, ?_⟩
          · rw [shF, ← hp]; dsimp only; rw [if_pos l]
          · rw [if_pos (show shV (some c) ≤ nI (pcN i) from nI_le l (by omega))]
        · rw [if_neg (show ¬ shV (some c) ≤ nI (pcN i) from nI_ge (by omega) (by omega))]
          by_cases g : gso x (shs x i) v h = false
          · refine ⟨(some i, a', f), ?_, ?_⟩
            · rw [shF, ← hp]; dsimp only; rw [if_neg l, if_pos (by unfold shk; rw [g]; rfl)]
            · rw [if_pos (hr'.mpr g)]; rfl
          · have g' : gso x (shs x i) v h = true := by cases e : gso x (shs x i) v h
                                                       · exact absurd e g
                                                       · rfl
            refine ⟨(some c, a', f), ?_, ?_⟩
            · rw [shF, ← hp]; dsimp only; rw [if_neg l, if_neg (by unfold shk; rw [g']; decide)]
            · rw [if_neg (fun c => g (hr'.mp c))]))
    (fun n s hp => by
      obtain ⟨o, a, b⟩ := s
      dsimp only at hp ⊢
      subst hp
      exact ⟨_, by rw [L_X8_shut_48, ech, if_pos (by rw [ii_le]; omega)], _, _, _, a, b, rfl⟩)
    1100 0 (none, x.2.2.1 37, x.2.2.1 38) (Nat.zero_le _) (by omega) rfl
  obtain ⟨r, hF, w1, w2, w3, a, b, rfl⟩ := H
  have hF' : L_X8_shut_48 1100 (nI (shG x)) (-9) 11 0 (am_sA (am_sA x 38 (x.2.2.1 38)) 37 ((am_sA x 38 (x.2.2.1 38)).2.2.1 37)) = some (w1, shE (shF (shk x v h) (2 ^ shG x)), w2, w3, am_sA (am_sA x 38 b) 37 a) := hF
  rw [am_sA_self, am_sA_self] at hF'
  obtain ⟨a2, ha2, hn⟩ := hn_ok (am_sA (am_sA x 38 b) 37 a)
  refine ⟨am_sA (am_sA x 38 b) 37 a2, ⟨a2, b, ha2, rfl⟩, ?_⟩
  unfold G_X8_shut
  rw [h4]; dsimp only
  rw [hF']; dsimp only
  rw [hn, am_sAA]
theorem ok_shut : am_ok (fun x => G_X7_shut x) (fun x => G_X8_shut x) := by
  intro x hI
  show ∃ r y z, G_X7_shut x = some (r, y) ∧ G_X8_shut y = some (r, z) ∧ am_Iv z
  obtain ⟨h, hh, e1, e2, e3⟩ := hI.g.home
  obtain ⟨v, hv, v1, v2⟩ := hI.g.warm
  obtain ⟨z, kz, hz⟩ := sh_ref hv v2 hh e2 e3
  exact ⟨_, x, z, sh_class hI v hh e1 rfl, hz, kz.iv hI⟩
