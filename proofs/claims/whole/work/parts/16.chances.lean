/-! the chances: laid by wip/whole/p16.py -/
def am_cq (h rd : Int64) (k : Int32) : Int32 := am_least (am_mv h k &&& (rd ^^^ (-1)))
def am_coF (b : Nat → Int64) (h rd : Int64) : Nat → Nat → Int64 → Int64
  | 0, _, a => a
  | n + 1, i, a => if 0 ≤ (am_cq h rd (nI i)).toInt ∧ (am_cq h rd (nI i)).toInt < 36 then am_coF b h rd n (i + 1) (a + b (am_cq h rd (nI i)).toNatClampNeg) else am_coF b h rd n (i + 1) a
theorem L_comingOnto (d : Nat) (q : Int32) (h : Int64) (x : am_X) : ∀ (n i : Nat) (a : Int64), i + n = 4 → am_Rr (d + 3) kX0_comingOnto (16, [some (.ref 22), some (.ref 1), some (.int q), some (.long h), none, some (.long a), none, some (.int (nI i)), none], [], x) (fun ro x' => x = x' ∧ ro = some (.long (am_coF (x.2.2.2 24) h (am_sqo (x.2.2.2 2) 5) n i a))) := by
  intro n
  induction n with
  | zero =>
    intro i a hi
    have hI : (nI i).toInt = (i : Int) := nI_toInt (by omega)
    refine am_Rr.go 3 (σ' := (if (4 : Int32) ≤ (nI i) then 69 else 22, [some (.ref 22), some (.ref 1), some (.int q), some (.long h), none, some (.long a), none, some (.int (nI i)), none], [], x)) rfl ?_
    refine am_Rr.ite (fun h_1 => ?_) (fun h_1 => ?_)
    · refine am_Rr.go 1 (σ' := (71, [some (.ref 22), some (.ref 1), some (.int q), some (.long h), none, some (.long a), none, some (.int (nI i)), none], [.long a], x)) rfl ?_
      refine am_Rr.ret (v := some (.long a)) (x := x) rfl (by trivial) ?_
      first | exact ⟨rfl, rfl⟩ | (exfalso; simp only [Int32.lt_iff_toInt_lt, Int32.le_iff_toInt_le, ← Int32.toInt_inj, am_nm9, am_nm6, am_nm4, am_nm3, am_nm2, am_nm1, am_n0, am_n1, am_n2, am_n3, am_n4, am_n5, am_n6, am_n7, am_n8, am_n9, am_n10, am_n11, am_n12, am_n20, am_n35, am_n36, am_n60, am_n96, am_n99, am_n255, am_n999, am_n141] at *; omega)
    · exfalso
      simp only [Int32.lt_iff_toInt_lt, Int32.le_iff_toInt_le, ← Int32.toInt_inj, am_nm9, am_nm6, am_nm4, am_nm3, am_nm2, am_nm1, am_n0, am_n1, am_n2, am_n3, am_n4, am_n5, am_n6, am_n7, am_n8, am_n9, am_n10, am_n11, am_n12, am_n20, am_n35, am_n36, am_n60, am_n96, am_n99, am_n255, am_n999, am_n141] at *; omega
  | succ n ih =>
    intro i a hi
    have hI : (nI i).toInt = (i : Int) := nI_toInt (by omega)
    refine am_Rr.go 3 (σ' := (if (4 : Int32) ≤ (nI i) then 69 else 22, [some (.ref 22), some (.ref 1), some (.int q), some (.long h), none, some (.long a), none, some (.int (nI i)), none], [], x)) rfl ?_
    refine am_Rr.ite (fun h_1 => ?_) (fun h_1 => ?_)
    · refine am_Rr.go 1 (σ' := (71, [some (.ref 22), some (.ref 1), some (.int q), some (.long h), none, some (.long a), none, some (.int (nI i)), none], [.long a], x)) rfl ?_
      refine am_Rr.ret (v := some (.long a)) (x := x) rfl (by trivial) ?_
      first | exact ⟨rfl, rfl⟩ | (exfalso; simp only [Int32.lt_iff_toInt_lt, Int32.le_iff_toInt_le, ← Int32.toInt_inj, am_nm9, am_nm6, am_nm4, am_nm3, am_nm2, am_nm1, am_n0, am_n1, am_n2, am_n3, am_n4, am_n5, am_n6, am_n7, am_n8, am_n9, am_n10, am_n11, am_n12, am_n20, am_n35, am_n36, am_n60, am_n96, am_n99, am_n255, am_n999, am_n141] at *; omega)
    · refine am_Rr.go 2 (σ' := (25, [some (.ref 22), some (.ref 1), some (.int q), some (.long h), none, some (.long a), none, some (.int (nI i)), none], [.int (nI i), .long h], x)) rfl ?_
      refine am_Rr.call (pc := 28) (ls := [some (.ref 22), some (.ref 1), some (.int q), some (.long h), none, some (.long a), none, some (.int (nI i)), none]) (st := []) rfl (S_moved (d + 1) h (nI i) x) ?_
      rintro _ _ ⟨rfl, rfl⟩
      show am_Rr _ _ (28, [some (.ref 22), some (.ref 1), some (.int q), some (.long h), none, some (.long a), none, some (.int (nI i)), none], [.long (am_mv h (nI i))], x) _
      refine am_Rr.go 2 (σ' := (30, [some (.ref 22), some (.ref 1), some (.int q), some (.long h), none, some (.long a), none, some (.int (nI i)), none], [.int 5, .ref 1, .long (am_mv h (nI i))], x)) rfl ?_
      refine am_Rr.call (pc := 33) (ls := [some (.ref 22), some (.ref 1), some (.int q), some (.long h), none, some (.long a), none, some (.int (nI i)), none]) (st := [.long (am_mv h (nI i))]) rfl (S_squaresOf_1 (d + 1) (5 : Int32) x) ?_
      rintro _ _ ⟨rfl, rfl⟩
      show am_Rr _ _ (33, [some (.ref 22), some (.ref 1), some (.int q), some (.long h), none, some (.long a), none, some (.int (nI i)), none], [.long (am_sqo (x.2.2.2 2) (5 : Int32)), .long (am_mv h (nI i))], x) _
      refine am_Rr.go 3 (σ' := (38, [some (.ref 22), some (.ref 1), some (.int q), some (.long h), none, some (.long a), none, some (.int (nI i)), none], [.long ((am_mv h (nI i)) &&& ((am_sqo (x.2.2.2 2) (5 : Int32)) ^^^ (-1)))], x)) rfl ?_
      refine am_Rr.call (pc := 41) (ls := [some (.ref 22), some (.ref 1), some (.int q), some (.long h), none, some (.long a), none, some (.int (nI i)), none]) (st := []) rfl (S_least d ((am_mv h (nI i)) &&& ((am_sqo (x.2.2.2 2) (5 : Int32)) ^^^ (-1))) x) ?_
      rintro _ _ ⟨rfl, rfl⟩
      show am_Rr _ _ (41, [some (.ref 22), some (.ref 1), some (.int q), some (.long h), none, some (.long a), none, some (.int (nI i)), none], [.int (am_least ((am_mv h (nI i)) &&& ((am_sqo (x.2.2.2 2) (5 : Int32)) ^^^ (-1))))], x) _
      refine am_Rr.go 2 (σ' := (45, [some (.ref 22), some (.ref 1), some (.int q), some (.long h), none, some (.long a), none, some (.int (nI i)), some (.int (am_least ((am_mv h (nI i)) &&& ((am_sqo (x.2.2.2 2) (5 : Int32)) ^^^ (-1)))))], [.int (am_least ((am_mv h (nI i)) &&& ((am_sqo (x.2.2.2 2) (5 : Int32)) ^^^ (-1))))], x)) rfl ?_
      refine am_Rr.call (pc := 48) (ls := [some (.ref 22), some (.ref 1), some (.int q), some (.long h), none, some (.long a), none, some (.int (nI i)), some (.int (am_least ((am_mv h (nI i)) &&& ((am_sqo (x.2.2.2 2) (5 : Int32)) ^^^ (-1)))))]) (st := []) rfl (S_isSquare (d + 1) (am_least ((am_mv h (nI i)) &&& ((am_sqo (x.2.2.2 2) (5 : Int32)) ^^^ (-1)))) x) ?_
      rintro _ _ ⟨rfl, (⟨rfl, b_5⟩ | ⟨rfl, b_5⟩)⟩
      · show am_Rr _ _ (48, [some (.ref 22), some (.ref 1), some (.int q), some (.long h), none, some (.long a), none, some (.int (nI i)), some (.int (am_least ((am_mv h (nI i)) &&& ((am_sqo (x.2.2.2 2) (5 : Int32)) ^^^ (-1)))))], [.int 1], x) _
        refine am_Rr.go 5 (σ' := (59, [some (.ref 22), some (.ref 1), some (.int q), some (.long h), none, some (.long a), none, some (.int (nI i)), some (.int (am_least ((am_mv h (nI i)) &&& ((am_sqo (x.2.2.2 2) (5 : Int32)) ^^^ (-1)))))], [.int (am_least ((am_mv h (nI i)) &&& ((am_sqo (x.2.2.2 2) (5 : Int32)) ^^^ (-1)))), .ref 24, .long a], x)) rfl ?_
        refine am_Rr.chk (σ' := (60, [some (.ref 22), some (.ref 1), some (.int q), some (.long h), none, some (.long a), none, some (.int (nI i)), some (.int (am_least ((am_mv h (nI i)) &&& ((am_sqo (x.2.2.2 2) (5 : Int32)) ^^^ (-1)))))], [.long ((x.2.2.2 24) (am_least ((am_mv h (nI i)) &&& ((am_sqo (x.2.2.2 2) (5 : Int32)) ^^^ (-1)))).toNatClampNeg), .long a], x)) rfl (by unfold am_sq at *; rw [vp_in_iff]; omega) ?_
        refine am_Rr.go 4 (σ' := (16, [some (.ref 22), some (.ref 1), some (.int q), some (.long h), none, some (.long (a + ((x.2.2.2 24) (am_least ((am_mv h (nI i)) &&& ((am_sqo (x.2.2.2 2) (5 : Int32)) ^^^ (-1)))).toNatClampNeg))), none, some (.int ((nI i) + 1)), some (.int (am_least ((am_mv h (nI i)) &&& ((am_sqo (x.2.2.2 2) (5 : Int32)) ^^^ (-1)))))], [], x)) rfl ?_
        refine am_Rr.weak (ls0 := [some (.ref 22), some (.ref 1), some (.int q), some (.long h), none, some (.long (a + ((x.2.2.2 24) (am_least ((am_mv h (nI i)) &&& ((am_sqo (x.2.2.2 2) (5 : Int32)) ^^^ (-1)))).toNatClampNeg))), none, some (.int ((nI i) + 1)), none]) (by simp [am_le]) ?_
        first | rw [show am_coF (x.2.2.2 24) h (am_sqo (x.2.2.2 2) 5) (n + 1) i a = am_coF (x.2.2.2 24) h (am_sqo (x.2.2.2 2) 5) n (i + 1) (a + (x.2.2.2 24) (am_cq h (am_sqo (x.2.2.2 2) 5) (nI i)).toNatClampNeg) from if_pos (by assumption)] | rw [show am_coF (x.2.2.2 24) h (am_sqo (x.2.2.2 2) 5) (n + 1) i a = am_coF (x.2.2.2 24) h (am_sqo (x.2.2.2 2) 5) n (i + 1) a from if_neg (by assumption)]
        simp only [am_inc]
        exact ih (i + 1) _ (by omega)
      · show am_Rr _ _ (48, [some (.ref 22), some (.ref 1), some (.int q), some (.long h), none, some (.long a), none, some (.int (nI i)), some (.int (am_least ((am_mv h (nI i)) &&& ((am_sqo (x.2.2.2 2) (5 : Int32)) ^^^ (-1)))))], [.int 0], x) _
        refine am_Rr.go 3 (σ' := (16, [some (.ref 22), some (.ref 1), some (.int q), some (.long h), none, some (.long a), none, some (.int ((nI i) + 1)), some (.int (am_least ((am_mv h (nI i)) &&& ((am_sqo (x.2.2.2 2) (5 : Int32)) ^^^ (-1)))))], [], x)) rfl ?_
        refine am_Rr.weak (ls0 := [some (.ref 22), some (.ref 1), some (.int q), some (.long h), none, some (.long a), none, some (.int ((nI i) + 1)), none]) (by simp [am_le]) ?_
        first | rw [show am_coF (x.2.2.2 24) h (am_sqo (x.2.2.2 2) 5) (n + 1) i a = am_coF (x.2.2.2 24) h (am_sqo (x.2.2.2 2) 5) n (i + 1) (a + (x.2.2.2 24) (am_cq h (am_sqo (x.2.2.2 2) 5) (nI i)).toNatClampNeg) from if_pos (by assumption)] | rw [show am_coF (x.2.2.2 24) h (am_sqo (x.2.2.2 2) 5) (n + 1) i a = am_coF (x.2.2.2 24) h (am_sqo (x.2.2.2 2) 5) n (i + 1) a from if_neg (by assumption)]
        simp only [am_inc]
        exact ih (i + 1) _ (by omega)
def am_co (b g : Nat → Int64) (q : Int32) : Int64 := am_coF b (am_bit q &&& am_open g) (am_sqo g 5) 4 0 0
theorem S_comingOnto (d : Nat) (q : Int32) (x : am_X) : am_T (d + 4) mX0_comingOnto [.ref 22, .ref 1, .int q] x (fun ro x' => x = x' ∧ ro = some (.long (am_co (x.2.2.2 24) (x.2.2.2 2) q))) := by
  refine am_T.of rfl ?_
  show am_Rr _ kX0_comingOnto (0, [some (.ref 22), some (.ref 1), some (.int q), none, none, none, none, none, none], [], x) _
  refine am_Rr.go 1 (σ' := (1, [some (.ref 22), some (.ref 1), some (.int q), none, none, none, none, none, none], [.int q], x)) rfl ?_
  refine am_Rr.call (pc := 4) (ls := [some (.ref 22), some (.ref 1), some (.int q), none, none, none, none, none, none]) (st := []) rfl (S_bit d q x) ?_
  rintro _ _ ⟨rfl, rfl⟩
  show am_Rr _ _ (4, [some (.ref 22), some (.ref 1), some (.int q), none, none, none, none, none, none], [.long (am_bit q)], x) _
  refine am_Rr.go 1 (σ' := (5, [some (.ref 22), some (.ref 1), some (.int q), none, none, none, none, none, none], [.ref 1, .long (am_bit q)], x)) rfl ?_
  refine am_Rr.call (pc := 8) (ls := [some (.ref 22), some (.ref 1), some (.int q), none, none, none, none, none, none]) (st := [.long (am_bit q)]) rfl (S_open_1 d  x) ?_
  rintro _ _ ⟨rfl, rfl⟩
  show am_Rr _ _ (8, [some (.ref 22), some (.ref 1), some (.int q), none, none, none, none, none, none], [.long (am_open (x.2.2.2 2)), .long (am_bit q)], x) _
  refine am_Rr.go 6 (σ' := (16, [some (.ref 22), some (.ref 1), some (.int q), some (.long ((am_bit q) &&& (am_open (x.2.2.2 2)))), none, some (.long 0), none, some (.int 0), none], [], x)) rfl ?_
  exact L_comingOnto d q _ x 4 0 _ rfl
def am_wkI (h : Int32) : Nat → Nat → (Nat → Int64) → (Nat → Int64)
  | 0, _, f => f
  | n + 1, i, f => am_wkI h n (i + 1) (vp_updL f i (if nI i = h then 1 else 0))
def am_wkJ (b g : Nat → Int64) : Nat → Nat → (Nat → Int64) → (Nat → Int64)
  | 0, _, f => f
  | n + 1, i, f => am_wkJ b g n (i + 1) (vp_updL f i (b i + am_co b g (nI i)))
def am_wkK (g : Nat → Int64) (t : Int32) : Nat → Nat → (Nat → Int64) → (Nat → Int64) → (Nat → Int64) × (Nat → Int64)
  | 0, _, b, f => (b, f)
  | n + 1, i, b, f => if t ≤ nI i then (b, f) else am_wkK g t n (i + 1) (va_cpy f b 0 0 36) (am_wkJ (va_cpy f b 0 0 36) g 36 0 f)
theorem L_walkI (d : Nat) (t : Int32) (x : am_X) (post : Option Value → am_X → Prop) : ∀ (n i : Nat) (f : Nat → Int64), i + n = 36 → am_Rr d kX0_walk (33, [some (.ref 22), some (.ref 1), some (.int t), some (.int 36), none], [], (am_sB x 23 (am_wkI (x.1 36) n i f))) post → am_Rr d kX0_walk (2, [some (.ref 22), some (.ref 1), some (.int t), some (.int (nI i)), none], [], (am_sB x 23 f)) post := by
  intro n
  induction n with
  | zero =>
    intro i f hi hk
    have hI : (nI i).toInt = (i : Int) := nI_toInt (by omega)
    refine am_Rr.go 3 (σ' := (if (36 : Int32) ≤ (nI i) then 33 else 8, [some (.ref 22), some (.ref 1), some (.int t), some (.int (nI i)), none], [], (am_sB x 23 f))) rfl ?_
    refine am_Rr.ite (fun h_1 => ?_) (fun h_1 => ?_)
    · have e : i = 36 := by omega
      subst e
      exact hk
    · exfalso
      simp only [Int32.lt_iff_toInt_lt, Int32.le_iff_toInt_le, ← Int32.toInt_inj, am_nm9, am_nm6, am_nm4, am_nm3, am_nm2, am_nm1, am_n0, am_n1, am_n2, am_n3, am_n4, am_n5, am_n6, am_n7, am_n8, am_n9, am_n10, am_n11, am_n12, am_n20, am_n35, am_n36, am_n60, am_n96, am_n99, am_n255, am_n999, am_n141] at *; omega
  | succ n ih =>
    intro i f hi hk
    have hI : (nI i).toInt = (i : Int) := nI_toInt (by omega)
    have hcl : (nI i).toNatClampNeg = i := am_cln (by omega)
    refine am_Rr.go 3 (σ' := (if (36 : Int32) ≤ (nI i) then 33 else 8, [some (.ref 22), some (.ref 1), some (.int t), some (.int (nI i)), none], [], (am_sB x 23 f))) rfl ?_
    refine am_Rr.ite (fun h_1 => ?_) (fun h_1 => ?_)
    · exfalso
      simp only [Int32.lt_iff_toInt_lt, Int32.le_iff_toInt_le, ← Int32.toInt_inj, am_nm9, am_nm6, am_nm4, am_nm3, am_nm2, am_nm1, am_n0, am_n1, am_n2, am_n3, am_n4, am_n5, am_n6, am_n7, am_n8, am_n9, am_n10, am_n11, am_n12, am_n20, am_n35, am_n36, am_n60, am_n96, am_n99, am_n255, am_n999, am_n141] at *; omega
    · refine am_Rr.go 7 (σ' := (if (nI i) = (x.1 36) then 21 else 25, [some (.ref 22), some (.ref 1), some (.int t), some (.int (nI i)), none], [.int (nI i), .ref 23], (am_sB x 23 f))) rfl ?_
      refine am_Rr.ite (fun h_2 => ?_) (fun h_2 => ?_)
      · refine am_Rr.go 2 (σ' := (26, [some (.ref 22), some (.ref 1), some (.int t), some (.int (nI i)), none], [.long 1, .int (nI i), .ref 23], (am_sB x 23 f))) rfl ?_
        refine am_Rr.chk (σ' := (27, [some (.ref 22), some (.ref 1), some (.int t), some (.int (nI i)), none], [], (am_sB (am_sB x 23 f) 23 (vp_updL f ((nI i).toNatClampNeg) 1)))) rfl (by rw [vp_in_iff]; first | omega | (simp only [Int32.lt_iff_toInt_lt, Int32.le_iff_toInt_le, ← Int32.toInt_inj, am_nm9, am_nm6, am_nm4, am_nm3, am_nm2, am_nm1, am_n0, am_n1, am_n2, am_n3, am_n4, am_n5, am_n6, am_n7, am_n8, am_n9, am_n10, am_n11, am_n12, am_n20, am_n35, am_n36, am_n60, am_n96, am_n99, am_n255, am_n999, am_n141] at *; omega)) ?_
        refine am_Rr.cong (x1 := (am_sB x 23 (vp_updL f ((nI i).toNatClampNeg) 1))) (am_sBB _ _ _ _) ?_
        refine am_Rr.go 2 (σ' := (2, [some (.ref 22), some (.ref 1), some (.int t), some (.int ((nI i) + 1)), none], [], (am_sB x 23 (vp_updL f ((nI i).toNatClampNeg) 1)))) rfl ?_
        rw [hcl]
        simp only [am_inc]
        refine ih (i + 1) _ (by omega) ?_
        rw [show vp_updL f i _ = vp_updL f i (if nI i = x.1 36 then 1 else 0) by first | rw [if_pos (by assumption)] | rw [if_neg (by assumption)]]
        exact hk
      · refine am_Rr.go 1 (σ' := (26, [some (.ref 22), some (.ref 1), some (.int t), some (.int (nI i)), none], [.long 0, .int (nI i), .ref 23], (am_sB x 23 f))) rfl ?_
        refine am_Rr.chk (σ' := (27, [some (.ref 22), some (.ref 1), some (.int t), some (.int (nI i)), none], [], (am_sB (am_sB x 23 f) 23 (vp_updL f ((nI i).toNatClampNeg) 0)))) rfl (by rw [vp_in_iff]; first | omega | (simp only [Int32.lt_iff_toInt_lt, Int32.le_iff_toInt_le, ← Int32.toInt_inj, am_nm9, am_nm6, am_nm4, am_nm3, am_nm2, am_nm1, am_n0, am_n1, am_n2, am_n3, am_n4, am_n5, am_n6, am_n7, am_n8, am_n9, am_n10, am_n11, am_n12, am_n20, am_n35, am_n36, am_n60, am_n96, am_n99, am_n255, am_n999, am_n141] at *; omega)) ?_
        refine am_Rr.cong (x1 := (am_sB x 23 (vp_updL f ((nI i).toNatClampNeg) 0))) (am_sBB _ _ _ _) ?_
        refine am_Rr.go 2 (σ' := (2, [some (.ref 22), some (.ref 1), some (.int t), some (.int ((nI i) + 1)), none], [], (am_sB x 23 (vp_updL f ((nI i).toNatClampNeg) 0)))) rfl ?_
        rw [hcl]
        simp only [am_inc]
        refine ih (i + 1) _ (by omega) ?_
        rw [show vp_updL f i _ = vp_updL f i (if nI i = x.1 36 then 1 else 0) by first | rw [if_pos (by assumption)] | rw [if_neg (by assumption)]]
        exact hk
theorem L_walkJ (d : Nat) (t k : Int32) (x : am_X) (b : Nat → Int64) (post : Option Value → am_X → Prop) : ∀ (n i : Nat) (f : Nat → Int64), i + n = 36 → am_Rr (d + 4) kX0_walk (93, [some (.ref 22), some (.ref 1), some (.int t), some (.int k), some (.int 36)], [], (am_sB (am_sB x 24 b) 23 (am_wkJ b (x.2.2.2 2) n i f))) post → am_Rr (d + 4) kX0_walk (58, [some (.ref 22), some (.ref 1), some (.int t), some (.int k), some (.int (nI i))], [], (am_sB (am_sB x 24 b) 23 f)) post := by
  intro n
  induction n with
  | zero =>
    intro i f hi hk
    have hI : (nI i).toInt = (i : Int) := nI_toInt (by omega)
    refine am_Rr.go 3 (σ' := (if (36 : Int32) ≤ (nI i) then 93 else 65, [some (.ref 22), some (.ref 1), some (.int t), some (.int k), some (.int (nI i))], [], (am_sB (am_sB x 24 b) 23 f))) rfl ?_
    refine am_Rr.ite (fun h_1 => ?_) (fun h_1 => ?_)
    · have e : i = 36 := by omega
      subst e
      exact hk
    · exfalso
      simp only [Int32.lt_iff_toInt_lt, Int32.le_iff_toInt_le, ← Int32.toInt_inj, am_nm9, am_nm6, am_nm4, am_nm3, am_nm2, am_nm1, am_n0, am_n1, am_n2, am_n3, am_n4, am_n5, am_n6, am_n7, am_n8, am_n9, am_n10, am_n11, am_n12, am_n20, am_n35, am_n36, am_n60, am_n96, am_n99, am_n255, am_n999, am_n141] at *; omega
  | succ n ih =>
    intro i f hi hk
    have hI : (nI i).toInt = (i : Int) := nI_toInt (by omega)
    have hcl : (nI i).toNatClampNeg = i := am_cln (by omega)
    refine am_Rr.go 3 (σ' := (if (36 : Int32) ≤ (nI i) then 93 else 65, [some (.ref 22), some (.ref 1), some (.int t), some (.int k), some (.int (nI i))], [], (am_sB (am_sB x 24 b) 23 f))) rfl ?_
    refine am_Rr.ite (fun h_1 => ?_) (fun h_1 => ?_)
    · exfalso
      simp only [Int32.lt_iff_toInt_lt, Int32.le_iff_toInt_le, ← Int32.toInt_inj, am_nm9, am_nm6, am_nm4, am_nm3, am_nm2, am_nm1, am_n0, am_n1, am_n2, am_n3, am_n4, am_n5, am_n6, am_n7, am_n8, am_n9, am_n10, am_n11, am_n12, am_n20, am_n35, am_n36, am_n60, am_n96, am_n99, am_n255, am_n999, am_n141] at *; omega
    · refine am_Rr.go 6 (σ' := (77, [some (.ref 22), some (.ref 1), some (.int t), some (.int k), some (.int (nI i))], [.int (nI i), .ref 24, .int (nI i), .ref 23], (am_sB (am_sB x 24 b) 23 f))) rfl ?_
      refine am_Rr.chk (σ' := (78, [some (.ref 22), some (.ref 1), some (.int t), some (.int k), some (.int (nI i))], [.long (b (nI i).toNatClampNeg), .int (nI i), .ref 23], (am_sB (am_sB x 24 b) 23 f))) rfl (by rw [vp_in_iff]; first | omega | (simp only [Int32.lt_iff_toInt_lt, Int32.le_iff_toInt_le, ← Int32.toInt_inj, am_nm9, am_nm6, am_nm4, am_nm3, am_nm2, am_nm1, am_n0, am_n1, am_n2, am_n3, am_n4, am_n5, am_n6, am_n7, am_n8, am_n9, am_n10, am_n11, am_n12, am_n20, am_n35, am_n36, am_n60, am_n96, am_n99, am_n255, am_n999, am_n141] at *; omega)) ?_
      refine am_Rr.go 3 (σ' := (82, [some (.ref 22), some (.ref 1), some (.int t), some (.int k), some (.int (nI i))], [.int (nI i), .ref 1, .ref 22, .long (b (nI i).toNatClampNeg), .int (nI i), .ref 23], (am_sB (am_sB x 24 b) 23 f))) rfl ?_
      refine am_Rr.call (pc := 85) (ls := [some (.ref 22), some (.ref 1), some (.int t), some (.int k), some (.int (nI i))]) (st := [.long (b (nI i).toNatClampNeg), .int (nI i), .ref 23]) rfl (S_comingOnto d (nI i) (am_sB (am_sB x 24 b) 23 f)) ?_
      rintro _ _ ⟨rfl, rfl⟩
      show am_Rr _ _ (85, [some (.ref 22), some (.ref 1), some (.int t), some (.int k), some (.int (nI i))], [.long (am_co b (x.2.2.2 2) (nI i)), .long (b (nI i).toNatClampNeg), .int (nI i), .ref 23], (am_sB (am_sB x 24 b) 23 f)) _
      refine am_Rr.go 1 (σ' := (86, [some (.ref 22), some (.ref 1), some (.int t), some (.int k), some (.int (nI i))], [.long ((b (nI i).toNatClampNeg) + (am_co b (x.2.2.2 2) (nI i))), .int (nI i), .ref 23], (am_sB (am_sB x 24 b) 23 f))) rfl ?_
      refine am_Rr.chk (σ' := (87, [some (.ref 22), some (.ref 1), some (.int t), some (.int k), some (.int (nI i))], [], (am_sB (am_sB (am_sB x 24 b) 23 f) 23 (vp_updL f ((nI i).toNatClampNeg) ((b (nI i).toNatClampNeg) + (am_co b (x.2.2.2 2) (nI i))))))) rfl (by rw [vp_in_iff]; first | omega | (simp only [Int32.lt_iff_toInt_lt, Int32.le_iff_toInt_le, ← Int32.toInt_inj, am_nm9, am_nm6, am_nm4, am_nm3, am_nm2, am_nm1, am_n0, am_n1, am_n2, am_n3, am_n4, am_n5, am_n6, am_n7, am_n8, am_n9, am_n10, am_n11, am_n12, am_n20, am_n35, am_n36, am_n60, am_n96, am_n99, am_n255, am_n999, am_n141] at *; omega)) ?_
      refine am_Rr.cong (x1 := (am_sB (am_sB x 24 b) 23 (vp_updL f ((nI i).toNatClampNeg) ((b (nI i).toNatClampNeg) + (am_co b (x.2.2.2 2) (nI i)))))) (am_sBB _ _ _ _) ?_
      refine am_Rr.go 2 (σ' := (58, [some (.ref 22), some (.ref 1), some (.int t), some (.int k), some (.int ((nI i) + 1))], [], (am_sB (am_sB x 24 b) 23 (vp_updL f ((nI i).toNatClampNeg) ((b (nI i).toNatClampNeg) + (am_co b (x.2.2.2 2) (nI i))))))) rfl ?_
      rw [hcl]
      simp only [am_inc]
      exact ih (i + 1) _ (by omega) hk
theorem L_walkK (d : Nat) (t : Int32) (ht : t.toInt ≤ 99) (x : am_X) : ∀ (n i : Nat) (b f : Nat → Int64), i + n = 99 → am_Rr (d + 4) kX0_walk (35, [some (.ref 22), some (.ref 1), some (.int t), some (.int (nI i)), none], [], (am_sB (am_sB x 24 b) 23 f)) (fun o x' => o = none ∧ am_sB (am_sB x 24 (am_wkK (x.2.2.2 2) t n i b f).1) 23 (am_wkK (x.2.2.2 2) t n i b f).2 = x') := by
  intro n
  induction n with
  | zero =>
    intro i b f hi
    have hI : (nI i).toInt = (i : Int) := nI_toInt (by omega)
    refine am_Rr.go 3 (σ' := (if t ≤ (nI i) then 99 else 40, [some (.ref 22), some (.ref 1), some (.int t), some (.int (nI i)), none], [], (am_sB (am_sB x 24 b) 23 f))) rfl ?_
    refine am_Rr.ite (fun h_1 => ?_) (fun h_1 => ?_)
    · refine am_Rr.ret (v := none) (x := (am_sB (am_sB x 24 b) 23 f)) rfl (by trivial) ?_
      exact ⟨rfl, rfl⟩
    · exfalso
      simp only [Int32.lt_iff_toInt_lt, Int32.le_iff_toInt_le, ← Int32.toInt_inj, am_nm9, am_nm6, am_nm4, am_nm3, am_nm2, am_nm1, am_n0, am_n1, am_n2, am_n3, am_n4, am_n5, am_n6, am_n7, am_n8, am_n9, am_n10, am_n11, am_n12, am_n20, am_n35, am_n36, am_n60, am_n96, am_n99, am_n255, am_n999, am_n141] at *; omega
  | succ n ih =>
    intro i b f hi
    have hI : (nI i).toInt = (i : Int) := nI_toInt (by omega)
    refine am_Rr.go 3 (σ' := (if t ≤ (nI i) then 99 else 40, [some (.ref 22), some (.ref 1), some (.int t), some (.int (nI i)), none], [], (am_sB (am_sB x 24 b) 23 f))) rfl ?_
    refine am_Rr.ite (fun h_1 => ?_) (fun h_1 => ?_)
    · refine am_Rr.ret (v := none) (x := (am_sB (am_sB x 24 b) 23 f)) rfl (by trivial) ?_
      exact ⟨rfl, by rw [show am_wkK (x.2.2.2 2) t (n + 1) i b f = (b, f) from if_pos (by assumption)]⟩
    · refine am_Rr.go 7 (σ' := (52, [some (.ref 22), some (.ref 1), some (.int t), some (.int (nI i)), none], [.int 36, .int 0, .ref 24, .int 0, .ref 23], (am_sB (am_sB x 24 b) 23 f))) rfl ?_
      refine am_Rr.chk (σ' := (55, [some (.ref 22), some (.ref 1), some (.int t), some (.int (nI i)), none], [], (am_sB (am_sB (am_sB x 24 b) 23 f) 24 (va_cpy f b 0 0 36)))) rfl (by decide) ?_
      refine am_Rr.go 2 (σ' := (58, [some (.ref 22), some (.ref 1), some (.int t), some (.int (nI i)), some (.int 0)], [], (am_sB (am_sB (am_sB x 24 b) 23 f) 24 (va_cpy f b 0 0 36)))) rfl ?_
      refine am_Rr.cong (x1 := am_sB (am_sB x 24 (va_cpy f b 0 0 36)) 23 f) (by refine Prod.ext ?_ (Prod.ext ?_ (Prod.ext ?_ ?_)) <;> (first | rfl | (funext j; simp only [am_uI, am_uL, am_sA, am_sB, am_up]; (repeat' split) <;> simp_all))) ?_
      refine L_walkJ d t (nI i) x (va_cpy f b 0 0 36) _ 36 0 f rfl ?_
      refine am_Rr.go 2 (σ' := (35, [some (.ref 22), some (.ref 1), some (.int t), some (.int ((nI i) + 1)), some (.int 36)], [], (am_sB (am_sB x 24 (va_cpy f b 0 0 36)) 23 (am_wkJ (va_cpy f b 0 0 36) (x.2.2.2 2) 36 0 f)))) rfl ?_
      refine am_Rr.weak (ls0 := [some (.ref 22), some (.ref 1), some (.int t), some (.int (nI i + 1)), none]) (by simp [am_le]) ?_
      simp only [am_inc]
      have := ih (i + 1) (va_cpy f b 0 0 36) (am_wkJ (va_cpy f b 0 0 36) (x.2.2.2 2) 36 0 f) (by omega)
      rw [show am_wkK (x.2.2.2 2) t (n + 1) i b f = am_wkK (x.2.2.2 2) t n (i + 1) (va_cpy f b 0 0 36) (am_wkJ (va_cpy f b 0 0 36) (x.2.2.2 2) 36 0 f) from if_neg (by assumption)]
      exact this
def am_wkf (x : am_X) (t : Int32) : (Nat → Int64) × (Nat → Int64) := am_wkK (x.2.2.2 2) t 99 0 (x.2.2.2 24) (am_wkI (x.1 36) 36 0 (x.2.2.2 23))
def am_wkx (x : am_X) (t : Int32) : am_X := am_sB (am_sB x 24 (am_wkf x t).1) 23 (am_wkf x t).2
theorem S_walk (d : Nat) (t : Int32) (ht : t.toInt ≤ 99) (x : am_X) : am_T (d + 5) mX0_walk [.ref 22, .ref 1, .int t] x (fun o x' => o = none ∧ am_wkx x t = x') := by
  refine am_T.of rfl ?_
  show am_Rr _ kX0_walk (0, [some (.ref 22), some (.ref 1), some (.int t), none, none], [], x) _
  refine am_Rr.go 2 (σ' := (2, [some (.ref 22), some (.ref 1), some (.int t), some (.int 0), none], [], x)) rfl ?_
  refine am_Rr.cong (x1 := am_sB x 23 (x.2.2.2 23)) (am_sB_self x 23).symm ?_
  refine L_walkI _ t x _ 36 0 _ rfl ?_
  refine am_Rr.go 2 (σ' := (35, [some (.ref 22), some (.ref 1), some (.int t), some (.int 0), none], [], (am_sB x 23 (am_wkI (x.1 36) 36 0 (x.2.2.2 23))))) rfl ?_
  refine am_Rr.cong (x1 := am_sB (am_sB x 24 (x.2.2.2 24)) 23 (am_wkI (x.1 36) 36 0 (x.2.2.2 23))) (by rw [am_sB_self]) ?_
  exact L_walkK d t ht x 99 0 _ _ rfl
