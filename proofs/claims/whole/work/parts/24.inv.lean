/-! what class and reference have alike; frames -/
def am_eI : List Nat := [10, 35, 36, 37, 38, 291, 292, 293, 294, 449, 513, 867, 869, 885]
def am_eA : List Nat := [3, 4, 11, 12, 15, 17, 26, 28, 29, 30, 31, 32, 33, 34, 37, 42]
def am_eB : List Nat := [2, 10]
def am_kp (x y : am_X) : Prop :=
  (∀ k, k ∈ am_eI → y.1 k = x.1 k) ∧
  (∀ k, k ∈ am_eA → y.2.2.1 k = x.2.2.1 k) ∧
  (∀ k, k ∈ am_eB → y.2.2.2 k = x.2.2.2 k)
theorem am_kp.i {x y : am_X} (h_ : am_kp x y) : ∀ k, k ∈ am_eI → y.1 k = x.1 k := h_.1
theorem am_kp.a {x y : am_X} (h_ : am_kp x y) : ∀ k, k ∈ am_eA → y.2.2.1 k = x.2.2.1 k := h_.2.1
theorem am_kp.b {x y : am_X} (h_ : am_kp x y) : ∀ k, k ∈ am_eB → y.2.2.2 k = x.2.2.2 k := h_.2.2
theorem am_kp.rfl {x : am_X} : am_kp x x := ⟨fun _ _ => Eq.refl _, fun _ _ => Eq.refl _, fun _ _ => Eq.refl _⟩
theorem am_kp.trans {x y z : am_X} (h : am_kp x y) (h' : am_kp y z) : am_kp x z := ⟨fun k m => (h'.i k m).trans (h.i k m), fun k m => (h'.a k m).trans (h.a k m), fun k m => (h'.b k m).trans (h.b k m)⟩
theorem am_kp.uI {x : am_X} {k : Nat} {v : Int32} (h : k ∉ am_eI) : am_kp x (am_uI x k v) := ⟨fun j m => if_neg (fun e : j = k => h (e ▸ m)), fun _ _ => Eq.refl _, fun _ _ => Eq.refl _⟩
theorem am_kp.uL {x : am_X} {k : Nat} {v : Int64} : am_kp x (am_uL x k v) := ⟨fun _ _ => Eq.refl _, fun _ _ => Eq.refl _, fun _ _ => Eq.refl _⟩
theorem am_kp.sA {x : am_X} {k : Nat} {f : Nat → Int32} (h : k ∉ am_eA) : am_kp x (am_sA x k f) := ⟨fun _ _ => Eq.refl _, fun j m => if_neg (fun e : j = k => h (e ▸ m)), fun _ _ => Eq.refl _⟩
theorem am_kp.sB {x : am_X} {k : Nat} {f : Nat → Int64} (h : k ∉ am_eB) : am_kp x (am_sB x k f) := ⟨fun _ _ => Eq.refl _, fun _ _ => Eq.refl _, fun j m => if_neg (fun e : j = k => h (e ▸ m))⟩
/-- a garden: the class' words and numbers, the reference's row -/
def am_gd (sk hm pc wm : Int32) (w : Nat → Int64) (sK sS : Nat → Int32) (now : Nat → Int32) : Prop :=
  (∀ q, q < 36 → ∃ k, k < 6 ∧ now (20 + q) = nI k) ∧
  (∀ k, k < 6 → abr (w k) (fun q => decide (now (20 + q) = nI k))) ∧
  (∃ h, h < 36 ∧ hm = nI h ∧ now 0 = nI h ∧ ¬ now (20 + h) = 1) ∧
  (∃ p, 1 ≤ p ∧ p ≤ 9 ∧ pc = nI p ∧ now 1 = nI p) ∧
  (∃ v, v ≤ 9 ∧ wm = nI v ∧ now 2 = nI v) ∧
  (∃ s, s ≤ 3 ∧ sk = nI s ∧ now 3 = nI s ∧ ∀ i, i < s → (∃ k, k < 5 ∧ sK i = nI k ∧ now (10 + 2 * i) = nI k) ∧ (∃ q, q < 36 ∧ sS i = nI q ∧ now (10 + 2 * i + 1) = nI q))
theorem am_gd.kin {sk hm pc wm : Int32} {w : Nat → Int64} {sK sS now : Nat → Int32} (h_ : am_gd sk hm pc wm w sK sS now) : ∀ q, q < 36 → ∃ k, k < 6 ∧ now (20 + q) = nI k := h_.1
theorem am_gd.wrd {sk hm pc wm : Int32} {w : Nat → Int64} {sK sS now : Nat → Int32} (h_ : am_gd sk hm pc wm w sK sS now) : ∀ k, k < 6 → abr (w k) (fun q => decide (now (20 + q) = nI k)) := h_.2.1
theorem am_gd.home {sk hm pc wm : Int32} {w : Nat → Int64} {sK sS now : Nat → Int32} (h_ : am_gd sk hm pc wm w sK sS now) : ∃ h, h < 36 ∧ hm = nI h ∧ now 0 = nI h ∧ ¬ now (20 + h) = 1 := h_.2.2.1
theorem am_gd.pace {sk hm pc wm : Int32} {w : Nat → Int64} {sK sS now : Nat → Int32} (h_ : am_gd sk hm pc wm w sK sS now) : ∃ p, 1 ≤ p ∧ p ≤ 9 ∧ pc = nI p ∧ now 1 = nI p := h_.2.2.2.1
theorem am_gd.warm {sk hm pc wm : Int32} {w : Nat → Int64} {sK sS now : Nat → Int32} (h_ : am_gd sk hm pc wm w sK sS now) : ∃ v, v ≤ 9 ∧ wm = nI v ∧ now 2 = nI v := h_.2.2.2.2.1
theorem am_gd.seek {sk hm pc wm : Int32} {w : Nat → Int64} {sK sS now : Nat → Int32} (h_ : am_gd sk hm pc wm w sK sS now) : ∃ s, s ≤ 3 ∧ sk = nI s ∧ now 3 = nI s ∧ ∀ i, i < s → (∃ k, k < 5 ∧ sK i = nI k ∧ now (10 + 2 * i) = nI k) ∧ (∃ q, q < 36 ∧ sS i = nI q ∧ now (10 + 2 * i + 1) = nI q) := h_.2.2.2.2.2
def am_Iv (x : am_X) : Prop :=
  (am_gd (x.1 35) (x.1 36) (x.1 37) (x.1 38) (x.2.2.2 2) (x.2.2.1 3) (x.2.2.1 4) (x.2.2.1 29)) ∧
  ((x.1 10 = 0 ∧ x.1 867 = 0) ∨ (x.1 10 = 1 ∧ x.1 867 = 1 ∧ am_gd (x.1 291) (x.1 292) (x.1 293) (x.1 294) (x.2.2.2 10) (x.2.2.1 11) (x.2.2.1 12) (x.2.2.1 30))) ∧
  (∃ n, n ≤ 96 ∧ x.1 449 = nI n ∧ x.1 869 = nI n ∧ ∀ i, i < n → ∃ c, c < 256 ∧ x.2.2.1 15 i = nI c ∧ x.2.2.1 31 i = nI c) ∧
  (∃ n, n ≤ 12 ∧ x.1 513 = nI n ∧ x.1 885 = nI n ∧ ∀ i, i < n → ∃ v, v < 100 ∧ x.2.2.1 17 i = nI v ∧ x.2.2.1 42 i = nI v) ∧
  (∀ i, i < 7 → x.2.2.1 26 i = x.2.2.1 28 i) ∧
  (∀ q, q < 36 → x.2.2.1 37 q = 0) ∧
  (x.2.2.1 32 0 = 107 ∧ x.2.2.1 32 1 = 118 ∧ x.2.2.1 32 2 = 104 ∧ x.2.2.1 32 3 = 112 ∧ x.2.2.1 32 4 = 119 ∧ x.2.2.1 32 5 = 115) ∧
  (x.2.2.1 33 0 = 108 ∧ x.2.2.1 33 1 = 104 ∧ x.2.2.1 33 2 = 103 ∧ x.2.2.1 33 3 = 115 ∧ x.2.2.1 33 4 = 98 ∧ x.2.2.1 33 5 = 114) ∧
  (x.2.2.1 34 0 = 102 ∧ x.2.2.1 34 1 = 110 ∧ x.2.2.1 34 2 = 109 ∧ x.2.2.1 34 3 = 101 ∧ x.2.2.1 34 4 = 97)
theorem am_Iv.g {x : am_X} (h_ : am_Iv x) : am_gd (x.1 35) (x.1 36) (x.1 37) (x.1 38) (x.2.2.2 2) (x.2.2.1 3) (x.2.2.1 4) (x.2.2.1 29) := h_.1
theorem am_Iv.im {x : am_X} (h_ : am_Iv x) : (x.1 10 = 0 ∧ x.1 867 = 0) ∨ (x.1 10 = 1 ∧ x.1 867 = 1 ∧ am_gd (x.1 291) (x.1 292) (x.1 293) (x.1 294) (x.2.2.2 10) (x.2.2.1 11) (x.2.2.1 12) (x.2.2.1 30)) := h_.2.1
theorem am_Iv.ltr {x : am_X} (h_ : am_Iv x) : ∃ n, n ≤ 96 ∧ x.1 449 = nI n ∧ x.1 869 = nI n ∧ ∀ i, i < n → ∃ c, c < 256 ∧ x.2.2.1 15 i = nI c ∧ x.2.2.1 31 i = nI c := h_.2.2.1
theorem am_Iv.row {x : am_X} (h_ : am_Iv x) : ∃ n, n ≤ 12 ∧ x.1 513 = nI n ∧ x.1 885 = nI n ∧ ∀ i, i < n → ∃ v, v < 100 ∧ x.2.2.1 17 i = nI v ∧ x.2.2.1 42 i = nI v := h_.2.2.2.1
theorem am_Iv.ref {x : am_X} (h_ : am_Iv x) : ∀ i, i < 7 → x.2.2.1 26 i = x.2.2.1 28 i := h_.2.2.2.2.1
theorem am_Iv.hel {x : am_X} (h_ : am_Iv x) : ∀ q, q < 36 → x.2.2.1 37 q = 0 := h_.2.2.2.2.2.1
theorem am_Iv.cb {x : am_X} (h_ : am_Iv x) : x.2.2.1 32 0 = 107 ∧ x.2.2.1 32 1 = 118 ∧ x.2.2.1 32 2 = 104 ∧ x.2.2.1 32 3 = 112 ∧ x.2.2.1 32 4 = 119 ∧ x.2.2.1 32 5 = 115 := h_.2.2.2.2.2.2.1
theorem am_Iv.ck {x : am_X} (h_ : am_Iv x) : x.2.2.1 33 0 = 108 ∧ x.2.2.1 33 1 = 104 ∧ x.2.2.1 33 2 = 103 ∧ x.2.2.1 33 3 = 115 ∧ x.2.2.1 33 4 = 98 ∧ x.2.2.1 33 5 = 114 := h_.2.2.2.2.2.2.2.1
theorem am_Iv.cs {x : am_X} (h_ : am_Iv x) : x.2.2.1 34 0 = 102 ∧ x.2.2.1 34 1 = 110 ∧ x.2.2.1 34 2 = 109 ∧ x.2.2.1 34 3 = 101 ∧ x.2.2.1 34 4 = 97 := h_.2.2.2.2.2.2.2.2
theorem am_Iv.kp {x y : am_X} (h : am_Iv x) (k : am_kp x y) : am_Iv y := by
  have i10 := k.i 10 (by decide)
  have i35 := k.i 35 (by decide)
  have i36 := k.i 36 (by decide)
  have i37 := k.i 37 (by decide)
  have i38 := k.i 38 (by decide)
  have i291 := k.i 291 (by decide)
  have i292 := k.i 292 (by decide)
  have i293 := k.i 293 (by decide)
  have i294 := k.i 294 (by decide)
  have i449 := k.i 449 (by decide)
  have i513 := k.i 513 (by decide)
  have i867 := k.i 867 (by decide)
  have i869 := k.i 869 (by decide)
  have i885 := k.i 885 (by decide)
  have a3 := k.a 3 (by decide)
  have a4 := k.a 4 (by decide)
  have a11 := k.a 11 (by decide)
  have a12 := k.a 12 (by decide)
  have a15 := k.a 15 (by decide)
  have a17 := k.a 17 (by decide)
  have a26 := k.a 26 (by decide)
  have a28 := k.a 28 (by decide)
  have a29 := k.a 29 (by decide)
  have a30 := k.a 30 (by decide)
  have a31 := k.a 31 (by decide)
  have a32 := k.a 32 (by decide)
  have a33 := k.a 33 (by decide)
  have a34 := k.a 34 (by decide)
  have a37 := k.a 37 (by decide)
  have a42 := k.a 42 (by decide)
  have b2 := k.b 2 (by decide)
  have b10 := k.b 10 (by decide)
  obtain ⟨g, im, ltr, row, ref, hel, cb, ck, cs⟩ := h
  refine ⟨?_, ?_, ?_, ?_, ?_, ?_, ?_, ?_, ?_⟩
  · rw [i35, i36, i37, i38, b2, a3, a4, a29]; exact g
  · rw [i10, i867, i291, i292, i293, i294, b10, a11, a12, a30]; exact im
  · rw [i449, i869, a15, a31]; exact ltr
  · rw [i513, i885, a17, a42]; exact row
  · rw [a26, a28]; exact ref
  · rw [a37]; exact hel
  · rw [a32]; exact cb
  · rw [a33]; exact ck
  · rw [a34]; exact cs
/-- one call: the class, then the reference, the same answer, and all is alike again -/
def am_ok {α : Type} (g m : am_X → Option (α × am_X)) : Prop := ∀ x, am_Iv x → ∃ r y z, g x = some (r, y) ∧ m y = some (r, z) ∧ am_Iv z
/-- a refused call -/
theorem no_nat {j : Nat} (h : j < 7) : 0 ≤ (nI j).toInt ∧ (nI j).toInt < 7 ∧ ¬ nI j < 0 ∧ ¬ (7 : Int32) ≤ nI j ∧ (nI j).toNatClampNeg = j := by
  have : ∀ j, j < 7 → 0 ≤ (nI j).toInt ∧ (nI j).toInt < 7 ∧ ¬ nI j < 0 ∧ ¬ (7 : Int32) ≤ nI j ∧ (nI j).toNatClampNeg = j := by decide +kernel
  exact this j h
theorem no_class (a : Int32) {j : Nat} (h : j < 7) (e : -a = nI j) (x : am_X) : G_X7_refused a x = some (a, am_sA x 26 (upd (x.2.2.1 26) j (x.2.2.1 26 j + 1))) := by
  obtain ⟨h1, h2, h3, h4, h5⟩ := no_nat h
  unfold G_X7_refused
  rw [e, if_neg h3, if_neg h4, if_pos ⟨h1, h2⟩, h5]
theorem no_ref (a : Int32) {j : Nat} (h : j < 7) (e : -a = nI j) (x : am_X) : G_X8_no a x = some (a, am_sA x 28 (upd (x.2.2.1 28) j (x.2.2.1 28 j + 1))) := by
  obtain ⟨h1, h2, h3, h4, h5⟩ := no_nat h
  unfold G_X8_no
  rw [e, if_pos ⟨h1, h2⟩, h5]
theorem no_inv {x : am_X} (h : am_Iv x) {j : Nat} : am_Iv (am_sA (am_sA x 26 (upd (x.2.2.1 26) j (x.2.2.1 26 j + 1))) 28 (upd ((am_sA x 26 (upd (x.2.2.1 26) j (x.2.2.1 26 j + 1))).2.2.1 28) j ((am_sA x 26 (upd (x.2.2.1 26) j (x.2.2.1 26 j + 1))).2.2.1 28 j + 1))) := by
  obtain ⟨g, im, ltr, row, ref, hel, cb, ck, cs⟩ := h
  refine ⟨g, im, ltr, row, fun i hi => ?_, hel, cb, ck, cs⟩
  show upd (x.2.2.1 26) j (x.2.2.1 26 j + 1) i = upd (x.2.2.1 28) j (x.2.2.1 28 j + 1) i
  by_cases e : i = j
  · subst e; simp only [upd, if_pos, ref i hi]
  · simp only [upd, if_neg e, ref i hi]
theorem no_ok (a : Int32) {j : Nat} (h : j < 7) (e : -a = nI j) : am_ok (G_X7_refused a) (G_X8_no a) := fun x hI => ⟨a, _, _, no_class a h e x, no_ref a h e _, no_inv hI⟩
theorem no1 : am_ok (G_X7_refused (-1)) (G_X8_no (-1)) := no_ok (-1) (j := 1) (by decide) (by decide)
theorem no2 : am_ok (G_X7_refused (-2)) (G_X8_no (-2)) := no_ok (-2) (j := 2) (by decide) (by decide)
theorem no3 : am_ok (G_X7_refused (-3)) (G_X8_no (-3)) := no_ok (-3) (j := 3) (by decide) (by decide)
theorem no4 : am_ok (G_X7_refused (-4)) (G_X8_no (-4)) := no_ok (-4) (j := 4) (by decide) (by decide)
theorem no6 : am_ok (G_X7_refused (-6)) (G_X8_no (-6)) := no_ok (-6) (j := 6) (by decide) (by decide)
