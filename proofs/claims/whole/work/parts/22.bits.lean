/-! the number of bits of a word, by bytes -/
theorem bc_dig {a m : Nat} (A M : Nat) (ha : a < 256) (hm : m < 256) : (256 * A + a) &&& (256 * M + m) = 256 * (A &&& M) + (a &&& m) := by
  apply Nat.eq_of_testBit_eq
  intro i
  have h1 : (a &&& m) < 2 ^ 8 := Nat.lt_of_le_of_lt Nat.and_le_left ha
  rw [Nat.testBit_and]
  show ((2 ^ 8 * A + a).testBit i && (2 ^ 8 * M + m).testBit i) = (2 ^ 8 * (A &&& M) + (a &&& m)).testBit i
  rw [Nat.testBit_two_pow_mul_add A ha, Nat.testBit_two_pow_mul_add M hm, Nat.testBit_two_pow_mul_add _ h1]
  split
  · rw [Nat.testBit_and]
  · rw [Nat.testBit_and]
def bcN (a b c d e : Nat) : Nat := 256 * (256 * (256 * (256 * e + d) + c) + b) + a
theorem bc_and {a b c d e m : Nat} (ha : a < 256) (hb : b < 256) (hc : c < 256) (hd : d < 256) (he : e < 256) (hm : m < 256) : bcN a b c d e &&& bcN m m m m m = bcN (a &&& m) (b &&& m) (c &&& m) (d &&& m) (e &&& m) := by
  unfold bcN
  rw [bc_dig _ _ ha hm, bc_dig _ _ hb hm, bc_dig _ _ hc hm, bc_dig _ _ hd hm]
theorem bc_low {n M m : Nat} (hn : n < 2 ^ 40) (hm : M % 2 ^ 40 = m) : n &&& M = n &&& m := by
  apply Nat.eq_of_testBit_eq
  intro i
  rw [Nat.testBit_and, Nat.testBit_and, ← hm, Nat.testBit_mod_two_pow]
  by_cases h : i < 40
  · simp [h]
  · rw [Nat.testBit_lt_two_pow (Nat.lt_of_lt_of_le hn (Nat.pow_le_pow_right (by decide) (by omega : 40 ≤ i)))]
    simp
def bc_s1 (a : Nat) : Nat := a - (a / 2 &&& 85)
def bc_s2 (a : Nat) : Nat := (bc_s1 a &&& 51) + (bc_s1 a / 4 &&& 51)
def bc_s3 (a : Nat) : Nat := (bc_s2 a + bc_s2 a / 16) &&& 15
theorem bc_byte : ∀ a, a < 256 → bc_s3 a = fb_ct (fun q => a.testBit q) 8 ∧ bc_s1 a < 256 ∧ bc_s2 a < 69 ∧ bc_s2 a % 16 < 5 ∧ (a / 2 &&& 85) ≤ a := by decide +kernel
theorem bc_m1 : ∀ a, a < 128 → ∀ e, e < 2 → ((a + 128 * e) &&& 85) = a &&& 85 := by decide +kernel
theorem bc_m2 : ∀ a, a < 64 → ∀ e, e < 4 → ((a + 64 * e) &&& 51) = a &&& 51 := by decide +kernel
theorem bc_m3 : ∀ a, a < 69 → ∀ e, e < 5 → ((a + a / 16 + 16 * e) &&& 15) = (a + a / 16) &&& 15 := by decide +kernel
theorem bcN_lt {a b c d e : Nat} (ha : a < 256) (hb : b < 256) (hc : c < 256) (hd : d < 256) (he : e < 256) : bcN a b c d e < 2 ^ 40 := by unfold bcN; omega
theorem bc_l64 {n : Nat} (h : n < 2 ^ 40) : n < 2 ^ 64 := Nat.lt_trans h (by decide)
theorem bc_shr {n : Nat} (k : Nat) (hn : n < 2 ^ 64) (hk : k < 64) : am_lushr (lN n) (nI k) = lN (n / 2 ^ k) := wb_shr hn hk
theorem bc_st1 {a b c d e : Nat} (ha : a < 256) (hb : b < 256) (hc : c < 256) (hd : d < 256) (he : e < 256) : am_bc1 (lN (bcN a b c d e)) = lN (bcN (bc_s1 a) (bc_s1 b) (bc_s1 c) (bc_s1 d) (bc_s1 e)) := by
  have hn := bcN_lt ha hb hc hd he
  show lN (bcN a b c d e) - (am_lushr (lN (bcN a b c d e)) (nI 1) &&& lN 6148914691236517205) = _
  rw [bc_shr 1 (bc_l64 hn) (by decide)]
  have h2 : bcN a b c d e / 2 ^ 1 = bcN (a / 2 + 128 * (b % 2)) (b / 2 + 128 * (c % 2)) (c / 2 + 128 * (d % 2)) (d / 2 + 128 * (e % 2)) (e / 2) := by
    unfold bcN; omega
  have hl : bcN (a / 2 + 128 * (b % 2)) (b / 2 + 128 * (c % 2)) (c / 2 + 128 * (d % 2)) (d / 2 + 128 * (e % 2)) (e / 2) < 2 ^ 40 :=
    bcN_lt (by omega) (by omega) (by omega) (by omega) (by omega)
  rw [h2, wb_and (bc_l64 hl) (by decide), bc_low hl (m := bcN 85 85 85 85 85) (by decide), bc_and (by omega) (by omega) (by omega) (by omega) (by omega) (by decide), bc_m1 _ (by omega) _ (by omega), bc_m1 _ (by omega) _ (by omega), bc_m1 _ (by omega) _ (by omega), bc_m1 _ (by omega) _ (by omega)]
  have ka := (bc_byte a ha).2.2.2.2
  have kb := (bc_byte b hb).2.2.2.2
  have kc := (bc_byte c hc).2.2.2.2
  have kd := (bc_byte d hd).2.2.2.2
  have ke := (bc_byte e he).2.2.2.2
  rw [lN_sub (by unfold bcN; omega)]
  congr 1
  unfold bcN bc_s1
  omega
theorem bc_s1_lt {a : Nat} (ha : a < 256) : bc_s1 a < 256 := (bc_byte a ha).2.1
theorem bc_st2 {a b c d e : Nat} (ha : a < 256) (hb : b < 256) (hc : c < 256) (hd : d < 256) (he : e < 256) : am_bc2 (lN (bcN a b c d e)) = lN (bcN (bc_s2 a) (bc_s2 b) (bc_s2 c) (bc_s2 d) (bc_s2 e)) := by
  unfold am_bc2
  rw [bc_st1 ha hb hc hd he]
  unfold bc_s2
  have ka := bc_s1_lt ha
  have kb := bc_s1_lt hb
  have kc := bc_s1_lt hc
  have kd := bc_s1_lt hd
  have ke := bc_s1_lt he
  generalize bc_s1 a = a at *
  generalize bc_s1 b = b at *
  generalize bc_s1 c = c at *
  generalize bc_s1 d = d at *
  generalize bc_s1 e = e at *
  have hn := bcN_lt ka kb kc kd ke
  show (lN (bcN a b c d e) &&& lN 3689348814741910323) + (am_lushr (lN (bcN a b c d e)) (nI 2) &&& lN 3689348814741910323) = _
  rw [bc_shr 2 (bc_l64 hn) (by decide)]
  have h2 : bcN a b c d e / 2 ^ 2 = bcN (a / 4 + 64 * (b % 4)) (b / 4 + 64 * (c % 4)) (c / 4 + 64 * (d % 4)) (d / 4 + 64 * (e % 4)) (e / 4) := by
    unfold bcN; omega
  have hl : bcN (a / 4 + 64 * (b % 4)) (b / 4 + 64 * (c % 4)) (c / 4 + 64 * (d % 4)) (d / 4 + 64 * (e % 4)) (e / 4) < 2 ^ 40 :=
    bcN_lt (by omega) (by omega) (by omega) (by omega) (by omega)
  rw [h2, wb_and (bc_l64 hl) (by decide), bc_low hl (m := bcN 51 51 51 51 51) (by decide), bc_and (by omega) (by omega) (by omega) (by omega) (by omega) (by decide), bc_m2 _ (by omega) _ (by omega), bc_m2 _ (by omega) _ (by omega), bc_m2 _ (by omega) _ (by omega), bc_m2 _ (by omega) _ (by omega)]
  rw [wb_and (bc_l64 hn) (by decide), bc_low hn (m := bcN 51 51 51 51 51) (by decide), bc_and (by omega) (by omega) (by omega) (by omega) (by omega) (by decide), lN_add]
  congr 1
  unfold bcN
  omega
theorem bc_st3 {a b c d e : Nat} (ha : a < 256) (hb : b < 256) (hc : c < 256) (hd : d < 256) (he : e < 256) : am_bc3 (lN (bcN a b c d e)) = lN (bcN (bc_s3 a) (bc_s3 b) (bc_s3 c) (bc_s3 d) (bc_s3 e)) := by
  unfold am_bc3
  rw [bc_st2 ha hb hc hd he]
  unfold bc_s3
  obtain ⟨-, -, ka, la, -⟩ := bc_byte a ha
  obtain ⟨-, -, kb, lb, -⟩ := bc_byte b hb
  obtain ⟨-, -, kc, lc, -⟩ := bc_byte c hc
  obtain ⟨-, -, kd, ld, -⟩ := bc_byte d hd
  obtain ⟨-, -, ke, le, -⟩ := bc_byte e he
  generalize bc_s2 a = a at *
  generalize bc_s2 b = b at *
  generalize bc_s2 c = c at *
  generalize bc_s2 d = d at *
  generalize bc_s2 e = e at *
  have hn : bcN a b c d e < 2 ^ 40 := bcN_lt (by omega) (by omega) (by omega) (by omega) (by omega)
  show lN (bcN a b c d e) + am_lushr (lN (bcN a b c d e)) (nI 4) &&& lN 1085102592571150095 = _
  rw [bc_shr 4 (bc_l64 hn) (by decide), lN_add]
  have h2 : bcN a b c d e + bcN a b c d e / 2 ^ 4 = bcN (a + a / 16 + 16 * (b % 16)) (b + b / 16 + 16 * (c % 16)) (c + c / 16 + 16 * (d % 16)) (d + d / 16 + 16 * (e % 16)) (e + e / 16) := by
    unfold bcN; omega
  have hl : bcN (a + a / 16 + 16 * (b % 16)) (b + b / 16 + 16 * (c % 16)) (c + c / 16 + 16 * (d % 16)) (d + d / 16 + 16 * (e % 16)) (e + e / 16) < 2 ^ 40 :=
    bcN_lt (by omega) (by omega) (by omega) (by omega) (by omega)
  rw [h2, wb_and (bc_l64 hl) (by decide), bc_low hl (m := bcN 15 15 15 15 15) (by decide), bc_and (by omega) (by omega) (by omega) (by omega) (by omega) (by decide), bc_m3 _ ka _ lb, bc_m3 _ kb _ lc, bc_m3 _ kc _ ld, bc_m3 _ kd _ le]
theorem bc_s3_le {a : Nat} (ha : a < 256) : bc_s3 a ≤ 8 := by rw [(bc_byte a ha).1]; exact fb_ct_le _ 8
theorem bc_127 : ∀ n, n < 128 → nI n &&& 127 = nI n := by decide +kernel
theorem bc_all {a b c d e : Nat} (ha : a < 256) (hb : b < 256) (hc : c < 256) (hd : d < 256) (he : e < 256) : am_bc (lN (bcN a b c d e)) = nI (bc_s3 a + bc_s3 b + bc_s3 c + bc_s3 d + bc_s3 e) := by
  unfold am_bc am_bc5 am_bc4
  rw [bc_st3 ha hb hc hd he]
  have ka := bc_s3_le ha
  have kb := bc_s3_le hb
  have kc := bc_s3_le hc
  have kd := bc_s3_le hd
  have ke := bc_s3_le he
  generalize bc_s3 a = a at *
  generalize bc_s3 b = b at *
  generalize bc_s3 c = c at *
  generalize bc_s3 d = d at *
  generalize bc_s3 e = e at *
  have hn : bcN a b c d e < 2 ^ 36 := by unfold bcN; omega
  have hsh : ∀ (n k : Nat), n < 2 ^ 64 → k < 64 → lN n + am_lushr (lN n) (nI k) = lN (n + n / 2 ^ k) := fun n k h h' => by rw [bc_shr k h h', lN_add]
  show (lN (bcN a b c d e) + am_lushr (lN (bcN a b c d e)) (nI 8) + am_lushr (lN (bcN a b c d e) + am_lushr (lN (bcN a b c d e)) (nI 8)) (nI 16) + am_lushr (lN (bcN a b c d e) + am_lushr (lN (bcN a b c d e)) (nI 8) + am_lushr (lN (bcN a b c d e) + am_lushr (lN (bcN a b c d e)) (nI 8)) (nI 16)) (nI 32)).toInt32 &&& 127 = _
  rw [hsh _ 8 (by omega) (by decide), hsh _ 16 (by omega) (by decide), hsh _ 32 (by omega) (by decide), lN_i]
  obtain ⟨t, ht⟩ : ∃ t, t = a + b + c + d + e := ⟨_, rfl⟩
  rw [← ht]
  generalize hN : bcN a b c d e + bcN a b c d e / 2 ^ 8 + (bcN a b c d e + bcN a b c d e / 2 ^ 8) / 2 ^ 16 + (bcN a b c d e + bcN a b c d e / 2 ^ 8 + (bcN a b c d e + bcN a b c d e / 2 ^ 8) / 2 ^ 16) / 2 ^ 32 = N
  have e1 : bcN a b c d e + bcN a b c d e / 2 ^ 8 = 4294967296 * e + 16777216 * (d + e) + 65536 * (c + d) + 256 * (b + c) + (a + b) := by unfold bcN; omega
  have hm : N % 2 ^ 7 = t := by
    rw [← hN, e1]
    generalize hv : 4294967296 * e + 16777216 * (d + e) + 65536 * (c + d) + 256 * (b + c) + (a + b) = V
    have e2 : V / 2 ^ 16 = 65536 * e + 256 * (d + e) + (c + d) := by omega
    rw [e2]
    generalize hw : V + (65536 * e + 256 * (d + e) + (c + d)) = W
    have e3 : W / 2 ^ 32 = e := by omega
    rw [e3]
    omega
  have : nI N &&& 127 = nI (N % 2 ^ 7) := by
    show nI N &&& nI (2 ^ 7 - 1) = _
    rw [← Nat.and_two_pow_sub_one_eq_mod]
    apply Int32.toBitVec_inj.mp
    rw [Int32.toBitVec_and]
    show BitVec.ofNat 32 _ &&& BitVec.ofNat 32 _ = BitVec.ofNat 32 _
    rw [BitVec.ofNat_and]
  rw [this, hm]
theorem bc_digs {n : Nat} (h : n < 2 ^ 40) : n = bcN (n % 256) (n / 256 % 256) (n / 256 / 256 % 256) (n / 256 / 256 / 256 % 256) (n / 256 / 256 / 256 / 256) := by unfold bcN; omega
theorem bc_ct (n : Nat) : fb_ct (fun q => (n % 256).testBit q) 8 = fb_ct (fun q => n.testBit q) 8 := fb_ct_cong (fun k hk => by
  show (n % 2 ^ 8).testBit k = _
  rw [Nat.testBit_mod_two_pow]; simp [hk])
theorem bc_ctd (n k : Nat) : fb_ct (fun q => (n / 256).testBit q) k = fb_ct (fun q => n.testBit (8 + q)) k := fb_ct_cong (fun j _ => by
  show (n / 2 ^ 8).testBit j = _
  rw [Nat.testBit_div_two_pow, Nat.add_comm])
theorem bc_step (n k : Nat) : fb_ct (fun q => n.testBit q) (8 + k) = fb_ct (fun q => (n % 256).testBit q) 8 + fb_ct (fun q => (n / 256).testBit q) k := by
  rw [fb_ct_split, bc_ct, bc_ctd]
theorem am_bc_lN {n : Nat} (h : n < 2 ^ 40) : am_bc (lN n) = nI (fb_ct (fun q => n.testBit q) 40) := by
  have e : fb_ct (fun q => n.testBit q) 40 = bc_s3 (n % 256) + bc_s3 (n / 256 % 256) + bc_s3 (n / 256 / 256 % 256) + bc_s3 (n / 256 / 256 / 256 % 256) + bc_s3 (n / 256 / 256 / 256 / 256) := by
    rw [(bc_byte _ (by omega : n % 256 < 256)).1, (bc_byte _ (by omega : n / 256 % 256 < 256)).1, (bc_byte _ (by omega : n / 256 / 256 % 256 < 256)).1, (bc_byte _ (by omega : n / 256 / 256 / 256 % 256 < 256)).1, (bc_byte _ (by omega : n / 256 / 256 / 256 / 256 < 256)).1]
    rw [show 40 = 8 + 32 from rfl, bc_step, show 32 = 8 + 24 from rfl, bc_step, show 24 = 8 + 16 from rfl, bc_step, show 16 = 8 + 8 from rfl, bc_step]
    omega
  rw [e, ← bc_all (by omega) (by omega) (by omega) (by omega) (by omega), ← bc_digs h]
theorem abr_n {w : Int64} {p : Nat → Bool} (h : abr w p) : ∃ n, n < 2 ^ 36 ∧ w = lN n ∧ ∀ q, q < 36 → n.testBit q = p q := by
  obtain ⟨n, hn, rfl⟩ := wb_of w
  have hb : ∀ q, q < 64 → n.testBit q = (decide (q < 36) && p q) := fun q hq => by
    have := h q
    rw [ab_lN] at this
    simpa [hq] using this
  refine ⟨n, ?_, rfl, fun q hq => by rw [hb q (by omega)]; simp [hq]⟩
  refine Nat.lt_pow_two_of_testBit _ (fun i hi => ?_)
  by_cases h64 : i < 64
  · rw [hb i h64]
    have : ¬ i < 36 := by omega
    simp [this]
  · exact Nat.testBit_lt_two_pow (Nat.lt_of_lt_of_le hn (Nat.pow_le_pow_right (by decide) (by omega)))
theorem abr.bc {w : Int64} {p : Nat → Bool} (h : abr w p) : am_bc w = nI (fb_ct p 36) := by
  obtain ⟨n, hn, rfl, hb⟩ := abr_n h
  rw [am_bc_lN (Nat.lt_trans hn (by decide)), show 40 = 36 + 4 from rfl, fb_ct_split, fb_ct_cong hb]
  have : fb_ct (fun k => n.testBit (36 + k)) 4 = 0 := fb_ct_zero.mpr (fun k _ => Nat.testBit_lt_two_pow (Nat.lt_of_lt_of_le hn (Nat.pow_le_pow_right (by decide) (by omega))))
  rw [this, Nat.add_zero]
