theorem am_byt_1000 : am_byt 1000 = [] := by decide +kernel
theorem EL_1000 (cb c : Int32) (hc : ∀ b : Nat, b < 128 → ((nI b = cb) ↔ (nI b = c))) (x : am_X) : L_J1_indexOfChar_1100_7 10 0 cb 0 x = some (am_idx c (am_byt 1000) 0, x) := by
  rw [am_byt_1000]
  rw [L_J1_indexOfChar_1100_7, if_pos (by decide)]
  rfl
theorem EG_len_1000 (x : am_X) : G_J0_length_1000 x = some (0, x) := by
  unfold G_J0_length_1000
  rw [show G_J0_coder_1000 x = some (0, x) from rfl]
  rfl
theorem EG_indexOf_1000 (c : Int32) (x : am_X) : G_J0_indexOf_1000 c x = some (am_idx c (am_byt 1000) 0, x) := by
  unfold G_J0_indexOf_1000 G_J0_indexOf2_1000
  rw [show G_J0_isLatin1_1000 x = some (1, x) from rfl]
  dsimp only
  rw [if_neg (by decide), EG_len_1000]
  dsimp only
  unfold G_J1_indexOf_1100
  by_cases h0 : c < 0
  · rw [am_ce0 c x (Or.inl h0), am_idx_out c (Or.inl h0) _ _ (by rw [am_byt_1000]; decide)]
    rfl
  by_cases h1 : (255 : Int32) < c
  · rw [am_ce0 c x (Or.inr h1), am_idx_out c (Or.inr h1) _ _ (by rw [am_byt_1000]; decide)]
    rfl
  rw [am_ce1 c x h0 h1]
  dsimp only
  rw [if_neg (by decide), if_neg (show ¬ (0 : Int32) < 0 by decide)]
  rfl
theorem am_byt_1001 : am_byt 1001 = [75, 68, 68, 59] := by decide +kernel
theorem EL_1001 (cb c : Int32) (hc : ∀ b : Nat, b < 128 → ((nI b = cb) ↔ (nI b = c))) (x : am_X) : L_J1_indexOfChar_1101_7 10 4 cb 0 x = some (am_idx c (am_byt 1001) 0, x) := by
  rw [am_byt_1001]
  rw [L_J1_indexOfChar_1101_7, if_neg (by decide), if_pos (by decide), show am_bat 1101 0 = nI 75 from by decide +kernel, am_idx]
  by_cases h0 : nI 75 = c
  · rw [if_pos ((hc 75 (by decide)).mpr h0), if_pos h0]; rfl
  rw [if_neg (fun q => h0 ((hc 75 (by decide)).mp q)), if_neg h0, show (0 : Int32) + 1 = nI 1 from by decide]
  rw [L_J1_indexOfChar_1101_7, if_neg (by decide), if_pos (by decide), show am_bat 1101 (nI 1) = nI 68 from by decide +kernel, am_idx]
  by_cases h1 : nI 68 = c
  · rw [if_pos ((hc 68 (by decide)).mpr h1), if_pos h1]
  rw [if_neg (fun q => h1 ((hc 68 (by decide)).mp q)), if_neg h1, show (nI 1 : Int32) + 1 = nI 2 from by decide]
  rw [L_J1_indexOfChar_1101_7, if_neg (by decide), if_pos (by decide), show am_bat 1101 (nI 2) = nI 68 from by decide +kernel, am_idx]
  by_cases h2 : nI 68 = c
  · rw [if_pos ((hc 68 (by decide)).mpr h2), if_pos h2]
  rw [if_neg (fun q => h2 ((hc 68 (by decide)).mp q)), if_neg h2, show (nI 2 : Int32) + 1 = nI 3 from by decide]
  rw [L_J1_indexOfChar_1101_7, if_neg (by decide), if_pos (by decide), show am_bat 1101 (nI 3) = nI 59 from by decide +kernel, am_idx]
  by_cases h3 : nI 59 = c
  · rw [if_pos ((hc 59 (by decide)).mpr h3), if_pos h3]
  rw [if_neg (fun q => h3 ((hc 59 (by decide)).mp q)), if_neg h3, show (nI 3 : Int32) + 1 = nI 4 from by decide]
  rw [L_J1_indexOfChar_1101_7, if_pos (by decide)]
  rfl
theorem EG_len_1001 (x : am_X) : G_J0_length_1001 x = some (4, x) := by
  unfold G_J0_length_1001
  rw [show G_J0_coder_1001 x = some (0, x) from rfl]
  rfl
theorem EG_indexOf_1001 (c : Int32) (x : am_X) : G_J0_indexOf_1001 c x = some (am_idx c (am_byt 1001) 0, x) := by
  unfold G_J0_indexOf_1001 G_J0_indexOf2_1001
  rw [show G_J0_isLatin1_1001 x = some (1, x) from rfl]
  dsimp only
  rw [if_neg (by decide), EG_len_1001]
  dsimp only
  unfold G_J1_indexOf_1101
  by_cases h0 : c < 0
  · rw [am_ce0 c x (Or.inl h0), am_idx_out c (Or.inl h0) _ _ (by rw [am_byt_1001]; decide)]
    rfl
  by_cases h1 : (255 : Int32) < c
  · rw [am_ce0 c x (Or.inr h1), am_idx_out c (Or.inr h1) _ _ (by rw [am_byt_1001]; decide)]
    rfl
  rw [am_ce1 c x h0 h1]
  dsimp only
  rw [if_neg (by decide), if_neg (show ¬ (0 : Int32) < 0 by decide), if_neg (show ¬ (4 : Int32) < 4 by decide), if_pos (show (0 : Int32) < 4 by decide)]
  unfold G_J1_indexOfChar_1101
  rw [EL_1001 _ c (fun b hb => am_i8 hb c h0 h1)]
theorem EG_charAt_1001 (c : Int32) (hc : 0 ≤ c.toInt ∧ c.toInt < ((am_byt 1001).length : Int)) (x : am_X) : G_J0_charAt_1001 c x = some (am_chr 1001 c, x) := by
  obtain ⟨h1, h2⟩ := am_nIof hc am_byt_len
  have hl : (am_byt 1001).length = 4 := by rw [am_byt_1001]; rfl
  rw [hl] at hc h2
  unfold G_J0_charAt_1001
  rw [show G_J0_isLatin1_1001 x = some (1, x) from rfl]
  dsimp only
  rw [if_neg (by decide)]
  unfold G_J1_charAt_1101
  rw [am_cki c 4 x ⟨hc.1, by simpa using hc.2⟩]
  dsimp only
  rw [if_pos ⟨hc.1, by simpa using hc.2⟩]
  have : ∀ j : Nat, j < 4 → narrow .char (.int ((((am_bat 1101 (nI j)) &&& 255).toUInt32 % 65536).toInt32)) = .int ((((am_bat 1101 (nI j)) &&& 255).toUInt32 % 65536).toInt32) ∧ (((am_bat 1101 (nI j)) &&& 255).toUInt32 % 65536).toInt32 = am_chr 1001 (nI j) := by decide +kernel
  rw [h1]
  obtain ⟨p1, p2⟩ := this _ h2
  rw [if_pos p1]
  dsimp only
  rw [if_pos p1, p2]
theorem am_byt_1002 : am_byt 1002 = [75, 68, 68, 68, 68, 59] := by decide +kernel
theorem EL_1002 (cb c : Int32) (hc : ∀ b : Nat, b < 128 → ((nI b = cb) ↔ (nI b = c))) (x : am_X) : L_J1_indexOfChar_1102_7 10 6 cb 0 x = some (am_idx c (am_byt 1002) 0, x) := by
  rw [am_byt_1002]
  rw [L_J1_indexOfChar_1102_7, if_neg (by decide), if_pos (by decide), show am_bat 1102 0 = nI 75 from by decide +kernel, am_idx]
  by_cases h0 : nI 75 = c
  · rw [if_pos ((hc 75 (by decide)).mpr h0), if_pos h0]; rfl
  rw [if_neg (fun q => h0 ((hc 75 (by decide)).mp q)), if_neg h0, show (0 : Int32) + 1 = nI 1 from by decide]
  rw [L_J1_indexOfChar_1102_7, if_neg (by decide), if_pos (by decide), show am_bat 1102 (nI 1) = nI 68 from by decide +kernel, am_idx]
  by_cases h1 : nI 68 = c
  · rw [if_pos ((hc 68 (by decide)).mpr h1), if_pos h1]
  rw [if_neg (fun q => h1 ((hc 68 (by decide)).mp q)), if_neg h1, show (nI 1 : Int32) + 1 = nI 2 from by decide]
  rw [L_J1_indexOfChar_1102_7, if_neg (by decide), if_pos (by decide), show am_bat 1102 (nI 2) = nI 68 from by decide +kernel, am_idx]
  by_cases h2 : nI 68 = c
  · rw [if_pos ((hc 68 (by decide)).mpr h2), if_pos h2]
  rw [if_neg (fun q => h2 ((hc 68 (by decide)).mp q)), if_neg h2, show (nI 2 : Int32) + 1 = nI 3 from by decide]
  rw [L_J1_indexOfChar_1102_7, if_neg (by decide), if_pos (by decide), show am_bat 1102 (nI 3) = nI 68 from by decide +kernel, am_idx]
  by_cases h3 : nI 68 = c
  · rw [if_pos ((hc 68 (by decide)).mpr h3), if_pos h3]
  rw [if_neg (fun q => h3 ((hc 68 (by decide)).mp q)), if_neg h3, show (nI 3 : Int32) + 1 = nI 4 from by decide]
  rw [L_J1_indexOfChar_1102_7, if_neg (by decide), if_pos (by decide), show am_bat 1102 (nI 4) = nI 68 from by decide +kernel, am_idx]
  by_cases h4 : nI 68 = c
  · rw [if_pos ((hc 68 (by decide)).mpr h4), if_pos h4]
  rw [if_neg (fun q => h4 ((hc 68 (by decide)).mp q)), if_neg h4, show (nI 4 : Int32) + 1 = nI 5 from by decide]
  rw [L_J1_indexOfChar_1102_7, if_neg (by decide), if_pos (by decide), show am_bat 1102 (nI 5) = nI 59 from by decide +kernel, am_idx]
  by_cases h5 : nI 59 = c
  · rw [if_pos ((hc 59 (by decide)).mpr h5), if_pos h5]
  rw [if_neg (fun q => h5 ((hc 59 (by decide)).mp q)), if_neg h5, show (nI 5 : Int32) + 1 = nI 6 from by decide]
  rw [L_J1_indexOfChar_1102_7, if_pos (by decide)]
  rfl
theorem EG_len_1002 (x : am_X) : G_J0_length_1002 x = some (6, x) := by
  unfold G_J0_length_1002
  rw [show G_J0_coder_1002 x = some (0, x) from rfl]
  rfl
theorem EG_indexOf_1002 (c : Int32) (x : am_X) : G_J0_indexOf_1002 c x = some (am_idx c (am_byt 1002) 0, x) := by
  unfold G_J0_indexOf_1002 G_J0_indexOf2_1002
  rw [show G_J0_isLatin1_1002 x = some (1, x) from rfl]
  dsimp only
  rw [if_neg (by decide), EG_len_1002]
  dsimp only
  unfold G_J1_indexOf_1102
  by_cases h0 : c < 0
  · rw [am_ce0 c x (Or.inl h0), am_idx_out c (Or.inl h0) _ _ (by rw [am_byt_1002]; decide)]
    rfl
  by_cases h1 : (255 : Int32) < c
  · rw [am_ce0 c x (Or.inr h1), am_idx_out c (Or.inr h1) _ _ (by rw [am_byt_1002]; decide)]
    rfl
  rw [am_ce1 c x h0 h1]
  dsimp only
  rw [if_neg (by decide), if_neg (show ¬ (0 : Int32) < 0 by decide), if_neg (show ¬ (6 : Int32) < 6 by decide), if_pos (show (0 : Int32) < 6 by decide)]
  unfold G_J1_indexOfChar_1102
  rw [EL_1002 _ c (fun b hb => am_i8 hb c h0 h1)]
theorem EG_charAt_1002 (c : Int32) (hc : 0 ≤ c.toInt ∧ c.toInt < ((am_byt 1002).length : Int)) (x : am_X) : G_J0_charAt_1002 c x = some (am_chr 1002 c, x) := by
  obtain ⟨h1, h2⟩ := am_nIof hc am_byt_len
  have hl : (am_byt 1002).length = 6 := by rw [am_byt_1002]; rfl
  rw [hl] at hc h2
  unfold G_J0_charAt_1002
  rw [show G_J0_isLatin1_1002 x = some (1, x) from rfl]
  dsimp only
  rw [if_neg (by decide)]
  unfold G_J1_charAt_1102
  rw [am_cki c 6 x ⟨hc.1, by simpa using hc.2⟩]
  dsimp only
  rw [if_pos ⟨hc.1, by simpa using hc.2⟩]
  have : ∀ j : Nat, j < 6 → narrow .char (.int ((((am_bat 1102 (nI j)) &&& 255).toUInt32 % 65536).toInt32)) = .int ((((am_bat 1102 (nI j)) &&& 255).toUInt32 % 65536).toInt32) ∧ (((am_bat 1102 (nI j)) &&& 255).toUInt32 % 65536).toInt32 = am_chr 1002 (nI j) := by decide +kernel
  rw [h1]
  obtain ⟨p1, p2⟩ := this _ h2
  rw [if_pos p1]
  dsimp only
  rw [if_pos p1, p2]
theorem am_byt_1003 : am_byt 1003 = [68, 68, 59] := by decide +kernel
theorem EL_1003 (cb c : Int32) (hc : ∀ b : Nat, b < 128 → ((nI b = cb) ↔ (nI b = c))) (x : am_X) : L_J1_indexOfChar_1103_7 10 3 cb 0 x = some (am_idx c (am_byt 1003) 0, x) := by
  rw [am_byt_1003]
  rw [L_J1_indexOfChar_1103_7, if_neg (by decide), if_pos (by decide), show am_bat 1103 0 = nI 68 from by decide +kernel, am_idx]
  by_cases h0 : nI 68 = c
  · rw [if_pos ((hc 68 (by decide)).mpr h0), if_pos h0]; rfl
  rw [if_neg (fun q => h0 ((hc 68 (by decide)).mp q)), if_neg h0, show (0 : Int32) + 1 = nI 1 from by decide]
  rw [L_J1_indexOfChar_1103_7, if_neg (by decide), if_pos (by decide), show am_bat 1103 (nI 1) = nI 68 from by decide +kernel, am_idx]
  by_cases h1 : nI 68 = c
  · rw [if_pos ((hc 68 (by decide)).mpr h1), if_pos h1]
  rw [if_neg (fun q => h1 ((hc 68 (by decide)).mp q)), if_neg h1, show (nI 1 : Int32) + 1 = nI 2 from by decide]
  rw [L_J1_indexOfChar_1103_7, if_neg (by decide), if_pos (by decide), show am_bat 1103 (nI 2) = nI 59 from by decide +kernel, am_idx]
  by_cases h2 : nI 59 = c
  · rw [if_pos ((hc 59 (by decide)).mpr h2), if_pos h2]
  rw [if_neg (fun q => h2 ((hc 59 (by decide)).mp q)), if_neg h2, show (nI 2 : Int32) + 1 = nI 3 from by decide]
  rw [L_J1_indexOfChar_1103_7, if_pos (by decide)]
  rfl
theorem EG_len_1003 (x : am_X) : G_J0_length_1003 x = some (3, x) := by
  unfold G_J0_length_1003
  rw [show G_J0_coder_1003 x = some (0, x) from rfl]
  rfl
theorem EG_indexOf_1003 (c : Int32) (x : am_X) : G_J0_indexOf_1003 c x = some (am_idx c (am_byt 1003) 0, x) := by
  unfold G_J0_indexOf_1003 G_J0_indexOf2_1003
  rw [show G_J0_isLatin1_1003 x = some (1, x) from rfl]
  dsimp only
  rw [if_neg (by decide), EG_len_1003]
  dsimp only
  unfold G_J1_indexOf_1103
  by_cases h0 : c < 0
  · rw [am_ce0 c x (Or.inl h0), am_idx_out c (Or.inl h0) _ _ (by rw [am_byt_1003]; decide)]
    rfl
  by_cases h1 : (255 : Int32) < c
  · rw [am_ce0 c x (Or.inr h1), am_idx_out c (Or.inr h1) _ _ (by rw [am_byt_1003]; decide)]
    rfl
  rw [am_ce1 c x h0 h1]
  dsimp only
  rw [if_neg (by decide), if_neg (show ¬ (0 : Int32) < 0 by decide), if_neg (show ¬ (3 : Int32) < 3 by decide), if_pos (show (0 : Int32) < 3 by decide)]
  unfold G_J1_indexOfChar_1103
  rw [EL_1003 _ c (fun b hb => am_i8 hb c h0 h1)]
theorem EG_charAt_1003 (c : Int32) (hc : 0 ≤ c.toInt ∧ c.toInt < ((am_byt 1003).length : Int)) (x : am_X) : G_J0_charAt_1003 c x = some (am_chr 1003 c, x) := by
  obtain ⟨h1, h2⟩ := am_nIof hc am_byt_len
  have hl : (am_byt 1003).length = 3 := by rw [am_byt_1003]; rfl
  rw [hl] at hc h2
  unfold G_J0_charAt_1003
  rw [show G_J0_isLatin1_1003 x = some (1, x) from rfl]
  dsimp only
  rw [if_neg (by decide)]
  unfold G_J1_charAt_1103
  rw [am_cki c 3 x ⟨hc.1, by simpa using hc.2⟩]
  dsimp only
  rw [if_pos ⟨hc.1, by simpa using hc.2⟩]
  have : ∀ j : Nat, j < 3 → narrow .char (.int ((((am_bat 1103 (nI j)) &&& 255).toUInt32 % 65536).toInt32)) = .int ((((am_bat 1103 (nI j)) &&& 255).toUInt32 % 65536).toInt32) ∧ (((am_bat 1103 (nI j)) &&& 255).toUInt32 % 65536).toInt32 = am_chr 1003 (nI j) := by decide +kernel
  rw [h1]
  obtain ⟨p1, p2⟩ := this _ h2
  rw [if_pos p1]
  dsimp only
  rw [if_pos p1, p2]
theorem am_byt_1004 : am_byt 1004 = [68, 59] := by decide +kernel
theorem EL_1004 (cb c : Int32) (hc : ∀ b : Nat, b < 128 → ((nI b = cb) ↔ (nI b = c))) (x : am_X) : L_J1_indexOfChar_1104_7 10 2 cb 0 x = some (am_idx c (am_byt 1004) 0, x) := by
  rw [am_byt_1004]
  rw [L_J1_indexOfChar_1104_7, if_neg (by decide), if_pos (by decide), show am_bat 1104 0 = nI 68 from by decide +kernel, am_idx]
  by_cases h0 : nI 68 = c
  · rw [if_pos ((hc 68 (by decide)).mpr h0), if_pos h0]; rfl
  rw [if_neg (fun q => h0 ((hc 68 (by decide)).mp q)), if_neg h0, show (0 : Int32) + 1 = nI 1 from by decide]
  rw [L_J1_indexOfChar_1104_7, if_neg (by decide), if_pos (by decide), show am_bat 1104 (nI 1) = nI 59 from by decide +kernel, am_idx]
  by_cases h1 : nI 59 = c
  · rw [if_pos ((hc 59 (by decide)).mpr h1), if_pos h1]
  rw [if_neg (fun q => h1 ((hc 59 (by decide)).mp q)), if_neg h1, show (nI 1 : Int32) + 1 = nI 2 from by decide]
  rw [L_J1_indexOfChar_1104_7, if_pos (by decide)]
  rfl
theorem EG_len_1004 (x : am_X) : G_J0_length_1004 x = some (2, x) := by
  unfold G_J0_length_1004
  rw [show G_J0_coder_1004 x = some (0, x) from rfl]
  rfl
theorem EG_indexOf_1004 (c : Int32) (x : am_X) : G_J0_indexOf_1004 c x = some (am_idx c (am_byt 1004) 0, x) := by
  unfold G_J0_indexOf_1004 G_J0_indexOf2_1004
  rw [show G_J0_isLatin1_1004 x = some (1, x) from rfl]
  dsimp only
  rw [if_neg (by decide), EG_len_1004]
  dsimp only
  unfold G_J1_indexOf_1104
  by_cases h0 : c < 0
  · rw [am_ce0 c x (Or.inl h0), am_idx_out c (Or.inl h0) _ _ (by rw [am_byt_1004]; decide)]
    rfl
  by_cases h1 : (255 : Int32) < c
  · rw [am_ce0 c x (Or.inr h1), am_idx_out c (Or.inr h1) _ _ (by rw [am_byt_1004]; decide)]
    rfl
  rw [am_ce1 c x h0 h1]
  dsimp only
  rw [if_neg (by decide), if_neg (show ¬ (0 : Int32) < 0 by decide), if_neg (show ¬ (2 : Int32) < 2 by decide), if_pos (show (0 : Int32) < 2 by decide)]
  unfold G_J1_indexOfChar_1104
  rw [EL_1004 _ c (fun b hb => am_i8 hb c h0 h1)]
theorem EG_charAt_1004 (c : Int32) (hc : 0 ≤ c.toInt ∧ c.toInt < ((am_byt 1004).length : Int)) (x : am_X) : G_J0_charAt_1004 c x = some (am_chr 1004 c, x) := by
  obtain ⟨h1, h2⟩ := am_nIof hc am_byt_len
  have hl : (am_byt 1004).length = 2 := by rw [am_byt_1004]; rfl
  rw [hl] at hc h2
  unfold G_J0_charAt_1004
  rw [show G_J0_isLatin1_1004 x = some (1, x) from rfl]
  dsimp only
  rw [if_neg (by decide)]
  unfold G_J1_charAt_1104
  rw [am_cki c 2 x ⟨hc.1, by simpa using hc.2⟩]
  dsimp only
  rw [if_pos ⟨hc.1, by simpa using hc.2⟩]
  have : ∀ j : Nat, j < 2 → narrow .char (.int ((((am_bat 1104 (nI j)) &&& 255).toUInt32 % 65536).toInt32)) = .int ((((am_bat 1104 (nI j)) &&& 255).toUInt32 % 65536).toInt32) ∧ (((am_bat 1104 (nI j)) &&& 255).toUInt32 % 65536).toInt32 = am_chr 1004 (nI j) := by decide +kernel
  rw [h1]
  obtain ⟨p1, p2⟩ := this _ h2
  rw [if_pos p1]
  dsimp only
  rw [if_pos p1, p2]
theorem am_byt_1005 : am_byt 1005 = [83, 68, 68, 59] := by decide +kernel
theorem EL_1005 (cb c : Int32) (hc : ∀ b : Nat, b < 128 → ((nI b = cb) ↔ (nI b = c))) (x : am_X) : L_J1_indexOfChar_1105_7 10 4 cb 0 x = some (am_idx c (am_byt 1005) 0, x) := by
  rw [am_byt_1005]
  rw [L_J1_indexOfChar_1105_7, if_neg (by decide), if_pos (by decide), show am_bat 1105 0 = nI 83 from by decide +kernel, am_idx]
  by_cases h0 : nI 83 = c
  · rw [if_pos ((hc 83 (by decide)).mpr h0), if_pos h0]; rfl
  rw [if_neg (fun q => h0 ((hc 83 (by decide)).mp q)), if_neg h0, show (0 : Int32) + 1 = nI 1 from by decide]
  rw [L_J1_indexOfChar_1105_7, if_neg (by decide), if_pos (by decide), show am_bat 1105 (nI 1) = nI 68 from by decide +kernel, am_idx]
  by_cases h1 : nI 68 = c
  · rw [if_pos ((hc 68 (by decide)).mpr h1), if_pos h1]
  rw [if_neg (fun q => h1 ((hc 68 (by decide)).mp q)), if_neg h1, show (nI 1 : Int32) + 1 = nI 2 from by decide]
  rw [L_J1_indexOfChar_1105_7, if_neg (by decide), if_pos (by decide), show am_bat 1105 (nI 2) = nI 68 from by decide +kernel, am_idx]
  by_cases h2 : nI 68 = c
  · rw [if_pos ((hc 68 (by decide)).mpr h2), if_pos h2]
  rw [if_neg (fun q => h2 ((hc 68 (by decide)).mp q)), if_neg h2, show (nI 2 : Int32) + 1 = nI 3 from by decide]
  rw [L_J1_indexOfChar_1105_7, if_neg (by decide), if_pos (by decide), show am_bat 1105 (nI 3) = nI 59 from by decide +kernel, am_idx]
  by_cases h3 : nI 59 = c
  · rw [if_pos ((hc 59 (by decide)).mpr h3), if_pos h3]
  rw [if_neg (fun q => h3 ((hc 59 (by decide)).mp q)), if_neg h3, show (nI 3 : Int32) + 1 = nI 4 from by decide]
  rw [L_J1_indexOfChar_1105_7, if_pos (by decide)]
  rfl
theorem EG_len_1005 (x : am_X) : G_J0_length_1005 x = some (4, x) := by
  unfold G_J0_length_1005
  rw [show G_J0_coder_1005 x = some (0, x) from rfl]
  rfl
theorem EG_indexOf_1005 (c : Int32) (x : am_X) : G_J0_indexOf_1005 c x = some (am_idx c (am_byt 1005) 0, x) := by
  unfold G_J0_indexOf_1005 G_J0_indexOf2_1005
  rw [show G_J0_isLatin1_1005 x = some (1, x) from rfl]
  dsimp only
  rw [if_neg (by decide), EG_len_1005]
  dsimp only
  unfold G_J1_indexOf_1105
  by_cases h0 : c < 0
  · rw [am_ce0 c x (Or.inl h0), am_idx_out c (Or.inl h0) _ _ (by rw [am_byt_1005]; decide)]
    rfl
  by_cases h1 : (255 : Int32) < c
  · rw [am_ce0 c x (Or.inr h1), am_idx_out c (Or.inr h1) _ _ (by rw [am_byt_1005]; decide)]
    rfl
  rw [am_ce1 c x h0 h1]
  dsimp only
  rw [if_neg (by decide), if_neg (show ¬ (0 : Int32) < 0 by decide), if_neg (show ¬ (4 : Int32) < 4 by decide), if_pos (show (0 : Int32) < 4 by decide)]
  unfold G_J1_indexOfChar_1105
  rw [EL_1005 _ c (fun b hb => am_i8 hb c h0 h1)]
theorem EG_charAt_1005 (c : Int32) (hc : 0 ≤ c.toInt ∧ c.toInt < ((am_byt 1005).length : Int)) (x : am_X) : G_J0_charAt_1005 c x = some (am_chr 1005 c, x) := by
  obtain ⟨h1, h2⟩ := am_nIof hc am_byt_len
  have hl : (am_byt 1005).length = 4 := by rw [am_byt_1005]; rfl
  rw [hl] at hc h2
  unfold G_J0_charAt_1005
  rw [show G_J0_isLatin1_1005 x = some (1, x) from rfl]
  dsimp only
  rw [if_neg (by decide)]
  unfold G_J1_charAt_1105
  rw [am_cki c 4 x ⟨hc.1, by simpa using hc.2⟩]
  dsimp only
  rw [if_pos ⟨hc.1, by simpa using hc.2⟩]
  have : ∀ j : Nat, j < 4 → narrow .char (.int ((((am_bat 1105 (nI j)) &&& 255).toUInt32 % 65536).toInt32)) = .int ((((am_bat 1105 (nI j)) &&& 255).toUInt32 % 65536).toInt32) ∧ (((am_bat 1105 (nI j)) &&& 255).toUInt32 % 65536).toInt32 = am_chr 1005 (nI j) := by decide +kernel
  rw [h1]
  obtain ⟨p1, p2⟩ := this _ h2
  rw [if_pos p1]
  dsimp only
  rw [if_pos p1, p2]
theorem am_byt_1006 : am_byt 1006 = [108, 104, 103, 115, 98, 114] := by decide +kernel
theorem EL_1006 (cb c : Int32) (hc : ∀ b : Nat, b < 128 → ((nI b = cb) ↔ (nI b = c))) (x : am_X) : L_J1_indexOfChar_1106_7 10 6 cb 0 x = some (am_idx c (am_byt 1006) 0, x) := by
  rw [am_byt_1006]
  rw [L_J1_indexOfChar_1106_7, if_neg (by decide), if_pos (by decide), show am_bat 1106 0 = nI 108 from by decide +kernel, am_idx]
  by_cases h0 : nI 108 = c
  · rw [if_pos ((hc 108 (by decide)).mpr h0), if_pos h0]; rfl
  rw [if_neg (fun q => h0 ((hc 108 (by decide)).mp q)), if_neg h0, show (0 : Int32) + 1 = nI 1 from by decide]
  rw [L_J1_indexOfChar_1106_7, if_neg (by decide), if_pos (by decide), show am_bat 1106 (nI 1) = nI 104 from by decide +kernel, am_idx]
  by_cases h1 : nI 104 = c
  · rw [if_pos ((hc 104 (by decide)).mpr h1), if_pos h1]
  rw [if_neg (fun q => h1 ((hc 104 (by decide)).mp q)), if_neg h1, show (nI 1 : Int32) + 1 = nI 2 from by decide]
  rw [L_J1_indexOfChar_1106_7, if_neg (by decide), if_pos (by decide), show am_bat 1106 (nI 2) = nI 103 from by decide +kernel, am_idx]
  by_cases h2 : nI 103 = c
  · rw [if_pos ((hc 103 (by decide)).mpr h2), if_pos h2]
  rw [if_neg (fun q => h2 ((hc 103 (by decide)).mp q)), if_neg h2, show (nI 2 : Int32) + 1 = nI 3 from by decide]
  rw [L_J1_indexOfChar_1106_7, if_neg (by decide), if_pos (by decide), show am_bat 1106 (nI 3) = nI 115 from by decide +kernel, am_idx]
  by_cases h3 : nI 115 = c
  · rw [if_pos ((hc 115 (by decide)).mpr h3), if_pos h3]
  rw [if_neg (fun q => h3 ((hc 115 (by decide)).mp q)), if_neg h3, show (nI 3 : Int32) + 1 = nI 4 from by decide]
  rw [L_J1_indexOfChar_1106_7, if_neg (by decide), if_pos (by decide), show am_bat 1106 (nI 4) = nI 98 from by decide +kernel, am_idx]
  by_cases h4 : nI 98 = c
  · rw [if_pos ((hc 98 (by decide)).mpr h4), if_pos h4]
  rw [if_neg (fun q => h4 ((hc 98 (by decide)).mp q)), if_neg h4, show (nI 4 : Int32) + 1 = nI 5 from by decide]
  rw [L_J1_indexOfChar_1106_7, if_neg (by decide), if_pos (by decide), show am_bat 1106 (nI 5) = nI 114 from by decide +kernel, am_idx]
  by_cases h5 : nI 114 = c
  · rw [if_pos ((hc 114 (by decide)).mpr h5), if_pos h5]
  rw [if_neg (fun q => h5 ((hc 114 (by decide)).mp q)), if_neg h5, show (nI 5 : Int32) + 1 = nI 6 from by decide]
  rw [L_J1_indexOfChar_1106_7, if_pos (by decide)]
  rfl
theorem EG_len_1006 (x : am_X) : G_J0_length_1006 x = some (6, x) := by
  unfold G_J0_length_1006
  rw [show G_J0_coder_1006 x = some (0, x) from rfl]
  rfl
theorem EG_indexOf_1006 (c : Int32) (x : am_X) : G_J0_indexOf_1006 c x = some (am_idx c (am_byt 1006) 0, x) := by
  unfold G_J0_indexOf_1006 G_J0_indexOf2_1006
  rw [show G_J0_isLatin1_1006 x = some (1, x) from rfl]
  dsimp only
  rw [if_neg (by decide), EG_len_1006]
  dsimp only
  unfold G_J1_indexOf_1106
  by_cases h0 : c < 0
  · rw [am_ce0 c x (Or.inl h0), am_idx_out c (Or.inl h0) _ _ (by rw [am_byt_1006]; decide)]
    rfl
  by_cases h1 : (255 : Int32) < c
  · rw [am_ce0 c x (Or.inr h1), am_idx_out c (Or.inr h1) _ _ (by rw [am_byt_1006]; decide)]
    rfl
  rw [am_ce1 c x h0 h1]
  dsimp only
  rw [if_neg (by decide), if_neg (show ¬ (0 : Int32) < 0 by decide), if_neg (show ¬ (6 : Int32) < 6 by decide), if_pos (show (0 : Int32) < 6 by decide)]
  unfold G_J1_indexOfChar_1106
  rw [EL_1006 _ c (fun b hb => am_i8 hb c h0 h1)]
theorem EG_charAt_1006 (c : Int32) (hc : 0 ≤ c.toInt ∧ c.toInt < ((am_byt 1006).length : Int)) (x : am_X) : G_J0_charAt_1006 c x = some (am_chr 1006 c, x) := by
  obtain ⟨h1, h2⟩ := am_nIof hc am_byt_len
  have hl : (am_byt 1006).length = 6 := by rw [am_byt_1006]; rfl
  rw [hl] at hc h2
  unfold G_J0_charAt_1006
  rw [show G_J0_isLatin1_1006 x = some (1, x) from rfl]
  dsimp only
  rw [if_neg (by decide)]
  unfold G_J1_charAt_1106
  rw [am_cki c 6 x ⟨hc.1, by simpa using hc.2⟩]
  dsimp only
  rw [if_pos ⟨hc.1, by simpa using hc.2⟩]
  have : ∀ j : Nat, j < 6 → narrow .char (.int ((((am_bat 1106 (nI j)) &&& 255).toUInt32 % 65536).toInt32)) = .int ((((am_bat 1106 (nI j)) &&& 255).toUInt32 % 65536).toInt32) ∧ (((am_bat 1106 (nI j)) &&& 255).toUInt32 % 65536).toInt32 = am_chr 1006 (nI j) := by decide +kernel
  rw [h1]
  obtain ⟨p1, p2⟩ := this _ h2
  rw [if_pos p1]
  dsimp only
  rw [if_pos p1, p2]
theorem am_byt_1007 : am_byt 1007 = [102, 110, 109, 101, 97] := by decide +kernel
theorem EL_1007 (cb c : Int32) (hc : ∀ b : Nat, b < 128 → ((nI b = cb) ↔ (nI b = c))) (x : am_X) : L_J1_indexOfChar_1107_7 10 5 cb 0 x = some (am_idx c (am_byt 1007) 0, x) := by
  rw [am_byt_1007]
  rw [L_J1_indexOfChar_1107_7, if_neg (by decide), if_pos (by decide), show am_bat 1107 0 = nI 102 from by decide +kernel, am_idx]
  by_cases h0 : nI 102 = c
  · rw [if_pos ((hc 102 (by decide)).mpr h0), if_pos h0]; rfl
  rw [if_neg (fun q => h0 ((hc 102 (by decide)).mp q)), if_neg h0, show (0 : Int32) + 1 = nI 1 from by decide]
  rw [L_J1_indexOfChar_1107_7, if_neg (by decide), if_pos (by decide), show am_bat 1107 (nI 1) = nI 110 from by decide +kernel, am_idx]
  by_cases h1 : nI 110 = c
  · rw [if_pos ((hc 110 (by decide)).mpr h1), if_pos h1]
  rw [if_neg (fun q => h1 ((hc 110 (by decide)).mp q)), if_neg h1, show (nI 1 : Int32) + 1 = nI 2 from by decide]
  rw [L_J1_indexOfChar_1107_7, if_neg (by decide), if_pos (by decide), show am_bat 1107 (nI 2) = nI 109 from by decide +kernel, am_idx]
  by_cases h2 : nI 109 = c
  · rw [if_pos ((hc 109 (by decide)).mpr h2), if_pos h2]
  rw [if_neg (fun q => h2 ((hc 109 (by decide)).mp q)), if_neg h2, show (nI 2 : Int32) + 1 = nI 3 from by decide]
  rw [L_J1_indexOfChar_1107_7, if_neg (by decide), if_pos (by decide), show am_bat 1107 (nI 3) = nI 101 from by decide +kernel, am_idx]
  by_cases h3 : nI 101 = c
  · rw [if_pos ((hc 101 (by decide)).mpr h3), if_pos h3]
  rw [if_neg (fun q => h3 ((hc 101 (by decide)).mp q)), if_neg h3, show (nI 3 : Int32) + 1 = nI 4 from by decide]
  rw [L_J1_indexOfChar_1107_7, if_neg (by decide), if_pos (by decide), show am_bat 1107 (nI 4) = nI 97 from by decide +kernel, am_idx]
  by_cases h4 : nI 97 = c
  · rw [if_pos ((hc 97 (by decide)).mpr h4), if_pos h4]
  rw [if_neg (fun q => h4 ((hc 97 (by decide)).mp q)), if_neg h4, show (nI 4 : Int32) + 1 = nI 5 from by decide]
  rw [L_J1_indexOfChar_1107_7, if_pos (by decide)]
  rfl
theorem EG_len_1007 (x : am_X) : G_J0_length_1007 x = some (5, x) := by
  unfold G_J0_length_1007
  rw [show G_J0_coder_1007 x = some (0, x) from rfl]
  rfl
theorem EG_indexOf_1007 (c : Int32) (x : am_X) : G_J0_indexOf_1007 c x = some (am_idx c (am_byt 1007) 0, x) := by
  unfold G_J0_indexOf_1007 G_J0_indexOf2_1007
  rw [show G_J0_isLatin1_1007 x = some (1, x) from rfl]
  dsimp only
  rw [if_neg (by decide), EG_len_1007]
  dsimp only
  unfold G_J1_indexOf_1107
  by_cases h0 : c < 0
  · rw [am_ce0 c x (Or.inl h0), am_idx_out c (Or.inl h0) _ _ (by rw [am_byt_1007]; decide)]
    rfl
  by_cases h1 : (255 : Int32) < c
  · rw [am_ce0 c x (Or.inr h1), am_idx_out c (Or.inr h1) _ _ (by rw [am_byt_1007]; decide)]
    rfl
  rw [am_ce1 c x h0 h1]
  dsimp only
  rw [if_neg (by decide), if_neg (show ¬ (0 : Int32) < 0 by decide), if_neg (show ¬ (5 : Int32) < 5 by decide), if_pos (show (0 : Int32) < 5 by decide)]
  unfold G_J1_indexOfChar_1107
  rw [EL_1007 _ c (fun b hb => am_i8 hb c h0 h1)]
theorem EG_charAt_1007 (c : Int32) (hc : 0 ≤ c.toInt ∧ c.toInt < ((am_byt 1007).length : Int)) (x : am_X) : G_J0_charAt_1007 c x = some (am_chr 1007 c, x) := by
  obtain ⟨h1, h2⟩ := am_nIof hc am_byt_len
  have hl : (am_byt 1007).length = 5 := by rw [am_byt_1007]; rfl
  rw [hl] at hc h2
  unfold G_J0_charAt_1007
  rw [show G_J0_isLatin1_1007 x = some (1, x) from rfl]
  dsimp only
  rw [if_neg (by decide)]
  unfold G_J1_charAt_1107
  rw [am_cki c 5 x ⟨hc.1, by simpa using hc.2⟩]
  dsimp only
  rw [if_pos ⟨hc.1, by simpa using hc.2⟩]
  have : ∀ j : Nat, j < 5 → narrow .char (.int ((((am_bat 1107 (nI j)) &&& 255).toUInt32 % 65536).toInt32)) = .int ((((am_bat 1107 (nI j)) &&& 255).toUInt32 % 65536).toInt32) ∧ (((am_bat 1107 (nI j)) &&& 255).toUInt32 % 65536).toInt32 = am_chr 1007 (nI j) := by decide +kernel
  rw [h1]
  obtain ⟨p1, p2⟩ := this _ h2
  rw [if_pos p1]
  dsimp only
  rw [if_pos p1, p2]
