/-! THE LAW -/
theorem qx_end {n i : Nat} (hn : n ≤ 1536) (hi : i ≤ 1000000) : (Int32.ofNat n - 3 < nI i) ↔ n < i + 3 := by
  have e : (Int32.ofNat n - 3).toInt = (n : Int) - 3 := pk_sub_toInt (a := n) (b := 3) (by omega) (by omega)
  rw [Int32.lt_iff_toInt_lt, e, nI_toInt (by omega)]
  omega
theorem q_law_loop (hop : qOP) (X : fj_X) (hX : X.1 ≤ 1536) : ∀ (r i fuel b : Nat) (C N : fj_N), X.1 ≤ i + 3 * r → i ≤ 2000 → r < fuel → b + 5000 * r ≤ 3000000 → qR (b, true) C N → qW C → ∃ M' : fj_M, dm_123_18 X fuel (nI i) (C, N) = some (1, M') := by
  intro r
  induction r with
  | zero =>
    intro i fuel b C N h1 hi hf hb hR hW
    obtain ⟨f, rfl⟩ : ∃ f, fuel = f + 1 := ⟨fuel - 1, by omega⟩
    have hend : Int32.ofNat X.1 - 3 < nI i := (qx_end hX (by omega)).mpr (by omega)
    refine ⟨(C, N), ?_⟩
    unfold dm_123_18
    rw [if_pos hend]
  | succ r ih =>
    intro i fuel b C N h1 hi hf hb hR hW
    obtain ⟨f, rfl⟩ : ∃ f, fuel = f + 1 := ⟨fuel - 1, by omega⟩
    by_cases hlt : X.1 < i + 3
    · have hend : Int32.ofNat X.1 - 3 < nI i := (qx_end hX (by omega)).mpr hlt
      refine ⟨(C, N), ?_⟩
      unfold dm_123_18
      rw [if_pos hend]
    have hend : ¬ Int32.ofNat X.1 - 3 < nI i := fun q => hlt ((qx_end hX (by omega)).mp q)
    have hi0 : i < X.1 := by omega
    have hi1 : i + 1 < X.1 := by omega
    have hi2 : i + 2 < X.1 := by omega
    have a1 : nI i + 1 = nI (i + 1) := nI_1 i
    have a2 : nI i + 2 = nI (i + 2) := nI_add i 2
    have a3 : nI i + 3 = nI (i + 3) := nI_add i 3
    unfold dm_123_18
    simp only [if_neg hend, a1, a2, qx_cl (j := i) (show i ≤ 1000000 by omega), qx_neg (n := i) (show i ≤ 100000000 by omega), Nat.not_le.mpr hi0, or_self, qx_cl (j := i + 1) (show i + 1 ≤ 1000000 by omega), qx_neg (n := i + 1) (show i + 1 ≤ 100000000 by omega), Nat.not_le.mpr hi1, qx_cl (j := i + 2) (show i + 2 ≤ 1000000 by omega), qx_neg (n := i + 2) (show i + 2 ≤ 100000000 by omega), Nat.not_le.mpr hi2, ↓reduceIte, dm_123_621, a3]
    by_cases h0 : X.2 i &&& 31 = 0
    · obtain ⟨v, C', N', e1, e2, hR', hW'⟩ := qp_poke (b, true) (X.2 (i + 1)) (X.2 (i + 2)) C N hR hW
      obtain ⟨M', hM⟩ := ih (i + 3) f (b + 5000) C' N' (by omega) (by omega) (by omega) (by omega) (qR_mono hR' (by omega)) hW'
      refine ⟨M', ?_⟩
      simp only [if_pos h0, e1, Option.bind_some, e2, ↓reduceIte, hM]
    rw [if_neg h0]
    by_cases h1 : X.2 i &&& 31 = 1
    · obtain ⟨v, C', N', e1, e2, hR', hW'⟩ := qp_code (b, true) (X.2 (i + 1)) C N hR hW
      obtain ⟨M', hM⟩ := ih (i + 3) f (b + 5000) C' N' (by omega) (by omega) (by omega) (by omega) (qR_mono hR' (by omega)) hW'
      refine ⟨M', ?_⟩
      simp only [if_pos h1, e1, Option.bind_some, e2, ↓reduceIte, hM]
    rw [if_neg h1]
    by_cases h2 : X.2 i &&& 31 = 2
    · obtain ⟨v, C', N', e1, e2, hR', hW'⟩ := qp_word (b, true) (X.2 (i + 1)) (X.2 (i + 2)) C N hR hW
      obtain ⟨M', hM⟩ := ih (i + 3) f (b + 5000) C' N' (by omega) (by omega) (by omega) (by omega) (qR_mono hR' (by omega)) hW'
      refine ⟨M', ?_⟩
      simp only [if_pos h2, e1, Option.bind_some, e2, ↓reduceIte, hM]
    rw [if_neg h2]
    by_cases h3 : X.2 i &&& 31 = 3
    · obtain ⟨v, C', N', e1, e2, hR', hW'⟩ := qp_spawn (b, true) (X.2 (i + 1)) (X.2 (i + 2)) C N hR hW
      obtain ⟨M', hM⟩ := ih (i + 3) f (b + 5000) C' N' (by omega) (by omega) (by omega) (by omega) (qR_mono hR' (by omega)) hW'
      refine ⟨M', ?_⟩
      simp only [if_pos h3, e1, Option.bind_some, e2, ↓reduceIte, hM]
    rw [if_neg h3]
    by_cases h4 : X.2 i &&& 31 = 4
    · obtain ⟨v, C', N', e1, e2, hR', hW'⟩ := qp_quantum (b, true) (X.2 (i + 1)) C N hR hW
      obtain ⟨M', hM⟩ := ih (i + 3) f (b + 5000) C' N' (by omega) (by omega) (by omega) (by omega) (qR_mono hR' (by omega)) hW'
      refine ⟨M', ?_⟩
      simp only [if_pos h4, e1, Option.bind_some, e2, ↓reduceIte, hM]
    rw [if_neg h4]
    by_cases h5 : X.2 i &&& 31 = 5
    · obtain ⟨v, C', N', e1, e2, hR', hW'⟩ := qp_size (b, true) (X.2 (i + 1)) (X.2 (i + 2)) C N hR hW
      obtain ⟨M', hM⟩ := ih (i + 3) f (b + 5000) C' N' (by omega) (by omega) (by omega) (by omega) (qR_mono hR' (by omega)) hW'
      refine ⟨M', ?_⟩
      simp only [if_pos h5, e1, Option.bind_some, e2, ↓reduceIte, hM]
    rw [if_neg h5]
    by_cases h6 : X.2 i &&& 31 = 6
    · obtain ⟨v, C', N', e1, e2, hR', hW'⟩ := qp_put (b, true) (X.2 (i + 1)) (X.2 (i + 2)) C N hR hW
      obtain ⟨M', hM⟩ := ih (i + 3) f (b + 5000) C' N' (by omega) (by omega) (by omega) (by omega) (qR_mono hR' (by omega)) hW'
      refine ⟨M', ?_⟩
      simp only [if_pos h6, e1, Option.bind_some, e2, ↓reduceIte, hM]
    rw [if_neg h6]
    by_cases h7 : X.2 i &&& 31 = 7
    · obtain ⟨v, C', N', e1, e2, hR', hW'⟩ := qp_take (b, true) (X.2 (i + 1)) C N hR hW
      obtain ⟨M', hM⟩ := ih (i + 3) f (b + 5000) C' N' (by omega) (by omega) (by omega) (by omega) (qR_mono hR' (by omega)) hW'
      refine ⟨M', ?_⟩
      simp only [if_pos h7, e1, Option.bind_some, e2, ↓reduceIte, hM]
    rw [if_neg h7]
    by_cases h8 : X.2 i &&& 31 = 8
    · obtain ⟨v, C', N', e1, e2, hR', hW'⟩ := qp_step hop (b := b) (by omega) C N hR hW
      obtain ⟨M', hM⟩ := ih (i + 3) f (b + 5000) C' N' (by omega) (by omega) (by omega) (by omega) hR' hW'
      refine ⟨M', ?_⟩
      simp only [if_pos h8, e1, Option.bind_some, e2, ↓reduceIte, hM]
    rw [if_neg h8]
    by_cases h9 : X.2 i &&& 31 = 9
    · obtain ⟨v, C', N', e1, e2, hR', hW'⟩ := qp_run hop (b := b) (by omega) (X.2 (i + 1)) C N hR hW
      obtain ⟨M', hM⟩ := ih (i + 3) f (b + 5000) C' N' (by omega) (by omega) (by omega) (by omega) hR' hW'
      refine ⟨M', ?_⟩
      simp only [if_pos h9, e1, Option.bind_some, e2, ↓reduceIte, hM]
    rw [if_neg h9]
    by_cases h10 : X.2 i &&& 31 = 10
    · obtain ⟨v, C', N', e1, e2, hR', hW'⟩ := qp_latest (b, true) rfl C N hR hW
      obtain ⟨M', hM⟩ := ih (i + 3) f (b + 5000) C' N' (by omega) (by omega) (by omega) (by omega) (qR_mono hR' (by omega)) hW'
      refine ⟨M', ?_⟩
      simp only [if_pos h10, e1, Option.bind_some, e2, ↓reduceIte, hM]
    rw [if_neg h10]
    by_cases h11 : X.2 i &&& 31 = 11
    · obtain ⟨v, C', N', e1, e2, hR', hW'⟩ := qp_state (b, true) (X.2 (i + 1)) C N hR hW
      obtain ⟨M', hM⟩ := ih (i + 3) f (b + 5000) C' N' (by omega) (by omega) (by omega) (by omega) (qR_mono hR' (by omega)) hW'
      refine ⟨M', ?_⟩
      simp only [if_pos h11, e1, Option.bind_some, e2, ↓reduceIte, hM]
    rw [if_neg h11]
    by_cases h12 : X.2 i &&& 31 = 12
    · obtain ⟨v, C', N', e1, e2, hR', hW'⟩ := qp_about (b, true) (X.2 (i + 1)) (X.2 (i + 2)) C N hR hW
      obtain ⟨M', hM⟩ := ih (i + 3) f (b + 5000) C' N' (by omega) (by omega) (by omega) (by omega) (qR_mono hR' (by omega)) hW'
      refine ⟨M', ?_⟩
      simp only [if_pos h12, e1, Option.bind_some, e2, ↓reduceIte, hM]
    rw [if_neg h12]
    by_cases h13 : X.2 i &&& 31 = 13
    · obtain ⟨v, C', N', e1, e2, hR', hW'⟩ := qp_stack (b, true) (X.2 (i + 1)) (X.2 (i + 2)) C N hR hW
      obtain ⟨M', hM⟩ := ih (i + 3) f (b + 5000) C' N' (by omega) (by omega) (by omega) (by omega) (qR_mono hR' (by omega)) hW'
      refine ⟨M', ?_⟩
      simp only [if_pos h13, e1, Option.bind_some, e2, ↓reduceIte, hM]
    rw [if_neg h13]
    by_cases h14 : X.2 i &&& 31 = 14
    · obtain ⟨v, C', N', e1, e2, hR', hW'⟩ := qp_held (b, true) (X.2 (i + 1)) C N hR hW
      obtain ⟨M', hM⟩ := ih (i + 3) f (b + 5000) C' N' (by omega) (by omega) (by omega) (by omega) (qR_mono hR' (by omega)) hW'
      refine ⟨M', ?_⟩
      simp only [if_pos h14, e1, Option.bind_some, e2, ↓reduceIte, hM]
    rw [if_neg h14]
    by_cases h15 : X.2 i &&& 31 = 15
    · obtain ⟨v, C', N', e1, e2, hR', hW'⟩ := qp_channel (b, true) (X.2 (i + 1)) (X.2 (i + 2)) C N hR hW
      obtain ⟨M', hM⟩ := ih (i + 3) f (b + 5000) C' N' (by omega) (by omega) (by omega) (by omega) (qR_mono hR' (by omega)) hW'
      refine ⟨M', ?_⟩
      simp only [if_pos h15, e1, Option.bind_some, e2, ↓reduceIte, hM]
    rw [if_neg h15]
    by_cases h16 : X.2 i &&& 31 = 16
    · obtain ⟨v, C', N', e1, e2, hR', hW'⟩ := qp_memory (b, true) (X.2 (i + 1)) C N hR hW
      obtain ⟨M', hM⟩ := ih (i + 3) f (b + 5000) C' N' (by omega) (by omega) (by omega) (by omega) (qR_mono hR' (by omega)) hW'
      refine ⟨M', ?_⟩
      simp only [if_pos h16, e1, Option.bind_some, e2, ↓reduceIte, hM]
    rw [if_neg h16]
    by_cases h17 : X.2 i &&& 31 = 17
    · obtain ⟨v, C', N', e1, e2, hR', hW'⟩ := qp_record (b, true) (X.2 (i + 1)) C N hR hW
      obtain ⟨M', hM⟩ := ih (i + 3) f (b + 5000) C' N' (by omega) (by omega) (by omega) (by omega) (qR_mono hR' (by omega)) hW'
      refine ⟨M', ?_⟩
      simp only [if_pos h17, e1, Option.bind_some, e2, ↓reduceIte, hM]
    rw [if_neg h17]
    by_cases h18 : X.2 i &&& 31 = 18
    · obtain ⟨v, C', N', e1, e2, hR', hW'⟩ := qp_told (b, true) (X.2 (i + 1)) C N hR hW
      obtain ⟨M', hM⟩ := ih (i + 3) f (b + 5000) C' N' (by omega) (by omega) (by omega) (by omega) (qR_mono hR' (by omega)) hW'
      refine ⟨M', ?_⟩
      simp only [if_pos h18, e1, Option.bind_some, e2, ↓reduceIte, hM]
    rw [if_neg h18]
    exact ih (i + 3) f (b + 5000) C N (by omega) (by omega) (by omega) (by omega) (qR_mono hR (by omega)) hW
theorem q_law (X : fj_X) (hX : X.1 ≤ 1536) {C N : fj_N} (hR : qR (0, true) C N) (hW : qW C) : ∃ M' : fj_M, dm_123 X (C, N) = some (1, M') := by
  obtain ⟨M', h⟩ := q_law_loop q_OP X hX 512 0 600 0 C N (by omega) (by omega) (by omega) (by omega) hR hW
  refine ⟨M', ?_⟩
  unfold dm_123
  rw [← nI_0]
  exact h
