/-! A TASK BEGINS -/
def qmk (i : Nat) : Int32 := ((1 : Int32) <<< (nI i &&& 31)) ^^^ (-1)
def qlk (C : fj_N) (i k : Nat) : fj_N := fun κ a b => if κ = 7 ∧ b = 7 ∧ a < k then C 7 a 7 &&& qmk i else C κ a b
theorem qlk_0 (C : fj_N) (i : Nat) : qlk C i 0 = C := by
  funext κ a b
  exact if_neg (by omega)
theorem qlk_s (C : fj_N) (i k : Nat) : fj_u1 (qlk C i k) 7 k 7 (qlk C i k 7 k 7 &&& qmk i) = qlk C i (k + 1) := by
  funext κ a b
  simp only [qx_u, qlk]
  by_cases h : κ = 7 ∧ a = k ∧ b = 7
  · obtain ⟨rfl, rfl, rfl⟩ := h
    rw [if_pos ⟨rfl, rfl, rfl⟩, if_neg (by omega), if_pos (by omega)]
  · rw [if_neg h]
    by_cases h2 : κ = 7 ∧ b = 7 ∧ a < k
    · rw [if_pos h2, if_pos (by omega)]
    · rw [if_neg h2, if_neg (by omega)]
def qbg (C : fj_N) (i : Nat) (p x : Int32) : fj_N := fj_u1 (fj_u1 (fj_u1 (fj_u1 (fj_u1 (fj_u1 (fj_u1 (fj_u1 C 7 i 2 1) 7 i 3 p) 8 i 0 x) 7 i 4 1) 7 i 5 0) 7 i 6 (-1)) 7 i 7 0) 7 i 9 0
def qsp (C : fj_N) (i : Nat) (p x : Int32) : fj_N := fj_u1 (qbg (qlk C i 12) i p x) 0 0 12 (qbg (qlk C i 12) i p x 0 0 12 + 1)
theorem qk_start_loop {C N : fj_N} {i : Nat} {p x : Int32} (hi : i < 12) : ∀ (m k fuel : Nat), k + m = 12 → m < fuel → dm_44_17 fuel p x (nI i) (nI k) (qlk C i k, N) = some (nI i, (qsp C i p x, N)) := by
  intro m
  induction m with
  | zero =>
    intro k fuel hk hf
    obtain ⟨f, rfl⟩ : ∃ f, fuel = f + 1 := ⟨fuel - 1, by omega⟩
    have hk : k = 12 := by omega
    subst hk
    simp only [dm_44_17, if_pos (show (12 : Int32) ≤ nI 12 from by decide), qx_cl (j := i) (show i ≤ 1000000 by omega), qx_neg (n := i) (show i ≤ 100000000 by omega), Nat.not_le.mpr hi, or_self, ↓reduceIte, dm_7, dm_8, Option.bind_some]
    rfl
  | succ m ih =>
    intro k fuel hk hf
    obtain ⟨f, rfl⟩ : ∃ f, fuel = f + 1 := ⟨fuel - 1, by omega⟩
    have hk2 : k < 12 := by omega
    have e := qlk_s C i k
    unfold qmk at e
    simp only [dm_44_17, if_neg (qx_out12 hk2), qx_cl (j := k) (show k ≤ 1000000 by omega), qx_neg (n := k) (show k ≤ 100000000 by omega), Nat.not_le.mpr hk2, or_self, ↓reduceIte, nI_1]
    rw [e]
    exact ih (k + 1) f (by omega) (by omega)
theorem qk_start {C N : fj_N} {i : Nat} {p x : Int32} (hi : i < 12) (hl : ¬ qh_live C i) (ha : ∀ j, j < i → qh_live C j) : dm_44 p x (C, N) = some (nI i, (qsp C i p x, N)) := by
  have h := qk_start_loop (C := C) (N := N) (p := p) (x := x) hi 12 0 40 (by omega) (by omega)
  rw [qlk_0] at h
  simp only [dm_44, qk_least_some hi hl ha, Option.bind_some, qg37_i hi, qz1]
  exact h
theorem qk_start_none {C N : fj_N} {p x : Int32} (ha : ∀ j, j < 12 → qh_live C j) : dm_44 p x (C, N) = some (-1, (C, N)) := by
  simp only [dm_44, qk_least_none ha, Option.bind_some, qg37_o (a := -1) (Or.inl (by decide)), ↓reduceIte]
def qln (N : fj_N) (i k : Nat) : fj_N := fun κ a b => if κ = 30 ∧ a = 0 ∧ b < k then N 30 0 b &&& qmk i else N κ a b
theorem qln_0 (N : fj_N) (i : Nat) : qln N i 0 = N := by
  funext κ a b
  exact if_neg (by omega)
theorem qln_s (N : fj_N) (i k : Nat) : fj_u1 (qln N i k) 30 0 k (qln N i k 30 0 k &&& qmk i) = qln N i (k + 1) := by
  funext κ a b
  simp only [qx_u, qln]
  by_cases h : κ = 30 ∧ a = 0 ∧ b = k
  · obtain ⟨rfl, rfl, rfl⟩ := h
    rw [if_pos ⟨rfl, rfl, rfl⟩, if_neg (by omega), if_pos (by omega)]
  · rw [if_neg h]
    by_cases h2 : κ = 30 ∧ a = 0 ∧ b < k
    · rw [if_pos h2, if_pos (by omega)]
    · rw [if_neg h2, if_neg (by omega)]
def qbn (N : fj_N) (i : Nat) (p x : Int32) : fj_N := fj_u1 (fj_u1 (fj_u1 (fj_u1 (fj_u1 (fj_u1 (fj_u1 (fj_u1 (fj_u1 N 23 0 i 1) 24 0 i p) 25 0 i 1) 26 0 (24 * i) x) 27 0 i 0) 29 0 i (-1)) 30 0 i 0) 31 0 i 0) 32 0 i 0
def qsq (N : fj_N) (i : Nat) (p x : Int32) : fj_N := qln (fj_u1 (qbn N i p x) 20 0 24 (qbn N i p x 20 0 24 + 1)) i 12
theorem qn_begin_loop {C0 N : fj_N} {i : Nat} {p x : Int32} : ∀ (m k fuel : Nat), k + m = 12 → m < fuel → dm_84_79 fuel (nI i) p x (nI k) (C0, qln N i k) = some (C0, qln N i 12) := by
  intro m
  induction m with
  | zero =>
    intro k fuel hk hf
    obtain ⟨f, rfl⟩ : ∃ f, fuel = f + 1 := ⟨fuel - 1, by omega⟩
    have hk : k = 12 := by omega
    subst hk
    unfold dm_84_79
    rw [if_pos (show (12 : Int32) ≤ nI 12 from by decide)]
  | succ m ih =>
    intro k fuel hk hf
    obtain ⟨f, rfl⟩ : ∃ f, fuel = f + 1 := ⟨fuel - 1, by omega⟩
    have hk2 : k < 12 := by omega
    have e := qln_s N i k
    unfold qmk at e
    simp only [dm_84_79, if_neg (qx_out12 hk2), qx_cl (j := k) (show k ≤ 1000000 by omega), qx_neg (n := k) (show k ≤ 100000000 by omega), Nat.not_le.mpr hk2, or_self, ↓reduceIte, nI_1]
    rw [e]
    exact ih (k + 1) f (by omega) (by omega)
theorem qn_begin {C0 N : fj_N} {i : Nat} {p x : Int32} (hi : i < 12) : dm_84 (nI i) p x (C0, N) = some (C0, qsq N i p x) := by
  have hw : 24 * i < 288 := by omega
  have h := qn_begin_loop (C0 := C0) (N := fj_u1 (qbn N i p x) 20 0 24 (qbn N i p x 20 0 24 + 1)) (i := i) (p := p) (x := x) 12 0 40 (by omega) (by omega)
  rw [qln_0] at h
  unfold qbn at h
  unfold qsq qbn
  simp only [dm_84, qx_cl (j := i) (show i ≤ 1000000 by omega), qx_neg (n := i) (show i ≤ 100000000 by omega), Nat.not_le.mpr hi, or_self, ↓reduceIte, qx_24]
  generalize 24 * i = w at *
  simp only [qx_cl (j := w) (show w ≤ 1000000 by omega), qx_neg (n := w) (show w ≤ 100000000 by omega), Nat.not_le.mpr hw, or_self, ↓reduceIte]
  exact h
