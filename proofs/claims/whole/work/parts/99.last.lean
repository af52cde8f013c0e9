set_option maxRecDepth 40000
set_option maxHeartbeats 20000 in
theorem tt1 (X : fj_X) (a0 : Nat) (a1 : Int32) (M : fj_M) : fj_run X 1 (0, 0, [some (.inr (10, a0)), some (.inl a1)], [], M) = some (0, 1, [some (.inr (10, a0)), some (.inl a1)], [.inr (10, a0)], M) := rfl
set_option maxHeartbeats 20000 in
theorem tt2 (X : fj_X) (a0 : Nat) (a1 : Int32) (M : fj_M) : fj_run X 1 (0, 1, [some (.inr (10, a0)), some (.inl a1)], [.inr (10, a0)], M) = some (0, 4, [some (.inr (10, a0)), some (.inl a1)], [.inl (M.1 10 a0 1)], M) := rfl
set_option maxHeartbeats 20000 in
theorem tt3 (X : fj_X) (a0 : Nat) (a1 : Int32) (M : fj_M) : fj_run X 1 (0, 4, [some (.inr (10, a0)), some (.inl a1)], [.inl (M.1 10 a0 1)], M) = some (0, 6, [some (.inr (10, a0)), some (.inl a1)], [.inl 8, .inl (M.1 10 a0 1)], M) := rfl
set_option maxHeartbeats 20000 in
theorem tt4  : (Int8.ofInt 8).toInt32 = 8 := rfl
set_option maxHeartbeats 20000 in
theorem tt5  : fj_lk (0 * 1000 + 19) fj_fl = some (10, 1) := rfl
