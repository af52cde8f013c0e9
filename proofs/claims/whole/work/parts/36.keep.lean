/-! WHAT KEEPS THE RELATION: the running task, place by place -/
theorem qR_place {B : qB} {C N : fj_N} {t : Nat} {v : Int32} (h : qR B C N) (ht : t < 12) : qR B (fj_u1 C 7 t 3 (v)) (fj_u1 N 24 0 t (v)) := by
  refine qR_tk (t := t) h (qS_cg h.1 (fun j => qx_un (by omega)) (fun j _ => qx_un (by omega))) (fun κ i j _ _ _ => qx_un (by omega)) (fun κ i j _ _ _ _ _ => qx_un (by omega)) ?_
  obtain ⟨⟨a1, a2, a3, a4, a5, a6, a7, a8⟩, b, ⟨d, d1, d2, d3⟩, ⟨r, r1, r2, r3⟩, e, g, w⟩ := h.2.2.1 t ht
  have c2 : (fj_u1 C 7 t 3 (v)) 7 t 2 = C 7 t 2 := by rw [qx_un (by omega)]
  have c3 : (fj_u1 C 7 t 3 (v)) 7 t 3 = v := by rw [qx_us]
  have c4 : (fj_u1 C 7 t 3 (v)) 7 t 4 = C 7 t 4 := by rw [qx_un (by omega)]
  have c5 : (fj_u1 C 7 t 3 (v)) 7 t 5 = C 7 t 5 := by rw [qx_un (by omega)]
  have c6 : (fj_u1 C 7 t 3 (v)) 7 t 6 = C 7 t 6 := by rw [qx_un (by omega)]
  have c7 : (fj_u1 C 7 t 3 (v)) 7 t 7 = C 7 t 7 := by rw [qx_un (by omega)]
  have c8 : (fj_u1 C 7 t 3 (v)) 7 t 8 = C 7 t 8 := by rw [qx_un (by omega)]
  have c9 : (fj_u1 C 7 t 3 (v)) 7 t 9 = C 7 t 9 := by rw [qx_un (by omega)]
  have c10 : (fj_u1 C 7 t 3 (v)) 7 t 10 = C 7 t 10 := by rw [qx_un (by omega)]
  have c11 : (fj_u1 C 7 t 3 (v)) 7 t 11 = C 7 t 11 := by rw [qx_un (by omega)]
  have n23 : (fj_u1 N 24 0 t (v)) 23 0 t = N 23 0 t := by rw [qx_un (by omega)]
  have n24 : (fj_u1 N 24 0 t (v)) 24 0 t = v := by rw [qx_us]
  have n25 : (fj_u1 N 24 0 t (v)) 25 0 t = N 25 0 t := by rw [qx_un (by omega)]
  have n27 : (fj_u1 N 24 0 t (v)) 27 0 t = N 27 0 t := by rw [qx_un (by omega)]
  have n29 : (fj_u1 N 24 0 t (v)) 29 0 t = N 29 0 t := by rw [qx_un (by omega)]
  have n30 : (fj_u1 N 24 0 t (v)) 30 0 t = N 30 0 t := by rw [qx_un (by omega)]
  have n31 : (fj_u1 N 24 0 t (v)) 31 0 t = N 31 0 t := by rw [qx_un (by omega)]
  have n32 : (fj_u1 N 24 0 t (v)) 32 0 t = N 32 0 t := by rw [qx_un (by omega)]
  have n33 : (fj_u1 N 24 0 t (v)) 33 0 t = N 33 0 t := by rw [qx_un (by omega)]
  have n34 : (fj_u1 N 24 0 t (v)) 34 0 t = N 34 0 t := by rw [qx_un (by omega)]
  unfold qT
  rw [c2, c3, c4, c5, c6, c7, c8, c9, c10, c11, n23, n24, n25, n27, n29, n30, n31, n32, n33, n34]
  refine ⟨⟨a1, rfl, a3, a4, a5, a6, a7, a8⟩, b, ⟨d, d1, d2, fun j hj => ?_⟩, ⟨r, r1, r2, fun j hj => ?_⟩, e, g, w⟩
  · rw [qx_un (by omega), qx_un (by omega)]; exact d3 j hj
  · rw [qx_un (by omega), qx_un (by omega)]; exact r3 j hj
theorem qR_links {B : qB} {C N : fj_N} {t : Nat} {v : Int32} (h : qR B C N) (ht : t < 12) : qR B (fj_u1 C 7 t 7 (v)) (fj_u1 N 30 0 t (v)) := by
  refine qR_tk (t := t) h (qS_cg h.1 (fun j => qx_un (by omega)) (fun j _ => qx_un (by omega))) (fun κ i j _ _ _ => qx_un (by omega)) (fun κ i j _ _ _ _ _ => qx_un (by omega)) ?_
  obtain ⟨⟨a1, a2, a3, a4, a5, a6, a7, a8⟩, b, ⟨d, d1, d2, d3⟩, ⟨r, r1, r2, r3⟩, e, g, w⟩ := h.2.2.1 t ht
  have c2 : (fj_u1 C 7 t 7 (v)) 7 t 2 = C 7 t 2 := by rw [qx_un (by omega)]
  have c3 : (fj_u1 C 7 t 7 (v)) 7 t 3 = C 7 t 3 := by rw [qx_un (by omega)]
  have c4 : (fj_u1 C 7 t 7 (v)) 7 t 4 = C 7 t 4 := by rw [qx_un (by omega)]
  have c5 : (fj_u1 C 7 t 7 (v)) 7 t 5 = C 7 t 5 := by rw [qx_un (by omega)]
  have c6 : (fj_u1 C 7 t 7 (v)) 7 t 6 = C 7 t 6 := by rw [qx_un (by omega)]
  have c7 : (fj_u1 C 7 t 7 (v)) 7 t 7 = v := by rw [qx_us]
  have c8 : (fj_u1 C 7 t 7 (v)) 7 t 8 = C 7 t 8 := by rw [qx_un (by omega)]
  have c9 : (fj_u1 C 7 t 7 (v)) 7 t 9 = C 7 t 9 := by rw [qx_un (by omega)]
  have c10 : (fj_u1 C 7 t 7 (v)) 7 t 10 = C 7 t 10 := by rw [qx_un (by omega)]
  have c11 : (fj_u1 C 7 t 7 (v)) 7 t 11 = C 7 t 11 := by rw [qx_un (by omega)]
  have n23 : (fj_u1 N 30 0 t (v)) 23 0 t = N 23 0 t := by rw [qx_un (by omega)]
  have n24 : (fj_u1 N 30 0 t (v)) 24 0 t = N 24 0 t := by rw [qx_un (by omega)]
  have n25 : (fj_u1 N 30 0 t (v)) 25 0 t = N 25 0 t := by rw [qx_un (by omega)]
  have n27 : (fj_u1 N 30 0 t (v)) 27 0 t = N 27 0 t := by rw [qx_un (by omega)]
  have n29 : (fj_u1 N 30 0 t (v)) 29 0 t = N 29 0 t := by rw [qx_un (by omega)]
  have n30 : (fj_u1 N 30 0 t (v)) 30 0 t = v := by rw [qx_us]
  have n31 : (fj_u1 N 30 0 t (v)) 31 0 t = N 31 0 t := by rw [qx_un (by omega)]
  have n32 : (fj_u1 N 30 0 t (v)) 32 0 t = N 32 0 t := by rw [qx_un (by omega)]
  have n33 : (fj_u1 N 30 0 t (v)) 33 0 t = N 33 0 t := by rw [qx_un (by omega)]
  have n34 : (fj_u1 N 30 0 t (v)) 34 0 t = N 34 0 t := by rw [qx_un (by omega)]
  unfold qT
  rw [c2, c3, c4, c5, c6, c7, c8, c9, c10, c11, n23, n24, n25, n27, n29, n30, n31, n32, n33, n34]
  refine ⟨⟨a1, a2, a3, a4, a5, rfl, a7, a8⟩, b, ⟨d, d1, d2, fun j hj => ?_⟩, ⟨r, r1, r2, fun j hj => ?_⟩, e, g, w⟩
  · rw [qx_un (by omega), qx_un (by omega)]; exact d3 j hj
  · rw [qx_un (by omega), qx_un (by omega)]; exact r3 j hj
theorem qR_settrap {B : qB} {C N : fj_N} {t : Nat} {v : Int32} (hv : v = -1 ∨ ∃ p : Nat, p < 512 ∧ v = nI p) (h : qR B C N) (ht : t < 12) : qR B (fj_u1 C 7 t 6 (v)) (fj_u1 N 29 0 t (v)) := by
  refine qR_tk (t := t) h (qS_cg h.1 (fun j => qx_un (by omega)) (fun j _ => qx_un (by omega))) (fun κ i j _ _ _ => qx_un (by omega)) (fun κ i j _ _ _ _ _ => qx_un (by omega)) ?_
  obtain ⟨⟨a1, a2, a3, a4, a5, a6, a7, a8⟩, b, ⟨d, d1, d2, d3⟩, ⟨r, r1, r2, r3⟩, e, g, w⟩ := h.2.2.1 t ht
  have c2 : (fj_u1 C 7 t 6 (v)) 7 t 2 = C 7 t 2 := by rw [qx_un (by omega)]
  have c3 : (fj_u1 C 7 t 6 (v)) 7 t 3 = C 7 t 3 := by rw [qx_un (by omega)]
  have c4 : (fj_u1 C 7 t 6 (v)) 7 t 4 = C 7 t 4 := by rw [qx_un (by omega)]
  have c5 : (fj_u1 C 7 t 6 (v)) 7 t 5 = C 7 t 5 := by rw [qx_un (by omega)]
  have c6 : (fj_u1 C 7 t 6 (v)) 7 t 6 = v := by rw [qx_us]
  have c7 : (fj_u1 C 7 t 6 (v)) 7 t 7 = C 7 t 7 := by rw [qx_un (by omega)]
  have c8 : (fj_u1 C 7 t 6 (v)) 7 t 8 = C 7 t 8 := by rw [qx_un (by omega)]
  have c9 : (fj_u1 C 7 t 6 (v)) 7 t 9 = C 7 t 9 := by rw [qx_un (by omega)]
  have c10 : (fj_u1 C 7 t 6 (v)) 7 t 10 = C 7 t 10 := by rw [qx_un (by omega)]
  have c11 : (fj_u1 C 7 t 6 (v)) 7 t 11 = C 7 t 11 := by rw [qx_un (by omega)]
  have n23 : (fj_u1 N 29 0 t (v)) 23 0 t = N 23 0 t := by rw [qx_un (by omega)]
  have n24 : (fj_u1 N 29 0 t (v)) 24 0 t = N 24 0 t := by rw [qx_un (by omega)]
  have n25 : (fj_u1 N 29 0 t (v)) 25 0 t = N 25 0 t := by rw [qx_un (by omega)]
  have n27 : (fj_u1 N 29 0 t (v)) 27 0 t = N 27 0 t := by rw [qx_un (by omega)]
  have n29 : (fj_u1 N 29 0 t (v)) 29 0 t = v := by rw [qx_us]
  have n30 : (fj_u1 N 29 0 t (v)) 30 0 t = N 30 0 t := by rw [qx_un (by omega)]
  have n31 : (fj_u1 N 29 0 t (v)) 31 0 t = N 31 0 t := by rw [qx_un (by omega)]
  have n32 : (fj_u1 N 29 0 t (v)) 32 0 t = N 32 0 t := by rw [qx_un (by omega)]
  have n33 : (fj_u1 N 29 0 t (v)) 33 0 t = N 33 0 t := by rw [qx_un (by omega)]
  have n34 : (fj_u1 N 29 0 t (v)) 34 0 t = N 34 0 t := by rw [qx_un (by omega)]
  unfold qT
  rw [c2, c3, c4, c5, c6, c7, c8, c9, c10, c11, n23, n24, n25, n27, n29, n30, n31, n32, n33, n34]
  refine ⟨⟨a1, a2, a3, a4, rfl, a6, a7, a8⟩, b, ⟨d, d1, d2, fun j hj => ?_⟩, ⟨r, r1, r2, fun j hj => ?_⟩, e, hv, w⟩
  · rw [qx_un (by omega), qx_un (by omega)]; exact d3 j hj
  · rw [qx_un (by omega), qx_un (by omega)]; exact r3 j hj
theorem qR_pop {B : qB} {C N : fj_N} {t : Nat} {d0 e0 : Nat} (hd : C 7 t 4 = nI d0) (hd2 : d0 ≤ 24) (he : e0 ≤ d0) (h : qR B C N) (ht : t < 12) : qR B (fj_u1 C 7 t 4 (nI e0)) (fj_u1 N 25 0 t (nI e0)) := by
  refine qR_tk (t := t) h (qS_cg h.1 (fun j => qx_un (by omega)) (fun j _ => qx_un (by omega))) (fun κ i j _ _ _ => qx_un (by omega)) (fun κ i j _ _ _ _ _ => qx_un (by omega)) ?_
  obtain ⟨⟨a1, a2, a3, a4, a5, a6, a7, a8⟩, b, ⟨d, d1, d2, d3⟩, ⟨r, r1, r2, r3⟩, e, g, w⟩ := h.2.2.1 t ht
  have c2 : (fj_u1 C 7 t 4 (nI e0)) 7 t 2 = C 7 t 2 := by rw [qx_un (by omega)]
  have c3 : (fj_u1 C 7 t 4 (nI e0)) 7 t 3 = C 7 t 3 := by rw [qx_un (by omega)]
  have c4 : (fj_u1 C 7 t 4 (nI e0)) 7 t 4 = nI e0 := by rw [qx_us]
  have c5 : (fj_u1 C 7 t 4 (nI e0)) 7 t 5 = C 7 t 5 := by rw [qx_un (by omega)]
  have c6 : (fj_u1 C 7 t 4 (nI e0)) 7 t 6 = C 7 t 6 := by rw [qx_un (by omega)]
  have c7 : (fj_u1 C 7 t 4 (nI e0)) 7 t 7 = C 7 t 7 := by rw [qx_un (by omega)]
  have c8 : (fj_u1 C 7 t 4 (nI e0)) 7 t 8 = C 7 t 8 := by rw [qx_un (by omega)]
  have c9 : (fj_u1 C 7 t 4 (nI e0)) 7 t 9 = C 7 t 9 := by rw [qx_un (by omega)]
  have c10 : (fj_u1 C 7 t 4 (nI e0)) 7 t 10 = C 7 t 10 := by rw [qx_un (by omega)]
  have c11 : (fj_u1 C 7 t 4 (nI e0)) 7 t 11 = C 7 t 11 := by rw [qx_un (by omega)]
  have n23 : (fj_u1 N 25 0 t (nI e0)) 23 0 t = N 23 0 t := by rw [qx_un (by omega)]
  have n24 : (fj_u1 N 25 0 t (nI e0)) 24 0 t = N 24 0 t := by rw [qx_un (by omega)]
  have n25 : (fj_u1 N 25 0 t (nI e0)) 25 0 t = nI e0 := by rw [qx_us]
  have n27 : (fj_u1 N 25 0 t (nI e0)) 27 0 t = N 27 0 t := by rw [qx_un (by omega)]
  have n29 : (fj_u1 N 25 0 t (nI e0)) 29 0 t = N 29 0 t := by rw [qx_un (by omega)]
  have n30 : (fj_u1 N 25 0 t (nI e0)) 30 0 t = N 30 0 t := by rw [qx_un (by omega)]
  have n31 : (fj_u1 N 25 0 t (nI e0)) 31 0 t = N 31 0 t := by rw [qx_un (by omega)]
  have n32 : (fj_u1 N 25 0 t (nI e0)) 32 0 t = N 32 0 t := by rw [qx_un (by omega)]
  have n33 : (fj_u1 N 25 0 t (nI e0)) 33 0 t = N 33 0 t := by rw [qx_un (by omega)]
  have n34 : (fj_u1 N 25 0 t (nI e0)) 34 0 t = N 34 0 t := by rw [qx_un (by omega)]
  unfold qT
  rw [c2, c3, c4, c5, c6, c7, c8, c9, c10, c11, n23, n24, n25, n27, n29, n30, n31, n32, n33, n34]
  refine ⟨⟨a1, a2, rfl, a4, a5, a6, a7, a8⟩, b, ⟨e0, by omega, rfl, fun j hj => ?_⟩, ⟨r, r1, r2, fun j hj => ?_⟩, e, g, w⟩
  · have ed : d = d0 := (qx_eq (by omega) (by omega)).mp (d2.symm.trans hd)
    rw [qx_un (by omega), qx_un (by omega)]; exact d3 j (by omega)
  · rw [qx_un (by omega), qx_un (by omega)]; exact r3 j hj
theorem qR_push {B : qB} {C N : fj_N} {t : Nat} {d0 : Nat} {v : Int32} (hd : C 7 t 4 = nI d0) (hd2 : d0 < 24) (h : qR B C N) (ht : t < 12) : qR B (fj_u1 (fj_u1 C 7 t 4 (nI (d0 + 1))) 8 t d0 (v)) (fj_u1 (fj_u1 N 26 0 (24 * t + d0) (v)) 25 0 t (nI (d0 + 1))) := by
  refine qR_tk (t := t) h (qS_cg h.1 (fun j => by rw [qx_un (by omega), qx_un (by omega)]) (fun j _ => by rw [qx_un (by omega), qx_un (by omega)])) (fun κ i j _ _ _ => by rw [qx_un (by omega), qx_un (by omega)]) (fun κ i j _ _ _ _ _ => by rw [qx_un (by omega), qx_un (by omega)]) ?_
  obtain ⟨⟨a1, a2, a3, a4, a5, a6, a7, a8⟩, b, ⟨d, d1, d2, d3⟩, ⟨r, r1, r2, r3⟩, e, g, w⟩ := h.2.2.1 t ht
  have c2 : (fj_u1 (fj_u1 C 7 t 4 (nI (d0 + 1))) 8 t d0 (v)) 7 t 2 = C 7 t 2 := by rw [qx_un (by omega), qx_un (by omega)]
  have c3 : (fj_u1 (fj_u1 C 7 t 4 (nI (d0 + 1))) 8 t d0 (v)) 7 t 3 = C 7 t 3 := by rw [qx_un (by omega), qx_un (by omega)]
  have c4 : (fj_u1 (fj_u1 C 7 t 4 (nI (d0 + 1))) 8 t d0 (v)) 7 t 4 = nI (d0 + 1) := by rw [qx_un (by omega), qx_us]
  have c5 : (fj_u1 (fj_u1 C 7 t 4 (nI (d0 + 1))) 8 t d0 (v)) 7 t 5 = C 7 t 5 := by rw [qx_un (by omega), qx_un (by omega)]
  have c6 : (fj_u1 (fj_u1 C 7 t 4 (nI (d0 + 1))) 8 t d0 (v)) 7 t 6 = C 7 t 6 := by rw [qx_un (by omega), qx_un (by omega)]
  have c7 : (fj_u1 (fj_u1 C 7 t 4 (nI (d0 + 1))) 8 t d0 (v)) 7 t 7 = C 7 t 7 := by rw [qx_un (by omega), qx_un (by omega)]
  have c8 : (fj_u1 (fj_u1 C 7 t 4 (nI (d0 + 1))) 8 t d0 (v)) 7 t 8 = C 7 t 8 := by rw [qx_un (by omega), qx_un (by omega)]
  have c9 : (fj_u1 (fj_u1 C 7 t 4 (nI (d0 + 1))) 8 t d0 (v)) 7 t 9 = C 7 t 9 := by rw [qx_un (by omega), qx_un (by omega)]
  have c10 : (fj_u1 (fj_u1 C 7 t 4 (nI (d0 + 1))) 8 t d0 (v)) 7 t 10 = C 7 t 10 := by rw [qx_un (by omega), qx_un (by omega)]
  have c11 : (fj_u1 (fj_u1 C 7 t 4 (nI (d0 + 1))) 8 t d0 (v)) 7 t 11 = C 7 t 11 := by rw [qx_un (by omega), qx_un (by omega)]
  have n23 : (fj_u1 (fj_u1 N 26 0 (24 * t + d0) (v)) 25 0 t (nI (d0 + 1))) 23 0 t = N 23 0 t := by rw [qx_un (by omega), qx_un (by omega)]
  have n24 : (fj_u1 (fj_u1 N 26 0 (24 * t + d0) (v)) 25 0 t (nI (d0 + 1))) 24 0 t = N 24 0 t := by rw [qx_un (by omega), qx_un (by omega)]
  have n25 : (fj_u1 (fj_u1 N 26 0 (24 * t + d0) (v)) 25 0 t (nI (d0 + 1))) 25 0 t = nI (d0 + 1) := by rw [qx_us]
  have n27 : (fj_u1 (fj_u1 N 26 0 (24 * t + d0) (v)) 25 0 t (nI (d0 + 1))) 27 0 t = N 27 0 t := by rw [qx_un (by omega), qx_un (by omega)]
  have n29 : (fj_u1 (fj_u1 N 26 0 (24 * t + d0) (v)) 25 0 t (nI (d0 + 1))) 29 0 t = N 29 0 t := by rw [qx_un (by omega), qx_un (by omega)]
  have n30 : (fj_u1 (fj_u1 N 26 0 (24 * t + d0) (v)) 25 0 t (nI (d0 + 1))) 30 0 t = N 30 0 t := by rw [qx_un (by omega), qx_un (by omega)]
  have n31 : (fj_u1 (fj_u1 N 26 0 (24 * t + d0) (v)) 25 0 t (nI (d0 + 1))) 31 0 t = N 31 0 t := by rw [qx_un (by omega), qx_un (by omega)]
  have n32 : (fj_u1 (fj_u1 N 26 0 (24 * t + d0) (v)) 25 0 t (nI (d0 + 1))) 32 0 t = N 32 0 t := by rw [qx_un (by omega), qx_un (by omega)]
  have n33 : (fj_u1 (fj_u1 N 26 0 (24 * t + d0) (v)) 25 0 t (nI (d0 + 1))) 33 0 t = N 33 0 t := by rw [qx_un (by omega), qx_un (by omega)]
  have n34 : (fj_u1 (fj_u1 N 26 0 (24 * t + d0) (v)) 25 0 t (nI (d0 + 1))) 34 0 t = N 34 0 t := by rw [qx_un (by omega), qx_un (by omega)]
  unfold qT
  rw [c2, c3, c4, c5, c6, c7, c8, c9, c10, c11, n23, n24, n25, n27, n29, n30, n31, n32, n33, n34]
  refine ⟨⟨a1, a2, rfl, a4, a5, a6, a7, a8⟩, b, ⟨d0 + 1, by omega, rfl, fun j hj => ?_⟩, ⟨r, r1, r2, fun j hj => ?_⟩, e, g, w⟩
  · have ed : d = d0 := (qx_eq (by omega) (by omega)).mp (d2.symm.trans hd)
    subst ed
    by_cases hjd : j = d
    · subst hjd
      rw [qx_un (by omega), qx_us, qx_us]
    · rw [qx_un (by omega), qx_un (by omega), qx_un (by omega), qx_un (by omega)]; exact d3 j (by omega)
  · rw [qx_un (by omega), qx_un (by omega), qx_un (by omega), qx_un (by omega)]; exact r3 j hj
theorem qR_pushR {B : qB} {C N : fj_N} {t : Nat} {d0 : Nat} {v : Int32} (hd : C 7 t 5 = nI d0) (hd2 : d0 < 12) (h : qR B C N) (ht : t < 12) : qR B (fj_u1 (fj_u1 C 7 t 5 (nI (d0 + 1))) 9 t d0 (v)) (fj_u1 (fj_u1 N 28 0 (12 * t + d0) (v)) 27 0 t (nI (d0 + 1))) := by
  refine qR_tk (t := t) h (qS_cg h.1 (fun j => by rw [qx_un (by omega), qx_un (by omega)]) (fun j _ => by rw [qx_un (by omega), qx_un (by omega)])) (fun κ i j _ _ _ => by rw [qx_un (by omega), qx_un (by omega)]) (fun κ i j _ _ _ _ _ => by rw [qx_un (by omega), qx_un (by omega)]) ?_
  obtain ⟨⟨a1, a2, a3, a4, a5, a6, a7, a8⟩, b, ⟨d, d1, d2, d3⟩, ⟨r, r1, r2, r3⟩, e, g, w⟩ := h.2.2.1 t ht
  have c2 : (fj_u1 (fj_u1 C 7 t 5 (nI (d0 + 1))) 9 t d0 (v)) 7 t 2 = C 7 t 2 := by rw [qx_un (by omega), qx_un (by omega)]
  have c3 : (fj_u1 (fj_u1 C 7 t 5 (nI (d0 + 1))) 9 t d0 (v)) 7 t 3 = C 7 t 3 := by rw [qx_un (by omega), qx_un (by omega)]
  have c4 : (fj_u1 (fj_u1 C 7 t 5 (nI (d0 + 1))) 9 t d0 (v)) 7 t 4 = C 7 t 4 := by rw [qx_un (by omega), qx_un (by omega)]
  have c5 : (fj_u1 (fj_u1 C 7 t 5 (nI (d0 + 1))) 9 t d0 (v)) 7 t 5 = nI (d0 + 1) := by rw [qx_un (by omega), qx_us]
  have c6 : (fj_u1 (fj_u1 C 7 t 5 (nI (d0 + 1))) 9 t d0 (v)) 7 t 6 = C 7 t 6 := by rw [qx_un (by omega), qx_un (by omega)]
  have c7 : (fj_u1 (fj_u1 C 7 t 5 (nI (d0 + 1))) 9 t d0 (v)) 7 t 7 = C 7 t 7 := by rw [qx_un (by omega), qx_un (by omega)]
  have c8 : (fj_u1 (fj_u1 C 7 t 5 (nI (d0 + 1))) 9 t d0 (v)) 7 t 8 = C 7 t 8 := by rw [qx_un (by omega), qx_un (by omega)]
  have c9 : (fj_u1 (fj_u1 C 7 t 5 (nI (d0 + 1))) 9 t d0 (v)) 7 t 9 = C 7 t 9 := by rw [qx_un (by omega), qx_un (by omega)]
  have c10 : (fj_u1 (fj_u1 C 7 t 5 (nI (d0 + 1))) 9 t d0 (v)) 7 t 10 = C 7 t 10 := by rw [qx_un (by omega), qx_un (by omega)]
  have c11 : (fj_u1 (fj_u1 C 7 t 5 (nI (d0 + 1))) 9 t d0 (v)) 7 t 11 = C 7 t 11 := by rw [qx_un (by omega), qx_un (by omega)]
  have n23 : (fj_u1 (fj_u1 N 28 0 (12 * t + d0) (v)) 27 0 t (nI (d0 + 1))) 23 0 t = N 23 0 t := by rw [qx_un (by omega), qx_un (by omega)]
  have n24 : (fj_u1 (fj_u1 N 28 0 (12 * t + d0) (v)) 27 0 t (nI (d0 + 1))) 24 0 t = N 24 0 t := by rw [qx_un (by omega), qx_un (by omega)]
  have n25 : (fj_u1 (fj_u1 N 28 0 (12 * t + d0) (v)) 27 0 t (nI (d0 + 1))) 25 0 t = N 25 0 t := by rw [qx_un (by omega), qx_un (by omega)]
  have n27 : (fj_u1 (fj_u1 N 28 0 (12 * t + d0) (v)) 27 0 t (nI (d0 + 1))) 27 0 t = nI (d0 + 1) := by rw [qx_us]
  have n29 : (fj_u1 (fj_u1 N 28 0 (12 * t + d0) (v)) 27 0 t (nI (d0 + 1))) 29 0 t = N 29 0 t := by rw [qx_un (by omega), qx_un (by omega)]
  have n30 : (fj_u1 (fj_u1 N 28 0 (12 * t + d0) (v)) 27 0 t (nI (d0 + 1))) 30 0 t = N 30 0 t := by rw [qx_un (by omega), qx_un (by omega)]
  have n31 : (fj_u1 (fj_u1 N 28 0 (12 * t + d0) (v)) 27 0 t (nI (d0 + 1))) 31 0 t = N 31 0 t := by rw [qx_un (by omega), qx_un (by omega)]
  have n32 : (fj_u1 (fj_u1 N 28 0 (12 * t + d0) (v)) 27 0 t (nI (d0 + 1))) 32 0 t = N 32 0 t := by rw [qx_un (by omega), qx_un (by omega)]
  have n33 : (fj_u1 (fj_u1 N 28 0 (12 * t + d0) (v)) 27 0 t (nI (d0 + 1))) 33 0 t = N 33 0 t := by rw [qx_un (by omega), qx_un (by omega)]
  have n34 : (fj_u1 (fj_u1 N 28 0 (12 * t + d0) (v)) 27 0 t (nI (d0 + 1))) 34 0 t = N 34 0 t := by rw [qx_un (by omega), qx_un (by omega)]
  unfold qT
  rw [c2, c3, c4, c5, c6, c7, c8, c9, c10, c11, n23, n24, n25, n27, n29, n30, n31, n32, n33, n34]
  refine ⟨⟨a1, a2, a3, rfl, a5, a6, a7, a8⟩, b, ⟨d, d1, d2, fun j hj => ?_⟩, ⟨d0 + 1, by omega, rfl, fun j hj => ?_⟩, e, g, w⟩
  · rw [qx_un (by omega), qx_un (by omega), qx_un (by omega), qx_un (by omega)]; exact d3 j hj
  · have ed : r = d0 := (qx_eq (by omega) (by omega)).mp (r2.symm.trans hd)
    subst ed
    by_cases hjd : j = r
    · subst hjd
      rw [qx_un (by omega), qx_us, qx_us]
    · rw [qx_un (by omega), qx_un (by omega), qx_un (by omega), qx_un (by omega)]; exact r3 j (by omega)
theorem qR_popR {B : qB} {C N : fj_N} {t : Nat} {d0 e0 : Nat} (hd : C 7 t 5 = nI d0) (hd2 : d0 ≤ 12) (he : e0 ≤ d0) (h : qR B C N) (ht : t < 12) : qR B (fj_u1 C 7 t 5 (nI e0)) (fj_u1 N 27 0 t (nI e0)) := by
  refine qR_tk (t := t) h (qS_cg h.1 (fun j => qx_un (by omega)) (fun j _ => qx_un (by omega))) (fun κ i j _ _ _ => qx_un (by omega)) (fun κ i j _ _ _ _ _ => qx_un (by omega)) ?_
  obtain ⟨⟨a1, a2, a3, a4, a5, a6, a7, a8⟩, b, ⟨d, d1, d2, d3⟩, ⟨r, r1, r2, r3⟩, e, g, w⟩ := h.2.2.1 t ht
  have c2 : (fj_u1 C 7 t 5 (nI e0)) 7 t 2 = C 7 t 2 := by rw [qx_un (by omega)]
  have c3 : (fj_u1 C 7 t 5 (nI e0)) 7 t 3 = C 7 t 3 := by rw [qx_un (by omega)]
  have c4 : (fj_u1 C 7 t 5 (nI e0)) 7 t 4 = C 7 t 4 := by rw [qx_un (by omega)]
  have c5 : (fj_u1 C 7 t 5 (nI e0)) 7 t 5 = nI e0 := by rw [qx_us]
  have c6 : (fj_u1 C 7 t 5 (nI e0)) 7 t 6 = C 7 t 6 := by rw [qx_un (by omega)]
  have c7 : (fj_u1 C 7 t 5 (nI e0)) 7 t 7 = C 7 t 7 := by rw [qx_un (by omega)]
  have c8 : (fj_u1 C 7 t 5 (nI e0)) 7 t 8 = C 7 t 8 := by rw [qx_un (by omega)]
  have c9 : (fj_u1 C 7 t 5 (nI e0)) 7 t 9 = C 7 t 9 := by rw [qx_un (by omega)]
  have c10 : (fj_u1 C 7 t 5 (nI e0)) 7 t 10 = C 7 t 10 := by rw [qx_un (by omega)]
  have c11 : (fj_u1 C 7 t 5 (nI e0)) 7 t 11 = C 7 t 11 := by rw [qx_un (by omega)]
  have n23 : (fj_u1 N 27 0 t (nI e0)) 23 0 t = N 23 0 t := by rw [qx_un (by omega)]
  have n24 : (fj_u1 N 27 0 t (nI e0)) 24 0 t = N 24 0 t := by rw [qx_un (by omega)]
  have n25 : (fj_u1 N 27 0 t (nI e0)) 25 0 t = N 25 0 t := by rw [qx_un (by omega)]
  have n27 : (fj_u1 N 27 0 t (nI e0)) 27 0 t = nI e0 := by rw [qx_us]
  have n29 : (fj_u1 N 27 0 t (nI e0)) 29 0 t = N 29 0 t := by rw [qx_un (by omega)]
  have n30 : (fj_u1 N 27 0 t (nI e0)) 30 0 t = N 30 0 t := by rw [qx_un (by omega)]
  have n31 : (fj_u1 N 27 0 t (nI e0)) 31 0 t = N 31 0 t := by rw [qx_un (by omega)]
  have n32 : (fj_u1 N 27 0 t (nI e0)) 32 0 t = N 32 0 t := by rw [qx_un (by omega)]
  have n33 : (fj_u1 N 27 0 t (nI e0)) 33 0 t = N 33 0 t := by rw [qx_un (by omega)]
  have n34 : (fj_u1 N 27 0 t (nI e0)) 34 0 t = N 34 0 t := by rw [qx_un (by omega)]
  unfold qT
  rw [c2, c3, c4, c5, c6, c7, c8, c9, c10, c11, n23, n24, n25, n27, n29, n30, n31, n32, n33, n34]
  refine ⟨⟨a1, a2, a3, rfl, a5, a6, a7, a8⟩, b, ⟨d, d1, d2, fun j hj => ?_⟩, ⟨e0, by omega, rfl, fun j hj => ?_⟩, e, g, w⟩
  · rw [qx_un (by omega), qx_un (by omega)]; exact d3 j hj
  · have ed : r = d0 := (qx_eq (by omega) (by omega)).mp (r2.symm.trans hd)
    rw [qx_un (by omega), qx_un (by omega)]; exact r3 j (by omega)
theorem qR_end {B : qB} {C N : fj_N} {t : Nat} {v : Int32} (h1 : C 7 t 2 = 1) (h : qR B C N) (ht : t < 12) : qR B (fj_u1 (fj_u1 C 7 t 2 (7)) 7 t 9 (v)) (fj_u1 (fj_u1 N 23 0 t (7)) 32 0 t (v)) := by
  refine qR_tk (t := t) h (qS_cg h.1 (fun j => by rw [qx_un (by omega), qx_un (by omega)]) (fun j _ => by rw [qx_un (by omega), qx_un (by omega)])) (fun κ i j _ _ _ => by rw [qx_un (by omega), qx_un (by omega)]) (fun κ i j _ _ _ _ _ => by rw [qx_un (by omega), qx_un (by omega)]) ?_
  obtain ⟨⟨a1, a2, a3, a4, a5, a6, a7, a8⟩, b, ⟨d, d1, d2, d3⟩, ⟨r, r1, r2, r3⟩, e, g, w⟩ := h.2.2.1 t ht
  have c2 : (fj_u1 (fj_u1 C 7 t 2 (7)) 7 t 9 (v)) 7 t 2 = 7 := by rw [qx_un (by omega), qx_us]
  have c3 : (fj_u1 (fj_u1 C 7 t 2 (7)) 7 t 9 (v)) 7 t 3 = C 7 t 3 := by rw [qx_un (by omega), qx_un (by omega)]
  have c4 : (fj_u1 (fj_u1 C 7 t 2 (7)) 7 t 9 (v)) 7 t 4 = C 7 t 4 := by rw [qx_un (by omega), qx_un (by omega)]
  have c5 : (fj_u1 (fj_u1 C 7 t 2 (7)) 7 t 9 (v)) 7 t 5 = C 7 t 5 := by rw [qx_un (by omega), qx_un (by omega)]
  have c6 : (fj_u1 (fj_u1 C 7 t 2 (7)) 7 t 9 (v)) 7 t 6 = C 7 t 6 := by rw [qx_un (by omega), qx_un (by omega)]
  have c7 : (fj_u1 (fj_u1 C 7 t 2 (7)) 7 t 9 (v)) 7 t 7 = C 7 t 7 := by rw [qx_un (by omega), qx_un (by omega)]
  have c8 : (fj_u1 (fj_u1 C 7 t 2 (7)) 7 t 9 (v)) 7 t 8 = C 7 t 8 := by rw [qx_un (by omega), qx_un (by omega)]
  have c9 : (fj_u1 (fj_u1 C 7 t 2 (7)) 7 t 9 (v)) 7 t 9 = v := by rw [qx_us]
  have c10 : (fj_u1 (fj_u1 C 7 t 2 (7)) 7 t 9 (v)) 7 t 10 = C 7 t 10 := by rw [qx_un (by omega), qx_un (by omega)]
  have c11 : (fj_u1 (fj_u1 C 7 t 2 (7)) 7 t 9 (v)) 7 t 11 = C 7 t 11 := by rw [qx_un (by omega), qx_un (by omega)]
  have n23 : (fj_u1 (fj_u1 N 23 0 t (7)) 32 0 t (v)) 23 0 t = 7 := by rw [qx_un (by omega), qx_us]
  have n24 : (fj_u1 (fj_u1 N 23 0 t (7)) 32 0 t (v)) 24 0 t = N 24 0 t := by rw [qx_un (by omega), qx_un (by omega)]
  have n25 : (fj_u1 (fj_u1 N 23 0 t (7)) 32 0 t (v)) 25 0 t = N 25 0 t := by rw [qx_un (by omega), qx_un (by omega)]
  have n27 : (fj_u1 (fj_u1 N 23 0 t (7)) 32 0 t (v)) 27 0 t = N 27 0 t := by rw [qx_un (by omega), qx_un (by omega)]
  have n29 : (fj_u1 (fj_u1 N 23 0 t (7)) 32 0 t (v)) 29 0 t = N 29 0 t := by rw [qx_un (by omega), qx_un (by omega)]
  have n30 : (fj_u1 (fj_u1 N 23 0 t (7)) 32 0 t (v)) 30 0 t = N 30 0 t := by rw [qx_un (by omega), qx_un (by omega)]
  have n31 : (fj_u1 (fj_u1 N 23 0 t (7)) 32 0 t (v)) 31 0 t = N 31 0 t := by rw [qx_un (by omega), qx_un (by omega)]
  have n32 : (fj_u1 (fj_u1 N 23 0 t (7)) 32 0 t (v)) 32 0 t = v := by rw [qx_us]
  have n33 : (fj_u1 (fj_u1 N 23 0 t (7)) 32 0 t (v)) 33 0 t = N 33 0 t := by rw [qx_un (by omega), qx_un (by omega)]
  have n34 : (fj_u1 (fj_u1 N 23 0 t (7)) 32 0 t (v)) 34 0 t = N 34 0 t := by rw [qx_un (by omega), qx_un (by omega)]
  unfold qT
  rw [c2, c3, c4, c5, c6, c7, c8, c9, c10, c11, n23, n24, n25, n27, n29, n30, n31, n32, n33, n34]
  refine ⟨⟨rfl, a2, a3, a4, a5, a6, by rw [a7, h1, if_neg (by decide), if_neg (by decide)], rfl⟩, ⟨fun q => absurd q (by unfold qx_w; decide), fun q => absurd q (by decide)⟩, ⟨d, d1, d2, fun j hj => ?_⟩, ⟨r, r1, r2, fun j hj => ?_⟩, ⟨7, by omega, rfl⟩, g, fun q => absurd q (by decide), fun q => absurd q (by decide), fun q => absurd q (by decide)⟩
  · rw [qx_un (by omega), qx_un (by omega), qx_un (by omega), qx_un (by omega)]; exact d3 j hj
  · rw [qx_un (by omega), qx_un (by omega), qx_un (by omega), qx_un (by omega)]; exact r3 j hj
theorem qR_sleep {B : qB} {C N : fj_N} {t : Nat} {v : Int32} (h1 : C 7 t 2 = 1) (h : qR B C N) (ht : t < 12) : qR B (fj_u1 (fj_u1 C 7 t 8 (v)) 7 t 2 (5)) (fj_u1 (fj_u1 N 23 0 t (5)) 31 0 t (v)) := by
  refine qR_tk (t := t) h (qS_cg h.1 (fun j => by rw [qx_un (by omega), qx_un (by omega)]) (fun j _ => by rw [qx_un (by omega), qx_un (by omega)])) (fun κ i j _ _ _ => by rw [qx_un (by omega), qx_un (by omega)]) (fun κ i j _ _ _ _ _ => by rw [qx_un (by omega), qx_un (by omega)]) ?_
  obtain ⟨⟨a1, a2, a3, a4, a5, a6, a7, a8⟩, b, ⟨d, d1, d2, d3⟩, ⟨r, r1, r2, r3⟩, e, g, w⟩ := h.2.2.1 t ht
  have c2 : (fj_u1 (fj_u1 C 7 t 8 (v)) 7 t 2 (5)) 7 t 2 = 5 := by rw [qx_us]
  have c3 : (fj_u1 (fj_u1 C 7 t 8 (v)) 7 t 2 (5)) 7 t 3 = C 7 t 3 := by rw [qx_un (by omega), qx_un (by omega)]
  have c4 : (fj_u1 (fj_u1 C 7 t 8 (v)) 7 t 2 (5)) 7 t 4 = C 7 t 4 := by rw [qx_un (by omega), qx_un (by omega)]
  have c5 : (fj_u1 (fj_u1 C 7 t 8 (v)) 7 t 2 (5)) 7 t 5 = C 7 t 5 := by rw [qx_un (by omega), qx_un (by omega)]
  have c6 : (fj_u1 (fj_u1 C 7 t 8 (v)) 7 t 2 (5)) 7 t 6 = C 7 t 6 := by rw [qx_un (by omega), qx_un (by omega)]
  have c7 : (fj_u1 (fj_u1 C 7 t 8 (v)) 7 t 2 (5)) 7 t 7 = C 7 t 7 := by rw [qx_un (by omega), qx_un (by omega)]
  have c8 : (fj_u1 (fj_u1 C 7 t 8 (v)) 7 t 2 (5)) 7 t 8 = v := by rw [qx_un (by omega), qx_us]
  have c9 : (fj_u1 (fj_u1 C 7 t 8 (v)) 7 t 2 (5)) 7 t 9 = C 7 t 9 := by rw [qx_un (by omega), qx_un (by omega)]
  have c10 : (fj_u1 (fj_u1 C 7 t 8 (v)) 7 t 2 (5)) 7 t 10 = C 7 t 10 := by rw [qx_un (by omega), qx_un (by omega)]
  have c11 : (fj_u1 (fj_u1 C 7 t 8 (v)) 7 t 2 (5)) 7 t 11 = C 7 t 11 := by rw [qx_un (by omega), qx_un (by omega)]
  have n23 : (fj_u1 (fj_u1 N 23 0 t (5)) 31 0 t (v)) 23 0 t = 5 := by rw [qx_un (by omega), qx_us]
  have n24 : (fj_u1 (fj_u1 N 23 0 t (5)) 31 0 t (v)) 24 0 t = N 24 0 t := by rw [qx_un (by omega), qx_un (by omega)]
  have n25 : (fj_u1 (fj_u1 N 23 0 t (5)) 31 0 t (v)) 25 0 t = N 25 0 t := by rw [qx_un (by omega), qx_un (by omega)]
  have n27 : (fj_u1 (fj_u1 N 23 0 t (5)) 31 0 t (v)) 27 0 t = N 27 0 t := by rw [qx_un (by omega), qx_un (by omega)]
  have n29 : (fj_u1 (fj_u1 N 23 0 t (5)) 31 0 t (v)) 29 0 t = N 29 0 t := by rw [qx_un (by omega), qx_un (by omega)]
  have n30 : (fj_u1 (fj_u1 N 23 0 t (5)) 31 0 t (v)) 30 0 t = N 30 0 t := by rw [qx_un (by omega), qx_un (by omega)]
  have n31 : (fj_u1 (fj_u1 N 23 0 t (5)) 31 0 t (v)) 31 0 t = v := by rw [qx_us]
  have n32 : (fj_u1 (fj_u1 N 23 0 t (5)) 31 0 t (v)) 32 0 t = N 32 0 t := by rw [qx_un (by omega), qx_un (by omega)]
  have n33 : (fj_u1 (fj_u1 N 23 0 t (5)) 31 0 t (v)) 33 0 t = N 33 0 t := by rw [qx_un (by omega), qx_un (by omega)]
  have n34 : (fj_u1 (fj_u1 N 23 0 t (5)) 31 0 t (v)) 34 0 t = N 34 0 t := by rw [qx_un (by omega), qx_un (by omega)]
  unfold qT
  rw [c2, c3, c4, c5, c6, c7, c8, c9, c10, c11, n23, n24, n25, n27, n29, n30, n31, n32, n33, n34]
  refine ⟨⟨rfl, a2, a3, a4, a5, a6, (if_pos rfl).symm, a8⟩, ⟨fun q => absurd q (by unfold qx_w; decide), fun q => absurd q (by decide)⟩, ⟨d, d1, d2, fun j hj => ?_⟩, ⟨r, r1, r2, fun j hj => ?_⟩, ⟨5, by omega, rfl⟩, g, fun q => absurd q (by decide), fun q => absurd q (by decide), fun q => absurd q (by decide)⟩
  · rw [qx_un (by omega), qx_un (by omega), qx_un (by omega), qx_un (by omega)]; exact d3 j hj
  · rw [qx_un (by omega), qx_un (by omega), qx_un (by omega), qx_un (by omega)]; exact r3 j hj
theorem qR_wsend {B : qB} {C N : fj_N} {t : Nat} {c : Nat} (hc : c < 6) (h1 : C 7 t 2 = 1) (h : qR B C N) (ht : t < 12) : qR B (fj_u1 (fj_u1 (fj_u1 C 7 t 2 (2)) 7 t 10 (nI c)) 7 t 11 (nI c)) (fj_u1 (fj_u1 (fj_u1 N 23 0 t (2)) 33 0 t (nI c)) 34 0 t (nI c)) := by
  refine qR_tk (t := t) h (qS_cg h.1 (fun j => by rw [qx_un (by omega), qx_un (by omega), qx_un (by omega)]) (fun j _ => by rw [qx_un (by omega), qx_un (by omega), qx_un (by omega)])) (fun κ i j _ _ _ => by rw [qx_un (by omega), qx_un (by omega), qx_un (by omega)]) (fun κ i j _ _ _ _ _ => by rw [qx_un (by omega), qx_un (by omega), qx_un (by omega)]) ?_
  obtain ⟨⟨a1, a2, a3, a4, a5, a6, a7, a8⟩, b, ⟨d, d1, d2, d3⟩, ⟨r, r1, r2, r3⟩, e, g, w⟩ := h.2.2.1 t ht
  have c2 : (fj_u1 (fj_u1 (fj_u1 C 7 t 2 (2)) 7 t 10 (nI c)) 7 t 11 (nI c)) 7 t 2 = 2 := by rw [qx_un (by omega), qx_un (by omega), qx_us]
  have c3 : (fj_u1 (fj_u1 (fj_u1 C 7 t 2 (2)) 7 t 10 (nI c)) 7 t 11 (nI c)) 7 t 3 = C 7 t 3 := by rw [qx_un (by omega), qx_un (by omega), qx_un (by omega)]
  have c4 : (fj_u1 (fj_u1 (fj_u1 C 7 t 2 (2)) 7 t 10 (nI c)) 7 t 11 (nI c)) 7 t 4 = C 7 t 4 := by rw [qx_un (by omega), qx_un (by omega), qx_un (by omega)]
  have c5 : (fj_u1 (fj_u1 (fj_u1 C 7 t 2 (2)) 7 t 10 (nI c)) 7 t 11 (nI c)) 7 t 5 = C 7 t 5 := by rw [qx_un (by omega), qx_un (by omega), qx_un (by omega)]
  have c6 : (fj_u1 (fj_u1 (fj_u1 C 7 t 2 (2)) 7 t 10 (nI c)) 7 t 11 (nI c)) 7 t 6 = C 7 t 6 := by rw [qx_un (by omega), qx_un (by omega), qx_un (by omega)]
  have c7 : (fj_u1 (fj_u1 (fj_u1 C 7 t 2 (2)) 7 t 10 (nI c)) 7 t 11 (nI c)) 7 t 7 = C 7 t 7 := by rw [qx_un (by omega), qx_un (by omega), qx_un (by omega)]
  have c8 : (fj_u1 (fj_u1 (fj_u1 C 7 t 2 (2)) 7 t 10 (nI c)) 7 t 11 (nI c)) 7 t 8 = C 7 t 8 := by rw [qx_un (by omega), qx_un (by omega), qx_un (by omega)]
  have c9 : (fj_u1 (fj_u1 (fj_u1 C 7 t 2 (2)) 7 t 10 (nI c)) 7 t 11 (nI c)) 7 t 9 = C 7 t 9 := by rw [qx_un (by omega), qx_un (by omega), qx_un (by omega)]
  have c10 : (fj_u1 (fj_u1 (fj_u1 C 7 t 2 (2)) 7 t 10 (nI c)) 7 t 11 (nI c)) 7 t 10 = nI c := by rw [qx_un (by omega), qx_us]
  have c11 : (fj_u1 (fj_u1 (fj_u1 C 7 t 2 (2)) 7 t 10 (nI c)) 7 t 11 (nI c)) 7 t 11 = nI c := by rw [qx_us]
  have n23 : (fj_u1 (fj_u1 (fj_u1 N 23 0 t (2)) 33 0 t (nI c)) 34 0 t (nI c)) 23 0 t = 2 := by rw [qx_un (by omega), qx_un (by omega), qx_us]
  have n24 : (fj_u1 (fj_u1 (fj_u1 N 23 0 t (2)) 33 0 t (nI c)) 34 0 t (nI c)) 24 0 t = N 24 0 t := by rw [qx_un (by omega), qx_un (by omega), qx_un (by omega)]
  have n25 : (fj_u1 (fj_u1 (fj_u1 N 23 0 t (2)) 33 0 t (nI c)) 34 0 t (nI c)) 25 0 t = N 25 0 t := by rw [qx_un (by omega), qx_un (by omega), qx_un (by omega)]
  have n27 : (fj_u1 (fj_u1 (fj_u1 N 23 0 t (2)) 33 0 t (nI c)) 34 0 t (nI c)) 27 0 t = N 27 0 t := by rw [qx_un (by omega), qx_un (by omega), qx_un (by omega)]
  have n29 : (fj_u1 (fj_u1 (fj_u1 N 23 0 t (2)) 33 0 t (nI c)) 34 0 t (nI c)) 29 0 t = N 29 0 t := by rw [qx_un (by omega), qx_un (by omega), qx_un (by omega)]
  have n30 : (fj_u1 (fj_u1 (fj_u1 N 23 0 t (2)) 33 0 t (nI c)) 34 0 t (nI c)) 30 0 t = N 30 0 t := by rw [qx_un (by omega), qx_un (by omega), qx_un (by omega)]
  have n31 : (fj_u1 (fj_u1 (fj_u1 N 23 0 t (2)) 33 0 t (nI c)) 34 0 t (nI c)) 31 0 t = N 31 0 t := by rw [qx_un (by omega), qx_un (by omega), qx_un (by omega)]
  have n32 : (fj_u1 (fj_u1 (fj_u1 N 23 0 t (2)) 33 0 t (nI c)) 34 0 t (nI c)) 32 0 t = N 32 0 t := by rw [qx_un (by omega), qx_un (by omega), qx_un (by omega)]
  have n33 : (fj_u1 (fj_u1 (fj_u1 N 23 0 t (2)) 33 0 t (nI c)) 34 0 t (nI c)) 33 0 t = nI c := by rw [qx_un (by omega), qx_us]
  have n34 : (fj_u1 (fj_u1 (fj_u1 N 23 0 t (2)) 33 0 t (nI c)) 34 0 t (nI c)) 34 0 t = nI c := by rw [qx_us]
  unfold qT
  rw [c2, c3, c4, c5, c6, c7, c8, c9, c10, c11, n23, n24, n25, n27, n29, n30, n31, n32, n33, n34]
  refine ⟨⟨rfl, a2, a3, a4, a5, a6, by rw [a7, h1, if_neg (by decide), if_neg (by decide)], a8⟩, ⟨fun _ => rfl, fun _ => rfl⟩, ⟨d, d1, d2, fun j hj => ?_⟩, ⟨r, r1, r2, fun j hj => ?_⟩, ⟨2, by omega, rfl⟩, g, fun _ => ⟨c, hc, rfl⟩, fun _ => ⟨c, hc, rfl⟩, fun q => absurd q (by decide)⟩
  · rw [qx_un (by omega), qx_un (by omega), qx_un (by omega), qx_un (by omega), qx_un (by omega), qx_un (by omega)]; exact d3 j hj
  · rw [qx_un (by omega), qx_un (by omega), qx_un (by omega), qx_un (by omega), qx_un (by omega), qx_un (by omega)]; exact r3 j hj
theorem qR_wrecv {B : qB} {C N : fj_N} {t : Nat} {c : Nat} (hc : c < 6) (h1 : C 7 t 2 = 1) (h : qR B C N) (ht : t < 12) : qR B (fj_u1 (fj_u1 (fj_u1 C 7 t 2 (3)) 7 t 10 (nI c)) 7 t 11 (nI c)) (fj_u1 (fj_u1 (fj_u1 N 23 0 t (3)) 33 0 t (nI c)) 34 0 t (nI c)) := by
  refine qR_tk (t := t) h (qS_cg h.1 (fun j => by rw [qx_un (by omega), qx_un (by omega), qx_un (by omega)]) (fun j _ => by rw [qx_un (by omega), qx_un (by omega), qx_un (by omega)])) (fun κ i j _ _ _ => by rw [qx_un (by omega), qx_un (by omega), qx_un (by omega)]) (fun κ i j _ _ _ _ _ => by rw [qx_un (by omega), qx_un (by omega), qx_un (by omega)]) ?_
  obtain ⟨⟨a1, a2, a3, a4, a5, a6, a7, a8⟩, b, ⟨d, d1, d2, d3⟩, ⟨r, r1, r2, r3⟩, e, g, w⟩ := h.2.2.1 t ht
  have c2 : (fj_u1 (fj_u1 (fj_u1 C 7 t 2 (3)) 7 t 10 (nI c)) 7 t 11 (nI c)) 7 t 2 = 3 := by rw [qx_un (by omega), qx_un (by omega), qx_us]
  have c3 : (fj_u1 (fj_u1 (fj_u1 C 7 t 2 (3)) 7 t 10 (nI c)) 7 t 11 (nI c)) 7 t 3 = C 7 t 3 := by rw [qx_un (by omega), qx_un (by omega), qx_un (by omega)]
  have c4 : (fj_u1 (fj_u1 (fj_u1 C 7 t 2 (3)) 7 t 10 (nI c)) 7 t 11 (nI c)) 7 t 4 = C 7 t 4 := by rw [qx_un (by omega), qx_un (by omega), qx_un (by omega)]
  have c5 : (fj_u1 (fj_u1 (fj_u1 C 7 t 2 (3)) 7 t 10 (nI c)) 7 t 11 (nI c)) 7 t 5 = C 7 t 5 := by rw [qx_un (by omega), qx_un (by omega), qx_un (by omega)]
  have c6 : (fj_u1 (fj_u1 (fj_u1 C 7 t 2 (3)) 7 t 10 (nI c)) 7 t 11 (nI c)) 7 t 6 = C 7 t 6 := by rw [qx_un (by omega), qx_un (by omega), qx_un (by omega)]
  have c7 : (fj_u1 (fj_u1 (fj_u1 C 7 t 2 (3)) 7 t 10 (nI c)) 7 t 11 (nI c)) 7 t 7 = C 7 t 7 := by rw [qx_un (by omega), qx_un (by omega), qx_un (by omega)]
  have c8 : (fj_u1 (fj_u1 (fj_u1 C 7 t 2 (3)) 7 t 10 (nI c)) 7 t 11 (nI c)) 7 t 8 = C 7 t 8 := by rw [qx_un (by omega), qx_un (by omega), qx_un (by omega)]
  have c9 : (fj_u1 (fj_u1 (fj_u1 C 7 t 2 (3)) 7 t 10 (nI c)) 7 t 11 (nI c)) 7 t 9 = C 7 t 9 := by rw [qx_un (by omega), qx_un (by omega), qx_un (by omega)]
  have c10 : (fj_u1 (fj_u1 (fj_u1 C 7 t 2 (3)) 7 t 10 (nI c)) 7 t 11 (nI c)) 7 t 10 = nI c := by rw [qx_un (by omega), qx_us]
  have c11 : (fj_u1 (fj_u1 (fj_u1 C 7 t 2 (3)) 7 t 10 (nI c)) 7 t 11 (nI c)) 7 t 11 = nI c := by rw [qx_us]
  have n23 : (fj_u1 (fj_u1 (fj_u1 N 23 0 t (3)) 33 0 t (nI c)) 34 0 t (nI c)) 23 0 t = 3 := by rw [qx_un (by omega), qx_un (by omega), qx_us]
  have n24 : (fj_u1 (fj_u1 (fj_u1 N 23 0 t (3)) 33 0 t (nI c)) 34 0 t (nI c)) 24 0 t = N 24 0 t := by rw [qx_un (by omega), qx_un (by omega), qx_un (by omega)]
  have n25 : (fj_u1 (fj_u1 (fj_u1 N 23 0 t (3)) 33 0 t (nI c)) 34 0 t (nI c)) 25 0 t = N 25 0 t := by rw [qx_un (by omega), qx_un (by omega), qx_un (by omega)]
  have n27 : (fj_u1 (fj_u1 (fj_u1 N 23 0 t (3)) 33 0 t (nI c)) 34 0 t (nI c)) 27 0 t = N 27 0 t := by rw [qx_un (by omega), qx_un (by omega), qx_un (by omega)]
  have n29 : (fj_u1 (fj_u1 (fj_u1 N 23 0 t (3)) 33 0 t (nI c)) 34 0 t (nI c)) 29 0 t = N 29 0 t := by rw [qx_un (by omega), qx_un (by omega), qx_un (by omega)]
  have n30 : (fj_u1 (fj_u1 (fj_u1 N 23 0 t (3)) 33 0 t (nI c)) 34 0 t (nI c)) 30 0 t = N 30 0 t := by rw [qx_un (by omega), qx_un (by omega), qx_un (by omega)]
  have n31 : (fj_u1 (fj_u1 (fj_u1 N 23 0 t (3)) 33 0 t (nI c)) 34 0 t (nI c)) 31 0 t = N 31 0 t := by rw [qx_un (by omega), qx_un (by omega), qx_un (by omega)]
  have n32 : (fj_u1 (fj_u1 (fj_u1 N 23 0 t (3)) 33 0 t (nI c)) 34 0 t (nI c)) 32 0 t = N 32 0 t := by rw [qx_un (by omega), qx_un (by omega), qx_un (by omega)]
  have n33 : (fj_u1 (fj_u1 (fj_u1 N 23 0 t (3)) 33 0 t (nI c)) 34 0 t (nI c)) 33 0 t = nI c := by rw [qx_un (by omega), qx_us]
  have n34 : (fj_u1 (fj_u1 (fj_u1 N 23 0 t (3)) 33 0 t (nI c)) 34 0 t (nI c)) 34 0 t = nI c := by rw [qx_us]
  unfold qT
  rw [c2, c3, c4, c5, c6, c7, c8, c9, c10, c11, n23, n24, n25, n27, n29, n30, n31, n32, n33, n34]
  refine ⟨⟨rfl, a2, a3, a4, a5, a6, by rw [a7, h1, if_neg (by decide), if_neg (by decide)], a8⟩, ⟨fun _ => rfl, fun _ => rfl⟩, ⟨d, d1, d2, fun j hj => ?_⟩, ⟨r, r1, r2, fun j hj => ?_⟩, ⟨3, by omega, rfl⟩, g, fun _ => ⟨c, hc, rfl⟩, fun _ => ⟨c, hc, rfl⟩, fun q => absurd q (by decide)⟩
  · rw [qx_un (by omega), qx_un (by omega), qx_un (by omega), qx_un (by omega), qx_un (by omega), qx_un (by omega)]; exact d3 j hj
  · rw [qx_un (by omega), qx_un (by omega), qx_un (by omega), qx_un (by omega), qx_un (by omega), qx_un (by omega)]; exact r3 j hj
theorem qR_wchoose {B : qB} {C N : fj_N} {t : Nat} {c ca : Nat} (hc : c < 6) (hca : ca < 6) (h1 : C 7 t 2 = 1) (h : qR B C N) (ht : t < 12) : qR B (fj_u1 (fj_u1 (fj_u1 C 7 t 2 (4)) 7 t 10 (nI c)) 7 t 11 (nI ca)) (fj_u1 (fj_u1 (fj_u1 N 23 0 t (4)) 33 0 t (nI c)) 34 0 t (nI ca)) := by
  refine qR_tk (t := t) h (qS_cg h.1 (fun j => by rw [qx_un (by omega), qx_un (by omega), qx_un (by omega)]) (fun j _ => by rw [qx_un (by omega), qx_un (by omega), qx_un (by omega)])) (fun κ i j _ _ _ => by rw [qx_un (by omega), qx_un (by omega), qx_un (by omega)]) (fun κ i j _ _ _ _ _ => by rw [qx_un (by omega), qx_un (by omega), qx_un (by omega)]) ?_
  obtain ⟨⟨a1, a2, a3, a4, a5, a6, a7, a8⟩, b, ⟨d, d1, d2, d3⟩, ⟨r, r1, r2, r3⟩, e, g, w⟩ := h.2.2.1 t ht
  have c2 : (fj_u1 (fj_u1 (fj_u1 C 7 t 2 (4)) 7 t 10 (nI c)) 7 t 11 (nI ca)) 7 t 2 = 4 := by rw [qx_un (by omega), qx_un (by omega), qx_us]
  have c3 : (fj_u1 (fj_u1 (fj_u1 C 7 t 2 (4)) 7 t 10 (nI c)) 7 t 11 (nI ca)) 7 t 3 = C 7 t 3 := by rw [qx_un (by omega), qx_un (by omega), qx_un (by omega)]
  have c4 : (fj_u1 (fj_u1 (fj_u1 C 7 t 2 (4)) 7 t 10 (nI c)) 7 t 11 (nI ca)) 7 t 4 = C 7 t 4 := by rw [qx_un (by omega), qx_un (by omega), qx_un (by omega)]
  have c5 : (fj_u1 (fj_u1 (fj_u1 C 7 t 2 (4)) 7 t 10 (nI c)) 7 t 11 (nI ca)) 7 t 5 = C 7 t 5 := by rw [qx_un (by omega), qx_un (by omega), qx_un (by omega)]
  have c6 : (fj_u1 (fj_u1 (fj_u1 C 7 t 2 (4)) 7 t 10 (nI c)) 7 t 11 (nI ca)) 7 t 6 = C 7 t 6 := by rw [qx_un (by omega), qx_un (by omega), qx_un (by omega)]
  have c7 : (fj_u1 (fj_u1 (fj_u1 C 7 t 2 (4)) 7 t 10 (nI c)) 7 t 11 (nI ca)) 7 t 7 = C 7 t 7 := by rw [qx_un (by omega), qx_un (by omega), qx_un (by omega)]
  have c8 : (fj_u1 (fj_u1 (fj_u1 C 7 t 2 (4)) 7 t 10 (nI c)) 7 t 11 (nI ca)) 7 t 8 = C 7 t 8 := by rw [qx_un (by omega), qx_un (by omega), qx_un (by omega)]
  have c9 : (fj_u1 (fj_u1 (fj_u1 C 7 t 2 (4)) 7 t 10 (nI c)) 7 t 11 (nI ca)) 7 t 9 = C 7 t 9 := by rw [qx_un (by omega), qx_un (by omega), qx_un (by omega)]
  have c10 : (fj_u1 (fj_u1 (fj_u1 C 7 t 2 (4)) 7 t 10 (nI c)) 7 t 11 (nI ca)) 7 t 10 = nI c := by rw [qx_un (by omega), qx_us]
  have c11 : (fj_u1 (fj_u1 (fj_u1 C 7 t 2 (4)) 7 t 10 (nI c)) 7 t 11 (nI ca)) 7 t 11 = nI ca := by rw [qx_us]
  have n23 : (fj_u1 (fj_u1 (fj_u1 N 23 0 t (4)) 33 0 t (nI c)) 34 0 t (nI ca)) 23 0 t = 4 := by rw [qx_un (by omega), qx_un (by omega), qx_us]
  have n24 : (fj_u1 (fj_u1 (fj_u1 N 23 0 t (4)) 33 0 t (nI c)) 34 0 t (nI ca)) 24 0 t = N 24 0 t := by rw [qx_un (by omega), qx_un (by omega), qx_un (by omega)]
  have n25 : (fj_u1 (fj_u1 (fj_u1 N 23 0 t (4)) 33 0 t (nI c)) 34 0 t (nI ca)) 25 0 t = N 25 0 t := by rw [qx_un (by omega), qx_un (by omega), qx_un (by omega)]
  have n27 : (fj_u1 (fj_u1 (fj_u1 N 23 0 t (4)) 33 0 t (nI c)) 34 0 t (nI ca)) 27 0 t = N 27 0 t := by rw [qx_un (by omega), qx_un (by omega), qx_un (by omega)]
  have n29 : (fj_u1 (fj_u1 (fj_u1 N 23 0 t (4)) 33 0 t (nI c)) 34 0 t (nI ca)) 29 0 t = N 29 0 t := by rw [qx_un (by omega), qx_un (by omega), qx_un (by omega)]
  have n30 : (fj_u1 (fj_u1 (fj_u1 N 23 0 t (4)) 33 0 t (nI c)) 34 0 t (nI ca)) 30 0 t = N 30 0 t := by rw [qx_un (by omega), qx_un (by omega), qx_un (by omega)]
  have n31 : (fj_u1 (fj_u1 (fj_u1 N 23 0 t (4)) 33 0 t (nI c)) 34 0 t (nI ca)) 31 0 t = N 31 0 t := by rw [qx_un (by omega), qx_un (by omega), qx_un (by omega)]
  have n32 : (fj_u1 (fj_u1 (fj_u1 N 23 0 t (4)) 33 0 t (nI c)) 34 0 t (nI ca)) 32 0 t = N 32 0 t := by rw [qx_un (by omega), qx_un (by omega), qx_un (by omega)]
  have n33 : (fj_u1 (fj_u1 (fj_u1 N 23 0 t (4)) 33 0 t (nI c)) 34 0 t (nI ca)) 33 0 t = nI c := by rw [qx_un (by omega), qx_us]
  have n34 : (fj_u1 (fj_u1 (fj_u1 N 23 0 t (4)) 33 0 t (nI c)) 34 0 t (nI ca)) 34 0 t = nI ca := by rw [qx_us]
  unfold qT
  rw [c2, c3, c4, c5, c6, c7, c8, c9, c10, c11, n23, n24, n25, n27, n29, n30, n31, n32, n33, n34]
  refine ⟨⟨rfl, a2, a3, a4, a5, a6, by rw [a7, h1, if_neg (by decide), if_neg (by decide)], a8⟩, ⟨fun _ => rfl, fun _ => rfl⟩, ⟨d, d1, d2, fun j hj => ?_⟩, ⟨r, r1, r2, fun j hj => ?_⟩, ⟨4, by omega, rfl⟩, g, fun _ => ⟨c, hc, rfl⟩, fun _ => ⟨ca, hca, rfl⟩, fun q => absurd q (by decide)⟩
  · rw [qx_un (by omega), qx_un (by omega), qx_un (by omega), qx_un (by omega), qx_un (by omega), qx_un (by omega)]; exact d3 j hj
  · rw [qx_un (by omega), qx_un (by omega), qx_un (by omega), qx_un (by omega), qx_un (by omega), qx_un (by omega)]; exact r3 j hj
theorem qR_wwait {B : qB} {C N : fj_N} {t : Nat} {c : Nat} (hc : c < 12) (h1 : C 7 t 2 = 1) (h : qR B C N) (ht : t < 12) : qR B (fj_u1 (fj_u1 (fj_u1 C 7 t 2 (6)) 7 t 10 (nI c)) 7 t 11 (nI c)) (fj_u1 (fj_u1 (fj_u1 N 23 0 t (6)) 33 0 t (nI c)) 34 0 t (nI c)) := by
  refine qR_tk (t := t) h (qS_cg h.1 (fun j => by rw [qx_un (by omega), qx_un (by omega), qx_un (by omega)]) (fun j _ => by rw [qx_un (by omega), qx_un (by omega), qx_un (by omega)])) (fun κ i j _ _ _ => by rw [qx_un (by omega), qx_un (by omega), qx_un (by omega)]) (fun κ i j _ _ _ _ _ => by rw [qx_un (by omega), qx_un (by omega), qx_un (by omega)]) ?_
  obtain ⟨⟨a1, a2, a3, a4, a5, a6, a7, a8⟩, b, ⟨d, d1, d2, d3⟩, ⟨r, r1, r2, r3⟩, e, g, w⟩ := h.2.2.1 t ht
  have c2 : (fj_u1 (fj_u1 (fj_u1 C 7 t 2 (6)) 7 t 10 (nI c)) 7 t 11 (nI c)) 7 t 2 = 6 := by rw [qx_un (by omega), qx_un (by omega), qx_us]
  have c3 : (fj_u1 (fj_u1 (fj_u1 C 7 t 2 (6)) 7 t 10 (nI c)) 7 t 11 (nI c)) 7 t 3 = C 7 t 3 := by rw [qx_un (by omega), qx_un (by omega), qx_un (by omega)]
  have c4 : (fj_u1 (fj_u1 (fj_u1 C 7 t 2 (6)) 7 t 10 (nI c)) 7 t 11 (nI c)) 7 t 4 = C 7 t 4 := by rw [qx_un (by omega), qx_un (by omega), qx_un (by omega)]
  have c5 : (fj_u1 (fj_u1 (fj_u1 C 7 t 2 (6)) 7 t 10 (nI c)) 7 t 11 (nI c)) 7 t 5 = C 7 t 5 := by rw [qx_un (by omega), qx_un (by omega), qx_un (by omega)]
  have c6 : (fj_u1 (fj_u1 (fj_u1 C 7 t 2 (6)) 7 t 10 (nI c)) 7 t 11 (nI c)) 7 t 6 = C 7 t 6 := by rw [qx_un (by omega), qx_un (by omega), qx_un (by omega)]
  have c7 : (fj_u1 (fj_u1 (fj_u1 C 7 t 2 (6)) 7 t 10 (nI c)) 7 t 11 (nI c)) 7 t 7 = C 7 t 7 := by rw [qx_un (by omega), qx_un (by omega), qx_un (by omega)]
  have c8 : (fj_u1 (fj_u1 (fj_u1 C 7 t 2 (6)) 7 t 10 (nI c)) 7 t 11 (nI c)) 7 t 8 = C 7 t 8 := by rw [qx_un (by omega), qx_un (by omega), qx_un (by omega)]
  have c9 : (fj_u1 (fj_u1 (fj_u1 C 7 t 2 (6)) 7 t 10 (nI c)) 7 t 11 (nI c)) 7 t 9 = C 7 t 9 := by rw [qx_un (by omega), qx_un (by omega), qx_un (by omega)]
  have c10 : (fj_u1 (fj_u1 (fj_u1 C 7 t 2 (6)) 7 t 10 (nI c)) 7 t 11 (nI c)) 7 t 10 = nI c := by rw [qx_un (by omega), qx_us]
  have c11 : (fj_u1 (fj_u1 (fj_u1 C 7 t 2 (6)) 7 t 10 (nI c)) 7 t 11 (nI c)) 7 t 11 = nI c := by rw [qx_us]
  have n23 : (fj_u1 (fj_u1 (fj_u1 N 23 0 t (6)) 33 0 t (nI c)) 34 0 t (nI c)) 23 0 t = 6 := by rw [qx_un (by omega), qx_un (by omega), qx_us]
  have n24 : (fj_u1 (fj_u1 (fj_u1 N 23 0 t (6)) 33 0 t (nI c)) 34 0 t (nI c)) 24 0 t = N 24 0 t := by rw [qx_un (by omega), qx_un (by omega), qx_un (by omega)]
  have n25 : (fj_u1 (fj_u1 (fj_u1 N 23 0 t (6)) 33 0 t (nI c)) 34 0 t (nI c)) 25 0 t = N 25 0 t := by rw [qx_un (by omega), qx_un (by omega), qx_un (by omega)]
  have n27 : (fj_u1 (fj_u1 (fj_u1 N 23 0 t (6)) 33 0 t (nI c)) 34 0 t (nI c)) 27 0 t = N 27 0 t := by rw [qx_un (by omega), qx_un (by omega), qx_un (by omega)]
  have n29 : (fj_u1 (fj_u1 (fj_u1 N 23 0 t (6)) 33 0 t (nI c)) 34 0 t (nI c)) 29 0 t = N 29 0 t := by rw [qx_un (by omega), qx_un (by omega), qx_un (by omega)]
  have n30 : (fj_u1 (fj_u1 (fj_u1 N 23 0 t (6)) 33 0 t (nI c)) 34 0 t (nI c)) 30 0 t = N 30 0 t := by rw [qx_un (by omega), qx_un (by omega), qx_un (by omega)]
  have n31 : (fj_u1 (fj_u1 (fj_u1 N 23 0 t (6)) 33 0 t (nI c)) 34 0 t (nI c)) 31 0 t = N 31 0 t := by rw [qx_un (by omega), qx_un (by omega), qx_un (by omega)]
  have n32 : (fj_u1 (fj_u1 (fj_u1 N 23 0 t (6)) 33 0 t (nI c)) 34 0 t (nI c)) 32 0 t = N 32 0 t := by rw [qx_un (by omega), qx_un (by omega), qx_un (by omega)]
  have n33 : (fj_u1 (fj_u1 (fj_u1 N 23 0 t (6)) 33 0 t (nI c)) 34 0 t (nI c)) 33 0 t = nI c := by rw [qx_un (by omega), qx_us]
  have n34 : (fj_u1 (fj_u1 (fj_u1 N 23 0 t (6)) 33 0 t (nI c)) 34 0 t (nI c)) 34 0 t = nI c := by rw [qx_us]
  unfold qT
  rw [c2, c3, c4, c5, c6, c7, c8, c9, c10, c11, n23, n24, n25, n27, n29, n30, n31, n32, n33, n34]
  refine ⟨⟨rfl, a2, a3, a4, a5, a6, by rw [a7, h1, if_neg (by decide), if_neg (by decide)], a8⟩, ⟨fun _ => rfl, fun _ => rfl⟩, ⟨d, d1, d2, fun j hj => ?_⟩, ⟨r, r1, r2, fun j hj => ?_⟩, ⟨6, by omega, rfl⟩, g, fun q => absurd q (by decide), fun q => absurd q (by decide), fun _ => ⟨c, hc, rfl⟩⟩
  · rw [qx_un (by omega), qx_un (by omega), qx_un (by omega), qx_un (by omega), qx_un (by omega), qx_un (by omega)]; exact d3 j hj
  · rw [qx_un (by omega), qx_un (by omega), qx_un (by omega), qx_un (by omega), qx_un (by omega), qx_un (by omega)]; exact r3 j hj
theorem qR_wt {B : qB} {C N : fj_N} {t : Nat} {s v1 v2 : Int32} (h1 : C 7 t 2 = 1) (h : qR B C N) (ht : t < 12) : qR B (fj_u1 (fj_u1 (fj_u1 (fj_u1 C 7 t 2 (s)) 7 t 10 (v1)) 7 t 11 (v2)) 7 t 2 (1)) (N) := by
  refine qR_tk (t := t) h (qS_cg h.1 (fun j => by rw [qx_un (by omega), qx_un (by omega), qx_un (by omega), qx_un (by omega)]) (fun j _ => rfl)) (fun κ i j _ _ _ => by rw [qx_un (by omega), qx_un (by omega), qx_un (by omega), qx_un (by omega)]) (fun κ i j _ _ _ _ _ => rfl) ?_
  obtain ⟨⟨a1, a2, a3, a4, a5, a6, a7, a8⟩, b, ⟨d, d1, d2, d3⟩, ⟨r, r1, r2, r3⟩, e, g, w⟩ := h.2.2.1 t ht
  have c2 : (fj_u1 (fj_u1 (fj_u1 (fj_u1 C 7 t 2 (s)) 7 t 10 (v1)) 7 t 11 (v2)) 7 t 2 (1)) 7 t 2 = 1 := by rw [qx_us]
  have c3 : (fj_u1 (fj_u1 (fj_u1 (fj_u1 C 7 t 2 (s)) 7 t 10 (v1)) 7 t 11 (v2)) 7 t 2 (1)) 7 t 3 = C 7 t 3 := by rw [qx_un (by omega), qx_un (by omega), qx_un (by omega), qx_un (by omega)]
  have c4 : (fj_u1 (fj_u1 (fj_u1 (fj_u1 C 7 t 2 (s)) 7 t 10 (v1)) 7 t 11 (v2)) 7 t 2 (1)) 7 t 4 = C 7 t 4 := by rw [qx_un (by omega), qx_un (by omega), qx_un (by omega), qx_un (by omega)]
  have c5 : (fj_u1 (fj_u1 (fj_u1 (fj_u1 C 7 t 2 (s)) 7 t 10 (v1)) 7 t 11 (v2)) 7 t 2 (1)) 7 t 5 = C 7 t 5 := by rw [qx_un (by omega), qx_un (by omega), qx_un (by omega), qx_un (by omega)]
  have c6 : (fj_u1 (fj_u1 (fj_u1 (fj_u1 C 7 t 2 (s)) 7 t 10 (v1)) 7 t 11 (v2)) 7 t 2 (1)) 7 t 6 = C 7 t 6 := by rw [qx_un (by omega), qx_un (by omega), qx_un (by omega), qx_un (by omega)]
  have c7 : (fj_u1 (fj_u1 (fj_u1 (fj_u1 C 7 t 2 (s)) 7 t 10 (v1)) 7 t 11 (v2)) 7 t 2 (1)) 7 t 7 = C 7 t 7 := by rw [qx_un (by omega), qx_un (by omega), qx_un (by omega), qx_un (by omega)]
  have c8 : (fj_u1 (fj_u1 (fj_u1 (fj_u1 C 7 t 2 (s)) 7 t 10 (v1)) 7 t 11 (v2)) 7 t 2 (1)) 7 t 8 = C 7 t 8 := by rw [qx_un (by omega), qx_un (by omega), qx_un (by omega), qx_un (by omega)]
  have c9 : (fj_u1 (fj_u1 (fj_u1 (fj_u1 C 7 t 2 (s)) 7 t 10 (v1)) 7 t 11 (v2)) 7 t 2 (1)) 7 t 9 = C 7 t 9 := by rw [qx_un (by omega), qx_un (by omega), qx_un (by omega), qx_un (by omega)]
  have c10 : (fj_u1 (fj_u1 (fj_u1 (fj_u1 C 7 t 2 (s)) 7 t 10 (v1)) 7 t 11 (v2)) 7 t 2 (1)) 7 t 10 = v1 := by rw [qx_un (by omega), qx_un (by omega), qx_us]
  have c11 : (fj_u1 (fj_u1 (fj_u1 (fj_u1 C 7 t 2 (s)) 7 t 10 (v1)) 7 t 11 (v2)) 7 t 2 (1)) 7 t 11 = v2 := by rw [qx_un (by omega), qx_us]
  unfold qT
  rw [c2, c3, c4, c5, c6, c7, c8, c9, c10, c11]
  refine ⟨⟨by rw [a1, h1], a2, a3, a4, a5, a6, by rw [a7, h1], a8⟩, ⟨fun q => absurd q (by unfold qx_w; decide), fun q => absurd q (by decide)⟩, ⟨d, d1, d2, fun j hj => ?_⟩, ⟨r, r1, r2, fun j hj => ?_⟩, ⟨1, by omega, rfl⟩, g, fun q => absurd q (by decide), fun q => absurd q (by decide), fun q => absurd q (by decide)⟩
  · rw [qx_un (by omega), qx_un (by omega), qx_un (by omega), qx_un (by omega)]; exact d3 j hj
  · rw [qx_un (by omega), qx_un (by omega), qx_un (by omega), qx_un (by omega)]; exact r3 j hj
theorem qR_mem {B : qB} {C N : fj_N} {j : Nat} {v : Int32} (h : qR B C N) (hj : j < 64) : qR B (fj_u1 C 2 0 j v) (fj_u1 N 22 0 j v) := by
  obtain ⟨hS, hA, hT, hC⟩ := h
  refine ⟨qS_cg hS (fun j => qx_un (by omega)) (fun j _ => qx_un (by omega)), ⟨fun k hk => ?_, fun k hk => ?_, fun k hk => ?_⟩, qT_all hT (fun κ i j _ _ => qx_un (by omega)) (fun κ i j _ _ => qx_un (by omega)), qC_all hC (fun κ i j _ _ => qx_un (by omega)) (fun κ i j _ _ => qx_un (by omega))⟩
  · rw [qx_un (by omega), qx_un (by omega)]; exact hA.1 k hk
  · rw [qx_u, qx_u]
    by_cases hkj : k = j
    · simp [hkj]
    · simp [hkj, hA.2.1 k hk]
  · rw [qx_un (by omega), qx_un (by omega)]; exact hA.2.2 k hk
theorem qR_left {B : qB} {C N : fj_N} {v : Int32} (h : qR B C N) : qR B (fj_u1 C 0 0 9 v) (fj_u1 N 20 0 21 v) := by
  refine qR_sc h (fun κ i j _ => qx_un (by omega)) (fun κ i j _ => qx_un (by omega)) ?_
  obtain ⟨⟨s1, s2, s3, s4, s5, s6, s7, s8⟩, s9, s10⟩ := h.1
  have ec : ∀ j, j ≠ 9 → fj_u1 C 0 0 9 v 0 0 j = C 0 0 j := fun j _ => qx_un (by omega)
  have en : ∀ j, j ≠ 21 → fj_u1 N 20 0 21 v 20 0 j = N 20 0 j := fun j _ => qx_un (by omega)
  unfold qS
  rw [qx_us, qx_us, ec 11 (by omega), ec 10 (by omega), ec 8 (by omega), ec 6 (by omega), ec 7 (by omega), ec 12 (by omega), ec 13 (by omega), en 18 (by omega), en 19 (by omega), en 20 (by omega), en 22 (by omega), en 23 (by omega), en 24 (by omega), en 25 (by omega)]
  exact ⟨⟨s1, s2, s3, rfl, s5, s6, s7, s8⟩, s9, s10⟩
/-- one int more is printed -/
theorem qR_print0 {b : Nat} {l : Bool} {C N : fj_N} {p : Nat} (h : qR (b, l) C N) (hp : C 0 0 11 = nI p) (hpb : p ≤ b) : qR (b + 1, l) (fj_u1 C 0 0 11 (nI (p + 1))) (fj_u1 N 20 0 18 (nI (p + 1))) := by
  refine qR_sc h (fun κ i j _ => qx_un (by omega)) (fun κ i j _ => qx_un (by omega)) ?_
  obtain ⟨⟨s1, s2, s3, s4, s5, s6, s7, s8⟩, s9, s10⟩ := h.1
  have ec : ∀ j, j ≠ 11 → fj_u1 C 0 0 11 (nI (p + 1)) 0 0 j = C 0 0 j := fun j _ => qx_un (by omega)
  have en : ∀ j, j ≠ 18 → fj_u1 N 20 0 18 (nI (p + 1)) 20 0 j = N 20 0 j := fun j _ => qx_un (by omega)
  unfold qS
  rw [qx_us, qx_us, ec 10 (by omega), ec 8 (by omega), ec 9 (by omega), ec 6 (by omega), ec 7 (by omega), ec 12 (by omega), ec 13 (by omega), en 19 (by omega), en 20 (by omega), en 21 (by omega), en 22 (by omega), en 23 (by omega), en 24 (by omega), en 25 (by omega)]
  exact ⟨⟨rfl, s2, s3, s4, s5, s6, s7, s8⟩, s9, p + 1, by omega, rfl⟩
theorem qR_rec {B : qB} {C N : fj_N} {j : Nat} {v : Int32} (h : qR B C N) (hj : j < 300) : qR B (fj_u1 C 3 0 j v) (fj_u1 N 38 0 j v) := by
  obtain ⟨hS, hA, hT, hC⟩ := h
  refine ⟨qS_cg hS (fun j => qx_un (by omega)) (fun j _ => qx_un (by omega)), ⟨fun k hk => ?_, fun k hk => ?_, fun k hk => ?_⟩, qT_all hT (fun κ i j _ _ => qx_un (by omega)) (fun κ i j _ _ => qx_un (by omega)), qC_all hC (fun κ i j _ _ => qx_un (by omega)) (fun κ i j _ _ => qx_un (by omega))⟩
  · rw [qx_un (by omega), qx_un (by omega)]; exact hA.1 k hk
  · rw [qx_un (by omega), qx_un (by omega)]; exact hA.2.1 k hk
  · rw [qx_u, qx_u]
    by_cases hkj : k = j
    · simp [hkj]
    · simp [hkj, hA.2.2 k hk]
theorem qx_cm (M : fj_N) (κ i j : Nat) (v : Int32) (κ' i' j' : Nat) (w : Int32) (h : ¬ (κ = κ' ∧ i = i' ∧ j = j')) : fj_u1 (fj_u1 M κ i j v) κ' i' j' w = fj_u1 (fj_u1 M κ' i' j' w) κ i j v := by
  funext a b c
  by_cases h1 : a = κ ∧ b = i ∧ c = j
  · rw [qx_un (by omega), qx_u, if_pos h1, qx_u, if_pos h1]
  · rw [qx_un h1]
    by_cases h2 : a = κ' ∧ b = i' ∧ c = j'
    · rw [qx_u, if_pos h2, qx_u, if_pos h2]
    · rw [qx_un h2, qx_un h1, qx_un h2]
