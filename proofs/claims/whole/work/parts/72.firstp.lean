set_option maxHeartbeats 4000000 in
set_option maxRecDepth 20000 in
theorem first_at {Y : CD} {z : Nat} {H : Heap} {kk vv : Nat → Nat} (hN : NP Y z ((oX8 (z + 1) :: mX8 Y (z + 1)) ++ (oX9 (z + 94) :: mX9 Y (z + 94))) H) : ∀ x ∈ ids, va_at Y.1 classes (z + plOf x.1 x.2, cellOf (XF Y z kk vv) m0 x.1 x.2) H := by
  obtain ⟨b1, mo⟩ := NP.app 93 (by simp only [List.length_append, List.length_cons, List.length_nil, lenM_X6, lenM_X1, lenM_X4, lenM_X3, lenM_X2, lenM_X0, lenM_X8, len_T_X8_85, len_T_X8_119, len_T_X6_15, Nat.reduceAdd, Nat.reduceMul, Nat.zero_add]) hN
  obtain ⟨h0, b1⟩ := NP.cons b1
  unfold mX8 at b1
  obtain ⟨b1, wa⟩ := NP.app 91 (by simp only [List.length_append, List.length_cons, List.length_nil, lenM_X6, lenM_X1, lenM_X4, lenM_X3, lenM_X2, lenM_X0, lenM_X8, len_T_X8_85, len_T_X8_119, len_T_X6_15, Nat.reduceAdd, Nat.reduceMul, Nat.zero_add]) b1
  obtain ⟨b1, sl⟩ := NP.app 70 (by simp only [List.length_append, List.length_cons, List.length_nil, lenM_X6, lenM_X1, lenM_X4, lenM_X3, lenM_X2, lenM_X0, lenM_X8, len_T_X8_85, len_T_X8_119, len_T_X6_15, Nat.reduceAdd, Nat.reduceMul, Nat.zero_add]) b1
  obtain ⟨b1, sh⟩ := NP.app 61 (by simp only [List.length_append, List.length_cons, List.length_nil, lenM_X6, lenM_X1, lenM_X4, lenM_X3, lenM_X2, lenM_X0, lenM_X8, len_T_X8_85, len_T_X8_119, len_T_X6_15, Nat.reduceAdd, Nat.reduceMul, Nat.zero_add]) b1
  obtain ⟨b1, be⟩ := NP.app 60 (by simp only [List.length_append, List.length_cons, List.length_nil, lenM_X6, lenM_X1, lenM_X4, lenM_X3, lenM_X2, lenM_X0, lenM_X8, len_T_X8_85, len_T_X8_119, len_T_X6_15, Nat.reduceAdd, Nat.reduceMul, Nat.zero_add]) b1
  obtain ⟨b1, s2⟩ := NP.app 52 (by simp only [List.length_append, List.length_cons, List.length_nil, lenM_X6, lenM_X1, lenM_X4, lenM_X3, lenM_X2, lenM_X0, lenM_X8, len_T_X8_85, len_T_X8_119, len_T_X6_15, Nat.reduceAdd, Nat.reduceMul, Nat.zero_add]) b1
  obtain ⟨b1, s1⟩ := NP.app 44 (by simp only [List.length_append, List.length_cons, List.length_nil, lenM_X6, lenM_X1, lenM_X4, lenM_X3, lenM_X2, lenM_X0, lenM_X8, len_T_X8_85, len_T_X8_119, len_T_X6_15, Nat.reduceAdd, Nat.reduceMul, Nat.zero_add]) b1
  obtain ⟨b1, s0⟩ := NP.app 36 (by simp only [List.length_append, List.length_cons, List.length_nil, lenM_X6, lenM_X1, lenM_X4, lenM_X3, lenM_X2, lenM_X0, lenM_X8, len_T_X8_85, len_T_X8_119, len_T_X6_15, Nat.reduceAdd, Nat.reduceMul, Nat.zero_add]) b1
  obtain ⟨b1, rd⟩ := NP.app 31 (by simp only [List.length_append, List.length_cons, List.length_nil, lenM_X6, lenM_X1, lenM_X4, lenM_X3, lenM_X2, lenM_X0, lenM_X8, len_T_X8_85, len_T_X8_119, len_T_X6_15, Nat.reduceAdd, Nat.reduceMul, Nat.zero_add]) b1
  obtain ⟨ht, tx⟩ := NP.cons b1
  unfold mX6 at tx
  obtain ⟨tx, ts⟩ := NP.app 29 (by simp only [List.length_append, List.length_cons, List.length_nil, lenM_X6, lenM_X1, lenM_X4, lenM_X3, lenM_X2, lenM_X0, lenM_X8, len_T_X8_85, len_T_X8_119, len_T_X6_15, Nat.reduceAdd, Nat.reduceMul, Nat.zero_add]) tx
  have ts := (NP.cons ts).1
  obtain ⟨tl, tx⟩ := NP.cons (show NP Y _ (_ :: _) H from tx)
  have tx := T_X6_at 14 tx
  obtain ⟨hr, rd⟩ := NP.cons rd
  have rd : NP Y _ [.inl (Y.2 0, (96, .inl (fun _ => 0))), oX5 (z + 1 + 32 + 2), .inl (Y.2 0, (96, .inl (fun _ => 0))), .inl (Y.2 0, (96, .inl (fun _ => 0)))] H := rd
  have s0 := P_X4 s0
  have s1 := P_X4 s1
  have s2 := P_X4 s2
  have be := (NP.cons be).1
  obtain ⟨sa, sh⟩ := NP.cons sh
  have sh := T_X8a_at 4 sh
  obtain ⟨la, sl⟩ := NP.cons sl
  have sl := T_X8b_at 5 sl
  have wa := (NP.cons wa).1
  obtain ⟨hm, mo⟩ := NP.cons mo
  unfold mX9 at mo
  obtain ⟨g0, mo⟩ := NP.cons mo
  simp only [List.append_assoc, List.cons_append, List.nil_append] at mo
  obtain ⟨g1, mo⟩ := NP.cons mo
  obtain ⟨g2, mo⟩ := NP.cons mo
  obtain ⟨g3, mo⟩ := NP.cons mo
  obtain ⟨g4, mo⟩ := NP.cons mo
  obtain ⟨g5, mo⟩ := NP.cons mo
  obtain ⟨g6, mo⟩ := NP.cons mo
  obtain ⟨g7, mo⟩ := NP.cons mo
  obtain ⟨g8, mo⟩ := NP.cons mo
  obtain ⟨g9, mo⟩ := NP.cons mo
  obtain ⟨g10, mo⟩ := NP.cons mo
  obtain ⟨g11, mo⟩ := NP.cons mo
  obtain ⟨g12, mo⟩ := NP.cons mo
  obtain ⟨g13, mo⟩ := NP.cons mo
  obtain ⟨g14, mo⟩ := NP.cons mo
  obtain ⟨g15, mo⟩ := NP.cons mo
  obtain ⟨g16, mo⟩ := NP.cons mo
  obtain ⟨g17, mo⟩ := NP.cons mo
  obtain ⟨g18, mo⟩ := NP.cons mo
  obtain ⟨g19, mo⟩ := NP.cons mo
  obtain ⟨g20, mo⟩ := NP.cons mo
  obtain ⟨g21, mo⟩ := NP.cons mo
  unfold ids
  refine List.forall_mem_cons.mpr ⟨?_, ?_⟩
  · show va_at Y.1 classes (z + 0, .inr (8, [.ref (z + 1), .ref (z + 32), .ref (z + 37), .ref (z + 45), .ref (z + 53), .int 0, .ref (z + 61), .ref (z + 62), .ref (z + 71), .ref (z + 92), .int 0])) H
    exact h0
  refine List.forall_mem_cons.mpr ⟨?_, ?_⟩
  · show va_at Y.1 classes (z + 1, .inr (6, [.ref (z + 2), .ref (z + 31)])) H
    exact co6 ht (by omega) (by omega) (by omega)
  refine List.forall_mem_cons.mpr ⟨?_, ?_⟩
  · show va_at Y.1 classes (z + 2, aR (XF Y z kk vv) 5 14 3 (fun j => j)) H
    exact cr tl (by omega) (fun j hj => by show _ = z + (if j < 14 then 3 + 2 * j else 34); rw [if_pos hj]; omega)
  refine List.forall_mem_cons.mpr ⟨?_, ?_⟩
  · show va_at Y.1 classes (z + 3, .inr (5, [.int 0, .int 0, .int 0, .ref (z + 4)])) H
    exact co5 (tx 0 (by decide)).1 (by omega) (by omega)
  refine List.forall_mem_cons.mpr ⟨?_, ?_⟩
  · show va_at Y.1 classes (z + 5, .inr (5, [.int 0, .int 0, .int 0, .ref (z + 6)])) H
    exact co5 (tx 1 (by decide)).1 (by omega) (by omega)
  refine List.forall_mem_cons.mpr ⟨?_, ?_⟩
  · show va_at Y.1 classes (z + 7, .inr (5, [.int 0, .int 0, .int 0, .ref (z + 8)])) H
    exact co5 (tx 2 (by decide)).1 (by omega) (by omega)
  refine List.forall_mem_cons.mpr ⟨?_, ?_⟩
  · show va_at Y.1 classes (z + 9, .inr (5, [.int 0, .int 0, .int 0, .ref (z + 10)])) H
    exact co5 (tx 3 (by decide)).1 (by omega) (by omega)
  refine List.forall_mem_cons.mpr ⟨?_, ?_⟩
  · show va_at Y.1 classes (z + 11, .inr (5, [.int 0, .int 0, .int 0, .ref (z + 12)])) H
    exact co5 (tx 4 (by decide)).1 (by omega) (by omega)
  refine List.forall_mem_cons.mpr ⟨?_, ?_⟩
  · show va_at Y.1 classes (z + 13, .inr (5, [.int 0, .int 0, .int 0, .ref (z + 14)])) H
    exact co5 (tx 5 (by decide)).1 (by omega) (by omega)
  refine List.forall_mem_cons.mpr ⟨?_, ?_⟩
  · show va_at Y.1 classes (z + 15, .inr (5, [.int 0, .int 0, .int 0, .ref (z + 16)])) H
    exact co5 (tx 6 (by decide)).1 (by omega) (by omega)
  refine List.forall_mem_cons.mpr ⟨?_, ?_⟩
  · show va_at Y.1 classes (z + 17, .inr (5, [.int 0, .int 0, .int 0, .ref (z + 18)])) H
    exact co5 (tx 7 (by decide)).1 (by omega) (by omega)
  refine List.forall_mem_cons.mpr ⟨?_, ?_⟩
  · show va_at Y.1 classes (z + 19, .inr (5, [.int 0, .int 0, .int 0, .ref (z + 20)])) H
    exact co5 (tx 8 (by decide)).1 (by omega) (by omega)
  refine List.forall_mem_cons.mpr ⟨?_, ?_⟩
  · show va_at Y.1 classes (z + 21, .inr (5, [.int 0, .int 0, .int 0, .ref (z + 22)])) H
    exact co5 (tx 9 (by decide)).1 (by omega) (by omega)
  refine List.forall_mem_cons.mpr ⟨?_, ?_⟩
  · show va_at Y.1 classes (z + 23, .inr (5, [.int 0, .int 0, .int 0, .ref (z + 24)])) H
    exact co5 (tx 10 (by decide)).1 (by omega) (by omega)
  refine List.forall_mem_cons.mpr ⟨?_, ?_⟩
  · show va_at Y.1 classes (z + 25, .inr (5, [.int 0, .int 0, .int 0, .ref (z + 26)])) H
    exact co5 (tx 11 (by decide)).1 (by omega) (by omega)
  refine List.forall_mem_cons.mpr ⟨?_, ?_⟩
  · show va_at Y.1 classes (z + 27, .inr (5, [.int 0, .int 0, .int 0, .ref (z + 28)])) H
    exact co5 (tx 12 (by decide)).1 (by omega) (by omega)
  refine List.forall_mem_cons.mpr ⟨?_, ?_⟩
  · show va_at Y.1 classes (z + 29, .inr (5, [.int 0, .int 0, .int 0, .ref (z + 30)])) H
    exact co5 (tx 13 (by decide)).1 (by omega) (by omega)
  refine List.forall_mem_cons.mpr ⟨?_, ?_⟩
  · show va_at Y.1 classes (z + 34, .inr (5, [.int 0, .int 0, .int 0, .ref (z + 35)])) H
    exact co5 (rd 1 _ rfl) (by omega) (by omega)
  refine List.forall_mem_cons.mpr ⟨?_, ?_⟩
  · show va_at Y.1 classes (z + 4, aI (XF Y z kk vv) m0 0 (1100 + 96 * 0) 96) H
    exact cz (tx 0 (by decide)).2 (by omega) (fun j hj => m0z (by omega))
  refine List.forall_mem_cons.mpr ⟨?_, ?_⟩
  · show va_at Y.1 classes (z + 6, aI (XF Y z kk vv) m0 0 (1100 + 96 * 1) 96) H
    exact cz (tx 1 (by decide)).2 (by omega) (fun j hj => m0z (by omega))
  refine List.forall_mem_cons.mpr ⟨?_, ?_⟩
  · show va_at Y.1 classes (z + 8, aI (XF Y z kk vv) m0 0 (1100 + 96 * 2) 96) H
    exact cz (tx 2 (by decide)).2 (by omega) (fun j hj => m0z (by omega))
  refine List.forall_mem_cons.mpr ⟨?_, ?_⟩
  · show va_at Y.1 classes (z + 10, aI (XF Y z kk vv) m0 0 (1100 + 96 * 3) 96) H
    exact cz (tx 3 (by decide)).2 (by omega) (fun j hj => m0z (by omega))
  refine List.forall_mem_cons.mpr ⟨?_, ?_⟩
  · show va_at Y.1 classes (z + 12, aI (XF Y z kk vv) m0 0 (1100 + 96 * 4) 96) H
    exact cz (tx 4 (by decide)).2 (by omega) (fun j hj => m0z (by omega))
  refine List.forall_mem_cons.mpr ⟨?_, ?_⟩
  · show va_at Y.1 classes (z + 14, aI (XF Y z kk vv) m0 0 (1100 + 96 * 5) 96) H
    exact cz (tx 5 (by decide)).2 (by omega) (fun j hj => m0z (by omega))
  refine List.forall_mem_cons.mpr ⟨?_, ?_⟩
  · show va_at Y.1 classes (z + 16, aI (XF Y z kk vv) m0 0 (1100 + 96 * 6) 96) H
    exact cz (tx 6 (by decide)).2 (by omega) (fun j hj => m0z (by omega))
  refine List.forall_mem_cons.mpr ⟨?_, ?_⟩
  · show va_at Y.1 classes (z + 18, aI (XF Y z kk vv) m0 0 (1100 + 96 * 7) 96) H
    exact cz (tx 7 (by decide)).2 (by omega) (fun j hj => m0z (by omega))
  refine List.forall_mem_cons.mpr ⟨?_, ?_⟩
  · show va_at Y.1 classes (z + 20, aI (XF Y z kk vv) m0 0 (1100 + 96 * 8) 96) H
    exact cz (tx 8 (by decide)).2 (by omega) (fun j hj => m0z (by omega))
  refine List.forall_mem_cons.mpr ⟨?_, ?_⟩
  · show va_at Y.1 classes (z + 22, aI (XF Y z kk vv) m0 0 (1100 + 96 * 9) 96) H
    exact cz (tx 9 (by decide)).2 (by omega) (fun j hj => m0z (by omega))
  refine List.forall_mem_cons.mpr ⟨?_, ?_⟩
  · show va_at Y.1 classes (z + 24, aI (XF Y z kk vv) m0 0 (1100 + 96 * 10) 96) H
    exact cz (tx 10 (by decide)).2 (by omega) (fun j hj => m0z (by omega))
  refine List.forall_mem_cons.mpr ⟨?_, ?_⟩
  · show va_at Y.1 classes (z + 26, aI (XF Y z kk vv) m0 0 (1100 + 96 * 11) 96) H
    exact cz (tx 11 (by decide)).2 (by omega) (fun j hj => m0z (by omega))
  refine List.forall_mem_cons.mpr ⟨?_, ?_⟩
  · show va_at Y.1 classes (z + 28, aI (XF Y z kk vv) m0 0 (1100 + 96 * 12) 96) H
    exact cz (tx 12 (by decide)).2 (by omega) (fun j hj => m0z (by omega))
  refine List.forall_mem_cons.mpr ⟨?_, ?_⟩
  · show va_at Y.1 classes (z + 30, aI (XF Y z kk vv) m0 0 (1100 + 96 * 13) 96) H
    exact cz (tx 13 (by decide)).2 (by omega) (fun j hj => m0z (by omega))
  refine List.forall_mem_cons.mpr ⟨?_, ?_⟩
  · show va_at Y.1 classes (z + 35, aI (XF Y z kk vv) m0 0 (1100 + 96 * 14) 96) H
    exact cz (rd 2 _ rfl) (by omega) (fun j hj => m0z (by omega))
  refine List.forall_mem_cons.mpr ⟨?_, ?_⟩
  · show va_at Y.1 classes (z + 31, aI (XF Y z kk vv) m0 0 (800) 96) H
    exact cz ts (by omega) (fun j hj => m0z (by omega))
  refine List.forall_mem_cons.mpr ⟨?_, ?_⟩
  · show va_at Y.1 classes (z + 32, .inr (1, [.ref (z + 33), .int 0, .ref (z + 34), .ref (z + 36), .int 0, .int 0, .int 0, .int 0, .int 0, .int 0, .int 0, .int 0])) H
    exact co1 hr (by omega) (by omega) (by omega) (by omega)
  refine List.forall_mem_cons.mpr ⟨?_, ?_⟩
  · show va_at Y.1 classes (z + 33, aI (XF Y z kk vv) m0 0 (900) 96) H
    exact cz (rd 0 _ rfl) (by omega) (fun j hj => m0z (by omega))
  refine List.forall_mem_cons.mpr ⟨?_, ?_⟩
  · show va_at Y.1 classes (z + 36, aI (XF Y z kk vv) m0 0 (1000) 96) H
    exact cz (rd 3 _ rfl) (by omega) (fun j hj => m0z (by omega))
  refine List.forall_mem_cons.mpr ⟨?_, ?_⟩
  · show va_at Y.1 classes (z + 37, .inr (4, [.ref (z + 38), .int 0, .int 1000, .int 110, .int 0, .int 0, .int 0, .int 0, .int 0, .int 0, .int 0, .int 0, .int 0, .int (-1), .int 0, .int 1, .int 0, .ref (z + 44), .ref (z + 1)])) H
    exact co4 s0.1 (by omega) (by omega) (by omega) (by omega)
  refine List.forall_mem_cons.mpr ⟨?_, ?_⟩
  · show va_at Y.1 classes (z + 45, .inr (4, [.ref (z + 46), .int 0, .int 1000, .int 110, .int 0, .int 0, .int 0, .int 0, .int 0, .int 0, .int 0, .int 0, .int 0, .int (-1), .int 0, .int 1, .int 0, .ref (z + 52), .ref (z + 1)])) H
    exact co4 s1.1 (by omega) (by omega) (by omega) (by omega)
  refine List.forall_mem_cons.mpr ⟨?_, ?_⟩
  · show va_at Y.1 classes (z + 53, .inr (4, [.ref (z + 54), .int 0, .int 1000, .int 110, .int 0, .int 0, .int 0, .int 0, .int 0, .int 0, .int 0, .int 0, .int 0, .int (-1), .int 0, .int 1, .int 0, .ref (z + 60), .ref (z + 1)])) H
    exact co4 s2.1 (by omega) (by omega) (by omega) (by omega)
  refine List.forall_mem_cons.mpr ⟨?_, ?_⟩
  · show va_at Y.1 classes (z + 38, aR (XF Y z kk vv) 4 5 11 (fun j => (10 * 0 + j))) H
    exact cr s0.2.1 (by omega) (fun j hj => by show _ = z + (if 10 * 0 + j < 30 then 39 + 8 * ((10 * 0 + j) / 10) + (10 * 0 + j) % 10 else 73 + 4 * (10 * 0 + j - 30)); rw [if_pos (by omega)]; omega)
  refine List.forall_mem_cons.mpr ⟨?_, ?_⟩
  · show va_at Y.1 classes (z + 46, aR (XF Y z kk vv) 4 5 11 (fun j => (10 * 1 + j))) H
    exact cr s1.2.1 (by omega) (fun j hj => by show _ = z + (if 10 * 1 + j < 30 then 39 + 8 * ((10 * 1 + j) / 10) + (10 * 1 + j) % 10 else 73 + 4 * (10 * 1 + j - 30)); rw [if_pos (by omega)]; omega)
  refine List.forall_mem_cons.mpr ⟨?_, ?_⟩
  · show va_at Y.1 classes (z + 54, aR (XF Y z kk vv) 4 5 11 (fun j => (10 * 2 + j))) H
    exact cr s2.2.1 (by omega) (fun j hj => by show _ = z + (if 10 * 2 + j < 30 then 39 + 8 * ((10 * 2 + j) / 10) + (10 * 2 + j) % 10 else 73 + 4 * (10 * 2 + j - 30)); rw [if_pos (by omega)]; omega)
  refine List.forall_mem_cons.mpr ⟨?_, ?_⟩
  · show va_at Y.1 classes (z + 39, .inr (7, [.int 0, .int 0, .int 0, .int 0, .int 0, .int 0, .int 0])) H
    exact co7 (s0.2.2.1 0 (by decide)) (by omega)
  refine List.forall_mem_cons.mpr ⟨?_, ?_⟩
  · show va_at Y.1 classes (z + 40, .inr (7, [.int 0, .int 0, .int 0, .int 0, .int 0, .int 0, .int 0])) H
    exact co7 (s0.2.2.1 1 (by decide)) (by omega)
  refine List.forall_mem_cons.mpr ⟨?_, ?_⟩
  · show va_at Y.1 classes (z + 41, .inr (7, [.int 0, .int 0, .int 0, .int 0, .int 0, .int 0, .int 0])) H
    exact co7 (s0.2.2.1 2 (by decide)) (by omega)
  refine List.forall_mem_cons.mpr ⟨?_, ?_⟩
  · show va_at Y.1 classes (z + 42, .inr (7, [.int 0, .int 0, .int 0, .int 0, .int 0, .int 0, .int 0])) H
    exact co7 (s0.2.2.1 3 (by decide)) (by omega)
  refine List.forall_mem_cons.mpr ⟨?_, ?_⟩
  · show va_at Y.1 classes (z + 43, .inr (7, [.int 0, .int 0, .int 0, .int 0, .int 0, .int 0, .int 0])) H
    exact co7 (s0.2.2.1 4 (by decide)) (by omega)
  refine List.forall_mem_cons.mpr ⟨?_, ?_⟩
  · show va_at Y.1 classes (z + 47, .inr (7, [.int 0, .int 0, .int 0, .int 0, .int 0, .int 0, .int 0])) H
    exact co7 (s1.2.2.1 0 (by decide)) (by omega)
  refine List.forall_mem_cons.mpr ⟨?_, ?_⟩
  · show va_at Y.1 classes (z + 48, .inr (7, [.int 0, .int 0, .int 0, .int 0, .int 0, .int 0, .int 0])) H
    exact co7 (s1.2.2.1 1 (by decide)) (by omega)
  refine List.forall_mem_cons.mpr ⟨?_, ?_⟩
  · show va_at Y.1 classes (z + 49, .inr (7, [.int 0, .int 0, .int 0, .int 0, .int 0, .int 0, .int 0])) H
    exact co7 (s1.2.2.1 2 (by decide)) (by omega)
  refine List.forall_mem_cons.mpr ⟨?_, ?_⟩
  · show va_at Y.1 classes (z + 50, .inr (7, [.int 0, .int 0, .int 0, .int 0, .int 0, .int 0, .int 0])) H
    exact co7 (s1.2.2.1 3 (by decide)) (by omega)
  refine List.forall_mem_cons.mpr ⟨?_, ?_⟩
  · show va_at Y.1 classes (z + 51, .inr (7, [.int 0, .int 0, .int 0, .int 0, .int 0, .int 0, .int 0])) H
    exact co7 (s1.2.2.1 4 (by decide)) (by omega)
  refine List.forall_mem_cons.mpr ⟨?_, ?_⟩
  · show va_at Y.1 classes (z + 55, .inr (7, [.int 0, .int 0, .int 0, .int 0, .int 0, .int 0, .int 0])) H
    exact co7 (s2.2.2.1 0 (by decide)) (by omega)
  refine List.forall_mem_cons.mpr ⟨?_, ?_⟩
  · show va_at Y.1 classes (z + 56, .inr (7, [.int 0, .int 0, .int 0, .int 0, .int 0, .int 0, .int 0])) H
    exact co7 (s2.2.2.1 1 (by decide)) (by omega)
  refine List.forall_mem_cons.mpr ⟨?_, ?_⟩
  · show va_at Y.1 classes (z + 57, .inr (7, [.int 0, .int 0, .int 0, .int 0, .int 0, .int 0, .int 0])) H
    exact co7 (s2.2.2.1 2 (by decide)) (by omega)
  refine List.forall_mem_cons.mpr ⟨?_, ?_⟩
  · show va_at Y.1 classes (z + 58, .inr (7, [.int 0, .int 0, .int 0, .int 0, .int 0, .int 0, .int 0])) H
    exact co7 (s2.2.2.1 3 (by decide)) (by omega)
  refine List.forall_mem_cons.mpr ⟨?_, ?_⟩
  · show va_at Y.1 classes (z + 59, .inr (7, [.int 0, .int 0, .int 0, .int 0, .int 0, .int 0, .int 0])) H
    exact co7 (s2.2.2.1 4 (by decide)) (by omega)
  refine List.forall_mem_cons.mpr ⟨?_, ?_⟩
  · show va_at Y.1 classes (z + 73, .inr (7, [.int 0, .int 0, .int 0, .int 0, .int 0, .int 0, .int 0])) H
    exact co7 (sl 0 (by decide)).2.1 (by omega)
  refine List.forall_mem_cons.mpr ⟨?_, ?_⟩
  · show va_at Y.1 classes (z + 77, .inr (7, [.int 0, .int 0, .int 0, .int 0, .int 0, .int 0, .int 0])) H
    exact co7 (sl 1 (by decide)).2.1 (by omega)
  refine List.forall_mem_cons.mpr ⟨?_, ?_⟩
  · show va_at Y.1 classes (z + 81, .inr (7, [.int 0, .int 0, .int 0, .int 0, .int 0, .int 0, .int 0])) H
    exact co7 (sl 2 (by decide)).2.1 (by omega)
  refine List.forall_mem_cons.mpr ⟨?_, ?_⟩
  · show va_at Y.1 classes (z + 85, .inr (7, [.int 0, .int 0, .int 0, .int 0, .int 0, .int 0, .int 0])) H
    exact co7 (sl 3 (by decide)).2.1 (by omega)
  refine List.forall_mem_cons.mpr ⟨?_, ?_⟩
  · show va_at Y.1 classes (z + 89, .inr (7, [.int 0, .int 0, .int 0, .int 0, .int 0, .int 0, .int 0])) H
    exact co7 (sl 4 (by decide)).2.1 (by omega)
  refine List.forall_mem_cons.mpr ⟨?_, ?_⟩
  · show va_at Y.1 classes (z + 44, aI (XF Y z kk vv) m0 0 (51 + 70 * 0) 3) H
    exact cf s0.2.2.2 (by omega) (by decide)
  refine List.forall_mem_cons.mpr ⟨?_, ?_⟩
  · show va_at Y.1 classes (z + 52, aI (XF Y z kk vv) m0 0 (51 + 70 * 1) 3) H
    exact cf s1.2.2.2 (by omega) (by decide)
  refine List.forall_mem_cons.mpr ⟨?_, ?_⟩
  · show va_at Y.1 classes (z + 60, aI (XF Y z kk vv) m0 0 (51 + 70 * 2) 3) H
    exact cf s2.2.2.2 (by omega) (by decide)
  refine List.forall_mem_cons.mpr ⟨?_, ?_⟩
  · show va_at Y.1 classes (z + 61, .inr (0, [.int 0, .int 0])) H
    exact co0 be (by omega)
  refine List.forall_mem_cons.mpr ⟨?_, ?_⟩
  · show va_at Y.1 classes (z + 62, aR (XF Y z kk vv) 6 4 15 (fun j => j)) H
    exact cr sa (by omega) (fun j hj => by show _ = z + (if j < 4 then 63 + 2 * j else 74 + 4 * (j - 4)); rw [if_pos hj]; omega)
  refine List.forall_mem_cons.mpr ⟨?_, ?_⟩
  · show va_at Y.1 classes (z + 63, .inr (2, [.int (-1), .int 0, .ref (z + 64)])) H
    exact co2 (sh 0 (by decide)).1 (by omega) (by omega)
  refine List.forall_mem_cons.mpr ⟨?_, ?_⟩
  · show va_at Y.1 classes (z + 65, .inr (2, [.int (-1), .int 0, .ref (z + 66)])) H
    exact co2 (sh 1 (by decide)).1 (by omega) (by omega)
  refine List.forall_mem_cons.mpr ⟨?_, ?_⟩
  · show va_at Y.1 classes (z + 67, .inr (2, [.int (-1), .int 0, .ref (z + 68)])) H
    exact co2 (sh 2 (by decide)).1 (by omega) (by omega)
  refine List.forall_mem_cons.mpr ⟨?_, ?_⟩
  · show va_at Y.1 classes (z + 69, .inr (2, [.int (-1), .int 0, .ref (z + 70)])) H
    exact co2 (sh 3 (by decide)).1 (by omega) (by omega)
  refine List.forall_mem_cons.mpr ⟨?_, ?_⟩
  · show va_at Y.1 classes (z + 74, .inr (2, [.int (-1), .int 0, .ref (z + 75)])) H
    exact co2 (sl 0 (by decide)).2.2.1 (by omega) (by omega)
  refine List.forall_mem_cons.mpr ⟨?_, ?_⟩
  · show va_at Y.1 classes (z + 78, .inr (2, [.int (-1), .int 0, .ref (z + 79)])) H
    exact co2 (sl 1 (by decide)).2.2.1 (by omega) (by omega)
  refine List.forall_mem_cons.mpr ⟨?_, ?_⟩
  · show va_at Y.1 classes (z + 82, .inr (2, [.int (-1), .int 0, .ref (z + 83)])) H
    exact co2 (sl 2 (by decide)).2.2.1 (by omega) (by omega)
  refine List.forall_mem_cons.mpr ⟨?_, ?_⟩
  · show va_at Y.1 classes (z + 86, .inr (2, [.int (-1), .int 0, .ref (z + 87)])) H
    exact co2 (sl 3 (by decide)).2.2.1 (by omega) (by omega)
  refine List.forall_mem_cons.mpr ⟨?_, ?_⟩
  · show va_at Y.1 classes (z + 90, .inr (2, [.int (-1), .int 0, .ref (z + 91)])) H
    exact co2 (sl 4 (by decide)).2.2.1 (by omega) (by omega)
  refine List.forall_mem_cons.mpr ⟨?_, ?_⟩
  · show va_at Y.1 classes (z + 64, aI (XF Y z kk vv) m0 0 (500 + 24 * 0) 24) H
    exact cz (sh 0 (by decide)).2 (by omega) (fun j hj => m0z (by omega))
  refine List.forall_mem_cons.mpr ⟨?_, ?_⟩
  · show va_at Y.1 classes (z + 66, aI (XF Y z kk vv) m0 0 (500 + 24 * 1) 24) H
    exact cz (sh 1 (by decide)).2 (by omega) (fun j hj => m0z (by omega))
  refine List.forall_mem_cons.mpr ⟨?_, ?_⟩
  · show va_at Y.1 classes (z + 68, aI (XF Y z kk vv) m0 0 (500 + 24 * 2) 24) H
    exact cz (sh 2 (by decide)).2 (by omega) (fun j hj => m0z (by omega))
  refine List.forall_mem_cons.mpr ⟨?_, ?_⟩
  · show va_at Y.1 classes (z + 70, aI (XF Y z kk vv) m0 0 (500 + 24 * 3) 24) H
    exact cz (sh 3 (by decide)).2 (by omega) (fun j hj => m0z (by omega))
  refine List.forall_mem_cons.mpr ⟨?_, ?_⟩
  · show va_at Y.1 classes (z + 75, aI (XF Y z kk vv) m0 0 (500 + 24 * 4) 24) H
    exact cz (sl 0 (by decide)).2.2.2 (by omega) (fun j hj => m0z (by omega))
  refine List.forall_mem_cons.mpr ⟨?_, ?_⟩
  · show va_at Y.1 classes (z + 79, aI (XF Y z kk vv) m0 0 (500 + 24 * 5) 24) H
    exact cz (sl 1 (by decide)).2.2.2 (by omega) (fun j hj => m0z (by omega))
  refine List.forall_mem_cons.mpr ⟨?_, ?_⟩
  · show va_at Y.1 classes (z + 83, aI (XF Y z kk vv) m0 0 (500 + 24 * 6) 24) H
    exact cz (sl 2 (by decide)).2.2.2 (by omega) (fun j hj => m0z (by omega))
  refine List.forall_mem_cons.mpr ⟨?_, ?_⟩
  · show va_at Y.1 classes (z + 87, aI (XF Y z kk vv) m0 0 (500 + 24 * 7) 24) H
    exact cz (sl 3 (by decide)).2.2.2 (by omega) (fun j hj => m0z (by omega))
  refine List.forall_mem_cons.mpr ⟨?_, ?_⟩
  · show va_at Y.1 classes (z + 91, aI (XF Y z kk vv) m0 0 (500 + 24 * 8) 24) H
    exact cz (sl 4 (by decide)).2.2.2 (by omega) (fun j hj => m0z (by omega))
  refine List.forall_mem_cons.mpr ⟨?_, ?_⟩
  · show va_at Y.1 classes (z + 71, aR (XF Y z kk vv) 7 5 18 (fun j => j)) H
    exact cr la (by omega) (fun j hj => by show _ = z + (72 + 4 * j); omega)
  refine List.forall_mem_cons.mpr ⟨?_, ?_⟩
  · show va_at Y.1 classes (z + 72, .inr (3, [.int 0, .ref (z + 73), .ref (z + 74), .int 0])) H
    exact co3 (sl 0 (by decide)).1 (by omega) (by omega) (by omega)
  refine List.forall_mem_cons.mpr ⟨?_, ?_⟩
  · show va_at Y.1 classes (z + 76, .inr (3, [.int 0, .ref (z + 77), .ref (z + 78), .int 0])) H
    exact co3 (sl 1 (by decide)).1 (by omega) (by omega) (by omega)
  refine List.forall_mem_cons.mpr ⟨?_, ?_⟩
  · show va_at Y.1 classes (z + 80, .inr (3, [.int 0, .ref (z + 81), .ref (z + 82), .int 0])) H
    exact co3 (sl 2 (by decide)).1 (by omega) (by omega) (by omega)
  refine List.forall_mem_cons.mpr ⟨?_, ?_⟩
  · show va_at Y.1 classes (z + 84, .inr (3, [.int 0, .ref (z + 85), .ref (z + 86), .int 0])) H
    exact co3 (sl 3 (by decide)).1 (by omega) (by omega) (by omega)
  refine List.forall_mem_cons.mpr ⟨?_, ?_⟩
  · show va_at Y.1 classes (z + 88, .inr (3, [.int 0, .ref (z + 89), .ref (z + 90), .int 0])) H
    exact co3 (sl 4 (by decide)).1 (by omega) (by omega) (by omega)
  refine List.forall_mem_cons.mpr ⟨?_, ?_⟩
  · show va_at Y.1 classes (z + 92, aI (XF Y z kk vv) m0 0 (400) 60) H
    exact cz wa (by omega) (fun j hj => m0z (by omega))
  refine List.forall_mem_cons.mpr ⟨?_, ?_⟩
  · show va_at Y.1 classes (z + 93, .inr (9, [.ref (z + 94), .ref (z + 95), .ref (z + 96), .int 0, .int 0, .ref (z + 97), .ref (z + 98), .ref (z + 99), .int 0, .int 0, .int 0, .int 0, .int 0, .int 0, .int 0, .ref (z + 100), .ref (z + 101), .ref (z + 102), .int 0, .int 0, .ref (z + 103), .int 0, .ref (z + 104), .ref (z + 105), .ref (z + 106), .ref (z + 107), .ref (z + 108), .ref (z + 109), .ref (z + 110), .ref (z + 111), .ref (z + 112), .ref (z + 113), .ref (z + 114), .ref (z + 115), .int 0])) H
    exact hm
  refine List.forall_mem_cons.mpr ⟨?_, ?_⟩
  · show va_at Y.1 classes (z + 94, aI (XF Y z kk vv) m0 0 (4000 + 1500 * 0) 1423) H
    exact cf g0 (by omega) (fun j hj => now_0 j)
  refine List.forall_mem_cons.mpr ⟨?_, ?_⟩
  · show va_at Y.1 classes (z + 95, aI (XF Y z kk vv) m0 0 (4000 + 1500 * 1) 1423) H
    exact cz g1 (by omega) (fun j hj => m0z (by omega))
  refine List.forall_mem_cons.mpr ⟨?_, ?_⟩
  · show va_at Y.1 classes (z + 96, aI (XF Y z kk vv) m0 0 (4000 + 1500 * 2) 1423) H
    exact cz g2 (by omega) (fun j hj => m0z (by omega))
  refine List.forall_mem_cons.mpr ⟨?_, ?_⟩
  · show va_at Y.1 classes (z + 97, aI (XF Y z kk vv) m0 0 (3100) 51) H
    exact cz g3 (by omega) (fun j hj => m0z (by omega))
  refine List.forall_mem_cons.mpr ⟨?_, ?_⟩
  · show va_at Y.1 classes (z + 98, aL (XF Y z kk vv) m0 3160 5) H
    exact cl5 g4 (by omega)
  refine List.forall_mem_cons.mpr ⟨?_, ?_⟩
  · show va_at Y.1 classes (z + 99, aI (XF Y z kk vv) m0 0 (3200) 96) H
    exact cz g5 (by omega) (fun j hj => m0z (by omega))
  refine List.forall_mem_cons.mpr ⟨?_, ?_⟩
  · show va_at Y.1 classes (z + 100, aI (XF Y z kk vv) m0 3 (3300) 10) H
    exact cf g6 (by omega) (by decide)
  refine List.forall_mem_cons.mpr ⟨?_, ?_⟩
  · show va_at Y.1 classes (z + 101, aI (XF Y z kk vv) m0 0 (3320) 4) H
    exact cf g7 (by omega) (by decide)
  refine List.forall_mem_cons.mpr ⟨?_, ?_⟩
  · show va_at Y.1 classes (z + 102, aI (XF Y z kk vv) m0 0 (3400) 96) H
    exact cz g8 (by omega) (fun j hj => m0z (by omega))
  refine List.forall_mem_cons.mpr ⟨?_, ?_⟩
  · show va_at Y.1 classes (z + 103, aI (XF Y z kk vv) m0 0 (3500) 96) H
    exact cz g9 (by omega) (fun j hj => m0z (by omega))
  refine List.forall_mem_cons.mpr ⟨?_, ?_⟩
  · show va_at Y.1 classes (z + 104, aI (XF Y z kk vv) m0 2 (3600) 10) H
    exact cz g10 (by omega) (fun j hj => m0z (by omega))
  refine List.forall_mem_cons.mpr ⟨?_, ?_⟩
  · show va_at Y.1 classes (z + 105, aI (XF Y z kk vv) m0 0 (3700) 96) H
    exact cz g11 (by omega) (fun j hj => m0z (by omega))
  refine List.forall_mem_cons.mpr ⟨?_, ?_⟩
  · show va_at Y.1 classes (z + 106, aI (XF Y z kk vv) m0 0 (3800) 4) H
    exact cz g12 (by omega) (fun j hj => m0z (by omega))
  refine List.forall_mem_cons.mpr ⟨?_, ?_⟩
  · show va_at Y.1 classes (z + 107, aI (XF Y z kk vv) m0 0 (3810) 4) H
    exact cf g13 (by omega) (by decide)
  refine List.forall_mem_cons.mpr ⟨?_, ?_⟩
  · show va_at Y.1 classes (z + 108, aI (XF Y z kk vv) m0 0 (3820) 4) H
    exact cz g14 (by omega) (fun j hj => m0z (by omega))
  refine List.forall_mem_cons.mpr ⟨?_, ?_⟩
  · show va_at Y.1 classes (z + 109, aI (XF Y z kk vv) m0 0 (3830) 96) H
    exact cz g15 (by omega) (fun j hj => m0z (by omega))
  refine List.forall_mem_cons.mpr ⟨?_, ?_⟩
  · show va_at Y.1 classes (z + 110, aI (XF Y z kk vv) m0 0 (3930) 5) H
    exact cz g16 (by omega) (fun j hj => m0z (by omega))
  refine List.forall_mem_cons.mpr ⟨?_, ?_⟩
  · show va_at Y.1 classes (z + 111, aI (XF Y z kk vv) m0 0 (3940) 5) H
    exact cz g17 (by omega) (fun j hj => m0z (by omega))
  refine List.forall_mem_cons.mpr ⟨?_, ?_⟩
  · show va_at Y.1 classes (z + 112, aI (XF Y z kk vv) m0 0 (3950) 5) H
    exact cz g18 (by omega) (fun j hj => m0z (by omega))
  refine List.forall_mem_cons.mpr ⟨?_, ?_⟩
  · show va_at Y.1 classes (z + 113, aI (XF Y z kk vv) m0 0 (8500) 120) H
    exact cz g19 (by omega) (fun j hj => m0z (by omega))
  refine List.forall_mem_cons.mpr ⟨?_, ?_⟩
  · show va_at Y.1 classes (z + 114, aI (XF Y z kk vv) m0 0 (3960) 24) H
    exact cz g20 (by omega) (fun j hj => m0z (by omega))
  refine List.forall_mem_cons.mpr ⟨?_, ?_⟩
  · show va_at Y.1 classes (z + 115, aI (XF Y z kk vv) m0 0 (8650) 60) H
    exact cz g21 (by omega) (fun j hj => m0z (by omega))
  exact fun _ h => absurd h List.not_mem_nil
