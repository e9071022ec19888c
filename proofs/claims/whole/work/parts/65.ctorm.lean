def oX9_fs (z : Nat) : List Value := [.ref (z + 0), .ref (z + 1), .ref (z + 2), .int 0, .int 0, .ref (z + 3), .ref (z + 4), .ref (z + 5), .int 0, .int 0, .int 0, .int 0, .int 0, .int 0, .int 0, .ref (z + 6), .ref (z + 7), .ref (z + 8), .int 0, .int 0, .ref (z + 9), .int 0, .ref (z + 10), .ref (z + 11), .ref (z + 12), .ref (z + 13), .ref (z + 14), .ref (z + 15), .ref (z + 16), .ref (z + 17), .ref (z + 18), .ref (z + 19), .ref (z + 20), .ref (z + 21), .int 0]
def oX9 (z : Nat) : va_E := .inr (9, oX9_fs z)
def mX9 (Y : CD) (z : Nat) : List va_E := .inl (Y.2 0, 1423, .inl (upd (upd (upd (upd (fun _ => 0) 0 1) 3 110) 5 1000) 14 (-1))) :: ([.inl (Y.2 0, (1423, .inl (fun _ => 0)))] ++ [.inl (Y.2 0, (1423, .inl (fun _ => 0)))] ++ [.inl (Y.2 0, (51, .inl (fun _ => 0)))] ++ [.inl (Y.2 1, (5, .inr (.inl (fun _ => 0))))] ++ [.inl (Y.2 0, (96, .inl (fun _ => 0)))] ++ [.inl (Y.2 3, 10, .inl (upd (upd (upd (upd (upd (upd (upd (upd (upd (upd (fun _ => 0) 0 111) 1 102) 2 102) 3 102) 4 101) 5 101) 6 102) 7 105) 8 110) 9 101))] ++ [.inl (Y.2 0, 4, .inl (upd (upd (upd (upd (fun _ => 0) 0 0) 1 3) 2 6) 3 10))] ++ [.inl (Y.2 0, (96, .inl (fun _ => 0)))] ++ [.inl (Y.2 0, (96, .inl (fun _ => 0)))] ++ [.inl (Y.2 2, (10, .inl (fun _ => 0)))] ++ [.inl (Y.2 0, (96, .inl (fun _ => 0)))] ++ [.inl (Y.2 0, (4, .inl (fun _ => 0)))] ++ [.inl (Y.2 0, 4, .inl (upd (upd (upd (upd (fun _ => 0) 0 (-1)) 1 (-1)) 2 (-1)) 3 (-1)))] ++ [.inl (Y.2 0, (4, .inl (fun _ => 0)))] ++ [.inl (Y.2 0, (96, .inl (fun _ => 0)))] ++ [.inl (Y.2 0, (5, .inl (fun _ => 0)))] ++ [.inl (Y.2 0, (5, .inl (fun _ => 0)))] ++ [.inl (Y.2 0, (5, .inl (fun _ => 0)))] ++ [.inl (Y.2 0, (120, .inl (fun _ => 0)))] ++ [.inl (Y.2 0, (24, .inl (fun _ => 0)))] ++ [.inl (Y.2 0, (60, .inl (fun _ => 0)))])
theorem lenM_X9 {Y : CD} {z : Nat} : (mX9 Y z).length = 22 := by unfold mX9; exact by simp only [List.length_append, List.length_cons, List.length_nil, Nat.reduceAdd, Nat.zero_add]
set_option maxHeartbeats 4000000 in
set_option maxRecDepth 20000 in
theorem cn_X9 (Y : CD) (l : Launch) (a z : Nat) : MetC Y l yX9_init cX9_init 1 1 22 5060 a [] (.inr (9, [.null, .null, .null, .int 0, .int 0, .null, .null, .null, .int 0, .int 0, .int 0, .int 0, .int 0, .int 0, .int 0, .null, .null, .null, .int 0, .int 0, .null, .int 0, .null, .null, .null, .null, .null, .null, .null, .null, .null, .null, .null, .null, .int 0])) (oX9 z) z (mX9 Y z) := by
  refine met_C (by decide) rfl (Nat.le_of_ble_eq_true rfl) (fun p e s mi args below meth c ls Q hsz C hin hret hW hl => ?_)
  subst hsz
  have hl : lv_has ls 1 [(0, .ref a)] := lv_sub hl [0] rfl
  obtain ⟨H, hHe⟩ : ∃ H, H = s.heap := ⟨_, rfl⟩
  have hW : WS Y s [(a, .inr (9, [.null, .null, .null, .int 0, .int 0, .null, .null, .null, .int 0, .int 0, .int 0, .int 0, .int 0, .int 0, .int 0, .null, .null, .null, .int 0, .int 0, .null, .int 0, .null, .null, .null, .null, .null, .null, .null, .null, .null, .null, .null, .null, .int 0]))] [] H [] := by rw [hHe]; exact hW
  rw [← hHe]
  refine lv_aload_n C.1 C.2.1 dX9_init_0 rfl (lv_at hl 0 rfl) ?_
  refine sn_obj C w_1003 hl.1 (Nat.le_of_ble_eq_true rfl) (Nat.le_of_ble_eq_true rfl) dX9_init_1 ?_
  refine lv_aload_n C.1 C.2.1 dX9_init_4 rfl (lv_at hl 0 rfl) ?_
  refine lv_sipush (v := 1423) C.1 C.2.1 dX9_init_5 rfl ?_
  refine sn_newa C hW (atype := .int) (t0 := 0) (ty := .int) rfl w_119 rfl (fun _ _ => rfl) (N' := 1423) (a0 := (1423, .inl (fun _ => 0))) (fun _ => rfl) (by decide) rfl (Nat.le_of_ble_eq_true rfl) (Nat.le_of_ble_eq_true rfl) (Nat.le_of_ble_eq_true rfl) (q := s.heap.size + 0) (by simp only [List.length_append, List.length_cons, List.length_nil, Nat.reduceAdd, Nat.zero_add]) dX9_init_8 (fun H hW => ?_)
  refine sn_put C hin hW (ci := 9) rfl iX9 tyX9 tyX9_ok nmX9 (k := 0) (by decide) w_1004 rfl rfl rfl (Nat.le_of_ble_eq_true rfl) dX9_init_10 (fun H locs hW => ?_)
  refine lv_aload_n C.1 C.2.1 dX9_init_13 rfl (lv_at hl 0 rfl) ?_
  refine lv_sipush (v := 1423) C.1 C.2.1 dX9_init_14 rfl ?_
  refine sn_newa C hW (atype := .int) (t0 := 0) (ty := .int) rfl w_119 rfl (fun _ _ => rfl) (N' := 1423) (a0 := (1423, .inl (fun _ => 0))) (fun _ => rfl) (by decide) rfl (Nat.le_of_ble_eq_true rfl) (Nat.le_of_ble_eq_true rfl) (Nat.le_of_ble_eq_true rfl) (q := s.heap.size + 1) (by simp only [List.length_append, List.length_cons, List.length_nil, Nat.reduceAdd, Nat.zero_add]) dX9_init_17 (fun H hW => ?_)
  refine sn_put C hin hW (ci := 9) rfl iX9 tyX9 tyX9_ok nmX9 (k := 1) (by decide) w_1005 rfl rfl rfl (Nat.le_of_ble_eq_true rfl) dX9_init_19 (fun H locs hW => ?_)
  refine lv_aload_n C.1 C.2.1 dX9_init_22 rfl (lv_at hl 0 rfl) ?_
  refine lv_sipush (v := 1423) C.1 C.2.1 dX9_init_23 rfl ?_
  refine sn_newa C hW (atype := .int) (t0 := 0) (ty := .int) rfl w_119 rfl (fun _ _ => rfl) (N' := 1423) (a0 := (1423, .inl (fun _ => 0))) (fun _ => rfl) (by decide) rfl (Nat.le_of_ble_eq_true rfl) (Nat.le_of_ble_eq_true rfl) (Nat.le_of_ble_eq_true rfl) (q := s.heap.size + 2) (by simp only [List.length_append, List.length_cons, List.length_nil, Nat.reduceAdd, Nat.zero_add]) dX9_init_26 (fun H hW => ?_)
  refine sn_put C hin hW (ci := 9) rfl iX9 tyX9 tyX9_ok nmX9 (k := 2) (by decide) w_1006 rfl rfl rfl (Nat.le_of_ble_eq_true rfl) dX9_init_28 (fun H locs hW => ?_)
  refine lv_aload_n C.1 C.2.1 dX9_init_31 rfl (lv_at hl 0 rfl) ?_
  refine lv_bipush (v := 51) C.1 C.2.1 dX9_init_32 rfl ?_
  refine sn_newa C hW (atype := .int) (t0 := 0) (ty := .int) rfl w_119 rfl (fun _ _ => rfl) (N' := 51) (a0 := (51, .inl (fun _ => 0))) (fun _ => rfl) (by decide) rfl (Nat.le_of_ble_eq_true rfl) (Nat.le_of_ble_eq_true rfl) (Nat.le_of_ble_eq_true rfl) (q := s.heap.size + 3) (by simp only [List.length_append, List.length_cons, List.length_nil, Nat.reduceAdd, Nat.zero_add]) dX9_init_34 (fun H hW => ?_)
  refine sn_put C hin hW (ci := 9) rfl iX9 tyX9 tyX9_ok nmX9 (k := 5) (by decide) w_1009 rfl rfl rfl (Nat.le_of_ble_eq_true rfl) dX9_init_36 (fun H locs hW => ?_)
  refine lv_aload_n C.1 C.2.1 dX9_init_39 rfl (lv_at hl 0 rfl) ?_
  refine lv_iconst (v := 5) C.1 C.2.1 dX9_init_40 rfl ?_
  refine sn_newa C hW (atype := .long) (t0 := 1) (ty := .long) rfl w_1110 rfl (fun _ _ => rfl) (N' := 5) (a0 := (5, .inr (.inl (fun _ => 0)))) (fun _ => rfl) (by decide) rfl (Nat.le_of_ble_eq_true rfl) (Nat.le_of_ble_eq_true rfl) (Nat.le_of_ble_eq_true rfl) (q := s.heap.size + 4) (by simp only [List.length_append, List.length_cons, List.length_nil, Nat.reduceAdd, Nat.zero_add]) dX9_init_41 (fun H hW => ?_)
  refine sn_put C hin hW (ci := 9) rfl iX9 tyX9 tyX9_ok nmX9 (k := 6) (by decide) w_1010 rfl rfl rfl (Nat.le_of_ble_eq_true rfl) dX9_init_43 (fun H locs hW => ?_)
  refine lv_aload_n C.1 C.2.1 dX9_init_46 rfl (lv_at hl 0 rfl) ?_
  refine lv_bipush (v := 96) C.1 C.2.1 dX9_init_47 rfl ?_
  refine sn_newa C hW (atype := .int) (t0 := 0) (ty := .int) rfl w_119 rfl (fun _ _ => rfl) (N' := 96) (a0 := (96, .inl (fun _ => 0))) (fun _ => rfl) (by decide) rfl (Nat.le_of_ble_eq_true rfl) (Nat.le_of_ble_eq_true rfl) (Nat.le_of_ble_eq_true rfl) (q := s.heap.size + 5) (by simp only [List.length_append, List.length_cons, List.length_nil, Nat.reduceAdd, Nat.zero_add]) dX9_init_49 (fun H hW => ?_)
  refine sn_put C hin hW (ci := 9) rfl iX9 tyX9 tyX9_ok nmX9 (k := 7) (by decide) w_1011 rfl rfl rfl (Nat.le_of_ble_eq_true rfl) dX9_init_51 (fun H locs hW => ?_)
  have hW : WS Y s [(a, .inr (9, [.ref (s.heap.size + 0), .ref (s.heap.size + 1), .ref (s.heap.size + 2), .int 0, .int 0, .ref (s.heap.size + 3), .ref (s.heap.size + 4), .ref (s.heap.size + 5), .int 0, .int 0, .int 0, .int 0, .int 0, .int 0, .int 0, .null, .null, .null, .int 0, .int 0, .null, .int 0, .null, .null, .null, .null, .null, .null, .null, .null, .null, .null, .null, .null, .int 0]))] _ H _ := hW
  refine lv_aload_n C.1 C.2.1 dX9_init_54 rfl (lv_at hl 0 rfl) ?_
  refine lv_bipush (v := 10) C.1 C.2.1 dX9_init_55 rfl ?_
  refine sn_newa C hW (atype := .char) (t0 := 3) (ty := .char) rfl w_1111 rfl (fun _ _ => rfl) (N' := 10) (a0 := (10, .inl (fun _ => 0))) (fun _ => rfl) (by decide) rfl (Nat.le_of_ble_eq_true rfl) (Nat.le_of_ble_eq_true rfl) (Nat.le_of_ble_eq_true rfl) (q := s.heap.size + 6) (by simp only [List.length_append, List.length_cons, List.length_nil, Nat.reduceAdd, Nat.zero_add]) dX9_init_57 (fun H hW => ?_)
  refine lv_dup C.1 C.2.1 dX9_init_59 rfl ?_
  refine lv_iconst (v := 0) C.1 C.2.1 dX9_init_60 rfl ?_
  refine lv_bipush (v := 111) C.1 C.2.1 dX9_init_61 rfl ?_
  refine sn_castL C hW (k := 6) (by simp only [List.length_append, List.length_cons, List.length_nil, Nat.reduceAdd, Nat.zero_add]) (inb_k (by decide +kernel)) (k' := 0) (by decide +kernel) (x' := 111) (by decide +kernel) (q := s.heap.size + 6) rfl dX9_init_63 (fun H locs hW => ?_)
  refine lv_dup C.1 C.2.1 dX9_init_64 rfl ?_
  refine lv_iconst (v := 1) C.1 C.2.1 dX9_init_65 rfl ?_
  refine lv_bipush (v := 102) C.1 C.2.1 dX9_init_66 rfl ?_
  refine sn_castL C hW (k := 6) (by simp only [List.length_append, List.length_cons, List.length_nil, Nat.reduceAdd, Nat.zero_add]) (inb_k (by decide +kernel)) (k' := 1) (by decide +kernel) (x' := 102) (by decide +kernel) (q := s.heap.size + 6) rfl dX9_init_68 (fun H locs hW => ?_)
  refine lv_dup C.1 C.2.1 dX9_init_69 rfl ?_
  refine lv_iconst (v := 2) C.1 C.2.1 dX9_init_70 rfl ?_
  refine lv_bipush (v := 102) C.1 C.2.1 dX9_init_71 rfl ?_
  refine sn_castL C hW (k := 6) (by simp only [List.length_append, List.length_cons, List.length_nil, Nat.reduceAdd, Nat.zero_add]) (inb_k (by decide +kernel)) (k' := 2) (by decide +kernel) (x' := 102) (by decide +kernel) (q := s.heap.size + 6) rfl dX9_init_73 (fun H locs hW => ?_)
  refine lv_dup C.1 C.2.1 dX9_init_74 rfl ?_
  refine lv_iconst (v := 3) C.1 C.2.1 dX9_init_75 rfl ?_
  refine lv_bipush (v := 102) C.1 C.2.1 dX9_init_76 rfl ?_
  refine sn_castL C hW (k := 6) (by simp only [List.length_append, List.length_cons, List.length_nil, Nat.reduceAdd, Nat.zero_add]) (inb_k (by decide +kernel)) (k' := 3) (by decide +kernel) (x' := 102) (by decide +kernel) (q := s.heap.size + 6) rfl dX9_init_78 (fun H locs hW => ?_)
  refine lv_dup C.1 C.2.1 dX9_init_79 rfl ?_
  refine lv_iconst (v := 4) C.1 C.2.1 dX9_init_80 rfl ?_
  refine lv_bipush (v := 101) C.1 C.2.1 dX9_init_81 rfl ?_
  refine sn_castL C hW (k := 6) (by simp only [List.length_append, List.length_cons, List.length_nil, Nat.reduceAdd, Nat.zero_add]) (inb_k (by decide +kernel)) (k' := 4) (by decide +kernel) (x' := 101) (by decide +kernel) (q := s.heap.size + 6) rfl dX9_init_83 (fun H locs hW => ?_)
  refine lv_dup C.1 C.2.1 dX9_init_84 rfl ?_
  refine lv_iconst (v := 5) C.1 C.2.1 dX9_init_85 rfl ?_
  refine lv_bipush (v := 101) C.1 C.2.1 dX9_init_86 rfl ?_
  refine sn_castL C hW (k := 6) (by simp only [List.length_append, List.length_cons, List.length_nil, Nat.reduceAdd, Nat.zero_add]) (inb_k (by decide +kernel)) (k' := 5) (by decide +kernel) (x' := 101) (by decide +kernel) (q := s.heap.size + 6) rfl dX9_init_88 (fun H locs hW => ?_)
  refine lv_dup C.1 C.2.1 dX9_init_89 rfl ?_
  refine lv_bipush (v := 6) C.1 C.2.1 dX9_init_90 rfl ?_
  refine lv_bipush (v := 102) C.1 C.2.1 dX9_init_92 rfl ?_
  refine sn_castL C hW (k := 6) (by simp only [List.length_append, List.length_cons, List.length_nil, Nat.reduceAdd, Nat.zero_add]) (inb_k (by decide +kernel)) (k' := 6) (by decide +kernel) (x' := 102) (by decide +kernel) (q := s.heap.size + 6) rfl dX9_init_94 (fun H locs hW => ?_)
  refine lv_dup C.1 C.2.1 dX9_init_95 rfl ?_
  refine lv_bipush (v := 7) C.1 C.2.1 dX9_init_96 rfl ?_
  refine lv_bipush (v := 105) C.1 C.2.1 dX9_init_98 rfl ?_
  refine sn_castL C hW (k := 6) (by simp only [List.length_append, List.length_cons, List.length_nil, Nat.reduceAdd, Nat.zero_add]) (inb_k (by decide +kernel)) (k' := 7) (by decide +kernel) (x' := 105) (by decide +kernel) (q := s.heap.size + 6) rfl dX9_init_100 (fun H locs hW => ?_)
  refine lv_dup C.1 C.2.1 dX9_init_101 rfl ?_
  refine lv_bipush (v := 8) C.1 C.2.1 dX9_init_102 rfl ?_
  refine lv_bipush (v := 110) C.1 C.2.1 dX9_init_104 rfl ?_
  refine sn_castL C hW (k := 6) (by simp only [List.length_append, List.length_cons, List.length_nil, Nat.reduceAdd, Nat.zero_add]) (inb_k (by decide +kernel)) (k' := 8) (by decide +kernel) (x' := 110) (by decide +kernel) (q := s.heap.size + 6) rfl dX9_init_106 (fun H locs hW => ?_)
  refine lv_dup C.1 C.2.1 dX9_init_107 rfl ?_
  refine lv_bipush (v := 9) C.1 C.2.1 dX9_init_108 rfl ?_
  refine lv_bipush (v := 101) C.1 C.2.1 dX9_init_110 rfl ?_
  refine sn_castL C hW (k := 6) (by simp only [List.length_append, List.length_cons, List.length_nil, Nat.reduceAdd, Nat.zero_add]) (inb_k (by decide +kernel)) (k' := 9) (by decide +kernel) (x' := 101) (by decide +kernel) (q := s.heap.size + 6) rfl dX9_init_112 (fun H locs hW => ?_)
  refine sn_put C hin hW (ci := 9) rfl iX9 tyX9 tyX9_ok nmX9 (k := 15) (by decide) w_1019 rfl rfl rfl (Nat.le_of_ble_eq_true rfl) dX9_init_113 (fun H locs hW => ?_)
  refine lv_aload_n C.1 C.2.1 dX9_init_116 rfl (lv_at hl 0 rfl) ?_
  refine lv_iconst (v := 4) C.1 C.2.1 dX9_init_117 rfl ?_
  refine sn_newa C hW (atype := .int) (t0 := 0) (ty := .int) rfl w_119 rfl (fun _ _ => rfl) (N' := 4) (a0 := (4, .inl (fun _ => 0))) (fun _ => rfl) (by decide) rfl (Nat.le_of_ble_eq_true rfl) (Nat.le_of_ble_eq_true rfl) (Nat.le_of_ble_eq_true rfl) (q := s.heap.size + 7) (by simp only [List.length_append, List.length_cons, List.length_nil, Nat.reduceAdd, Nat.zero_add]) dX9_init_118 (fun H hW => ?_)
  refine lv_dup C.1 C.2.1 dX9_init_120 rfl ?_
  refine lv_iconst (v := 0) C.1 C.2.1 dX9_init_121 rfl ?_
  refine lv_iconst (v := 0) C.1 C.2.1 dX9_init_122 rfl ?_
  refine sn_iastL C hW (k := 7) (by simp only [List.length_append, List.length_cons, List.length_nil, Nat.reduceAdd, Nat.zero_add]) (inb_k (by decide +kernel)) (k' := 0) (by decide +kernel) (q := s.heap.size + 7) rfl dX9_init_123 (fun H locs hW => ?_)
  refine lv_dup C.1 C.2.1 dX9_init_124 rfl ?_
  refine lv_iconst (v := 1) C.1 C.2.1 dX9_init_125 rfl ?_
  refine lv_iconst (v := 3) C.1 C.2.1 dX9_init_126 rfl ?_
  refine sn_iastL C hW (k := 7) (by simp only [List.length_append, List.length_cons, List.length_nil, Nat.reduceAdd, Nat.zero_add]) (inb_k (by decide +kernel)) (k' := 1) (by decide +kernel) (q := s.heap.size + 7) rfl dX9_init_127 (fun H locs hW => ?_)
  refine lv_dup C.1 C.2.1 dX9_init_128 rfl ?_
  refine lv_iconst (v := 2) C.1 C.2.1 dX9_init_129 rfl ?_
  refine lv_bipush (v := 6) C.1 C.2.1 dX9_init_130 rfl ?_
  refine sn_iastL C hW (k := 7) (by simp only [List.length_append, List.length_cons, List.length_nil, Nat.reduceAdd, Nat.zero_add]) (inb_k (by decide +kernel)) (k' := 2) (by decide +kernel) (q := s.heap.size + 7) rfl dX9_init_132 (fun H locs hW => ?_)
  refine lv_dup C.1 C.2.1 dX9_init_133 rfl ?_
  refine lv_iconst (v := 3) C.1 C.2.1 dX9_init_134 rfl ?_
  refine lv_bipush (v := 10) C.1 C.2.1 dX9_init_135 rfl ?_
  refine sn_iastL C hW (k := 7) (by simp only [List.length_append, List.length_cons, List.length_nil, Nat.reduceAdd, Nat.zero_add]) (inb_k (by decide +kernel)) (k' := 3) (by decide +kernel) (q := s.heap.size + 7) rfl dX9_init_137 (fun H locs hW => ?_)
  refine sn_put C hin hW (ci := 9) rfl iX9 tyX9 tyX9_ok nmX9 (k := 16) (by decide) w_1020 rfl rfl rfl (Nat.le_of_ble_eq_true rfl) dX9_init_138 (fun H locs hW => ?_)
  refine lv_aload_n C.1 C.2.1 dX9_init_141 rfl (lv_at hl 0 rfl) ?_
  refine lv_bipush (v := 96) C.1 C.2.1 dX9_init_142 rfl ?_
  refine sn_newa C hW (atype := .int) (t0 := 0) (ty := .int) rfl w_119 rfl (fun _ _ => rfl) (N' := 96) (a0 := (96, .inl (fun _ => 0))) (fun _ => rfl) (by decide) rfl (Nat.le_of_ble_eq_true rfl) (Nat.le_of_ble_eq_true rfl) (Nat.le_of_ble_eq_true rfl) (q := s.heap.size + 8) (by simp only [List.length_append, List.length_cons, List.length_nil, Nat.reduceAdd, Nat.zero_add]) dX9_init_144 (fun H hW => ?_)
  refine sn_put C hin hW (ci := 9) rfl iX9 tyX9 tyX9_ok nmX9 (k := 17) (by decide) w_1021 rfl rfl rfl (Nat.le_of_ble_eq_true rfl) dX9_init_146 (fun H locs hW => ?_)
  refine lv_aload_n C.1 C.2.1 dX9_init_149 rfl (lv_at hl 0 rfl) ?_
  refine lv_bipush (v := 96) C.1 C.2.1 dX9_init_150 rfl ?_
  refine sn_newa C hW (atype := .int) (t0 := 0) (ty := .int) rfl w_119 rfl (fun _ _ => rfl) (N' := 96) (a0 := (96, .inl (fun _ => 0))) (fun _ => rfl) (by decide) rfl (Nat.le_of_ble_eq_true rfl) (Nat.le_of_ble_eq_true rfl) (Nat.le_of_ble_eq_true rfl) (q := s.heap.size + 9) (by simp only [List.length_append, List.length_cons, List.length_nil, Nat.reduceAdd, Nat.zero_add]) dX9_init_152 (fun H hW => ?_)
  refine sn_put C hin hW (ci := 9) rfl iX9 tyX9 tyX9_ok nmX9 (k := 20) (by decide) w_1024 rfl rfl rfl (Nat.le_of_ble_eq_true rfl) dX9_init_154 (fun H locs hW => ?_)
  refine lv_aload_n C.1 C.2.1 dX9_init_157 rfl (lv_at hl 0 rfl) ?_
  refine lv_bipush (v := 10) C.1 C.2.1 dX9_init_158 rfl ?_
  refine sn_newa C hW (atype := .boolean) (t0 := 2) (ty := .boolean) rfl w_1112 rfl (fun _ _ => rfl) (N' := 10) (a0 := (10, .inl (fun _ => 0))) (fun _ => rfl) (by decide) rfl (Nat.le_of_ble_eq_true rfl) (Nat.le_of_ble_eq_true rfl) (Nat.le_of_ble_eq_true rfl) (q := s.heap.size + 10) (by simp only [List.length_append, List.length_cons, List.length_nil, Nat.reduceAdd, Nat.zero_add]) dX9_init_160 (fun H hW => ?_)
  refine sn_put C hin hW (ci := 9) rfl iX9 tyX9 tyX9_ok nmX9 (k := 22) (by decide) w_1026 rfl rfl rfl (Nat.le_of_ble_eq_true rfl) dX9_init_162 (fun H locs hW => ?_)
  refine lv_aload_n C.1 C.2.1 dX9_init_165 rfl (lv_at hl 0 rfl) ?_
  refine lv_bipush (v := 96) C.1 C.2.1 dX9_init_166 rfl ?_
  refine sn_newa C hW (atype := .int) (t0 := 0) (ty := .int) rfl w_119 rfl (fun _ _ => rfl) (N' := 96) (a0 := (96, .inl (fun _ => 0))) (fun _ => rfl) (by decide) rfl (Nat.le_of_ble_eq_true rfl) (Nat.le_of_ble_eq_true rfl) (Nat.le_of_ble_eq_true rfl) (q := s.heap.size + 11) (by simp only [List.length_append, List.length_cons, List.length_nil, Nat.reduceAdd, Nat.zero_add]) dX9_init_168 (fun H hW => ?_)
  refine sn_put C hin hW (ci := 9) rfl iX9 tyX9 tyX9_ok nmX9 (k := 23) (by decide) w_1027 rfl rfl rfl (Nat.le_of_ble_eq_true rfl) dX9_init_170 (fun H locs hW => ?_)
  have hW : WS Y s [(a, .inr (9, [.ref (s.heap.size + 0), .ref (s.heap.size + 1), .ref (s.heap.size + 2), .int 0, .int 0, .ref (s.heap.size + 3), .ref (s.heap.size + 4), .ref (s.heap.size + 5), .int 0, .int 0, .int 0, .int 0, .int 0, .int 0, .int 0, .ref (s.heap.size + 6), .ref (s.heap.size + 7), .ref (s.heap.size + 8), .int 0, .int 0, .ref (s.heap.size + 9), .int 0, .ref (s.heap.size + 10), .ref (s.heap.size + 11), .null, .null, .null, .null, .null, .null, .null, .null, .null, .null, .int 0]))] _ H _ := hW
  refine lv_aload_n C.1 C.2.1 dX9_init_173 rfl (lv_at hl 0 rfl) ?_
  refine lv_iconst (v := 4) C.1 C.2.1 dX9_init_174 rfl ?_
  refine sn_newa C hW (atype := .int) (t0 := 0) (ty := .int) rfl w_119 rfl (fun _ _ => rfl) (N' := 4) (a0 := (4, .inl (fun _ => 0))) (fun _ => rfl) (by decide) rfl (Nat.le_of_ble_eq_true rfl) (Nat.le_of_ble_eq_true rfl) (Nat.le_of_ble_eq_true rfl) (q := s.heap.size + 12) (by simp only [List.length_append, List.length_cons, List.length_nil, Nat.reduceAdd, Nat.zero_add]) dX9_init_175 (fun H hW => ?_)
  refine sn_put C hin hW (ci := 9) rfl iX9 tyX9 tyX9_ok nmX9 (k := 24) (by decide) w_1028 rfl rfl rfl (Nat.le_of_ble_eq_true rfl) dX9_init_177 (fun H locs hW => ?_)
  refine lv_aload_n C.1 C.2.1 dX9_init_180 rfl (lv_at hl 0 rfl) ?_
  refine lv_iconst (v := 4) C.1 C.2.1 dX9_init_181 rfl ?_
  refine sn_newa C hW (atype := .int) (t0 := 0) (ty := .int) rfl w_119 rfl (fun _ _ => rfl) (N' := 4) (a0 := (4, .inl (fun _ => 0))) (fun _ => rfl) (by decide) rfl (Nat.le_of_ble_eq_true rfl) (Nat.le_of_ble_eq_true rfl) (Nat.le_of_ble_eq_true rfl) (q := s.heap.size + 13) (by simp only [List.length_append, List.length_cons, List.length_nil, Nat.reduceAdd, Nat.zero_add]) dX9_init_182 (fun H hW => ?_)
  refine lv_dup C.1 C.2.1 dX9_init_184 rfl ?_
  refine lv_iconst (v := 0) C.1 C.2.1 dX9_init_185 rfl ?_
  refine lv_iconst (v := (-1)) C.1 C.2.1 dX9_init_186 rfl ?_
  refine sn_iastL C hW (k := 13) (by simp only [List.length_append, List.length_cons, List.length_nil, Nat.reduceAdd, Nat.zero_add]) (inb_k (by decide +kernel)) (k' := 0) (by decide +kernel) (q := s.heap.size + 13) rfl dX9_init_187 (fun H locs hW => ?_)
  refine lv_dup C.1 C.2.1 dX9_init_188 rfl ?_
  refine lv_iconst (v := 1) C.1 C.2.1 dX9_init_189 rfl ?_
  refine lv_iconst (v := (-1)) C.1 C.2.1 dX9_init_190 rfl ?_
  refine sn_iastL C hW (k := 13) (by simp only [List.length_append, List.length_cons, List.length_nil, Nat.reduceAdd, Nat.zero_add]) (inb_k (by decide +kernel)) (k' := 1) (by decide +kernel) (q := s.heap.size + 13) rfl dX9_init_191 (fun H locs hW => ?_)
  refine lv_dup C.1 C.2.1 dX9_init_192 rfl ?_
  refine lv_iconst (v := 2) C.1 C.2.1 dX9_init_193 rfl ?_
  refine lv_iconst (v := (-1)) C.1 C.2.1 dX9_init_194 rfl ?_
  refine sn_iastL C hW (k := 13) (by simp only [List.length_append, List.length_cons, List.length_nil, Nat.reduceAdd, Nat.zero_add]) (inb_k (by decide +kernel)) (k' := 2) (by decide +kernel) (q := s.heap.size + 13) rfl dX9_init_195 (fun H locs hW => ?_)
  refine lv_dup C.1 C.2.1 dX9_init_196 rfl ?_
  refine lv_iconst (v := 3) C.1 C.2.1 dX9_init_197 rfl ?_
  refine lv_iconst (v := (-1)) C.1 C.2.1 dX9_init_198 rfl ?_
  refine sn_iastL C hW (k := 13) (by simp only [List.length_append, List.length_cons, List.length_nil, Nat.reduceAdd, Nat.zero_add]) (inb_k (by decide +kernel)) (k' := 3) (by decide +kernel) (q := s.heap.size + 13) rfl dX9_init_199 (fun H locs hW => ?_)
  refine sn_put C hin hW (ci := 9) rfl iX9 tyX9 tyX9_ok nmX9 (k := 25) (by decide) w_1029 rfl rfl rfl (Nat.le_of_ble_eq_true rfl) dX9_init_200 (fun H locs hW => ?_)
  refine lv_aload_n C.1 C.2.1 dX9_init_203 rfl (lv_at hl 0 rfl) ?_
  refine lv_iconst (v := 4) C.1 C.2.1 dX9_init_204 rfl ?_
  refine sn_newa C hW (atype := .int) (t0 := 0) (ty := .int) rfl w_119 rfl (fun _ _ => rfl) (N' := 4) (a0 := (4, .inl (fun _ => 0))) (fun _ => rfl) (by decide) rfl (Nat.le_of_ble_eq_true rfl) (Nat.le_of_ble_eq_true rfl) (Nat.le_of_ble_eq_true rfl) (q := s.heap.size + 14) (by simp only [List.length_append, List.length_cons, List.length_nil, Nat.reduceAdd, Nat.zero_add]) dX9_init_205 (fun H hW => ?_)
  refine sn_put C hin hW (ci := 9) rfl iX9 tyX9 tyX9_ok nmX9 (k := 26) (by decide) w_1030 rfl rfl rfl (Nat.le_of_ble_eq_true rfl) dX9_init_207 (fun H locs hW => ?_)
  refine lv_aload_n C.1 C.2.1 dX9_init_210 rfl (lv_at hl 0 rfl) ?_
  refine lv_bipush (v := 96) C.1 C.2.1 dX9_init_211 rfl ?_
  refine sn_newa C hW (atype := .int) (t0 := 0) (ty := .int) rfl w_119 rfl (fun _ _ => rfl) (N' := 96) (a0 := (96, .inl (fun _ => 0))) (fun _ => rfl) (by decide) rfl (Nat.le_of_ble_eq_true rfl) (Nat.le_of_ble_eq_true rfl) (Nat.le_of_ble_eq_true rfl) (q := s.heap.size + 15) (by simp only [List.length_append, List.length_cons, List.length_nil, Nat.reduceAdd, Nat.zero_add]) dX9_init_213 (fun H hW => ?_)
  refine sn_put C hin hW (ci := 9) rfl iX9 tyX9 tyX9_ok nmX9 (k := 27) (by decide) w_1031 rfl rfl rfl (Nat.le_of_ble_eq_true rfl) dX9_init_215 (fun H locs hW => ?_)
  refine lv_aload_n C.1 C.2.1 dX9_init_218 rfl (lv_at hl 0 rfl) ?_
  refine lv_iconst (v := 5) C.1 C.2.1 dX9_init_219 rfl ?_
  refine sn_newa C hW (atype := .int) (t0 := 0) (ty := .int) rfl w_119 rfl (fun _ _ => rfl) (N' := 5) (a0 := (5, .inl (fun _ => 0))) (fun _ => rfl) (by decide) rfl (Nat.le_of_ble_eq_true rfl) (Nat.le_of_ble_eq_true rfl) (Nat.le_of_ble_eq_true rfl) (q := s.heap.size + 16) (by simp only [List.length_append, List.length_cons, List.length_nil, Nat.reduceAdd, Nat.zero_add]) dX9_init_220 (fun H hW => ?_)
  refine sn_put C hin hW (ci := 9) rfl iX9 tyX9 tyX9_ok nmX9 (k := 28) (by decide) w_1032 rfl rfl rfl (Nat.le_of_ble_eq_true rfl) dX9_init_222 (fun H locs hW => ?_)
  refine lv_aload_n C.1 C.2.1 dX9_init_225 rfl (lv_at hl 0 rfl) ?_
  refine lv_iconst (v := 5) C.1 C.2.1 dX9_init_226 rfl ?_
  refine sn_newa C hW (atype := .int) (t0 := 0) (ty := .int) rfl w_119 rfl (fun _ _ => rfl) (N' := 5) (a0 := (5, .inl (fun _ => 0))) (fun _ => rfl) (by decide) rfl (Nat.le_of_ble_eq_true rfl) (Nat.le_of_ble_eq_true rfl) (Nat.le_of_ble_eq_true rfl) (q := s.heap.size + 17) (by simp only [List.length_append, List.length_cons, List.length_nil, Nat.reduceAdd, Nat.zero_add]) dX9_init_227 (fun H hW => ?_)
  refine sn_put C hin hW (ci := 9) rfl iX9 tyX9 tyX9_ok nmX9 (k := 29) (by decide) w_1033 rfl rfl rfl (Nat.le_of_ble_eq_true rfl) dX9_init_229 (fun H locs hW => ?_)
  have hW : WS Y s [(a, .inr (9, [.ref (s.heap.size + 0), .ref (s.heap.size + 1), .ref (s.heap.size + 2), .int 0, .int 0, .ref (s.heap.size + 3), .ref (s.heap.size + 4), .ref (s.heap.size + 5), .int 0, .int 0, .int 0, .int 0, .int 0, .int 0, .int 0, .ref (s.heap.size + 6), .ref (s.heap.size + 7), .ref (s.heap.size + 8), .int 0, .int 0, .ref (s.heap.size + 9), .int 0, .ref (s.heap.size + 10), .ref (s.heap.size + 11), .ref (s.heap.size + 12), .ref (s.heap.size + 13), .ref (s.heap.size + 14), .ref (s.heap.size + 15), .ref (s.heap.size + 16), .ref (s.heap.size + 17), .null, .null, .null, .null, .int 0]))] _ H _ := hW
  refine lv_aload_n C.1 C.2.1 dX9_init_232 rfl (lv_at hl 0 rfl) ?_
  refine lv_iconst (v := 5) C.1 C.2.1 dX9_init_233 rfl ?_
  refine sn_newa C hW (atype := .int) (t0 := 0) (ty := .int) rfl w_119 rfl (fun _ _ => rfl) (N' := 5) (a0 := (5, .inl (fun _ => 0))) (fun _ => rfl) (by decide) rfl (Nat.le_of_ble_eq_true rfl) (Nat.le_of_ble_eq_true rfl) (Nat.le_of_ble_eq_true rfl) (q := s.heap.size + 18) (by simp only [List.length_append, List.length_cons, List.length_nil, Nat.reduceAdd, Nat.zero_add]) dX9_init_234 (fun H hW => ?_)
  refine sn_put C hin hW (ci := 9) rfl iX9 tyX9 tyX9_ok nmX9 (k := 30) (by decide) w_1034 rfl rfl rfl (Nat.le_of_ble_eq_true rfl) dX9_init_236 (fun H locs hW => ?_)
  refine lv_aload_n C.1 C.2.1 dX9_init_239 rfl (lv_at hl 0 rfl) ?_
  refine lv_bipush (v := 120) C.1 C.2.1 dX9_init_240 rfl ?_
  refine sn_newa C hW (atype := .int) (t0 := 0) (ty := .int) rfl w_119 rfl (fun _ _ => rfl) (N' := 120) (a0 := (120, .inl (fun _ => 0))) (fun _ => rfl) (by decide) rfl (Nat.le_of_ble_eq_true rfl) (Nat.le_of_ble_eq_true rfl) (Nat.le_of_ble_eq_true rfl) (q := s.heap.size + 19) (by simp only [List.length_append, List.length_cons, List.length_nil, Nat.reduceAdd, Nat.zero_add]) dX9_init_242 (fun H hW => ?_)
  refine sn_put C hin hW (ci := 9) rfl iX9 tyX9 tyX9_ok nmX9 (k := 31) (by decide) w_1035 rfl rfl rfl (Nat.le_of_ble_eq_true rfl) dX9_init_244 (fun H locs hW => ?_)
  refine lv_aload_n C.1 C.2.1 dX9_init_247 rfl (lv_at hl 0 rfl) ?_
  refine lv_bipush (v := 24) C.1 C.2.1 dX9_init_248 rfl ?_
  refine sn_newa C hW (atype := .int) (t0 := 0) (ty := .int) rfl w_119 rfl (fun _ _ => rfl) (N' := 24) (a0 := (24, .inl (fun _ => 0))) (fun _ => rfl) (by decide) rfl (Nat.le_of_ble_eq_true rfl) (Nat.le_of_ble_eq_true rfl) (Nat.le_of_ble_eq_true rfl) (q := s.heap.size + 20) (by simp only [List.length_append, List.length_cons, List.length_nil, Nat.reduceAdd, Nat.zero_add]) dX9_init_250 (fun H hW => ?_)
  refine sn_put C hin hW (ci := 9) rfl iX9 tyX9 tyX9_ok nmX9 (k := 32) (by decide) w_1036 rfl rfl rfl (Nat.le_of_ble_eq_true rfl) dX9_init_252 (fun H locs hW => ?_)
  refine lv_aload_n C.1 C.2.1 dX9_init_255 rfl (lv_at hl 0 rfl) ?_
  refine lv_bipush (v := 60) C.1 C.2.1 dX9_init_256 rfl ?_
  refine sn_newa C hW (atype := .int) (t0 := 0) (ty := .int) rfl w_119 rfl (fun _ _ => rfl) (N' := 60) (a0 := (60, .inl (fun _ => 0))) (fun _ => rfl) (by decide) rfl (Nat.le_of_ble_eq_true rfl) (Nat.le_of_ble_eq_true rfl) (Nat.le_of_ble_eq_true rfl) (q := s.heap.size + 21) (by simp only [List.length_append, List.length_cons, List.length_nil, Nat.reduceAdd, Nat.zero_add]) dX9_init_258 (fun H hW => ?_)
  refine sn_put C hin hW (ci := 9) rfl iX9 tyX9 tyX9_ok nmX9 (k := 33) (by decide) w_1037 rfl rfl rfl (Nat.le_of_ble_eq_true rfl) dX9_init_260 (fun H locs hW => ?_)
  refine lv_aload_n C.1 C.2.1 dX9_init_263 rfl (lv_at hl 0 rfl) ?_
  refine sn_get C hW (ci := 9) rfl iX9 (k := 0) (by decide) w_1004 (v := .ref (s.heap.size + 0)) rfl dX9_init_264 ?_
  refine lv_iconst (v := 0) C.1 C.2.1 dX9_init_267 rfl ?_
  refine lv_iconst (v := 1) C.1 C.2.1 dX9_init_268 rfl ?_
  have hW := WS.eq hW (es' := .inl (Y.2 0, (1423, .inl (fun _ => 0))) :: ([.inl (Y.2 0, (1423, .inl (fun _ => 0)))] ++ [.inl (Y.2 0, (1423, .inl (fun _ => 0)))] ++ [.inl (Y.2 0, (51, .inl (fun _ => 0)))] ++ [.inl (Y.2 1, (5, .inr (.inl (fun _ => 0))))] ++ [.inl (Y.2 0, (96, .inl (fun _ => 0)))] ++ [.inl (Y.2 3, 10, .inl (upd (upd (upd (upd (upd (upd (upd (upd (upd (upd (fun _ => 0) 0 111) 1 102) 2 102) 3 102) 4 101) 5 101) 6 102) 7 105) 8 110) 9 101))] ++ [.inl (Y.2 0, 4, .inl (upd (upd (upd (upd (fun _ => 0) 0 0) 1 3) 2 6) 3 10))] ++ [.inl (Y.2 0, (96, .inl (fun _ => 0)))] ++ [.inl (Y.2 0, (96, .inl (fun _ => 0)))] ++ [.inl (Y.2 2, (10, .inl (fun _ => 0)))] ++ [.inl (Y.2 0, (96, .inl (fun _ => 0)))] ++ [.inl (Y.2 0, (4, .inl (fun _ => 0)))] ++ [.inl (Y.2 0, 4, .inl (upd (upd (upd (upd (fun _ => 0) 0 (-1)) 1 (-1)) 2 (-1)) 3 (-1)))] ++ [.inl (Y.2 0, (4, .inl (fun _ => 0)))] ++ [.inl (Y.2 0, (96, .inl (fun _ => 0)))] ++ [.inl (Y.2 0, (5, .inl (fun _ => 0)))] ++ [.inl (Y.2 0, (5, .inl (fun _ => 0)))] ++ [.inl (Y.2 0, (5, .inl (fun _ => 0)))] ++ [.inl (Y.2 0, (120, .inl (fun _ => 0)))] ++ [.inl (Y.2 0, (24, .inl (fun _ => 0)))] ++ [.inl (Y.2 0, (60, .inl (fun _ => 0)))])) (by simp only [List.append_assoc, List.cons_append, List.nil_append])
  refine sn_iastH C hW (inb_k (by decide +kernel)) (k' := 0) (by decide +kernel) (q := s.heap.size + 0) rfl dX9_init_269 (fun H locs hW => ?_)
  refine lv_aload_n C.1 C.2.1 dX9_init_270 rfl (lv_at hl 0 rfl) ?_
  refine sn_get C hW (ci := 9) rfl iX9 (k := 0) (by decide) w_1004 (v := .ref (s.heap.size + 0)) rfl dX9_init_271 ?_
  refine lv_iconst (v := 3) C.1 C.2.1 dX9_init_274 rfl ?_
  refine lv_bipush (v := 110) C.1 C.2.1 dX9_init_275 rfl ?_
  refine sn_iastH C hW (inb_k (by decide +kernel)) (k' := 3) (by decide +kernel) (q := s.heap.size + 0) rfl dX9_init_277 (fun H locs hW => ?_)
  refine lv_aload_n C.1 C.2.1 dX9_init_278 rfl (lv_at hl 0 rfl) ?_
  refine sn_get C hW (ci := 9) rfl iX9 (k := 0) (by decide) w_1004 (v := .ref (s.heap.size + 0)) rfl dX9_init_279 ?_
  refine lv_iconst (v := 5) C.1 C.2.1 dX9_init_282 rfl ?_
  refine lv_sipush (v := 1000) C.1 C.2.1 dX9_init_283 rfl ?_
  refine sn_iastH C hW (inb_k (by decide +kernel)) (k' := 5) (by decide +kernel) (q := s.heap.size + 0) rfl dX9_init_286 (fun H locs hW => ?_)
  refine lv_aload_n C.1 C.2.1 dX9_init_287 rfl (lv_at hl 0 rfl) ?_
  refine sn_get C hW (ci := 9) rfl iX9 (k := 0) (by decide) w_1004 (v := .ref (s.heap.size + 0)) rfl dX9_init_288 ?_
  refine lv_bipush (v := 14) C.1 C.2.1 dX9_init_291 rfl ?_
  refine lv_iconst (v := (-1)) C.1 C.2.1 dX9_init_293 rfl ?_
  refine sn_iastH C hW (inb_k (by decide +kernel)) (k' := 14) (by decide +kernel) (q := s.heap.size + 0) rfl dX9_init_294 (fun H locs hW => ?_)
  exact hret _ _ _ _ hW dX9_init_295
