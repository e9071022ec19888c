theorem dX1_init_0 : decode cX1_init 0 = .ok (.aload_n 0, 1) := by decide +kernel
theorem dX1_init_1 : decode cX1_init 1 = .ok (.invokespecial 3, 3) := by decide +kernel
theorem dX1_init_4 : decode cX1_init 4 = .ok (.aload_n 0, 1) := by decide +kernel
theorem dX1_init_5 : decode cX1_init 5 = .ok (.bipush 96, 2) := by decide +kernel
theorem dX1_init_7 : decode cX1_init 7 = .ok (.newarray .int, 2) := by decide +kernel
theorem dX1_init_9 : decode cX1_init 9 = .ok (.putfield 9, 3) := by decide +kernel
theorem dX1_init_12 : decode cX1_init 12 = .ok (.aload_n 0, 1) := by decide +kernel
theorem dX1_init_13 : decode cX1_init 13 = .ok (.new 15, 3) := by decide +kernel
theorem dX1_init_16 : decode cX1_init 16 = .ok (.dup, 1) := by decide +kernel
theorem dX1_init_17 : decode cX1_init 17 = .ok (.invokespecial 17, 3) := by decide +kernel
theorem dX1_init_20 : decode cX1_init 20 = .ok (.putfield 18, 3) := by decide +kernel
theorem dX1_init_23 : decode cX1_init 23 = .ok (.aload_n 0, 1) := by decide +kernel
theorem dX1_init_24 : decode cX1_init 24 = .ok (.bipush 96, 2) := by decide +kernel
theorem dX1_init_26 : decode cX1_init 26 = .ok (.newarray .int, 2) := by decide +kernel
theorem dX1_init_28 : decode cX1_init 28 = .ok (.putfield 22, 3) := by decide +kernel
theorem dX1_init_31 : decode cX1_init 31 = .ok (.return_, 1) := by decide +kernel
def oX1_fs (z : Nat) : List Value := [.ref (z + 0), .int 0, .ref (z + 1), .ref (z + 3), .int 0, .int 0, .int 0, .int 0, .int 0, .int 0, .int 0, .int 0]
def oX1 (z : Nat) : va_E := .inr (1, oX1_fs z)
def mX1 (Y : CD) (z : Nat) : List va_E := [.inl (Y.2 0, (96, .inl (fun _ => 0)))] ++ (oX5 (z + 2) :: mX5 Y (z + 2)) ++ [.inl (Y.2 0, (96, .inl (fun _ => 0)))]
theorem lenM_X1 {Y : CD} {z : Nat} : (mX1 Y z).length = 4 := rfl
set_option maxHeartbeats 4000000 in
set_option maxRecDepth 20000 in
theorem cn_X1 (Y : CD) (l : Launch) (a z : Nat) : MetC Y l yX1_init cX1_init 1 2 4 292 a [] (.inr (1, [.null, .int 0, .null, .null, .int 0, .int 0, .int 0, .int 0, .int 0, .int 0, .int 0, .int 0])) (oX1 z) z (mX1 Y z) := by
  refine met_C (by decide) rfl (Nat.le_of_ble_eq_true rfl) (fun p e s mi args below meth c ls Q hsz C hin hret hW hl => ?_)
  subst hsz
  have hl : lv_has ls 1 [(0, .ref a)] := lv_sub hl [0] rfl
  obtain ⟨H, hHe⟩ : ∃ H, H = s.heap := ⟨_, rfl⟩
  have hW : WS Y s [(a, .inr (1, [.null, .int 0, .null, .null, .int 0, .int 0, .int 0, .int 0, .int 0, .int 0, .int 0, .int 0]))] [] H [] := by rw [hHe]; exact hW
  rw [← hHe]
  refine lv_aload_n C.1 C.2.1 dX1_init_0 rfl (lv_at hl 0 rfl) ?_
  refine sn_obj C w_133 hl.1 (Nat.le_of_ble_eq_true rfl) (Nat.le_of_ble_eq_true rfl) dX1_init_1 ?_
  refine lv_aload_n C.1 C.2.1 dX1_init_4 rfl (lv_at hl 0 rfl) ?_
  refine lv_bipush (v := 96) C.1 C.2.1 dX1_init_5 rfl ?_
  refine sn_newa C hW (atype := .int) (t0 := 0) (ty := .int) rfl w_119 rfl (fun _ _ => rfl) (N' := 96) (a0 := (96, .inl (fun _ => 0))) (fun _ => rfl) (by decide) rfl (Nat.le_of_ble_eq_true rfl) (Nat.le_of_ble_eq_true rfl) (Nat.le_of_ble_eq_true rfl) (q := s.heap.size + 0) rfl dX1_init_7 (fun H hW => ?_)
  have hW : WS Y s [(a, .inr (1, [.null, .int 0, .null, .null, .int 0, .int 0, .int 0, .int 0, .int 0, .int 0, .int 0, .int 0]))] ([.inl (Y.2 0, (96, .inl (fun _ => 0)))]) H _ := hW
  refine sn_put C hin hW (ci := 1) rfl iX1 tyX1 tyX1_ok nmX1 (k := 0) (by decide) w_136 rfl rfl rfl (Nat.le_of_ble_eq_true rfl) dX1_init_9 (fun H locs hW => ?_)
  have hW : WS Y s [(a, .inr (1, [.ref (s.heap.size + 0), .int 0, .null, .null, .int 0, .int 0, .int 0, .int 0, .int 0, .int 0, .int 0, .int 0]))] ([.inl (Y.2 0, (96, .inl (fun _ => 0)))]) H _ := hW
  refine lv_aload_n C.1 C.2.1 dX1_init_12 rfl (lv_at hl 0 rfl) ?_
  refine sn_new C hW (ci := 5) rfl iX5 tyX5 tyX5_ok w_134 w_95 w_63 dfX5 (Nat.le_of_ble_eq_true rfl) (Nat.le_of_ble_eq_true rfl) (q := s.heap.size + 1) rfl dX1_init_13 (fun H hW => ?_)
  have hW : WS Y s [(a, .inr (1, [.ref (s.heap.size + 0), .int 0, .null, .null, .int 0, .int 0, .int 0, .int 0, .int 0, .int 0, .int 0, .int 0]))] ([.inl (Y.2 0, (96, .inl (fun _ => 0)))] ++ [.inr (5, [.int 0, .int 0, .int 0, .null])]) H _ := hW
  refine lv_dup C.1 C.2.1 dX1_init_16 rfl ?_
  refine sn_callNL C (es := [.inl (Y.2 0, (96, .inl (fun _ => 0)))]) hW (n := 0) (k := 1) (z1 := s.heap.size + 2) rfl rfl (cn_X5 Y l (s.heap.size + 1) (s.heap.size + 2)) w_98 w_97 w_63 C.2.2.2.2.2.2.2.2.2.2.1 (by decide +kernel) (by exact ⟨Nat.le_of_ble_eq_true rfl, Nat.le_of_ble_eq_true rfl⟩) (by exact ⟨Nat.le_of_ble_eq_true rfl, Nat.le_of_ble_eq_true rfl⟩) (As := []) rfl hl.1 (rest := [.ref (s.heap.size + 1), .ref a]) rfl (by exact Nat.le_of_ble_eq_true rfl) dX1_init_17 (fun H locs hW => ?_)
  have hW : WS Y s [(a, .inr (1, [.ref (s.heap.size + 0), .int 0, .null, .null, .int 0, .int 0, .int 0, .int 0, .int 0, .int 0, .int 0, .int 0]))] ([.inl (Y.2 0, (96, .inl (fun _ => 0)))] ++ (oX5 (s.heap.size + 2) :: mX5 Y (s.heap.size + 2))) H _ := hW
  refine sn_put C hin hW (ci := 1) rfl iX1 tyX1 tyX1_ok nmX1 (k := 2) (by decide) w_139 rfl rfl rfl (Nat.le_of_ble_eq_true rfl) dX1_init_20 (fun H locs hW => ?_)
  have hW : WS Y s [(a, .inr (1, [.ref (s.heap.size + 0), .int 0, .ref (s.heap.size + 1), .null, .int 0, .int 0, .int 0, .int 0, .int 0, .int 0, .int 0, .int 0]))] ([.inl (Y.2 0, (96, .inl (fun _ => 0)))] ++ (oX5 (s.heap.size + 2) :: mX5 Y (s.heap.size + 2))) H _ := hW
  refine lv_aload_n C.1 C.2.1 dX1_init_23 rfl (lv_at hl 0 rfl) ?_
  refine lv_bipush (v := 96) C.1 C.2.1 dX1_init_24 rfl ?_
  refine sn_newa C hW (atype := .int) (t0 := 0) (ty := .int) rfl w_119 rfl (fun _ _ => rfl) (N' := 96) (a0 := (96, .inl (fun _ => 0))) (fun _ => rfl) (by decide) rfl (Nat.le_of_ble_eq_true rfl) (Nat.le_of_ble_eq_true rfl) (Nat.le_of_ble_eq_true rfl) (q := s.heap.size + 3) rfl dX1_init_26 (fun H hW => ?_)
  have hW : WS Y s [(a, .inr (1, [.ref (s.heap.size + 0), .int 0, .ref (s.heap.size + 1), .null, .int 0, .int 0, .int 0, .int 0, .int 0, .int 0, .int 0, .int 0]))] ([.inl (Y.2 0, (96, .inl (fun _ => 0)))] ++ (oX5 (s.heap.size + 2) :: mX5 Y (s.heap.size + 2)) ++ [.inl (Y.2 0, (96, .inl (fun _ => 0)))]) H _ := hW
  refine sn_put C hin hW (ci := 1) rfl iX1 tyX1 tyX1_ok nmX1 (k := 3) (by decide) w_141 rfl rfl rfl (Nat.le_of_ble_eq_true rfl) dX1_init_28 (fun H locs hW => ?_)
  have hW : WS Y s [(a, .inr (1, [.ref (s.heap.size + 0), .int 0, .ref (s.heap.size + 1), .ref (s.heap.size + 3), .int 0, .int 0, .int 0, .int 0, .int 0, .int 0, .int 0, .int 0]))] ([.inl (Y.2 0, (96, .inl (fun _ => 0)))] ++ (oX5 (s.heap.size + 2) :: mX5 Y (s.heap.size + 2)) ++ [.inl (Y.2 0, (96, .inl (fun _ => 0)))]) H _ := hW
  exact hret _ _ _ _ hW dX1_init_31
