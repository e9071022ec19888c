theorem dX3_init_0 : decode cX3_init 0 = .ok (.aload_n 0, 1) := by decide +kernel
theorem dX3_init_1 : decode cX3_init 1 = .ok (.invokespecial 3, 3) := by decide +kernel
theorem dX3_init_4 : decode cX3_init 4 = .ok (.aload_n 0, 1) := by decide +kernel
theorem dX3_init_5 : decode cX3_init 5 = .ok (.new 9, 3) := by decide +kernel
theorem dX3_init_8 : decode cX3_init 8 = .ok (.dup, 1) := by decide +kernel
theorem dX3_init_9 : decode cX3_init 9 = .ok (.invokespecial 11, 3) := by decide +kernel
theorem dX3_init_12 : decode cX3_init 12 = .ok (.putfield 12, 3) := by decide +kernel
theorem dX3_init_15 : decode cX3_init 15 = .ok (.aload_n 0, 1) := by decide +kernel
theorem dX3_init_16 : decode cX3_init 16 = .ok (.new 18, 3) := by decide +kernel
theorem dX3_init_19 : decode cX3_init 19 = .ok (.dup, 1) := by decide +kernel
theorem dX3_init_20 : decode cX3_init 20 = .ok (.invokespecial 20, 3) := by decide +kernel
theorem dX3_init_23 : decode cX3_init 23 = .ok (.putfield 21, 3) := by decide +kernel
theorem dX3_init_26 : decode cX3_init 26 = .ok (.return_, 1) := by decide +kernel
def oX3_fs (z : Nat) : List Value := [.int 0, .ref (z + 0), .ref (z + 1), .int 0]
def oX3 (z : Nat) : va_E := .inr (3, oX3_fs z)
def mX3 (Y : CD) (z : Nat) : List va_E := (oX7 (z + 1) :: mX7 Y (z + 1)) ++ (oX2 (z + 2) :: mX2 Y (z + 2))
theorem lenM_X3 {Y : CD} {z : Nat} : (mX3 Y z).length = 3 := rfl
set_option maxHeartbeats 4000000 in
set_option maxRecDepth 20000 in
theorem cn_X3 (Y : CD) (l : Launch) (a z : Nat) : MetC Y l yX3_init cX3_init 1 2 3 34 a [] (.inr (3, [.int 0, .null, .null, .int 0])) (oX3 z) z (mX3 Y z) := by
  refine met_C (by decide) rfl (Nat.le_of_ble_eq_true rfl) (fun p e s mi args below meth c ls Q hsz C hin hret hW hl => ?_)
  subst hsz
  have hl : lv_has ls 1 [(0, .ref a)] := lv_sub hl [0] rfl
  obtain ⟨H, hHe⟩ : ∃ H, H = s.heap := ⟨_, rfl⟩
  have hW : WS Y s [(a, .inr (3, [.int 0, .null, .null, .int 0]))] [] H [] := by rw [hHe]; exact hW
  rw [← hHe]
  refine lv_aload_n C.1 C.2.1 dX3_init_0 rfl (lv_at hl 0 rfl) ?_
  refine sn_obj C w_339 hl.1 (Nat.le_of_ble_eq_true rfl) (Nat.le_of_ble_eq_true rfl) dX3_init_1 ?_
  refine lv_aload_n C.1 C.2.1 dX3_init_4 rfl (lv_at hl 0 rfl) ?_
  refine sn_new C hW (ci := 7) rfl iX7 tyX7 tyX7_ok w_340 w_183 w_66 dfX7 (Nat.le_of_ble_eq_true rfl) (Nat.le_of_ble_eq_true rfl) (q := s.heap.size + 0) rfl dX3_init_5 (fun H hW => ?_)
  have hW : WS Y s [(a, .inr (3, [.int 0, .null, .null, .int 0]))] ([.inr (7, [.int 0, .int 0, .int 0, .int 0, .int 0, .int 0, .int 0])]) H _ := hW
  refine lv_dup C.1 C.2.1 dX3_init_8 rfl ?_
  refine sn_callNL C (es := []) hW (n := 0) (k := 0) (z1 := s.heap.size + 1) rfl rfl (cn_X7 Y l (s.heap.size + 0) (s.heap.size + 1)) w_186 w_185 w_66 C.2.2.2.2.2.2.2.2.2.2.2.2.1 (by decide +kernel) (by exact ⟨Nat.le_of_ble_eq_true rfl, Nat.le_of_ble_eq_true rfl⟩) (by exact ⟨Nat.le_of_ble_eq_true rfl, Nat.le_of_ble_eq_true rfl⟩) (As := []) rfl hl.1 (rest := [.ref (s.heap.size + 0), .ref a]) rfl (by exact Nat.le_of_ble_eq_true rfl) dX3_init_9 (fun H locs hW => ?_)
  have hW : WS Y s [(a, .inr (3, [.int 0, .null, .null, .int 0]))] ((oX7 (s.heap.size + 1) :: mX7 Y (s.heap.size + 1))) H _ := hW
  refine sn_put C hin hW (ci := 3) rfl iX3 tyX3 tyX3_ok nmX3 (k := 1) (by decide) w_346 rfl rfl rfl (Nat.le_of_ble_eq_true rfl) dX3_init_12 (fun H locs hW => ?_)
  have hW : WS Y s [(a, .inr (3, [.int 0, .ref (s.heap.size + 0), .null, .int 0]))] ((oX7 (s.heap.size + 1) :: mX7 Y (s.heap.size + 1))) H _ := hW
  refine lv_aload_n C.1 C.2.1 dX3_init_15 rfl (lv_at hl 0 rfl) ?_
  refine sn_new C hW (ci := 2) rfl iX2 tyX2 tyX2_ok w_342 w_315 w_68 dfX2 (Nat.le_of_ble_eq_true rfl) (Nat.le_of_ble_eq_true rfl) (q := s.heap.size + 1) rfl dX3_init_16 (fun H hW => ?_)
  have hW : WS Y s [(a, .inr (3, [.int 0, .ref (s.heap.size + 0), .null, .int 0]))] ((oX7 (s.heap.size + 1) :: mX7 Y (s.heap.size + 1)) ++ [.inr (2, [.int 0, .int 0, .null])]) H _ := hW
  refine lv_dup C.1 C.2.1 dX3_init_19 rfl ?_
  refine sn_callNL C (es := (oX7 (s.heap.size + 1) :: mX7 Y (s.heap.size + 1))) hW (n := 0) (k := 1) (z1 := s.heap.size + 2) rfl rfl (cn_X2 Y l (s.heap.size + 1) (s.heap.size + 2)) w_318 w_317 w_68 C.2.2.2.2.2.2.2.2.2.2.2.2.2.1 (by decide +kernel) (by exact ⟨Nat.le_of_ble_eq_true rfl, Nat.le_of_ble_eq_true rfl⟩) (by exact ⟨Nat.le_of_ble_eq_true rfl, Nat.le_of_ble_eq_true rfl⟩) (As := []) rfl hl.1 (rest := [.ref (s.heap.size + 1), .ref a]) rfl (by exact Nat.le_of_ble_eq_true rfl) dX3_init_20 (fun H locs hW => ?_)
  have hW : WS Y s [(a, .inr (3, [.int 0, .ref (s.heap.size + 0), .null, .int 0]))] ((oX7 (s.heap.size + 1) :: mX7 Y (s.heap.size + 1)) ++ (oX2 (s.heap.size + 2) :: mX2 Y (s.heap.size + 2))) H _ := hW
  refine sn_put C hin hW (ci := 3) rfl iX3 tyX3 tyX3_ok nmX3 (k := 2) (by decide) w_348 rfl rfl rfl (Nat.le_of_ble_eq_true rfl) dX3_init_23 (fun H locs hW => ?_)
  have hW : WS Y s [(a, .inr (3, [.int 0, .ref (s.heap.size + 0), .ref (s.heap.size + 1), .int 0]))] ((oX7 (s.heap.size + 1) :: mX7 Y (s.heap.size + 1)) ++ (oX2 (s.heap.size + 2) :: mX2 Y (s.heap.size + 2))) H _ := hW
  exact hret _ _ _ _ hW dX3_init_26
