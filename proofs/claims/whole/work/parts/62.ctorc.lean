theorem dX4_init_0 : decode cX4_init 0 = .ok (.aload_n 0, 1) := by decide +kernel
theorem dX4_init_1 : decode cX4_init 1 = .ok (.invokespecial 3, 3) := by decide +kernel
theorem dX4_init_4 : decode cX4_init 4 = .ok (.aload_n 0, 1) := by decide +kernel
theorem dX4_init_5 : decode cX4_init 5 = .ok (.iconst 5, 1) := by decide +kernel
theorem dX4_init_6 : decode cX4_init 6 = .ok (.anewarray 9, 3) := by decide +kernel
theorem dX4_init_9 : decode cX4_init 9 = .ok (.putfield 11, 3) := by decide +kernel
theorem dX4_init_12 : decode cX4_init 12 = .ok (.iconst 0, 1) := by decide +kernel
theorem dX4_init_13 : decode cX4_init 13 = .ok (.istore_n 2, 1) := by decide +kernel
theorem dX4_init_14 : decode cX4_init 14 = .ok (.iload_n 2, 1) := by decide +kernel
theorem dX4_init_15 : decode cX4_init 15 = .ok (.iconst 5, 1) := by decide +kernel
theorem dX4_init_16 : decode cX4_init 16 = .ok (.if_icmp .ge 22, 3) := by decide +kernel
theorem dX4_init_19 : decode cX4_init 19 = .ok (.aload_n 0, 1) := by decide +kernel
theorem dX4_init_20 : decode cX4_init 20 = .ok (.getfield 11, 3) := by decide +kernel
theorem dX4_init_23 : decode cX4_init 23 = .ok (.iload_n 2, 1) := by decide +kernel
theorem dX4_init_24 : decode cX4_init 24 = .ok (.new 9, 3) := by decide +kernel
theorem dX4_init_27 : decode cX4_init 27 = .ok (.dup, 1) := by decide +kernel
theorem dX4_init_28 : decode cX4_init 28 = .ok (.invokespecial 17, 3) := by decide +kernel
theorem dX4_init_31 : decode cX4_init 31 = .ok (.aastore, 1) := by decide +kernel
theorem dX4_init_32 : decode cX4_init 32 = .ok (.iinc 2 1, 3) := by decide +kernel
theorem dX4_init_35 : decode cX4_init 35 = .ok (.goto (-21), 3) := by decide +kernel
theorem dX4_init_38 : decode cX4_init 38 = .ok (.aload_n 0, 1) := by decide +kernel
theorem dX4_init_39 : decode cX4_init 39 = .ok (.sipush 1000, 3) := by decide +kernel
theorem dX4_init_42 : decode cX4_init 42 = .ok (.putfield 18, 3) := by decide +kernel
theorem dX4_init_45 : decode cX4_init 45 = .ok (.aload_n 0, 1) := by decide +kernel
theorem dX4_init_46 : decode cX4_init 46 = .ok (.bipush 110, 2) := by decide +kernel
theorem dX4_init_48 : decode cX4_init 48 = .ok (.putfield 22, 3) := by decide +kernel
theorem dX4_init_51 : decode cX4_init 51 = .ok (.aload_n 0, 1) := by decide +kernel
theorem dX4_init_52 : decode cX4_init 52 = .ok (.iconst (-1), 1) := by decide +kernel
theorem dX4_init_53 : decode cX4_init 53 = .ok (.putfield 25, 3) := by decide +kernel
theorem dX4_init_56 : decode cX4_init 56 = .ok (.aload_n 0, 1) := by decide +kernel
theorem dX4_init_57 : decode cX4_init 57 = .ok (.iconst 1, 1) := by decide +kernel
theorem dX4_init_58 : decode cX4_init 58 = .ok (.putfield 28, 3) := by decide +kernel
theorem dX4_init_61 : decode cX4_init 61 = .ok (.aload_n 0, 1) := by decide +kernel
theorem dX4_init_62 : decode cX4_init 62 = .ok (.iconst 3, 1) := by decide +kernel
theorem dX4_init_63 : decode cX4_init 63 = .ok (.newarray .int, 2) := by decide +kernel
theorem dX4_init_65 : decode cX4_init 65 = .ok (.dup, 1) := by decide +kernel
theorem dX4_init_66 : decode cX4_init 66 = .ok (.iconst 0, 1) := by decide +kernel
theorem dX4_init_67 : decode cX4_init 67 = .ok (.iconst (-1), 1) := by decide +kernel
theorem dX4_init_68 : decode cX4_init 68 = .ok (.iastore, 1) := by decide +kernel
theorem dX4_init_69 : decode cX4_init 69 = .ok (.dup, 1) := by decide +kernel
theorem dX4_init_70 : decode cX4_init 70 = .ok (.iconst 1, 1) := by decide +kernel
theorem dX4_init_71 : decode cX4_init 71 = .ok (.iconst (-1), 1) := by decide +kernel
theorem dX4_init_72 : decode cX4_init 72 = .ok (.iastore, 1) := by decide +kernel
theorem dX4_init_73 : decode cX4_init 73 = .ok (.dup, 1) := by decide +kernel
theorem dX4_init_74 : decode cX4_init 74 = .ok (.iconst 2, 1) := by decide +kernel
theorem dX4_init_75 : decode cX4_init 75 = .ok (.iconst (-1), 1) := by decide +kernel
theorem dX4_init_76 : decode cX4_init 76 = .ok (.iastore, 1) := by decide +kernel
theorem dX4_init_77 : decode cX4_init 77 = .ok (.putfield 31, 3) := by decide +kernel
theorem dX4_init_80 : decode cX4_init 80 = .ok (.aload_n 0, 1) := by decide +kernel
theorem dX4_init_81 : decode cX4_init 81 = .ok (.aload_n 1, 1) := by decide +kernel
theorem dX4_init_82 : decode cX4_init 82 = .ok (.putfield 35, 3) := by decide +kernel
theorem dX4_init_85 : decode cX4_init 85 = .ok (.return_, 1) := by decide +kernel
def oX4_fs (z : Nat) (q0 : Nat) : List Value := [.ref (z + 0), .int 0, .int 1000, .int 110, .int 0, .int 0, .int 0, .int 0, .int 0, .int 0, .int 0, .int 0, .int 0, .int (-1), .int 0, .int 1, .int 0, .ref (z + 6), .ref q0]
def oX4 (z : Nat) (q0 : Nat) : va_E := .inr (4, oX4_fs z q0)
def mX4 (Y : CD) (z : Nat) : List va_E := [.inl (Y.2 4, 5, .inr (.inr (.inr (.inr (fun j => if j < 5 then some ((fun j => z + 1 + 1 * j) j) else none)))))] ++ (oX7 (z + 2) :: mX7 Y (z + 2)) ++ (oX7 (z + 3) :: mX7 Y (z + 3)) ++ (oX7 (z + 4) :: mX7 Y (z + 4)) ++ (oX7 (z + 5) :: mX7 Y (z + 5)) ++ (oX7 (z + 6) :: mX7 Y (z + 6)) ++ [.inl (Y.2 0, 3, .inl (upd (upd (upd (fun _ => 0) 0 (-1)) 1 (-1)) 2 (-1)))]
theorem lenM_X4 {Y : CD} {z : Nat} : (mX4 Y z).length = 7 := rfl
set_option maxHeartbeats 4000000 in
set_option maxRecDepth 20000 in
theorem cn_X4 (Y : CD) (l : Launch) (a z : Nat) (q0 : Nat) : MetC Y l yX4_init cX4_init 3 2 7 43 a [.ref q0] (.inr (4, [.null, .int 0, .int 0, .int 0, .int 0, .int 0, .int 0, .int 0, .int 0, .int 0, .int 0, .int 0, .int 0, .int 0, .int 0, .int 0, .int 0, .null, .null])) (oX4 z q0) z (mX4 Y z) := by
  refine met_C (by decide) rfl (Nat.le_of_ble_eq_true rfl) (fun p e s mi args below meth c ls Q hsz C hin hret hW hl => ?_)
  subst hsz
  have hl : lv_has ls 3 [(0, .ref a), (1, .ref q0)] := lv_sub hl [0, 1] rfl
  obtain ⟨H, hHe⟩ : ∃ H, H = s.heap := ⟨_, rfl⟩
  have hW : WS Y s [(a, .inr (4, [.null, .int 0, .int 0, .int 0, .int 0, .int 0, .int 0, .int 0, .int 0, .int 0, .int 0, .int 0, .int 0, .int 0, .int 0, .int 0, .int 0, .null, .null]))] [] H [] := by rw [hHe]; exact hW
  rw [← hHe]
  refine lv_aload_n C.1 C.2.1 dX4_init_0 rfl (lv_at hl 0 rfl) ?_
  refine sn_obj C w_180 hl.1 (Nat.le_of_ble_eq_true rfl) (Nat.le_of_ble_eq_true rfl) dX4_init_1 ?_
  refine lv_aload_n C.1 C.2.1 dX4_init_4 rfl (lv_at hl 0 rfl) ?_
  refine lv_iconst (v := 5) C.1 C.2.1 dX4_init_5 rfl ?_
  refine sn_newq C hW (Cn := RX7) (t0 := 4) w_181 C.2.2.2.2.2.2.1.1 rfl (N' := 5) (by decide) rfl (Nat.le_of_ble_eq_true rfl) (Nat.le_of_ble_eq_true rfl) (Nat.le_of_ble_eq_true rfl) (q := s.heap.size + 0) rfl dX4_init_6 (fun H hW => ?_)
  have hW : WS Y s [(a, .inr (4, [.null, .int 0, .int 0, .int 0, .int 0, .int 0, .int 0, .int 0, .int 0, .int 0, .int 0, .int 0, .int 0, .int 0, .int 0, .int 0, .int 0, .null, .null]))] ([.inl (Y.2 4, 5, .inr (.inr (.inr (.inr (fun _ => none)))))]) H _ := hW
  refine sn_put C hin hW (ci := 4) rfl iX4 tyX4 tyX4_ok nmX4 (k := 0) (by decide) w_224 rfl rfl rfl (Nat.le_of_ble_eq_true rfl) dX4_init_9 (fun H locs hW => ?_)
  have hW : WS Y s [(a, .inr (4, [.ref (s.heap.size + 0), .int 0, .int 0, .int 0, .int 0, .int 0, .int 0, .int 0, .int 0, .int 0, .int 0, .int 0, .int 0, .int 0, .int 0, .int 0, .int 0, .null, .null]))] ([.inl (Y.2 4, 5, .inr (.inr (.inr (.inr (fun _ => none)))))]) H _ := hW
  refine lv_iconst (v := 0) C.1 C.2.1 dX4_init_12 rfl ?_
  refine lv_istore_n (lv' := [(2, .int 0), (0, .ref a), (1, .ref q0)]) C.1 C.2.1 dX4_init_13 rfl hl (by decide) rfl (fun ls hl => ?_)
  refine lv_iload_n C.1 C.2.1 dX4_init_14 rfl (lv_at hl 0 rfl) ?_
  refine lv_iconst (v := 5) C.1 C.2.1 dX4_init_15 rfl ?_
  refine lv_icmp_ge (tgt := 38) C.1 C.2.1 dX4_init_16 (by decide) (fun hc => absurd hc (by decide)) (fun _ => ?_)
  refine lv_aload_n C.1 C.2.1 dX4_init_19 rfl (lv_at hl 1 rfl) ?_
  refine sn_get C hW (ci := 4) rfl iX4 (k := 0) (by decide) w_224 (v := .ref (s.heap.size + 0)) rfl dX4_init_20 ?_
  refine lv_iload_n C.1 C.2.1 dX4_init_23 rfl (lv_at hl 0 rfl) ?_
  refine sn_new C hW (ci := 7) rfl iX7 tyX7 tyX7_ok w_181 w_183 w_66 dfX7 (Nat.le_of_ble_eq_true rfl) (Nat.le_of_ble_eq_true rfl) (q := s.heap.size + 1) rfl dX4_init_24 (fun H hW => ?_)
  have hW : WS Y s [(a, .inr (4, [.ref (s.heap.size + 0), .int 0, .int 0, .int 0, .int 0, .int 0, .int 0, .int 0, .int 0, .int 0, .int 0, .int 0, .int 0, .int 0, .int 0, .int 0, .int 0, .null, .null]))] ([.inl (Y.2 4, 5, .inr (.inr (.inr (.inr (fun _ => none)))))] ++ [.inr (7, [.int 0, .int 0, .int 0, .int 0, .int 0, .int 0, .int 0])]) H _ := hW
  refine lv_dup C.1 C.2.1 dX4_init_27 rfl ?_
  refine sn_callNL C (es := [.inl (Y.2 4, 5, .inr (.inr (.inr (.inr (fun _ => none)))))]) hW (n := 0) (k := 1) (z1 := s.heap.size + 2) rfl rfl (cn_X7 Y l (s.heap.size + 1) (s.heap.size + 2)) w_186 w_185 w_66 C.2.2.2.2.2.2.2.2.2.2.2.2.2.2 (by decide +kernel) (by exact ⟨Nat.le_of_ble_eq_true rfl, Nat.le_of_ble_eq_true rfl⟩) (by exact ⟨Nat.le_of_ble_eq_true rfl, Nat.le_of_ble_eq_true rfl⟩) (As := []) rfl hl.1 (rest := [.ref (s.heap.size + 1), .int 0, .ref (s.heap.size + 0)]) rfl (by exact Nat.le_of_ble_eq_true rfl) dX4_init_28 (fun H locs hW => ?_)
  have hW : WS Y s [(a, .inr (4, [.ref (s.heap.size + 0), .int 0, .int 0, .int 0, .int 0, .int 0, .int 0, .int 0, .int 0, .int 0, .int 0, .int 0, .int 0, .int 0, .int 0, .int 0, .int 0, .null, .null]))] ([.inl (Y.2 4, 5, .inr (.inr (.inr (.inr (fun _ => none)))))] ++ (oX7 (s.heap.size + 2) :: mX7 Y (s.heap.size + 2))) H _ := hW
  refine sn_aast C hW (k := 0) (j := 1) (t0 := 4) (ci := 7) (n := 5) (r := (RX7, TX7, 7)) (f := (fun _ => none)) (f' := (fun j => if j < 1 then some ((fun j => s.heap.size + 1 + 1 * j) j) else none)) rfl rfl rfl rfl (inb_k (by decide)) (q := s.heap.size + 0) (v := s.heap.size + 1) rfl rfl (up_A0 (g := (fun j => s.heap.size + 1 + 1 * j)) (show s.heap.size + 1 = s.heap.size + 1 + 1 * 0 by omega)) dX4_init_31 (fun H locs hW => ?_)
  have hW : WS Y s [(a, .inr (4, [.ref (s.heap.size + 0), .int 0, .int 0, .int 0, .int 0, .int 0, .int 0, .int 0, .int 0, .int 0, .int 0, .int 0, .int 0, .int 0, .int 0, .int 0, .int 0, .null, .null]))] ([.inl (Y.2 4, 5, .inr (.inr (.inr (.inr (fun j => if j < 1 then some ((fun j => s.heap.size + 1 + 1 * j) j) else none)))))] ++ (oX7 (s.heap.size + 2) :: mX7 Y (s.heap.size + 2))) H _ := hW
  refine lv_iinc (v := 1) (lv' := [(2, .int 1), (0, .ref a), (1, .ref q0)]) C.1 C.2.1 dX4_init_32 hl (k := 0) rfl (by decide) (by decide) rfl (fun ls hl => ?_)
  refine lv_goto (tgt := 14) C.1 C.2.1 dX4_init_35 (by decide) ?_
  refine lv_iload_n C.1 C.2.1 dX4_init_14 rfl (lv_at hl 0 rfl) ?_
  refine lv_iconst (v := 5) C.1 C.2.1 dX4_init_15 rfl ?_
  refine lv_icmp_ge (tgt := 38) C.1 C.2.1 dX4_init_16 (by decide) (fun hc => absurd hc (by decide)) (fun _ => ?_)
  refine lv_aload_n C.1 C.2.1 dX4_init_19 rfl (lv_at hl 1 rfl) ?_
  refine sn_get C hW (ci := 4) rfl iX4 (k := 0) (by decide) w_224 (v := .ref (s.heap.size + 0)) rfl dX4_init_20 ?_
  refine lv_iload_n C.1 C.2.1 dX4_init_23 rfl (lv_at hl 0 rfl) ?_
  refine sn_new C hW (ci := 7) rfl iX7 tyX7 tyX7_ok w_181 w_183 w_66 dfX7 (Nat.le_of_ble_eq_true rfl) (Nat.le_of_ble_eq_true rfl) (q := s.heap.size + 2) rfl dX4_init_24 (fun H hW => ?_)
  have hW : WS Y s [(a, .inr (4, [.ref (s.heap.size + 0), .int 0, .int 0, .int 0, .int 0, .int 0, .int 0, .int 0, .int 0, .int 0, .int 0, .int 0, .int 0, .int 0, .int 0, .int 0, .int 0, .null, .null]))] ([.inl (Y.2 4, 5, .inr (.inr (.inr (.inr (fun j => if j < 1 then some ((fun j => s.heap.size + 1 + 1 * j) j) else none)))))] ++ (oX7 (s.heap.size + 2) :: mX7 Y (s.heap.size + 2)) ++ [.inr (7, [.int 0, .int 0, .int 0, .int 0, .int 0, .int 0, .int 0])]) H _ := hW
  refine lv_dup C.1 C.2.1 dX4_init_27 rfl ?_
  refine sn_callNL C (es := [.inl (Y.2 4, 5, .inr (.inr (.inr (.inr (fun j => if j < 1 then some ((fun j => s.heap.size + 1 + 1 * j) j) else none)))))] ++ (oX7 (s.heap.size + 2) :: mX7 Y (s.heap.size + 2))) hW (n := 0) (k := 2) (z1 := s.heap.size + 3) rfl rfl (cn_X7 Y l (s.heap.size + 2) (s.heap.size + 3)) w_186 w_185 w_66 C.2.2.2.2.2.2.2.2.2.2.2.2.2.2 (by decide +kernel) (by exact ⟨Nat.le_of_ble_eq_true rfl, Nat.le_of_ble_eq_true rfl⟩) (by exact ⟨Nat.le_of_ble_eq_true rfl, Nat.le_of_ble_eq_true rfl⟩) (As := []) rfl hl.1 (rest := [.ref (s.heap.size + 2), .int 1, .ref (s.heap.size + 0)]) rfl (by exact Nat.le_of_ble_eq_true rfl) dX4_init_28 (fun H locs hW => ?_)
  have hW : WS Y s [(a, .inr (4, [.ref (s.heap.size + 0), .int 0, .int 0, .int 0, .int 0, .int 0, .int 0, .int 0, .int 0, .int 0, .int 0, .int 0, .int 0, .int 0, .int 0, .int 0, .int 0, .null, .null]))] ([.inl (Y.2 4, 5, .inr (.inr (.inr (.inr (fun j => if j < 1 then some ((fun j => s.heap.size + 1 + 1 * j) j) else none)))))] ++ (oX7 (s.heap.size + 2) :: mX7 Y (s.heap.size + 2)) ++ (oX7 (s.heap.size + 3) :: mX7 Y (s.heap.size + 3))) H _ := hW
  refine sn_aast C hW (k := 0) (j := 2) (t0 := 4) (ci := 7) (n := 5) (r := (RX7, TX7, 7)) (f := (fun j => if j < 1 then some ((fun j => s.heap.size + 1 + 1 * j) j) else none)) (f' := (fun j => if j < 2 then some ((fun j => s.heap.size + 1 + 1 * j) j) else none)) rfl rfl rfl rfl (inb_k (by decide)) (q := s.heap.size + 0) (v := s.heap.size + 2) rfl rfl (up_A (i := 1) (g := (fun j => s.heap.size + 1 + 1 * j)) (show s.heap.size + 2 = s.heap.size + 1 + 1 * 1 by omega)) dX4_init_31 (fun H locs hW => ?_)
  have hW : WS Y s [(a, .inr (4, [.ref (s.heap.size + 0), .int 0, .int 0, .int 0, .int 0, .int 0, .int 0, .int 0, .int 0, .int 0, .int 0, .int 0, .int 0, .int 0, .int 0, .int 0, .int 0, .null, .null]))] ([.inl (Y.2 4, 5, .inr (.inr (.inr (.inr (fun j => if j < 2 then some ((fun j => s.heap.size + 1 + 1 * j) j) else none)))))] ++ (oX7 (s.heap.size + 2) :: mX7 Y (s.heap.size + 2)) ++ (oX7 (s.heap.size + 3) :: mX7 Y (s.heap.size + 3))) H _ := hW
  refine lv_iinc (v := 2) (lv' := [(2, .int 2), (0, .ref a), (1, .ref q0)]) C.1 C.2.1 dX4_init_32 hl (k := 0) rfl (by decide) (by decide) rfl (fun ls hl => ?_)
  refine lv_goto (tgt := 14) C.1 C.2.1 dX4_init_35 (by decide) ?_
  refine lv_iload_n C.1 C.2.1 dX4_init_14 rfl (lv_at hl 0 rfl) ?_
  refine lv_iconst (v := 5) C.1 C.2.1 dX4_init_15 rfl ?_
  refine lv_icmp_ge (tgt := 38) C.1 C.2.1 dX4_init_16 (by decide) (fun hc => absurd hc (by decide)) (fun _ => ?_)
  refine lv_aload_n C.1 C.2.1 dX4_init_19 rfl (lv_at hl 1 rfl) ?_
  refine sn_get C hW (ci := 4) rfl iX4 (k := 0) (by decide) w_224 (v := .ref (s.heap.size + 0)) rfl dX4_init_20 ?_
  refine lv_iload_n C.1 C.2.1 dX4_init_23 rfl (lv_at hl 0 rfl) ?_
  refine sn_new C hW (ci := 7) rfl iX7 tyX7 tyX7_ok w_181 w_183 w_66 dfX7 (Nat.le_of_ble_eq_true rfl) (Nat.le_of_ble_eq_true rfl) (q := s.heap.size + 3) rfl dX4_init_24 (fun H hW => ?_)
  have hW : WS Y s [(a, .inr (4, [.ref (s.heap.size + 0), .int 0, .int 0, .int 0, .int 0, .int 0, .int 0, .int 0, .int 0, .int 0, .int 0, .int 0, .int 0, .int 0, .int 0, .int 0, .int 0, .null, .null]))] ([.inl (Y.2 4, 5, .inr (.inr (.inr (.inr (fun j => if j < 2 then some ((fun j => s.heap.size + 1 + 1 * j) j) else none)))))] ++ (oX7 (s.heap.size + 2) :: mX7 Y (s.heap.size + 2)) ++ (oX7 (s.heap.size + 3) :: mX7 Y (s.heap.size + 3)) ++ [.inr (7, [.int 0, .int 0, .int 0, .int 0, .int 0, .int 0, .int 0])]) H _ := hW
  refine lv_dup C.1 C.2.1 dX4_init_27 rfl ?_
  refine sn_callNL C (es := [.inl (Y.2 4, 5, .inr (.inr (.inr (.inr (fun j => if j < 2 then some ((fun j => s.heap.size + 1 + 1 * j) j) else none)))))] ++ (oX7 (s.heap.size + 2) :: mX7 Y (s.heap.size + 2)) ++ (oX7 (s.heap.size + 3) :: mX7 Y (s.heap.size + 3))) hW (n := 0) (k := 3) (z1 := s.heap.size + 4) rfl rfl (cn_X7 Y l (s.heap.size + 3) (s.heap.size + 4)) w_186 w_185 w_66 C.2.2.2.2.2.2.2.2.2.2.2.2.2.2 (by decide +kernel) (by exact ⟨Nat.le_of_ble_eq_true rfl, Nat.le_of_ble_eq_true rfl⟩) (by exact ⟨Nat.le_of_ble_eq_true rfl, Nat.le_of_ble_eq_true rfl⟩) (As := []) rfl hl.1 (rest := [.ref (s.heap.size + 3), .int 2, .ref (s.heap.size + 0)]) rfl (by exact Nat.le_of_ble_eq_true rfl) dX4_init_28 (fun H locs hW => ?_)
  have hW : WS Y s [(a, .inr (4, [.ref (s.heap.size + 0), .int 0, .int 0, .int 0, .int 0, .int 0, .int 0, .int 0, .int 0, .int 0, .int 0, .int 0, .int 0, .int 0, .int 0, .int 0, .int 0, .null, .null]))] ([.inl (Y.2 4, 5, .inr (.inr (.inr (.inr (fun j => if j < 2 then some ((fun j => s.heap.size + 1 + 1 * j) j) else none)))))] ++ (oX7 (s.heap.size + 2) :: mX7 Y (s.heap.size + 2)) ++ (oX7 (s.heap.size + 3) :: mX7 Y (s.heap.size + 3)) ++ (oX7 (s.heap.size + 4) :: mX7 Y (s.heap.size + 4))) H _ := hW
  refine sn_aast C hW (k := 0) (j := 3) (t0 := 4) (ci := 7) (n := 5) (r := (RX7, TX7, 7)) (f := (fun j => if j < 2 then some ((fun j => s.heap.size + 1 + 1 * j) j) else none)) (f' := (fun j => if j < 3 then some ((fun j => s.heap.size + 1 + 1 * j) j) else none)) rfl rfl rfl rfl (inb_k (by decide)) (q := s.heap.size + 0) (v := s.heap.size + 3) rfl rfl (up_A (i := 2) (g := (fun j => s.heap.size + 1 + 1 * j)) (show s.heap.size + 3 = s.heap.size + 1 + 1 * 2 by omega)) dX4_init_31 (fun H locs hW => ?_)
  have hW : WS Y s [(a, .inr (4, [.ref (s.heap.size + 0), .int 0, .int 0, .int 0, .int 0, .int 0, .int 0, .int 0, .int 0, .int 0, .int 0, .int 0, .int 0, .int 0, .int 0, .int 0, .int 0, .null, .null]))] ([.inl (Y.2 4, 5, .inr (.inr (.inr (.inr (fun j => if j < 3 then some ((fun j => s.heap.size + 1 + 1 * j) j) else none)))))] ++ (oX7 (s.heap.size + 2) :: mX7 Y (s.heap.size + 2)) ++ (oX7 (s.heap.size + 3) :: mX7 Y (s.heap.size + 3)) ++ (oX7 (s.heap.size + 4) :: mX7 Y (s.heap.size + 4))) H _ := hW
  refine lv_iinc (v := 3) (lv' := [(2, .int 3), (0, .ref a), (1, .ref q0)]) C.1 C.2.1 dX4_init_32 hl (k := 0) rfl (by decide) (by decide) rfl (fun ls hl => ?_)
  refine lv_goto (tgt := 14) C.1 C.2.1 dX4_init_35 (by decide) ?_
  refine lv_iload_n C.1 C.2.1 dX4_init_14 rfl (lv_at hl 0 rfl) ?_
  refine lv_iconst (v := 5) C.1 C.2.1 dX4_init_15 rfl ?_
  refine lv_icmp_ge (tgt := 38) C.1 C.2.1 dX4_init_16 (by decide) (fun hc => absurd hc (by decide)) (fun _ => ?_)
  refine lv_aload_n C.1 C.2.1 dX4_init_19 rfl (lv_at hl 1 rfl) ?_
  refine sn_get C hW (ci := 4) rfl iX4 (k := 0) (by decide) w_224 (v := .ref (s.heap.size + 0)) rfl dX4_init_20 ?_
  refine lv_iload_n C.1 C.2.1 dX4_init_23 rfl (lv_at hl 0 rfl) ?_
  refine sn_new C hW (ci := 7) rfl iX7 tyX7 tyX7_ok w_181 w_183 w_66 dfX7 (Nat.le_of_ble_eq_true rfl) (Nat.le_of_ble_eq_true rfl) (q := s.heap.size + 4) rfl dX4_init_24 (fun H hW => ?_)
  have hW : WS Y s [(a, .inr (4, [.ref (s.heap.size + 0), .int 0, .int 0, .int 0, .int 0, .int 0, .int 0, .int 0, .int 0, .int 0, .int 0, .int 0, .int 0, .int 0, .int 0, .int 0, .int 0, .null, .null]))] ([.inl (Y.2 4, 5, .inr (.inr (.inr (.inr (fun j => if j < 3 then some ((fun j => s.heap.size + 1 + 1 * j) j) else none)))))] ++ (oX7 (s.heap.size + 2) :: mX7 Y (s.heap.size + 2)) ++ (oX7 (s.heap.size + 3) :: mX7 Y (s.heap.size + 3)) ++ (oX7 (s.heap.size + 4) :: mX7 Y (s.heap.size + 4)) ++ [.inr (7, [.int 0, .int 0, .int 0, .int 0, .int 0, .int 0, .int 0])]) H _ := hW
  refine lv_dup C.1 C.2.1 dX4_init_27 rfl ?_
  refine sn_callNL C (es := [.inl (Y.2 4, 5, .inr (.inr (.inr (.inr (fun j => if j < 3 then some ((fun j => s.heap.size + 1 + 1 * j) j) else none)))))] ++ (oX7 (s.heap.size + 2) :: mX7 Y (s.heap.size + 2)) ++ (oX7 (s.heap.size + 3) :: mX7 Y (s.heap.size + 3)) ++ (oX7 (s.heap.size + 4) :: mX7 Y (s.heap.size + 4))) hW (n := 0) (k := 4) (z1 := s.heap.size + 5) rfl rfl (cn_X7 Y l (s.heap.size + 4) (s.heap.size + 5)) w_186 w_185 w_66 C.2.2.2.2.2.2.2.2.2.2.2.2.2.2 (by decide +kernel) (by exact ⟨Nat.le_of_ble_eq_true rfl, Nat.le_of_ble_eq_true rfl⟩) (by exact ⟨Nat.le_of_ble_eq_true rfl, Nat.le_of_ble_eq_true rfl⟩) (As := []) rfl hl.1 (rest := [.ref (s.heap.size + 4), .int 3, .ref (s.heap.size + 0)]) rfl (by exact Nat.le_of_ble_eq_true rfl) dX4_init_28 (fun H locs hW => ?_)
  have hW : WS Y s [(a, .inr (4, [.ref (s.heap.size + 0), .int 0, .int 0, .int 0, .int 0, .int 0, .int 0, .int 0, .int 0, .int 0, .int 0, .int 0, .int 0, .int 0, .int 0, .int 0, .int 0, .null, .null]))] ([.inl (Y.2 4, 5, .inr (.inr (.inr (.inr (fun j => if j < 3 then some ((fun j => s.heap.size + 1 + 1 * j) j) else none)))))] ++ (oX7 (s.heap.size + 2) :: mX7 Y (s.heap.size + 2)) ++ (oX7 (s.heap.size + 3) :: mX7 Y (s.heap.size + 3)) ++ (oX7 (s.heap.size + 4) :: mX7 Y (s.heap.size + 4)) ++ (oX7 (s.heap.size + 5) :: mX7 Y (s.heap.size + 5))) H _ := hW
  refine sn_aast C hW (k := 0) (j := 4) (t0 := 4) (ci := 7) (n := 5) (r := (RX7, TX7, 7)) (f := (fun j => if j < 3 then some ((fun j => s.heap.size + 1 + 1 * j) j) else none)) (f' := (fun j => if j < 4 then some ((fun j => s.heap.size + 1 + 1 * j) j) else none)) rfl rfl rfl rfl (inb_k (by decide)) (q := s.heap.size + 0) (v := s.heap.size + 4) rfl rfl (up_A (i := 3) (g := (fun j => s.heap.size + 1 + 1 * j)) (show s.heap.size + 4 = s.heap.size + 1 + 1 * 3 by omega)) dX4_init_31 (fun H locs hW => ?_)
  have hW : WS Y s [(a, .inr (4, [.ref (s.heap.size + 0), .int 0, .int 0, .int 0, .int 0, .int 0, .int 0, .int 0, .int 0, .int 0, .int 0, .int 0, .int 0, .int 0, .int 0, .int 0, .int 0, .null, .null]))] ([.inl (Y.2 4, 5, .inr (.inr (.inr (.inr (fun j => if j < 4 then some ((fun j => s.heap.size + 1 + 1 * j) j) else none)))))] ++ (oX7 (s.heap.size + 2) :: mX7 Y (s.heap.size + 2)) ++ (oX7 (s.heap.size + 3) :: mX7 Y (s.heap.size + 3)) ++ (oX7 (s.heap.size + 4) :: mX7 Y (s.heap.size + 4)) ++ (oX7 (s.heap.size + 5) :: mX7 Y (s.heap.size + 5))) H _ := hW
  refine lv_iinc (v := 4) (lv' := [(2, .int 4), (0, .ref a), (1, .ref q0)]) C.1 C.2.1 dX4_init_32 hl (k := 0) rfl (by decide) (by decide) rfl (fun ls hl => ?_)
  refine lv_goto (tgt := 14) C.1 C.2.1 dX4_init_35 (by decide) ?_
  refine lv_iload_n C.1 C.2.1 dX4_init_14 rfl (lv_at hl 0 rfl) ?_
  refine lv_iconst (v := 5) C.1 C.2.1 dX4_init_15 rfl ?_
  refine lv_icmp_ge (tgt := 38) C.1 C.2.1 dX4_init_16 (by decide) (fun hc => absurd hc (by decide)) (fun _ => ?_)
  refine lv_aload_n C.1 C.2.1 dX4_init_19 rfl (lv_at hl 1 rfl) ?_
  refine sn_get C hW (ci := 4) rfl iX4 (k := 0) (by decide) w_224 (v := .ref (s.heap.size + 0)) rfl dX4_init_20 ?_
  refine lv_iload_n C.1 C.2.1 dX4_init_23 rfl (lv_at hl 0 rfl) ?_
  refine sn_new C hW (ci := 7) rfl iX7 tyX7 tyX7_ok w_181 w_183 w_66 dfX7 (Nat.le_of_ble_eq_true rfl) (Nat.le_of_ble_eq_true rfl) (q := s.heap.size + 5) rfl dX4_init_24 (fun H hW => ?_)
  have hW : WS Y s [(a, .inr (4, [.ref (s.heap.size + 0), .int 0, .int 0, .int 0, .int 0, .int 0, .int 0, .int 0, .int 0, .int 0, .int 0, .int 0, .int 0, .int 0, .int 0, .int 0, .int 0, .null, .null]))] ([.inl (Y.2 4, 5, .inr (.inr (.inr (.inr (fun j => if j < 4 then some ((fun j => s.heap.size + 1 + 1 * j) j) else none)))))] ++ (oX7 (s.heap.size + 2) :: mX7 Y (s.heap.size + 2)) ++ (oX7 (s.heap.size + 3) :: mX7 Y (s.heap.size + 3)) ++ (oX7 (s.heap.size + 4) :: mX7 Y (s.heap.size + 4)) ++ (oX7 (s.heap.size + 5) :: mX7 Y (s.heap.size + 5)) ++ [.inr (7, [.int 0, .int 0, .int 0, .int 0, .int 0, .int 0, .int 0])]) H _ := hW
  refine lv_dup C.1 C.2.1 dX4_init_27 rfl ?_
  refine sn_callNL C (es := [.inl (Y.2 4, 5, .inr (.inr (.inr (.inr (fun j => if j < 4 then some ((fun j => s.heap.size + 1 + 1 * j) j) else none)))))] ++ (oX7 (s.heap.size + 2) :: mX7 Y (s.heap.size + 2)) ++ (oX7 (s.heap.size + 3) :: mX7 Y (s.heap.size + 3)) ++ (oX7 (s.heap.size + 4) :: mX7 Y (s.heap.size + 4)) ++ (oX7 (s.heap.size + 5) :: mX7 Y (s.heap.size + 5))) hW (n := 0) (k := 5) (z1 := s.heap.size + 6) rfl rfl (cn_X7 Y l (s.heap.size + 5) (s.heap.size + 6)) w_186 w_185 w_66 C.2.2.2.2.2.2.2.2.2.2.2.2.2.2 (by decide +kernel) (by exact ⟨Nat.le_of_ble_eq_true rfl, Nat.le_of_ble_eq_true rfl⟩) (by exact ⟨Nat.le_of_ble_eq_true rfl, Nat.le_of_ble_eq_true rfl⟩) (As := []) rfl hl.1 (rest := [.ref (s.heap.size + 5), .int 4, .ref (s.heap.size + 0)]) rfl (by exact Nat.le_of_ble_eq_true rfl) dX4_init_28 (fun H locs hW => ?_)
  have hW : WS Y s [(a, .inr (4, [.ref (s.heap.size + 0), .int 0, .int 0, .int 0, .int 0, .int 0, .int 0, .int 0, .int 0, .int 0, .int 0, .int 0, .int 0, .int 0, .int 0, .int 0, .int 0, .null, .null]))] ([.inl (Y.2 4, 5, .inr (.inr (.inr (.inr (fun j => if j < 4 then some ((fun j => s.heap.size + 1 + 1 * j) j) else none)))))] ++ (oX7 (s.heap.size + 2) :: mX7 Y (s.heap.size + 2)) ++ (oX7 (s.heap.size + 3) :: mX7 Y (s.heap.size + 3)) ++ (oX7 (s.heap.size + 4) :: mX7 Y (s.heap.size + 4)) ++ (oX7 (s.heap.size + 5) :: mX7 Y (s.heap.size + 5)) ++ (oX7 (s.heap.size + 6) :: mX7 Y (s.heap.size + 6))) H _ := hW
  refine sn_aast C hW (k := 0) (j := 5) (t0 := 4) (ci := 7) (n := 5) (r := (RX7, TX7, 7)) (f := (fun j => if j < 4 then some ((fun j => s.heap.size + 1 + 1 * j) j) else none)) (f' := (fun j => if j < 5 then some ((fun j => s.heap.size + 1 + 1 * j) j) else none)) rfl rfl rfl rfl (inb_k (by decide)) (q := s.heap.size + 0) (v := s.heap.size + 5) rfl rfl (up_A (i := 4) (g := (fun j => s.heap.size + 1 + 1 * j)) (show s.heap.size + 5 = s.heap.size + 1 + 1 * 4 by omega)) dX4_init_31 (fun H locs hW => ?_)
  have hW : WS Y s [(a, .inr (4, [.ref (s.heap.size + 0), .int 0, .int 0, .int 0, .int 0, .int 0, .int 0, .int 0, .int 0, .int 0, .int 0, .int 0, .int 0, .int 0, .int 0, .int 0, .int 0, .null, .null]))] ([.inl (Y.2 4, 5, .inr (.inr (.inr (.inr (fun j => if j < 5 then some ((fun j => s.heap.size + 1 + 1 * j) j) else none)))))] ++ (oX7 (s.heap.size + 2) :: mX7 Y (s.heap.size + 2)) ++ (oX7 (s.heap.size + 3) :: mX7 Y (s.heap.size + 3)) ++ (oX7 (s.heap.size + 4) :: mX7 Y (s.heap.size + 4)) ++ (oX7 (s.heap.size + 5) :: mX7 Y (s.heap.size + 5)) ++ (oX7 (s.heap.size + 6) :: mX7 Y (s.heap.size + 6))) H _ := hW
  refine lv_iinc (v := 5) (lv' := [(2, .int 5), (0, .ref a), (1, .ref q0)]) C.1 C.2.1 dX4_init_32 hl (k := 0) rfl (by decide) (by decide) rfl (fun ls hl => ?_)
  refine lv_goto (tgt := 14) C.1 C.2.1 dX4_init_35 (by decide) ?_
  refine lv_iload_n C.1 C.2.1 dX4_init_14 rfl (lv_at hl 0 rfl) ?_
  refine lv_iconst (v := 5) C.1 C.2.1 dX4_init_15 rfl ?_
  refine lv_icmp_ge (tgt := 38) C.1 C.2.1 dX4_init_16 (by decide) (fun _ => ?_) (fun hc => absurd (by decide) hc)
  refine lv_aload_n C.1 C.2.1 dX4_init_38 rfl (lv_at hl 1 rfl) ?_
  refine lv_sipush (v := 1000) C.1 C.2.1 dX4_init_39 rfl ?_
  refine sn_put C hin hW (ci := 4) rfl iX4 tyX4 tyX4_ok nmX4 (k := 2) (by decide) w_228 rfl rfl rfl (Nat.le_of_ble_eq_true rfl) dX4_init_42 (fun H locs hW => ?_)
  have hW : WS Y s [(a, .inr (4, [.ref (s.heap.size + 0), .int 0, .int 1000, .int 0, .int 0, .int 0, .int 0, .int 0, .int 0, .int 0, .int 0, .int 0, .int 0, .int 0, .int 0, .int 0, .int 0, .null, .null]))] ([.inl (Y.2 4, 5, .inr (.inr (.inr (.inr (fun j => if j < 5 then some ((fun j => s.heap.size + 1 + 1 * j) j) else none)))))] ++ (oX7 (s.heap.size + 2) :: mX7 Y (s.heap.size + 2)) ++ (oX7 (s.heap.size + 3) :: mX7 Y (s.heap.size + 3)) ++ (oX7 (s.heap.size + 4) :: mX7 Y (s.heap.size + 4)) ++ (oX7 (s.heap.size + 5) :: mX7 Y (s.heap.size + 5)) ++ (oX7 (s.heap.size + 6) :: mX7 Y (s.heap.size + 6))) H _ := hW
  refine lv_aload_n C.1 C.2.1 dX4_init_45 rfl (lv_at hl 1 rfl) ?_
  refine lv_bipush (v := 110) C.1 C.2.1 dX4_init_46 rfl ?_
  refine sn_put C hin hW (ci := 4) rfl iX4 tyX4 tyX4_ok nmX4 (k := 3) (by decide) w_230 rfl rfl rfl (Nat.le_of_ble_eq_true rfl) dX4_init_48 (fun H locs hW => ?_)
  have hW : WS Y s [(a, .inr (4, [.ref (s.heap.size + 0), .int 0, .int 1000, .int 110, .int 0, .int 0, .int 0, .int 0, .int 0, .int 0, .int 0, .int 0, .int 0, .int 0, .int 0, .int 0, .int 0, .null, .null]))] ([.inl (Y.2 4, 5, .inr (.inr (.inr (.inr (fun j => if j < 5 then some ((fun j => s.heap.size + 1 + 1 * j) j) else none)))))] ++ (oX7 (s.heap.size + 2) :: mX7 Y (s.heap.size + 2)) ++ (oX7 (s.heap.size + 3) :: mX7 Y (s.heap.size + 3)) ++ (oX7 (s.heap.size + 4) :: mX7 Y (s.heap.size + 4)) ++ (oX7 (s.heap.size + 5) :: mX7 Y (s.heap.size + 5)) ++ (oX7 (s.heap.size + 6) :: mX7 Y (s.heap.size + 6))) H _ := hW
  refine lv_aload_n C.1 C.2.1 dX4_init_51 rfl (lv_at hl 1 rfl) ?_
  refine lv_iconst (v := (-1)) C.1 C.2.1 dX4_init_52 rfl ?_
  refine sn_put C hin hW (ci := 4) rfl iX4 tyX4 tyX4_ok nmX4 (k := 13) (by decide) w_250 rfl rfl rfl (Nat.le_of_ble_eq_true rfl) dX4_init_53 (fun H locs hW => ?_)
  have hW : WS Y s [(a, .inr (4, [.ref (s.heap.size + 0), .int 0, .int 1000, .int 110, .int 0, .int 0, .int 0, .int 0, .int 0, .int 0, .int 0, .int 0, .int 0, .int (-1), .int 0, .int 0, .int 0, .null, .null]))] ([.inl (Y.2 4, 5, .inr (.inr (.inr (.inr (fun j => if j < 5 then some ((fun j => s.heap.size + 1 + 1 * j) j) else none)))))] ++ (oX7 (s.heap.size + 2) :: mX7 Y (s.heap.size + 2)) ++ (oX7 (s.heap.size + 3) :: mX7 Y (s.heap.size + 3)) ++ (oX7 (s.heap.size + 4) :: mX7 Y (s.heap.size + 4)) ++ (oX7 (s.heap.size + 5) :: mX7 Y (s.heap.size + 5)) ++ (oX7 (s.heap.size + 6) :: mX7 Y (s.heap.size + 6))) H _ := hW
  refine lv_aload_n C.1 C.2.1 dX4_init_56 rfl (lv_at hl 1 rfl) ?_
  refine lv_iconst (v := 1) C.1 C.2.1 dX4_init_57 rfl ?_
  refine sn_put C hin hW (ci := 4) rfl iX4 tyX4 tyX4_ok nmX4 (k := 15) (by decide) w_254 rfl rfl rfl (Nat.le_of_ble_eq_true rfl) dX4_init_58 (fun H locs hW => ?_)
  have hW : WS Y s [(a, .inr (4, [.ref (s.heap.size + 0), .int 0, .int 1000, .int 110, .int 0, .int 0, .int 0, .int 0, .int 0, .int 0, .int 0, .int 0, .int 0, .int (-1), .int 0, .int 1, .int 0, .null, .null]))] ([.inl (Y.2 4, 5, .inr (.inr (.inr (.inr (fun j => if j < 5 then some ((fun j => s.heap.size + 1 + 1 * j) j) else none)))))] ++ (oX7 (s.heap.size + 2) :: mX7 Y (s.heap.size + 2)) ++ (oX7 (s.heap.size + 3) :: mX7 Y (s.heap.size + 3)) ++ (oX7 (s.heap.size + 4) :: mX7 Y (s.heap.size + 4)) ++ (oX7 (s.heap.size + 5) :: mX7 Y (s.heap.size + 5)) ++ (oX7 (s.heap.size + 6) :: mX7 Y (s.heap.size + 6))) H _ := hW
  refine lv_aload_n C.1 C.2.1 dX4_init_61 rfl (lv_at hl 1 rfl) ?_
  refine lv_iconst (v := 3) C.1 C.2.1 dX4_init_62 rfl ?_
  refine sn_newa C hW (atype := .int) (t0 := 0) (ty := .int) rfl w_119 rfl (fun _ _ => rfl) (N' := 3) (a0 := (3, .inl (fun _ => 0))) (fun _ => rfl) (by decide) rfl (Nat.le_of_ble_eq_true rfl) (Nat.le_of_ble_eq_true rfl) (Nat.le_of_ble_eq_true rfl) (q := s.heap.size + 6) rfl dX4_init_63 (fun H hW => ?_)
  have hW : WS Y s [(a, .inr (4, [.ref (s.heap.size + 0), .int 0, .int 1000, .int 110, .int 0, .int 0, .int 0, .int 0, .int 0, .int 0, .int 0, .int 0, .int 0, .int (-1), .int 0, .int 1, .int 0, .null, .null]))] ([.inl (Y.2 4, 5, .inr (.inr (.inr (.inr (fun j => if j < 5 then some ((fun j => s.heap.size + 1 + 1 * j) j) else none)))))] ++ (oX7 (s.heap.size + 2) :: mX7 Y (s.heap.size + 2)) ++ (oX7 (s.heap.size + 3) :: mX7 Y (s.heap.size + 3)) ++ (oX7 (s.heap.size + 4) :: mX7 Y (s.heap.size + 4)) ++ (oX7 (s.heap.size + 5) :: mX7 Y (s.heap.size + 5)) ++ (oX7 (s.heap.size + 6) :: mX7 Y (s.heap.size + 6)) ++ [.inl (Y.2 0, (3, .inl (fun _ => 0)))]) H _ := hW
  refine lv_dup C.1 C.2.1 dX4_init_65 rfl ?_
  refine lv_iconst (v := 0) C.1 C.2.1 dX4_init_66 rfl ?_
  refine lv_iconst (v := (-1)) C.1 C.2.1 dX4_init_67 rfl ?_
  refine sn_iast C hW (k := 6) (n := 3) (f := (fun _ => 0)) rfl (inb_k (by decide)) (q := s.heap.size + 6) rfl dX4_init_68 (fun H locs hW => ?_)
  have hW : WS Y s [(a, .inr (4, [.ref (s.heap.size + 0), .int 0, .int 1000, .int 110, .int 0, .int 0, .int 0, .int 0, .int 0, .int 0, .int 0, .int 0, .int 0, .int (-1), .int 0, .int 1, .int 0, .null, .null]))] ([.inl (Y.2 4, 5, .inr (.inr (.inr (.inr (fun j => if j < 5 then some ((fun j => s.heap.size + 1 + 1 * j) j) else none)))))] ++ (oX7 (s.heap.size + 2) :: mX7 Y (s.heap.size + 2)) ++ (oX7 (s.heap.size + 3) :: mX7 Y (s.heap.size + 3)) ++ (oX7 (s.heap.size + 4) :: mX7 Y (s.heap.size + 4)) ++ (oX7 (s.heap.size + 5) :: mX7 Y (s.heap.size + 5)) ++ (oX7 (s.heap.size + 6) :: mX7 Y (s.heap.size + 6)) ++ [.inl (Y.2 0, 3, .inl (upd (fun _ => 0) 0 (-1)))]) H _ := hW
  refine lv_dup C.1 C.2.1 dX4_init_69 rfl ?_
  refine lv_iconst (v := 1) C.1 C.2.1 dX4_init_70 rfl ?_
  refine lv_iconst (v := (-1)) C.1 C.2.1 dX4_init_71 rfl ?_
  refine sn_iast C hW (k := 6) (n := 3) (f := (upd (fun _ => 0) 0 (-1))) rfl (inb_k (by decide)) (q := s.heap.size + 6) rfl dX4_init_72 (fun H locs hW => ?_)
  have hW : WS Y s [(a, .inr (4, [.ref (s.heap.size + 0), .int 0, .int 1000, .int 110, .int 0, .int 0, .int 0, .int 0, .int 0, .int 0, .int 0, .int 0, .int 0, .int (-1), .int 0, .int 1, .int 0, .null, .null]))] ([.inl (Y.2 4, 5, .inr (.inr (.inr (.inr (fun j => if j < 5 then some ((fun j => s.heap.size + 1 + 1 * j) j) else none)))))] ++ (oX7 (s.heap.size + 2) :: mX7 Y (s.heap.size + 2)) ++ (oX7 (s.heap.size + 3) :: mX7 Y (s.heap.size + 3)) ++ (oX7 (s.heap.size + 4) :: mX7 Y (s.heap.size + 4)) ++ (oX7 (s.heap.size + 5) :: mX7 Y (s.heap.size + 5)) ++ (oX7 (s.heap.size + 6) :: mX7 Y (s.heap.size + 6)) ++ [.inl (Y.2 0, 3, .inl (upd (upd (fun _ => 0) 0 (-1)) 1 (-1)))]) H _ := hW
  refine lv_dup C.1 C.2.1 dX4_init_73 rfl ?_
  refine lv_iconst (v := 2) C.1 C.2.1 dX4_init_74 rfl ?_
  refine lv_iconst (v := (-1)) C.1 C.2.1 dX4_init_75 rfl ?_
  refine sn_iast C hW (k := 6) (n := 3) (f := (upd (upd (fun _ => 0) 0 (-1)) 1 (-1))) rfl (inb_k (by decide)) (q := s.heap.size + 6) rfl dX4_init_76 (fun H locs hW => ?_)
  have hW : WS Y s [(a, .inr (4, [.ref (s.heap.size + 0), .int 0, .int 1000, .int 110, .int 0, .int 0, .int 0, .int 0, .int 0, .int 0, .int 0, .int 0, .int 0, .int (-1), .int 0, .int 1, .int 0, .null, .null]))] ([.inl (Y.2 4, 5, .inr (.inr (.inr (.inr (fun j => if j < 5 then some ((fun j => s.heap.size + 1 + 1 * j) j) else none)))))] ++ (oX7 (s.heap.size + 2) :: mX7 Y (s.heap.size + 2)) ++ (oX7 (s.heap.size + 3) :: mX7 Y (s.heap.size + 3)) ++ (oX7 (s.heap.size + 4) :: mX7 Y (s.heap.size + 4)) ++ (oX7 (s.heap.size + 5) :: mX7 Y (s.heap.size + 5)) ++ (oX7 (s.heap.size + 6) :: mX7 Y (s.heap.size + 6)) ++ [.inl (Y.2 0, 3, .inl (upd (upd (upd (fun _ => 0) 0 (-1)) 1 (-1)) 2 (-1)))]) H _ := hW
  refine sn_put C hin hW (ci := 4) rfl iX4 tyX4 tyX4_ok nmX4 (k := 17) (by decide) w_258 rfl rfl rfl (Nat.le_of_ble_eq_true rfl) dX4_init_77 (fun H locs hW => ?_)
  have hW : WS Y s [(a, .inr (4, [.ref (s.heap.size + 0), .int 0, .int 1000, .int 110, .int 0, .int 0, .int 0, .int 0, .int 0, .int 0, .int 0, .int 0, .int 0, .int (-1), .int 0, .int 1, .int 0, .ref (s.heap.size + 6), .null]))] ([.inl (Y.2 4, 5, .inr (.inr (.inr (.inr (fun j => if j < 5 then some ((fun j => s.heap.size + 1 + 1 * j) j) else none)))))] ++ (oX7 (s.heap.size + 2) :: mX7 Y (s.heap.size + 2)) ++ (oX7 (s.heap.size + 3) :: mX7 Y (s.heap.size + 3)) ++ (oX7 (s.heap.size + 4) :: mX7 Y (s.heap.size + 4)) ++ (oX7 (s.heap.size + 5) :: mX7 Y (s.heap.size + 5)) ++ (oX7 (s.heap.size + 6) :: mX7 Y (s.heap.size + 6)) ++ [.inl (Y.2 0, 3, .inl (upd (upd (upd (fun _ => 0) 0 (-1)) 1 (-1)) 2 (-1)))]) H _ := hW
  refine lv_aload_n C.1 C.2.1 dX4_init_80 rfl (lv_at hl 1 rfl) ?_
  refine lv_aload_n C.1 C.2.1 dX4_init_81 rfl (lv_at hl 2 rfl) ?_
  refine sn_put C hin hW (ci := 4) rfl iX4 tyX4 tyX4_ok nmX4 (k := 18) (by decide) w_260 rfl rfl rfl (Nat.le_of_ble_eq_true rfl) dX4_init_82 (fun H locs hW => ?_)
  have hW : WS Y s [(a, .inr (4, [.ref (s.heap.size + 0), .int 0, .int 1000, .int 110, .int 0, .int 0, .int 0, .int 0, .int 0, .int 0, .int 0, .int 0, .int 0, .int (-1), .int 0, .int 1, .int 0, .ref (s.heap.size + 6), .ref q0]))] ([.inl (Y.2 4, 5, .inr (.inr (.inr (.inr (fun j => if j < 5 then some ((fun j => s.heap.size + 1 + 1 * j) j) else none)))))] ++ (oX7 (s.heap.size + 2) :: mX7 Y (s.heap.size + 2)) ++ (oX7 (s.heap.size + 3) :: mX7 Y (s.heap.size + 3)) ++ (oX7 (s.heap.size + 4) :: mX7 Y (s.heap.size + 4)) ++ (oX7 (s.heap.size + 5) :: mX7 Y (s.heap.size + 5)) ++ (oX7 (s.heap.size + 6) :: mX7 Y (s.heap.size + 6)) ++ [.inl (Y.2 0, 3, .inl (upd (upd (upd (fun _ => 0) 0 (-1)) 1 (-1)) 2 (-1)))]) H _ := hW
  exact hret _ _ _ _ hW dX4_init_85
