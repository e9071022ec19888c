theorem dX8_init_0 : decode cX8_init 0 = .ok (.aload_n 0, 1) := by decide +kernel
theorem dX8_init_1 : decode cX8_init 1 = .ok (.invokespecial 1, 3) := by decide +kernel
theorem dX8_init_4 : decode cX8_init 4 = .ok (.new 7, 3) := by decide +kernel
theorem dX8_init_7 : decode cX8_init 7 = .ok (.dup, 1) := by decide +kernel
theorem dX8_init_8 : decode cX8_init 8 = .ok (.invokespecial 9, 3) := by decide +kernel
theorem dX8_init_11 : decode cX8_init 11 = .ok (.astore_n 1, 1) := by decide +kernel
theorem dX8_init_12 : decode cX8_init 12 = .ok (.aload_n 0, 1) := by decide +kernel
theorem dX8_init_13 : decode cX8_init 13 = .ok (.aload_n 1, 1) := by decide +kernel
theorem dX8_init_14 : decode cX8_init 14 = .ok (.putfield 10, 3) := by decide +kernel
theorem dX8_init_17 : decode cX8_init 17 = .ok (.aload_n 0, 1) := by decide +kernel
theorem dX8_init_18 : decode cX8_init 18 = .ok (.new 16, 3) := by decide +kernel
theorem dX8_init_21 : decode cX8_init 21 = .ok (.dup, 1) := by decide +kernel
theorem dX8_init_22 : decode cX8_init 22 = .ok (.invokespecial 18, 3) := by decide +kernel
theorem dX8_init_25 : decode cX8_init 25 = .ok (.putfield 19, 3) := by decide +kernel
theorem dX8_init_28 : decode cX8_init 28 = .ok (.aload_n 0, 1) := by decide +kernel
theorem dX8_init_29 : decode cX8_init 29 = .ok (.new 23, 3) := by decide +kernel
theorem dX8_init_32 : decode cX8_init 32 = .ok (.dup, 1) := by decide +kernel
theorem dX8_init_33 : decode cX8_init 33 = .ok (.aload_n 1, 1) := by decide +kernel
theorem dX8_init_34 : decode cX8_init 34 = .ok (.invokespecial 25, 3) := by decide +kernel
theorem dX8_init_37 : decode cX8_init 37 = .ok (.putfield 28, 3) := by decide +kernel
theorem dX8_init_40 : decode cX8_init 40 = .ok (.aload_n 0, 1) := by decide +kernel
theorem dX8_init_41 : decode cX8_init 41 = .ok (.new 23, 3) := by decide +kernel
theorem dX8_init_44 : decode cX8_init 44 = .ok (.dup, 1) := by decide +kernel
theorem dX8_init_45 : decode cX8_init 45 = .ok (.aload_n 1, 1) := by decide +kernel
theorem dX8_init_46 : decode cX8_init 46 = .ok (.invokespecial 25, 3) := by decide +kernel
theorem dX8_init_49 : decode cX8_init 49 = .ok (.putfield 32, 3) := by decide +kernel
theorem dX8_init_52 : decode cX8_init 52 = .ok (.aload_n 0, 1) := by decide +kernel
theorem dX8_init_53 : decode cX8_init 53 = .ok (.new 23, 3) := by decide +kernel
theorem dX8_init_56 : decode cX8_init 56 = .ok (.dup, 1) := by decide +kernel
theorem dX8_init_57 : decode cX8_init 57 = .ok (.aload_n 1, 1) := by decide +kernel
theorem dX8_init_58 : decode cX8_init 58 = .ok (.invokespecial 25, 3) := by decide +kernel
theorem dX8_init_61 : decode cX8_init 61 = .ok (.putfield 35, 3) := by decide +kernel
theorem dX8_init_64 : decode cX8_init 64 = .ok (.aload_n 0, 1) := by decide +kernel
theorem dX8_init_65 : decode cX8_init 65 = .ok (.new 38, 3) := by decide +kernel
theorem dX8_init_68 : decode cX8_init 68 = .ok (.dup, 1) := by decide +kernel
theorem dX8_init_69 : decode cX8_init 69 = .ok (.invokespecial 40, 3) := by decide +kernel
theorem dX8_init_72 : decode cX8_init 72 = .ok (.putfield 41, 3) := by decide +kernel
theorem dX8_init_75 : decode cX8_init 75 = .ok (.aload_n 0, 1) := by decide +kernel
theorem dX8_init_76 : decode cX8_init 76 = .ok (.iconst 4, 1) := by decide +kernel
theorem dX8_init_77 : decode cX8_init 77 = .ok (.anewarray 45, 3) := by decide +kernel
theorem dX8_init_80 : decode cX8_init 80 = .ok (.putfield 47, 3) := by decide +kernel
theorem dX8_init_83 : decode cX8_init 83 = .ok (.iconst 0, 1) := by decide +kernel
theorem dX8_init_84 : decode cX8_init 84 = .ok (.istore_n 2, 1) := by decide +kernel
theorem dX8_init_85 : decode cX8_init 85 = .ok (.iload_n 2, 1) := by decide +kernel
theorem dX8_init_86 : decode cX8_init 86 = .ok (.iconst 4, 1) := by decide +kernel
theorem dX8_init_87 : decode cX8_init 87 = .ok (.if_icmp .ge 22, 3) := by decide +kernel
theorem dX8_init_90 : decode cX8_init 90 = .ok (.aload_n 0, 1) := by decide +kernel
theorem dX8_init_91 : decode cX8_init 91 = .ok (.getfield 47, 3) := by decide +kernel
theorem dX8_init_94 : decode cX8_init 94 = .ok (.iload_n 2, 1) := by decide +kernel
theorem dX8_init_95 : decode cX8_init 95 = .ok (.new 45, 3) := by decide +kernel
theorem dX8_init_98 : decode cX8_init 98 = .ok (.dup, 1) := by decide +kernel
theorem dX8_init_99 : decode cX8_init 99 = .ok (.invokespecial 51, 3) := by decide +kernel
theorem dX8_init_102 : decode cX8_init 102 = .ok (.aastore, 1) := by decide +kernel
theorem dX8_init_103 : decode cX8_init 103 = .ok (.iinc 2 1, 3) := by decide +kernel
theorem dX8_init_106 : decode cX8_init 106 = .ok (.goto (-21), 3) := by decide +kernel
theorem dX8_init_109 : decode cX8_init 109 = .ok (.aload_n 0, 1) := by decide +kernel
theorem dX8_init_110 : decode cX8_init 110 = .ok (.iconst 5, 1) := by decide +kernel
theorem dX8_init_111 : decode cX8_init 111 = .ok (.anewarray 52, 3) := by decide +kernel
theorem dX8_init_114 : decode cX8_init 114 = .ok (.putfield 54, 3) := by decide +kernel
theorem dX8_init_117 : decode cX8_init 117 = .ok (.iconst 0, 1) := by decide +kernel
theorem dX8_init_118 : decode cX8_init 118 = .ok (.istore_n 2, 1) := by decide +kernel
theorem dX8_init_119 : decode cX8_init 119 = .ok (.iload_n 2, 1) := by decide +kernel
theorem dX8_init_120 : decode cX8_init 120 = .ok (.iconst 5, 1) := by decide +kernel
theorem dX8_init_121 : decode cX8_init 121 = .ok (.if_icmp .ge 22, 3) := by decide +kernel
theorem dX8_init_124 : decode cX8_init 124 = .ok (.aload_n 0, 1) := by decide +kernel
theorem dX8_init_125 : decode cX8_init 125 = .ok (.getfield 54, 3) := by decide +kernel
theorem dX8_init_128 : decode cX8_init 128 = .ok (.iload_n 2, 1) := by decide +kernel
theorem dX8_init_129 : decode cX8_init 129 = .ok (.new 52, 3) := by decide +kernel
theorem dX8_init_132 : decode cX8_init 132 = .ok (.dup, 1) := by decide +kernel
theorem dX8_init_133 : decode cX8_init 133 = .ok (.invokespecial 58, 3) := by decide +kernel
theorem dX8_init_136 : decode cX8_init 136 = .ok (.aastore, 1) := by decide +kernel
theorem dX8_init_137 : decode cX8_init 137 = .ok (.iinc 2 1, 3) := by decide +kernel
theorem dX8_init_140 : decode cX8_init 140 = .ok (.goto (-21), 3) := by decide +kernel
theorem dX8_init_143 : decode cX8_init 143 = .ok (.aload_n 0, 1) := by decide +kernel
theorem dX8_init_144 : decode cX8_init 144 = .ok (.bipush 60, 2) := by decide +kernel
theorem dX8_init_146 : decode cX8_init 146 = .ok (.newarray .int, 2) := by decide +kernel
theorem dX8_init_148 : decode cX8_init 148 = .ok (.putfield 59, 3) := by decide +kernel
theorem dX8_init_151 : decode cX8_init 151 = .ok (.return_, 1) := by decide +kernel
def T_X8_85 (Y : CD) (b : Nat) : Nat → List va_E
  | 0 => []
  | i + 1 => T_X8_85 Y b i ++ (oX2 (b + 2 * i) :: mX2 Y (b + 2 * i))
theorem len_T_X8_85 {Y : CD} {b : Nat} : ∀ i, (T_X8_85 Y b i).length = 2 * i := by
  intro i
  induction i with
  | zero => rfl
  | succ i ih => rw [T_X8_85, List.length_append, ih, List.length_cons, show (mX2 Y (b + 2 * i)).length = 1 from rfl]; omega
set_option maxHeartbeats 4000000 in
theorem lp_X8_85 {Y : CD} {p : Program} {l : Launch} {e : Env} {s : State} {mi : MethodId} {args : Array Value} {below : List Frame} {meth : Method} {c : Code} {Q : State → Prop} {a : Nat} (C : CC Y p s mi args c RX8 cX8_init 3) {fs : List Value} {nb : Nat} (hfs : fs[7]? = some (.ref (s.heap.size + nb))) {B : List va_E} (hB : B.length = nb) {c0 s0 : Nat} (hc0 : c0 + 8 ≤ 92) (hs0 : s0 + 108 ≤ 2371)
    (kk : ∀ (H : Heap) (locs : List Loc) (ls : Array Slot), WS Y s [(a, .inr (8, fs))] (B ++ ((q_A Y 6 4 4 (fun j => s.heap.size + (nb + 1) + 2 * j)) :: T_X8_85 Y (s.heap.size + (nb + 2)) 4)) H locs → lv_has ls 3 [(2, .int 4), (0, .ref a)] → W p l e { frames := 3, cells := 92, slots := 2371, locals := 38 * 3 } s mi args below meth c H locs (c0 + 8) (s0 + 108) Q (F0 mi 109 ls [])) :
    ∀ (n i : Nat), i + n = 4 → ∀ (H : Heap) (locs : List Loc) (ls : Array Slot), WS Y s [(a, .inr (8, fs))] (B ++ ((q_A Y 6 4 i (fun j => s.heap.size + (nb + 1) + 2 * j)) :: T_X8_85 Y (s.heap.size + (nb + 2)) i)) H locs → lv_has ls 3 [(2, .int (nI i)), (0, .ref a)] → W p l e { frames := 3, cells := 92, slots := 2371, locals := 38 * 3 } s mi args below meth c H locs (c0 + 2 * i) (s0 + 27 * i) Q (F0 mi 85 ls []) := by
  intro n
  induction n with
  | zero =>
    intro i hi H locs ls hW hl
    have hi : i = 4 := by omega
    subst hi
    refine lv_iload_n C.1 C.2.1 dX8_init_85 rfl (lv_at hl 0 rfl) ?_
    refine lv_iconst (v := 4) C.1 C.2.1 dX8_init_86 rfl ?_
    refine lv_icmp_ge (tgt := 109) C.1 C.2.1 dX8_init_87 (by decide) (fun _ => ?_) (fun hc => absurd (by decide) hc)
    exact kk H locs ls hW hl
  | succ n ih =>
    intro i hi H locs ls hW hl
    have hlt : i < 4 := by omega
    have hTl := len_T_X8_85 (Y := Y) (b := s.heap.size + (nb + 2)) i
    refine lv_iload_n C.1 C.2.1 dX8_init_85 rfl (lv_at hl 0 rfl) ?_
    refine lv_iconst (v := 4) C.1 C.2.1 dX8_init_86 rfl ?_
    refine lv_icmp_ge (tgt := 109) C.1 C.2.1 dX8_init_87 (by decide) (fun hc => absurd hc (by rw [show (4 : Int32) = nI 4 from rfl]; exact nI_ge hlt (by decide))) (fun _ => ?_)
    refine lv_aload_n C.1 C.2.1 dX8_init_90 rfl (lv_at hl 1 rfl) ?_
    refine sn_get C hW (ci := 8) rfl iX8 (k := 7) (by decide) w_367 hfs dX8_init_91 ?_
    refine lv_iload_n C.1 C.2.1 dX8_init_94 rfl (lv_at hl 0 rfl) ?_
    refine sn_new C hW (ci := 2) rfl iX2 tyX2 tyX2_ok w_313 w_315 w_68 dfX2 (by show _ ≤ 92; omega) (by show _ ≤ 2371; omega) (q := s.heap.size + (nb + 1 + 2 * i)) (by rw [List.length_append, List.length_cons, hB, hTl]; omega) dX8_init_95 (fun H hW => ?_)
    refine lv_dup C.1 C.2.1 dX8_init_98 rfl ?_
    refine sn_callNL C hW (k := nb + 1 + 2 * i) (z1 := s.heap.size + (nb + 2) + 2 * i) (by rw [List.length_append, List.length_cons, hB, hTl]; omega) (by rw [List.length_append, List.length_cons, hB, hTl]; omega) (cn_X2 Y l (s.heap.size + (nb + 1 + 2 * i)) (s.heap.size + (nb + 2) + 2 * i)) w_318 w_317 w_68 C.2.2.2.2.2.2.2.2.1 (by decide +kernel) (by exact ⟨Nat.le_of_ble_eq_true rfl, Nat.le_of_ble_eq_true rfl⟩) ⟨by show _ ≤ 92; omega, by show _ ≤ 2371; omega⟩ (As := []) rfl hl.1 (rest := [.ref (s.heap.size + (nb + 1 + 2 * i)), .int (nI i), .ref (s.heap.size + nb)]) rfl (by exact Nat.le_of_ble_eq_true rfl) dX8_init_99 (fun H locs hW => ?_)
    refine sn_aast C hW (k := nb) (j := nb + 1 + 2 * i) (t0 := 6) (ci := 2) (n := 4) (r := (RX2, TX2, 3)) (f := fun j => if j < i then some (s.heap.size + (nb + 1) + 2 * j) else none) (f' := fun j => if j < i + 1 then some (s.heap.size + (nb + 1) + 2 * j) else none) (vs := oX2_fs (s.heap.size + (nb + 2) + 2 * i)) (by rw [← hB]; exact ll_1) rfl (by have h := ll_2 (B := B) (x := (q_A Y 6 4 i (fun j => s.heap.size + (nb + 1) + 2 * j))) (T := T_X8_85 Y (s.heap.size + (nb + 2)) i) (y := oX2 (s.heap.size + (nb + 2) + 2 * i)) (E := mX2 Y (s.heap.size + (nb + 2) + 2 * i)); rw [hTl, hB] at h; exact h) rfl (inb_k2 hlt (by decide)) (q := s.heap.size + nb) (v := s.heap.size + (nb + 1 + 2 * i)) rfl rfl (by rw [nI_clamp (show i < 2 ^ 31 by omega)]; exact up_A (i := i) (g := fun j => s.heap.size + (nb + 1) + 2 * j) (show s.heap.size + (nb + 1 + 2 * i) = s.heap.size + (nb + 1) + 2 * i by omega)) dX8_init_102 (fun H locs hW => ?_)
    rw [← hB, ll_3, hB] at hW
    refine lv_iinc (v := nI (i + 1)) (lv' := [(2, .int (nI (i + 1))), (0, .ref a)]) C.1 C.2.1 dX8_init_103 hl (k := 0) rfl (nI_1 i) (by decide) rfl (fun ls hl => ?_)
    refine lv_goto (tgt := 85) C.1 C.2.1 dX8_init_106 (by decide) ?_
    have := ih (i + 1) (by omega) H locs ls hW hl
    rw [show c0 + 2 * (i + 1) = c0 + 2 * i + 1 + 1 by omega, show s0 + 27 * (i + 1) = s0 + 27 * i + 3 + 24 by omega] at this
    exact this
def T_X8_119 (Y : CD) (b : Nat) : Nat → List va_E
  | 0 => []
  | i + 1 => T_X8_119 Y b i ++ (oX3 (b + 4 * i) :: mX3 Y (b + 4 * i))
theorem len_T_X8_119 {Y : CD} {b : Nat} : ∀ i, (T_X8_119 Y b i).length = 4 * i := by
  intro i
  induction i with
  | zero => rfl
  | succ i ih => rw [T_X8_119, List.length_append, ih, List.length_cons, show (mX3 Y (b + 4 * i)).length = 3 from rfl]; omega
set_option maxHeartbeats 4000000 in
theorem lp_X8_119 {Y : CD} {p : Program} {l : Launch} {e : Env} {s : State} {mi : MethodId} {args : Array Value} {below : List Frame} {meth : Method} {c : Code} {Q : State → Prop} {a : Nat} (C : CC Y p s mi args c RX8 cX8_init 3) {fs : List Value} {nb : Nat} (hfs : fs[8]? = some (.ref (s.heap.size + nb))) {B : List va_E} (hB : B.length = nb) {c0 s0 : Nat} (hc0 : c0 + 20 ≤ 92) (hs0 : s0 + 190 ≤ 2371)
    (kk : ∀ (H : Heap) (locs : List Loc) (ls : Array Slot), WS Y s [(a, .inr (8, fs))] (B ++ ((q_A Y 7 5 5 (fun j => s.heap.size + (nb + 1) + 4 * j)) :: T_X8_119 Y (s.heap.size + (nb + 2)) 5)) H locs → lv_has ls 3 [(2, .int 5), (0, .ref a)] → W p l e { frames := 3, cells := 92, slots := 2371, locals := 38 * 3 } s mi args below meth c H locs (c0 + 20) (s0 + 190) Q (F0 mi 143 ls [])) :
    ∀ (n i : Nat), i + n = 5 → ∀ (H : Heap) (locs : List Loc) (ls : Array Slot), WS Y s [(a, .inr (8, fs))] (B ++ ((q_A Y 7 5 i (fun j => s.heap.size + (nb + 1) + 4 * j)) :: T_X8_119 Y (s.heap.size + (nb + 2)) i)) H locs → lv_has ls 3 [(2, .int (nI i)), (0, .ref a)] → W p l e { frames := 3, cells := 92, slots := 2371, locals := 38 * 3 } s mi args below meth c H locs (c0 + 4 * i) (s0 + 38 * i) Q (F0 mi 119 ls []) := by
  intro n
  induction n with
  | zero =>
    intro i hi H locs ls hW hl
    have hi : i = 5 := by omega
    subst hi
    refine lv_iload_n C.1 C.2.1 dX8_init_119 rfl (lv_at hl 0 rfl) ?_
    refine lv_iconst (v := 5) C.1 C.2.1 dX8_init_120 rfl ?_
    refine lv_icmp_ge (tgt := 143) C.1 C.2.1 dX8_init_121 (by decide) (fun _ => ?_) (fun hc => absurd (by decide) hc)
    exact kk H locs ls hW hl
  | succ n ih =>
    intro i hi H locs ls hW hl
    have hlt : i < 5 := by omega
    have hTl := len_T_X8_119 (Y := Y) (b := s.heap.size + (nb + 2)) i
    refine lv_iload_n C.1 C.2.1 dX8_init_119 rfl (lv_at hl 0 rfl) ?_
    refine lv_iconst (v := 5) C.1 C.2.1 dX8_init_120 rfl ?_
    refine lv_icmp_ge (tgt := 143) C.1 C.2.1 dX8_init_121 (by decide) (fun hc => absurd hc (by rw [show (5 : Int32) = nI 5 from rfl]; exact nI_ge hlt (by decide))) (fun _ => ?_)
    refine lv_aload_n C.1 C.2.1 dX8_init_124 rfl (lv_at hl 1 rfl) ?_
    refine sn_get C hW (ci := 8) rfl iX8 (k := 8) (by decide) w_368 hfs dX8_init_125 ?_
    refine lv_iload_n C.1 C.2.1 dX8_init_128 rfl (lv_at hl 0 rfl) ?_
    refine sn_new C hW (ci := 3) rfl iX3 tyX3 tyX3_ok w_333 w_335 w_69 dfX3 (by show _ ≤ 92; omega) (by show _ ≤ 2371; omega) (q := s.heap.size + (nb + 1 + 4 * i)) (by rw [List.length_append, List.length_cons, hB, hTl]; omega) dX8_init_129 (fun H hW => ?_)
    refine lv_dup C.1 C.2.1 dX8_init_132 rfl ?_
    refine sn_callNL C hW (k := nb + 1 + 4 * i) (z1 := s.heap.size + (nb + 2) + 4 * i) (by rw [List.length_append, List.length_cons, hB, hTl]; omega) (by rw [List.length_append, List.length_cons, hB, hTl]; omega) (cn_X3 Y l (s.heap.size + (nb + 1 + 4 * i)) (s.heap.size + (nb + 2) + 4 * i)) w_338 w_337 w_69 C.2.2.2.2.2.2.2.2.2.1 (by decide +kernel) (by exact ⟨Nat.le_of_ble_eq_true rfl, Nat.le_of_ble_eq_true rfl⟩) ⟨by show _ ≤ 92; omega, by show _ ≤ 2371; omega⟩ (As := []) rfl hl.1 (rest := [.ref (s.heap.size + (nb + 1 + 4 * i)), .int (nI i), .ref (s.heap.size + nb)]) rfl (by exact Nat.le_of_ble_eq_true rfl) dX8_init_133 (fun H locs hW => ?_)
    refine sn_aast C hW (k := nb) (j := nb + 1 + 4 * i) (t0 := 7) (ci := 3) (n := 5) (r := (RX3, TX3, 4)) (f := fun j => if j < i then some (s.heap.size + (nb + 1) + 4 * j) else none) (f' := fun j => if j < i + 1 then some (s.heap.size + (nb + 1) + 4 * j) else none) (vs := oX3_fs (s.heap.size + (nb + 2) + 4 * i)) (by rw [← hB]; exact ll_1) rfl (by have h := ll_2 (B := B) (x := (q_A Y 7 5 i (fun j => s.heap.size + (nb + 1) + 4 * j))) (T := T_X8_119 Y (s.heap.size + (nb + 2)) i) (y := oX3 (s.heap.size + (nb + 2) + 4 * i)) (E := mX3 Y (s.heap.size + (nb + 2) + 4 * i)); rw [hTl, hB] at h; exact h) rfl (inb_k2 hlt (by decide)) (q := s.heap.size + nb) (v := s.heap.size + (nb + 1 + 4 * i)) rfl rfl (by rw [nI_clamp (show i < 2 ^ 31 by omega)]; exact up_A (i := i) (g := fun j => s.heap.size + (nb + 1) + 4 * j) (show s.heap.size + (nb + 1 + 4 * i) = s.heap.size + (nb + 1) + 4 * i by omega)) dX8_init_136 (fun H locs hW => ?_)
    rw [← hB, ll_3, hB] at hW
    refine lv_iinc (v := nI (i + 1)) (lv' := [(2, .int (nI (i + 1))), (0, .ref a)]) C.1 C.2.1 dX8_init_137 hl (k := 0) rfl (nI_1 i) (by decide) rfl (fun ls hl => ?_)
    refine lv_goto (tgt := 119) C.1 C.2.1 dX8_init_140 (by decide) ?_
    have := ih (i + 1) (by omega) H locs ls hW hl
    rw [show c0 + 4 * (i + 1) = c0 + 4 * i + 1 + 3 by omega, show s0 + 38 * (i + 1) = s0 + 38 * i + 4 + 34 by omega] at this
    exact this
def oX8_fs (z : Nat) : List Value := [.ref (z + 0), .ref (z + 31), .ref (z + 36), .ref (z + 44), .ref (z + 52), .int 0, .ref (z + 60), .ref (z + 61), .ref (z + 70), .ref (z + 91), .int 0]
def oX8 (z : Nat) : va_E := .inr (8, oX8_fs z)
def mX8 (Y : CD) (z : Nat) : List va_E := (oX6 (z + 1) :: mX6 Y (z + 1)) ++ (oX1 (z + 32) :: mX1 Y (z + 32)) ++ (oX4 (z + 37) (z + 0) :: mX4 Y (z + 37)) ++ (oX4 (z + 45) (z + 0) :: mX4 Y (z + 45)) ++ (oX4 (z + 53) (z + 0) :: mX4 Y (z + 53)) ++ (oX0 (z + 61) :: mX0 Y (z + 61)) ++ ((q_A Y 6 4 4 (fun j => z + (61 + 1) + 2 * j)) :: T_X8_85 Y (z + (61 + 2)) 4) ++ ((q_A Y 7 5 5 (fun j => z + (70 + 1) + 4 * j)) :: T_X8_119 Y (z + (70 + 2)) 5) ++ [.inl (Y.2 0, (60, .inl (fun _ => 0)))]
theorem lenM_X8 {Y : CD} {z : Nat} : (mX8 Y z).length = 92 := by unfold mX8; exact by simp only [List.length_append, List.length_cons, List.length_nil, lenM_X6, lenM_X1, lenM_X4, lenM_X3, lenM_X2, lenM_X0, len_T_X8_85, len_T_X8_119, Nat.reduceAdd, Nat.reduceMul, Nat.zero_add]
set_option maxHeartbeats 4000000 in
set_option maxRecDepth 20000 in
theorem cn_X8 (Y : CD) (l : Launch) (a z : Nat) : MetC Y l yX8_init cX8_init 3 3 92 2371 a [] (.inr (8, [.null, .null, .null, .null, .null, .int 0, .null, .null, .null, .null, .int 0])) (oX8 z) z (mX8 Y z) := by
  refine met_C (by decide) rfl (Nat.le_of_ble_eq_true rfl) (fun p e s mi args below meth c ls Q hsz C hin hret hW hl => ?_)
  subst hsz
  have hl : lv_has ls 3 [(0, .ref a)] := lv_sub hl [0] rfl
  obtain ⟨H, hHe⟩ : ∃ H, H = s.heap := ⟨_, rfl⟩
  have hW : WS Y s [(a, .inr (8, [.null, .null, .null, .null, .null, .int 0, .null, .null, .null, .null, .int 0]))] [] H [] := by rw [hHe]; exact hW
  rw [← hHe]
  refine lv_aload_n C.1 C.2.1 dX8_init_0 rfl (lv_at hl 0 rfl) ?_
  refine sn_obj C w_84 hl.1 (Nat.le_of_ble_eq_true rfl) (Nat.le_of_ble_eq_true rfl) dX8_init_1 ?_
  refine sn_new C hW (ci := 6) rfl iX6 tyX6 tyX6_ok w_87 w_88 w_62 dfX6 (Nat.le_of_ble_eq_true rfl) (Nat.le_of_ble_eq_true rfl) (q := s.heap.size + 0) (by simp only [List.length_append, List.length_cons, List.length_nil, lenM_X6, lenM_X1, lenM_X4, lenM_X3, lenM_X2, lenM_X0, len_T_X8_85, len_T_X8_119, Nat.reduceAdd, Nat.reduceMul, Nat.zero_add]) dX8_init_4 (fun H hW => ?_)
  have hW : WS Y s [(a, .inr (8, [.null, .null, .null, .null, .null, .int 0, .null, .null, .null, .null, .int 0]))] ([.inr (6, [.null, .null])]) H _ := hW
  refine lv_dup C.1 C.2.1 dX8_init_7 rfl ?_
  refine sn_callL C (es := []) hW (n := 0) (k := 0) (z1 := s.heap.size + 1) (by simp only [List.length_append, List.length_cons, List.length_nil, lenM_X6, lenM_X1, lenM_X4, lenM_X3, lenM_X2, lenM_X0, len_T_X8_85, len_T_X8_119, Nat.reduceAdd, Nat.reduceMul, Nat.zero_add]) (by simp only [List.length_append, List.length_cons, List.length_nil, lenM_X6, lenM_X1, lenM_X4, lenM_X3, lenM_X2, lenM_X0, len_T_X8_85, len_T_X8_119, Nat.reduceAdd, Nat.reduceMul, Nat.zero_add]) (cn_X6 Y l (s.heap.size + 0) (s.heap.size + 1)) w_91 w_90 w_62 w_89 (by decide +kernel) (by exact ⟨Nat.le_of_ble_eq_true rfl, Nat.le_of_ble_eq_true rfl⟩) (by exact ⟨Nat.le_of_ble_eq_true rfl, Nat.le_of_ble_eq_true rfl⟩) (As := []) rfl hl.1 (rest := [.ref (s.heap.size + 0)]) rfl (by exact Nat.le_of_ble_eq_true rfl) dX8_init_8 (fun H locs hW => ?_)
  have hW : WS Y s [(a, .inr (8, [.null, .null, .null, .null, .null, .int 0, .null, .null, .null, .null, .int 0]))] ((oX6 (s.heap.size + 1) :: mX6 Y (s.heap.size + 1))) H _ := hW
  refine lv_astore_n (lv' := [(1, .ref (s.heap.size + 0)), (0, .ref a)]) C.1 C.2.1 dX8_init_11 rfl hl (by decide) rfl (fun ls hl => ?_)
  refine lv_aload_n C.1 C.2.1 dX8_init_12 rfl (lv_at hl 1 rfl) ?_
  refine lv_aload_n C.1 C.2.1 dX8_init_13 rfl (lv_at hl 0 rfl) ?_
  refine sn_put C hin hW (ci := 8) rfl iX8 tyX8 tyX8_ok nmX8 (k := 0) (by decide) w_360 rfl rfl rfl (Nat.le_of_ble_eq_true rfl) dX8_init_14 (fun H locs hW => ?_)
  have hW : WS Y s [(a, .inr (8, [.ref (s.heap.size + 0), .null, .null, .null, .null, .int 0, .null, .null, .null, .null, .int 0]))] ((oX6 (s.heap.size + 1) :: mX6 Y (s.heap.size + 1))) H _ := hW
  refine lv_aload_n C.1 C.2.1 dX8_init_17 rfl (lv_at hl 1 rfl) ?_
  refine sn_new C hW (ci := 1) rfl iX1 tyX1 tyX1_ok w_128 w_129 w_64 dfX1 (Nat.le_of_ble_eq_true rfl) (Nat.le_of_ble_eq_true rfl) (q := s.heap.size + 31) (by simp only [List.length_append, List.length_cons, List.length_nil, lenM_X6, lenM_X1, lenM_X4, lenM_X3, lenM_X2, lenM_X0, len_T_X8_85, len_T_X8_119, Nat.reduceAdd, Nat.reduceMul, Nat.zero_add]) dX8_init_18 (fun H hW => ?_)
  have hW : WS Y s [(a, .inr (8, [.ref (s.heap.size + 0), .null, .null, .null, .null, .int 0, .null, .null, .null, .null, .int 0]))] ((oX6 (s.heap.size + 1) :: mX6 Y (s.heap.size + 1)) ++ [.inr (1, [.null, .int 0, .null, .null, .int 0, .int 0, .int 0, .int 0, .int 0, .int 0, .int 0, .int 0])]) H _ := hW
  refine lv_dup C.1 C.2.1 dX8_init_21 rfl ?_
  refine sn_callL C (es := (oX6 (s.heap.size + 1) :: mX6 Y (s.heap.size + 1))) hW (n := 0) (k := 31) (z1 := s.heap.size + 32) (by simp only [List.length_append, List.length_cons, List.length_nil, lenM_X6, lenM_X1, lenM_X4, lenM_X3, lenM_X2, lenM_X0, len_T_X8_85, len_T_X8_119, Nat.reduceAdd, Nat.reduceMul, Nat.zero_add]) (by simp only [List.length_append, List.length_cons, List.length_nil, lenM_X6, lenM_X1, lenM_X4, lenM_X3, lenM_X2, lenM_X0, len_T_X8_85, len_T_X8_119, Nat.reduceAdd, Nat.reduceMul, Nat.zero_add]) (cn_X1 Y l (s.heap.size + 31) (s.heap.size + 32)) w_132 w_131 w_64 w_130 (by decide +kernel) (by exact ⟨Nat.le_of_ble_eq_true rfl, Nat.le_of_ble_eq_true rfl⟩) (by exact ⟨Nat.le_of_ble_eq_true rfl, Nat.le_of_ble_eq_true rfl⟩) (As := []) rfl hl.1 (rest := [.ref (s.heap.size + 31), .ref a]) rfl (by exact Nat.le_of_ble_eq_true rfl) dX8_init_22 (fun H locs hW => ?_)
  have hW : WS Y s [(a, .inr (8, [.ref (s.heap.size + 0), .null, .null, .null, .null, .int 0, .null, .null, .null, .null, .int 0]))] ((oX6 (s.heap.size + 1) :: mX6 Y (s.heap.size + 1)) ++ (oX1 (s.heap.size + 32) :: mX1 Y (s.heap.size + 32))) H _ := hW
  refine sn_put C hin hW (ci := 8) rfl iX8 tyX8 tyX8_ok nmX8 (k := 1) (by decide) w_361 rfl rfl rfl (Nat.le_of_ble_eq_true rfl) dX8_init_25 (fun H locs hW => ?_)
  have hW : WS Y s [(a, .inr (8, [.ref (s.heap.size + 0), .ref (s.heap.size + 31), .null, .null, .null, .int 0, .null, .null, .null, .null, .int 0]))] ((oX6 (s.heap.size + 1) :: mX6 Y (s.heap.size + 1)) ++ (oX1 (s.heap.size + 32) :: mX1 Y (s.heap.size + 32))) H _ := hW
  refine lv_aload_n C.1 C.2.1 dX8_init_28 rfl (lv_at hl 1 rfl) ?_
  refine sn_new C hW (ci := 4) rfl iX4 tyX4 tyX4_ok w_175 w_176 w_65 dfX4 (Nat.le_of_ble_eq_true rfl) (Nat.le_of_ble_eq_true rfl) (q := s.heap.size + 36) (by simp only [List.length_append, List.length_cons, List.length_nil, lenM_X6, lenM_X1, lenM_X4, lenM_X3, lenM_X2, lenM_X0, len_T_X8_85, len_T_X8_119, Nat.reduceAdd, Nat.reduceMul, Nat.zero_add]) dX8_init_29 (fun H hW => ?_)
  have hW : WS Y s [(a, .inr (8, [.ref (s.heap.size + 0), .ref (s.heap.size + 31), .null, .null, .null, .int 0, .null, .null, .null, .null, .int 0]))] ((oX6 (s.heap.size + 1) :: mX6 Y (s.heap.size + 1)) ++ (oX1 (s.heap.size + 32) :: mX1 Y (s.heap.size + 32)) ++ [.inr (4, [.null, .int 0, .int 0, .int 0, .int 0, .int 0, .int 0, .int 0, .int 0, .int 0, .int 0, .int 0, .int 0, .int 0, .int 0, .int 0, .int 0, .null, .null])]) H _ := hW
  refine lv_dup C.1 C.2.1 dX8_init_32 rfl ?_
  refine lv_aload_n C.1 C.2.1 dX8_init_33 rfl (lv_at hl 0 rfl) ?_
  refine sn_callL C (es := (oX6 (s.heap.size + 1) :: mX6 Y (s.heap.size + 1)) ++ (oX1 (s.heap.size + 32) :: mX1 Y (s.heap.size + 32))) hW (n := 1) (k := 36) (z1 := s.heap.size + 37) (by simp only [List.length_append, List.length_cons, List.length_nil, lenM_X6, lenM_X1, lenM_X4, lenM_X3, lenM_X2, lenM_X0, len_T_X8_85, len_T_X8_119, Nat.reduceAdd, Nat.reduceMul, Nat.zero_add]) (by simp only [List.length_append, List.length_cons, List.length_nil, lenM_X6, lenM_X1, lenM_X4, lenM_X3, lenM_X2, lenM_X0, len_T_X8_85, len_T_X8_119, Nat.reduceAdd, Nat.reduceMul, Nat.zero_add]) (cn_X4 Y l (s.heap.size + 36) (s.heap.size + 37) (s.heap.size + 0)) w_179 w_178 w_65 w_177 (by decide +kernel) (by exact ⟨Nat.le_of_ble_eq_true rfl, Nat.le_of_ble_eq_true rfl⟩) (by exact ⟨Nat.le_of_ble_eq_true rfl, Nat.le_of_ble_eq_true rfl⟩) (As := [.ref (s.heap.size + 0)]) rfl hl.1 (rest := [.ref (s.heap.size + 36), .ref a]) rfl (by exact Nat.le_of_ble_eq_true rfl) dX8_init_34 (fun H locs hW => ?_)
  have hW : WS Y s [(a, .inr (8, [.ref (s.heap.size + 0), .ref (s.heap.size + 31), .null, .null, .null, .int 0, .null, .null, .null, .null, .int 0]))] ((oX6 (s.heap.size + 1) :: mX6 Y (s.heap.size + 1)) ++ (oX1 (s.heap.size + 32) :: mX1 Y (s.heap.size + 32)) ++ (oX4 (s.heap.size + 37) (s.heap.size + 0) :: mX4 Y (s.heap.size + 37))) H _ := hW
  refine sn_put C hin hW (ci := 8) rfl iX8 tyX8 tyX8_ok nmX8 (k := 2) (by decide) w_362 rfl rfl rfl (Nat.le_of_ble_eq_true rfl) dX8_init_37 (fun H locs hW => ?_)
  have hW : WS Y s [(a, .inr (8, [.ref (s.heap.size + 0), .ref (s.heap.size + 31), .ref (s.heap.size + 36), .null, .null, .int 0, .null, .null, .null, .null, .int 0]))] ((oX6 (s.heap.size + 1) :: mX6 Y (s.heap.size + 1)) ++ (oX1 (s.heap.size + 32) :: mX1 Y (s.heap.size + 32)) ++ (oX4 (s.heap.size + 37) (s.heap.size + 0) :: mX4 Y (s.heap.size + 37))) H _ := hW
  refine lv_aload_n C.1 C.2.1 dX8_init_40 rfl (lv_at hl 1 rfl) ?_
  refine sn_new C hW (ci := 4) rfl iX4 tyX4 tyX4_ok w_175 w_176 w_65 dfX4 (Nat.le_of_ble_eq_true rfl) (Nat.le_of_ble_eq_true rfl) (q := s.heap.size + 44) (by simp only [List.length_append, List.length_cons, List.length_nil, lenM_X6, lenM_X1, lenM_X4, lenM_X3, lenM_X2, lenM_X0, len_T_X8_85, len_T_X8_119, Nat.reduceAdd, Nat.reduceMul, Nat.zero_add]) dX8_init_41 (fun H hW => ?_)
  have hW : WS Y s [(a, .inr (8, [.ref (s.heap.size + 0), .ref (s.heap.size + 31), .ref (s.heap.size + 36), .null, .null, .int 0, .null, .null, .null, .null, .int 0]))] ((oX6 (s.heap.size + 1) :: mX6 Y (s.heap.size + 1)) ++ (oX1 (s.heap.size + 32) :: mX1 Y (s.heap.size + 32)) ++ (oX4 (s.heap.size + 37) (s.heap.size + 0) :: mX4 Y (s.heap.size + 37)) ++ [.inr (4, [.null, .int 0, .int 0, .int 0, .int 0, .int 0, .int 0, .int 0, .int 0, .int 0, .int 0, .int 0, .int 0, .int 0, .int 0, .int 0, .int 0, .null, .null])]) H _ := hW
  refine lv_dup C.1 C.2.1 dX8_init_44 rfl ?_
  refine lv_aload_n C.1 C.2.1 dX8_init_45 rfl (lv_at hl 0 rfl) ?_
  refine sn_callL C (es := (oX6 (s.heap.size + 1) :: mX6 Y (s.heap.size + 1)) ++ (oX1 (s.heap.size + 32) :: mX1 Y (s.heap.size + 32)) ++ (oX4 (s.heap.size + 37) (s.heap.size + 0) :: mX4 Y (s.heap.size + 37))) hW (n := 1) (k := 44) (z1 := s.heap.size + 45) (by simp only [List.length_append, List.length_cons, List.length_nil, lenM_X6, lenM_X1, lenM_X4, lenM_X3, lenM_X2, lenM_X0, len_T_X8_85, len_T_X8_119, Nat.reduceAdd, Nat.reduceMul, Nat.zero_add]) (by simp only [List.length_append, List.length_cons, List.length_nil, lenM_X6, lenM_X1, lenM_X4, lenM_X3, lenM_X2, lenM_X0, len_T_X8_85, len_T_X8_119, Nat.reduceAdd, Nat.reduceMul, Nat.zero_add]) (cn_X4 Y l (s.heap.size + 44) (s.heap.size + 45) (s.heap.size + 0)) w_179 w_178 w_65 w_177 (by decide +kernel) (by exact ⟨Nat.le_of_ble_eq_true rfl, Nat.le_of_ble_eq_true rfl⟩) (by exact ⟨Nat.le_of_ble_eq_true rfl, Nat.le_of_ble_eq_true rfl⟩) (As := [.ref (s.heap.size + 0)]) rfl hl.1 (rest := [.ref (s.heap.size + 44), .ref a]) rfl (by exact Nat.le_of_ble_eq_true rfl) dX8_init_46 (fun H locs hW => ?_)
  have hW : WS Y s [(a, .inr (8, [.ref (s.heap.size + 0), .ref (s.heap.size + 31), .ref (s.heap.size + 36), .null, .null, .int 0, .null, .null, .null, .null, .int 0]))] ((oX6 (s.heap.size + 1) :: mX6 Y (s.heap.size + 1)) ++ (oX1 (s.heap.size + 32) :: mX1 Y (s.heap.size + 32)) ++ (oX4 (s.heap.size + 37) (s.heap.size + 0) :: mX4 Y (s.heap.size + 37)) ++ (oX4 (s.heap.size + 45) (s.heap.size + 0) :: mX4 Y (s.heap.size + 45))) H _ := hW
  refine sn_put C hin hW (ci := 8) rfl iX8 tyX8 tyX8_ok nmX8 (k := 3) (by decide) w_363 rfl rfl rfl (Nat.le_of_ble_eq_true rfl) dX8_init_49 (fun H locs hW => ?_)
  have hW : WS Y s [(a, .inr (8, [.ref (s.heap.size + 0), .ref (s.heap.size + 31), .ref (s.heap.size + 36), .ref (s.heap.size + 44), .null, .int 0, .null, .null, .null, .null, .int 0]))] ((oX6 (s.heap.size + 1) :: mX6 Y (s.heap.size + 1)) ++ (oX1 (s.heap.size + 32) :: mX1 Y (s.heap.size + 32)) ++ (oX4 (s.heap.size + 37) (s.heap.size + 0) :: mX4 Y (s.heap.size + 37)) ++ (oX4 (s.heap.size + 45) (s.heap.size + 0) :: mX4 Y (s.heap.size + 45))) H _ := hW
  refine lv_aload_n C.1 C.2.1 dX8_init_52 rfl (lv_at hl 1 rfl) ?_
  refine sn_new C hW (ci := 4) rfl iX4 tyX4 tyX4_ok w_175 w_176 w_65 dfX4 (Nat.le_of_ble_eq_true rfl) (Nat.le_of_ble_eq_true rfl) (q := s.heap.size + 52) (by simp only [List.length_append, List.length_cons, List.length_nil, lenM_X6, lenM_X1, lenM_X4, lenM_X3, lenM_X2, lenM_X0, len_T_X8_85, len_T_X8_119, Nat.reduceAdd, Nat.reduceMul, Nat.zero_add]) dX8_init_53 (fun H hW => ?_)
  have hW : WS Y s [(a, .inr (8, [.ref (s.heap.size + 0), .ref (s.heap.size + 31), .ref (s.heap.size + 36), .ref (s.heap.size + 44), .null, .int 0, .null, .null, .null, .null, .int 0]))] ((oX6 (s.heap.size + 1) :: mX6 Y (s.heap.size + 1)) ++ (oX1 (s.heap.size + 32) :: mX1 Y (s.heap.size + 32)) ++ (oX4 (s.heap.size + 37) (s.heap.size + 0) :: mX4 Y (s.heap.size + 37)) ++ (oX4 (s.heap.size + 45) (s.heap.size + 0) :: mX4 Y (s.heap.size + 45)) ++ [.inr (4, [.null, .int 0, .int 0, .int 0, .int 0, .int 0, .int 0, .int 0, .int 0, .int 0, .int 0, .int 0, .int 0, .int 0, .int 0, .int 0, .int 0, .null, .null])]) H _ := hW
  refine lv_dup C.1 C.2.1 dX8_init_56 rfl ?_
  refine lv_aload_n C.1 C.2.1 dX8_init_57 rfl (lv_at hl 0 rfl) ?_
  refine sn_callL C (es := (oX6 (s.heap.size + 1) :: mX6 Y (s.heap.size + 1)) ++ (oX1 (s.heap.size + 32) :: mX1 Y (s.heap.size + 32)) ++ (oX4 (s.heap.size + 37) (s.heap.size + 0) :: mX4 Y (s.heap.size + 37)) ++ (oX4 (s.heap.size + 45) (s.heap.size + 0) :: mX4 Y (s.heap.size + 45))) hW (n := 1) (k := 52) (z1 := s.heap.size + 53) (by simp only [List.length_append, List.length_cons, List.length_nil, lenM_X6, lenM_X1, lenM_X4, lenM_X3, lenM_X2, lenM_X0, len_T_X8_85, len_T_X8_119, Nat.reduceAdd, Nat.reduceMul, Nat.zero_add]) (by simp only [List.length_append, List.length_cons, List.length_nil, lenM_X6, lenM_X1, lenM_X4, lenM_X3, lenM_X2, lenM_X0, len_T_X8_85, len_T_X8_119, Nat.reduceAdd, Nat.reduceMul, Nat.zero_add]) (cn_X4 Y l (s.heap.size + 52) (s.heap.size + 53) (s.heap.size + 0)) w_179 w_178 w_65 w_177 (by decide +kernel) (by exact ⟨Nat.le_of_ble_eq_true rfl, Nat.le_of_ble_eq_true rfl⟩) (by exact ⟨Nat.le_of_ble_eq_true rfl, Nat.le_of_ble_eq_true rfl⟩) (As := [.ref (s.heap.size + 0)]) rfl hl.1 (rest := [.ref (s.heap.size + 52), .ref a]) rfl (by exact Nat.le_of_ble_eq_true rfl) dX8_init_58 (fun H locs hW => ?_)
  have hW : WS Y s [(a, .inr (8, [.ref (s.heap.size + 0), .ref (s.heap.size + 31), .ref (s.heap.size + 36), .ref (s.heap.size + 44), .null, .int 0, .null, .null, .null, .null, .int 0]))] ((oX6 (s.heap.size + 1) :: mX6 Y (s.heap.size + 1)) ++ (oX1 (s.heap.size + 32) :: mX1 Y (s.heap.size + 32)) ++ (oX4 (s.heap.size + 37) (s.heap.size + 0) :: mX4 Y (s.heap.size + 37)) ++ (oX4 (s.heap.size + 45) (s.heap.size + 0) :: mX4 Y (s.heap.size + 45)) ++ (oX4 (s.heap.size + 53) (s.heap.size + 0) :: mX4 Y (s.heap.size + 53))) H _ := hW
  refine sn_put C hin hW (ci := 8) rfl iX8 tyX8 tyX8_ok nmX8 (k := 4) (by decide) w_364 rfl rfl rfl (Nat.le_of_ble_eq_true rfl) dX8_init_61 (fun H locs hW => ?_)
  have hW : WS Y s [(a, .inr (8, [.ref (s.heap.size + 0), .ref (s.heap.size + 31), .ref (s.heap.size + 36), .ref (s.heap.size + 44), .ref (s.heap.size + 52), .int 0, .null, .null, .null, .null, .int 0]))] ((oX6 (s.heap.size + 1) :: mX6 Y (s.heap.size + 1)) ++ (oX1 (s.heap.size + 32) :: mX1 Y (s.heap.size + 32)) ++ (oX4 (s.heap.size + 37) (s.heap.size + 0) :: mX4 Y (s.heap.size + 37)) ++ (oX4 (s.heap.size + 45) (s.heap.size + 0) :: mX4 Y (s.heap.size + 45)) ++ (oX4 (s.heap.size + 53) (s.heap.size + 0) :: mX4 Y (s.heap.size + 53))) H _ := hW
  refine lv_aload_n C.1 C.2.1 dX8_init_64 rfl (lv_at hl 1 rfl) ?_
  refine sn_new C hW (ci := 0) rfl iX0 tyX0 tyX0_ok w_300 w_301 w_67 dfX0 (Nat.le_of_ble_eq_true rfl) (Nat.le_of_ble_eq_true rfl) (q := s.heap.size + 60) (by simp only [List.length_append, List.length_cons, List.length_nil, lenM_X6, lenM_X1, lenM_X4, lenM_X3, lenM_X2, lenM_X0, len_T_X8_85, len_T_X8_119, Nat.reduceAdd, Nat.reduceMul, Nat.zero_add]) dX8_init_65 (fun H hW => ?_)
  have hW : WS Y s [(a, .inr (8, [.ref (s.heap.size + 0), .ref (s.heap.size + 31), .ref (s.heap.size + 36), .ref (s.heap.size + 44), .ref (s.heap.size + 52), .int 0, .null, .null, .null, .null, .int 0]))] ((oX6 (s.heap.size + 1) :: mX6 Y (s.heap.size + 1)) ++ (oX1 (s.heap.size + 32) :: mX1 Y (s.heap.size + 32)) ++ (oX4 (s.heap.size + 37) (s.heap.size + 0) :: mX4 Y (s.heap.size + 37)) ++ (oX4 (s.heap.size + 45) (s.heap.size + 0) :: mX4 Y (s.heap.size + 45)) ++ (oX4 (s.heap.size + 53) (s.heap.size + 0) :: mX4 Y (s.heap.size + 53)) ++ [.inr (0, [.int 0, .int 0])]) H _ := hW
  refine lv_dup C.1 C.2.1 dX8_init_68 rfl ?_
  refine sn_callNL C (es := (oX6 (s.heap.size + 1) :: mX6 Y (s.heap.size + 1)) ++ (oX1 (s.heap.size + 32) :: mX1 Y (s.heap.size + 32)) ++ (oX4 (s.heap.size + 37) (s.heap.size + 0) :: mX4 Y (s.heap.size + 37)) ++ (oX4 (s.heap.size + 45) (s.heap.size + 0) :: mX4 Y (s.heap.size + 45)) ++ (oX4 (s.heap.size + 53) (s.heap.size + 0) :: mX4 Y (s.heap.size + 53))) hW (n := 0) (k := 60) (z1 := s.heap.size + 61) (by simp only [List.length_append, List.length_cons, List.length_nil, lenM_X6, lenM_X1, lenM_X4, lenM_X3, lenM_X2, lenM_X0, len_T_X8_85, len_T_X8_119, Nat.reduceAdd, Nat.reduceMul, Nat.zero_add]) (by simp only [List.length_append, List.length_cons, List.length_nil, lenM_X6, lenM_X1, lenM_X4, lenM_X3, lenM_X2, lenM_X0, len_T_X8_85, len_T_X8_119, Nat.reduceAdd, Nat.reduceMul, Nat.zero_add]) (cn_X0 Y l (s.heap.size + 60) (s.heap.size + 61)) w_304 w_303 w_67 C.2.2.2.2.2.2.2.1 (by decide +kernel) (by exact ⟨Nat.le_of_ble_eq_true rfl, Nat.le_of_ble_eq_true rfl⟩) (by exact ⟨Nat.le_of_ble_eq_true rfl, Nat.le_of_ble_eq_true rfl⟩) (As := []) rfl hl.1 (rest := [.ref (s.heap.size + 60), .ref a]) rfl (by exact Nat.le_of_ble_eq_true rfl) dX8_init_69 (fun H locs hW => ?_)
  have hW : WS Y s [(a, .inr (8, [.ref (s.heap.size + 0), .ref (s.heap.size + 31), .ref (s.heap.size + 36), .ref (s.heap.size + 44), .ref (s.heap.size + 52), .int 0, .null, .null, .null, .null, .int 0]))] ((oX6 (s.heap.size + 1) :: mX6 Y (s.heap.size + 1)) ++ (oX1 (s.heap.size + 32) :: mX1 Y (s.heap.size + 32)) ++ (oX4 (s.heap.size + 37) (s.heap.size + 0) :: mX4 Y (s.heap.size + 37)) ++ (oX4 (s.heap.size + 45) (s.heap.size + 0) :: mX4 Y (s.heap.size + 45)) ++ (oX4 (s.heap.size + 53) (s.heap.size + 0) :: mX4 Y (s.heap.size + 53)) ++ (oX0 (s.heap.size + 61) :: mX0 Y (s.heap.size + 61))) H _ := hW
  refine sn_put C hin hW (ci := 8) rfl iX8 tyX8 tyX8_ok nmX8 (k := 6) (by decide) w_366 rfl rfl rfl (Nat.le_of_ble_eq_true rfl) dX8_init_72 (fun H locs hW => ?_)
  have hW : WS Y s [(a, .inr (8, [.ref (s.heap.size + 0), .ref (s.heap.size + 31), .ref (s.heap.size + 36), .ref (s.heap.size + 44), .ref (s.heap.size + 52), .int 0, .ref (s.heap.size + 60), .null, .null, .null, .int 0]))] ((oX6 (s.heap.size + 1) :: mX6 Y (s.heap.size + 1)) ++ (oX1 (s.heap.size + 32) :: mX1 Y (s.heap.size + 32)) ++ (oX4 (s.heap.size + 37) (s.heap.size + 0) :: mX4 Y (s.heap.size + 37)) ++ (oX4 (s.heap.size + 45) (s.heap.size + 0) :: mX4 Y (s.heap.size + 45)) ++ (oX4 (s.heap.size + 53) (s.heap.size + 0) :: mX4 Y (s.heap.size + 53)) ++ (oX0 (s.heap.size + 61) :: mX0 Y (s.heap.size + 61))) H _ := hW
  refine lv_aload_n C.1 C.2.1 dX8_init_75 rfl (lv_at hl 1 rfl) ?_
  refine lv_iconst (v := 4) C.1 C.2.1 dX8_init_76 rfl ?_
  refine sn_newq C hW (Cn := RX2) (t0 := 6) w_313 C.2.2.2.2.2.2.1.2.2.1 rfl (N' := 4) (by decide) rfl (Nat.le_of_ble_eq_true rfl) (Nat.le_of_ble_eq_true rfl) (Nat.le_of_ble_eq_true rfl) (q := s.heap.size + 61) (by simp only [List.length_append, List.length_cons, List.length_nil, lenM_X6, lenM_X1, lenM_X4, lenM_X3, lenM_X2, lenM_X0, len_T_X8_85, len_T_X8_119, Nat.reduceAdd, Nat.reduceMul, Nat.zero_add]) dX8_init_77 (fun H hW => ?_)
  have hW : WS Y s [(a, .inr (8, [.ref (s.heap.size + 0), .ref (s.heap.size + 31), .ref (s.heap.size + 36), .ref (s.heap.size + 44), .ref (s.heap.size + 52), .int 0, .ref (s.heap.size + 60), .null, .null, .null, .int 0]))] ((oX6 (s.heap.size + 1) :: mX6 Y (s.heap.size + 1)) ++ (oX1 (s.heap.size + 32) :: mX1 Y (s.heap.size + 32)) ++ (oX4 (s.heap.size + 37) (s.heap.size + 0) :: mX4 Y (s.heap.size + 37)) ++ (oX4 (s.heap.size + 45) (s.heap.size + 0) :: mX4 Y (s.heap.size + 45)) ++ (oX4 (s.heap.size + 53) (s.heap.size + 0) :: mX4 Y (s.heap.size + 53)) ++ (oX0 (s.heap.size + 61) :: mX0 Y (s.heap.size + 61)) ++ [.inl (Y.2 6, 4, .inr (.inr (.inr (.inr (fun _ => none)))))]) H _ := hW
  refine sn_put C hin hW (ci := 8) rfl iX8 tyX8 tyX8_ok nmX8 (k := 7) (by decide) w_367 rfl rfl rfl (Nat.le_of_ble_eq_true rfl) dX8_init_80 (fun H locs hW => ?_)
  have hW : WS Y s [(a, .inr (8, [.ref (s.heap.size + 0), .ref (s.heap.size + 31), .ref (s.heap.size + 36), .ref (s.heap.size + 44), .ref (s.heap.size + 52), .int 0, .ref (s.heap.size + 60), .ref (s.heap.size + 61), .null, .null, .int 0]))] ((oX6 (s.heap.size + 1) :: mX6 Y (s.heap.size + 1)) ++ (oX1 (s.heap.size + 32) :: mX1 Y (s.heap.size + 32)) ++ (oX4 (s.heap.size + 37) (s.heap.size + 0) :: mX4 Y (s.heap.size + 37)) ++ (oX4 (s.heap.size + 45) (s.heap.size + 0) :: mX4 Y (s.heap.size + 45)) ++ (oX4 (s.heap.size + 53) (s.heap.size + 0) :: mX4 Y (s.heap.size + 53)) ++ (oX0 (s.heap.size + 61) :: mX0 Y (s.heap.size + 61)) ++ [.inl (Y.2 6, 4, .inr (.inr (.inr (.inr (fun _ => none)))))]) H _ := hW
  refine lv_iconst (v := 0) C.1 C.2.1 dX8_init_83 rfl ?_
  refine lv_istore_n (lv' := [(2, .int 0), (1, .ref (s.heap.size + 0)), (0, .ref a)]) C.1 C.2.1 dX8_init_84 rfl hl (by decide) rfl (fun ls hl => ?_)
  have hW := WS.eq hW (es' := ((oX6 (s.heap.size + 1) :: mX6 Y (s.heap.size + 1)) ++ (oX1 (s.heap.size + 32) :: mX1 Y (s.heap.size + 32)) ++ (oX4 (s.heap.size + 37) (s.heap.size + 0) :: mX4 Y (s.heap.size + 37)) ++ (oX4 (s.heap.size + 45) (s.heap.size + 0) :: mX4 Y (s.heap.size + 45)) ++ (oX4 (s.heap.size + 53) (s.heap.size + 0) :: mX4 Y (s.heap.size + 53)) ++ (oX0 (s.heap.size + 61) :: mX0 Y (s.heap.size + 61))) ++ ((q_A Y 6 4 0 (fun j => s.heap.size + (61 + 1) + 2 * j)) :: T_X8_85 Y (s.heap.size + (61 + 2)) 0)) (by rw [q_A0]; rfl)
  refine lp_X8_85 C (nb := 61) (fs := [.ref (s.heap.size + 0), .ref (s.heap.size + 31), .ref (s.heap.size + 36), .ref (s.heap.size + 44), .ref (s.heap.size + 52), .int 0, .ref (s.heap.size + 60), .ref (s.heap.size + 61), .null, .null, .int 0]) rfl (B := (oX6 (s.heap.size + 1) :: mX6 Y (s.heap.size + 1)) ++ (oX1 (s.heap.size + 32) :: mX1 Y (s.heap.size + 32)) ++ (oX4 (s.heap.size + 37) (s.heap.size + 0) :: mX4 Y (s.heap.size + 37)) ++ (oX4 (s.heap.size + 45) (s.heap.size + 0) :: mX4 Y (s.heap.size + 45)) ++ (oX4 (s.heap.size + 53) (s.heap.size + 0) :: mX4 Y (s.heap.size + 53)) ++ (oX0 (s.heap.size + 61) :: mX0 Y (s.heap.size + 61))) (by simp only [List.length_append, List.length_cons, List.length_nil, lenM_X6, lenM_X1, lenM_X4, lenM_X3, lenM_X2, lenM_X0, len_T_X8_85, len_T_X8_119, Nat.reduceAdd, Nat.reduceMul, Nat.zero_add]) (c0 := 62) (s0 := 2008) (by decide) (by decide) (fun H locs ls hW hl => ?_) 4 0 rfl H _ ls hW (lv_sub hl [0, 2] rfl)
  refine lv_aload_n C.1 C.2.1 dX8_init_109 rfl (lv_at hl 1 rfl) ?_
  refine lv_iconst (v := 5) C.1 C.2.1 dX8_init_110 rfl ?_
  refine sn_newq C hW (Cn := RX3) (t0 := 7) w_333 C.2.2.2.2.2.2.1.2.2.2 rfl (N' := 5) (by decide) rfl (Nat.le_of_ble_eq_true rfl) (Nat.le_of_ble_eq_true rfl) (Nat.le_of_ble_eq_true rfl) (q := s.heap.size + 70) (by simp only [List.length_append, List.length_cons, List.length_nil, lenM_X6, lenM_X1, lenM_X4, lenM_X3, lenM_X2, lenM_X0, len_T_X8_85, len_T_X8_119, Nat.reduceAdd, Nat.reduceMul, Nat.zero_add]) dX8_init_111 (fun H hW => ?_)
  have hW : WS Y s [(a, .inr (8, [.ref (s.heap.size + 0), .ref (s.heap.size + 31), .ref (s.heap.size + 36), .ref (s.heap.size + 44), .ref (s.heap.size + 52), .int 0, .ref (s.heap.size + 60), .ref (s.heap.size + 61), .null, .null, .int 0]))] ((oX6 (s.heap.size + 1) :: mX6 Y (s.heap.size + 1)) ++ (oX1 (s.heap.size + 32) :: mX1 Y (s.heap.size + 32)) ++ (oX4 (s.heap.size + 37) (s.heap.size + 0) :: mX4 Y (s.heap.size + 37)) ++ (oX4 (s.heap.size + 45) (s.heap.size + 0) :: mX4 Y (s.heap.size + 45)) ++ (oX4 (s.heap.size + 53) (s.heap.size + 0) :: mX4 Y (s.heap.size + 53)) ++ (oX0 (s.heap.size + 61) :: mX0 Y (s.heap.size + 61)) ++ ((q_A Y 6 4 4 (fun j => s.heap.size + (61 + 1) + 2 * j)) :: T_X8_85 Y (s.heap.size + (61 + 2)) 4) ++ [.inl (Y.2 7, 5, .inr (.inr (.inr (.inr (fun _ => none)))))]) H _ := hW
  refine sn_put C hin hW (ci := 8) rfl iX8 tyX8 tyX8_ok nmX8 (k := 8) (by decide) w_368 rfl rfl rfl (Nat.le_of_ble_eq_true rfl) dX8_init_114 (fun H locs hW => ?_)
  have hW : WS Y s [(a, .inr (8, [.ref (s.heap.size + 0), .ref (s.heap.size + 31), .ref (s.heap.size + 36), .ref (s.heap.size + 44), .ref (s.heap.size + 52), .int 0, .ref (s.heap.size + 60), .ref (s.heap.size + 61), .ref (s.heap.size + 70), .null, .int 0]))] ((oX6 (s.heap.size + 1) :: mX6 Y (s.heap.size + 1)) ++ (oX1 (s.heap.size + 32) :: mX1 Y (s.heap.size + 32)) ++ (oX4 (s.heap.size + 37) (s.heap.size + 0) :: mX4 Y (s.heap.size + 37)) ++ (oX4 (s.heap.size + 45) (s.heap.size + 0) :: mX4 Y (s.heap.size + 45)) ++ (oX4 (s.heap.size + 53) (s.heap.size + 0) :: mX4 Y (s.heap.size + 53)) ++ (oX0 (s.heap.size + 61) :: mX0 Y (s.heap.size + 61)) ++ ((q_A Y 6 4 4 (fun j => s.heap.size + (61 + 1) + 2 * j)) :: T_X8_85 Y (s.heap.size + (61 + 2)) 4) ++ [.inl (Y.2 7, 5, .inr (.inr (.inr (.inr (fun _ => none)))))]) H _ := hW
  refine lv_iconst (v := 0) C.1 C.2.1 dX8_init_117 rfl ?_
  refine lv_istore_n (lv' := [(2, .int 0), (0, .ref a)]) C.1 C.2.1 dX8_init_118 rfl hl (by decide) rfl (fun ls hl => ?_)
  have hW := WS.eq hW (es' := ((oX6 (s.heap.size + 1) :: mX6 Y (s.heap.size + 1)) ++ (oX1 (s.heap.size + 32) :: mX1 Y (s.heap.size + 32)) ++ (oX4 (s.heap.size + 37) (s.heap.size + 0) :: mX4 Y (s.heap.size + 37)) ++ (oX4 (s.heap.size + 45) (s.heap.size + 0) :: mX4 Y (s.heap.size + 45)) ++ (oX4 (s.heap.size + 53) (s.heap.size + 0) :: mX4 Y (s.heap.size + 53)) ++ (oX0 (s.heap.size + 61) :: mX0 Y (s.heap.size + 61)) ++ ((q_A Y 6 4 4 (fun j => s.heap.size + (61 + 1) + 2 * j)) :: T_X8_85 Y (s.heap.size + (61 + 2)) 4)) ++ ((q_A Y 7 5 0 (fun j => s.heap.size + (70 + 1) + 4 * j)) :: T_X8_119 Y (s.heap.size + (70 + 2)) 0)) (by rw [q_A0]; rfl)
  refine lp_X8_119 C (nb := 70) (fs := [.ref (s.heap.size + 0), .ref (s.heap.size + 31), .ref (s.heap.size + 36), .ref (s.heap.size + 44), .ref (s.heap.size + 52), .int 0, .ref (s.heap.size + 60), .ref (s.heap.size + 61), .ref (s.heap.size + 70), .null, .int 0]) rfl (B := (oX6 (s.heap.size + 1) :: mX6 Y (s.heap.size + 1)) ++ (oX1 (s.heap.size + 32) :: mX1 Y (s.heap.size + 32)) ++ (oX4 (s.heap.size + 37) (s.heap.size + 0) :: mX4 Y (s.heap.size + 37)) ++ (oX4 (s.heap.size + 45) (s.heap.size + 0) :: mX4 Y (s.heap.size + 45)) ++ (oX4 (s.heap.size + 53) (s.heap.size + 0) :: mX4 Y (s.heap.size + 53)) ++ (oX0 (s.heap.size + 61) :: mX0 Y (s.heap.size + 61)) ++ ((q_A Y 6 4 4 (fun j => s.heap.size + (61 + 1) + 2 * j)) :: T_X8_85 Y (s.heap.size + (61 + 2)) 4)) (by simp only [List.length_append, List.length_cons, List.length_nil, lenM_X6, lenM_X1, lenM_X4, lenM_X3, lenM_X2, lenM_X0, len_T_X8_85, len_T_X8_119, Nat.reduceAdd, Nat.reduceMul, Nat.zero_add]) (c0 := 71) (s0 := 2121) (by decide) (by decide) (fun H locs ls hW hl => ?_) 5 0 rfl H _ ls hW (lv_sub hl [0, 1] rfl)
  refine lv_aload_n C.1 C.2.1 dX8_init_143 rfl (lv_at hl 1 rfl) ?_
  refine lv_bipush (v := 60) C.1 C.2.1 dX8_init_144 rfl ?_
  refine sn_newa C hW (atype := .int) (t0 := 0) (ty := .int) rfl w_119 rfl (fun _ _ => rfl) (N' := 60) (a0 := (60, .inl (fun _ => 0))) (fun _ => rfl) (by decide) rfl (Nat.le_of_ble_eq_true rfl) (Nat.le_of_ble_eq_true rfl) (Nat.le_of_ble_eq_true rfl) (q := s.heap.size + 91) (by simp only [List.length_append, List.length_cons, List.length_nil, lenM_X6, lenM_X1, lenM_X4, lenM_X3, lenM_X2, lenM_X0, len_T_X8_85, len_T_X8_119, Nat.reduceAdd, Nat.reduceMul, Nat.zero_add]) dX8_init_146 (fun H hW => ?_)
  have hW : WS Y s [(a, .inr (8, [.ref (s.heap.size + 0), .ref (s.heap.size + 31), .ref (s.heap.size + 36), .ref (s.heap.size + 44), .ref (s.heap.size + 52), .int 0, .ref (s.heap.size + 60), .ref (s.heap.size + 61), .ref (s.heap.size + 70), .null, .int 0]))] ((oX6 (s.heap.size + 1) :: mX6 Y (s.heap.size + 1)) ++ (oX1 (s.heap.size + 32) :: mX1 Y (s.heap.size + 32)) ++ (oX4 (s.heap.size + 37) (s.heap.size + 0) :: mX4 Y (s.heap.size + 37)) ++ (oX4 (s.heap.size + 45) (s.heap.size + 0) :: mX4 Y (s.heap.size + 45)) ++ (oX4 (s.heap.size + 53) (s.heap.size + 0) :: mX4 Y (s.heap.size + 53)) ++ (oX0 (s.heap.size + 61) :: mX0 Y (s.heap.size + 61)) ++ ((q_A Y 6 4 4 (fun j => s.heap.size + (61 + 1) + 2 * j)) :: T_X8_85 Y (s.heap.size + (61 + 2)) 4) ++ ((q_A Y 7 5 5 (fun j => s.heap.size + (70 + 1) + 4 * j)) :: T_X8_119 Y (s.heap.size + (70 + 2)) 5) ++ [.inl (Y.2 0, (60, .inl (fun _ => 0)))]) H _ := hW
  refine sn_put C hin hW (ci := 8) rfl iX8 tyX8 tyX8_ok nmX8 (k := 9) (by decide) w_369 rfl rfl rfl (Nat.le_of_ble_eq_true rfl) dX8_init_148 (fun H locs hW => ?_)
  have hW : WS Y s [(a, .inr (8, [.ref (s.heap.size + 0), .ref (s.heap.size + 31), .ref (s.heap.size + 36), .ref (s.heap.size + 44), .ref (s.heap.size + 52), .int 0, .ref (s.heap.size + 60), .ref (s.heap.size + 61), .ref (s.heap.size + 70), .ref (s.heap.size + 91), .int 0]))] ((oX6 (s.heap.size + 1) :: mX6 Y (s.heap.size + 1)) ++ (oX1 (s.heap.size + 32) :: mX1 Y (s.heap.size + 32)) ++ (oX4 (s.heap.size + 37) (s.heap.size + 0) :: mX4 Y (s.heap.size + 37)) ++ (oX4 (s.heap.size + 45) (s.heap.size + 0) :: mX4 Y (s.heap.size + 45)) ++ (oX4 (s.heap.size + 53) (s.heap.size + 0) :: mX4 Y (s.heap.size + 53)) ++ (oX0 (s.heap.size + 61) :: mX0 Y (s.heap.size + 61)) ++ ((q_A Y 6 4 4 (fun j => s.heap.size + (61 + 1) + 2 * j)) :: T_X8_85 Y (s.heap.size + (61 + 2)) 4) ++ ((q_A Y 7 5 5 (fun j => s.heap.size + (70 + 1) + 4 * j)) :: T_X8_119 Y (s.heap.size + (70 + 2)) 5) ++ [.inl (Y.2 0, (60, .inl (fun _ => 0)))]) H _ := hW
  exact hret _ _ _ _ hW dX8_init_151
