theorem dX6_init_0 : decode cX6_init 0 = .ok (.aload_n 0, 1) := by decide +kernel
theorem dX6_init_1 : decode cX6_init 1 = .ok (.invokespecial 3, 3) := by decide +kernel
theorem dX6_init_4 : decode cX6_init 4 = .ok (.aload_n 0, 1) := by decide +kernel
theorem dX6_init_5 : decode cX6_init 5 = .ok (.bipush 14, 2) := by decide +kernel
theorem dX6_init_7 : decode cX6_init 7 = .ok (.anewarray 9, 3) := by decide +kernel
theorem dX6_init_10 : decode cX6_init 10 = .ok (.putfield 11, 3) := by decide +kernel
theorem dX6_init_13 : decode cX6_init 13 = .ok (.iconst 0, 1) := by decide +kernel
theorem dX6_init_14 : decode cX6_init 14 = .ok (.istore_n 1, 1) := by decide +kernel
theorem dX6_init_15 : decode cX6_init 15 = .ok (.iload_n 1, 1) := by decide +kernel
theorem dX6_init_16 : decode cX6_init 16 = .ok (.bipush 14, 2) := by decide +kernel
theorem dX6_init_18 : decode cX6_init 18 = .ok (.if_icmp .ge 22, 3) := by decide +kernel
theorem dX6_init_21 : decode cX6_init 21 = .ok (.aload_n 0, 1) := by decide +kernel
theorem dX6_init_22 : decode cX6_init 22 = .ok (.getfield 11, 3) := by decide +kernel
theorem dX6_init_25 : decode cX6_init 25 = .ok (.iload_n 1, 1) := by decide +kernel
theorem dX6_init_26 : decode cX6_init 26 = .ok (.new 9, 3) := by decide +kernel
theorem dX6_init_29 : decode cX6_init 29 = .ok (.dup, 1) := by decide +kernel
theorem dX6_init_30 : decode cX6_init 30 = .ok (.invokespecial 17, 3) := by decide +kernel
theorem dX6_init_33 : decode cX6_init 33 = .ok (.aastore, 1) := by decide +kernel
theorem dX6_init_34 : decode cX6_init 34 = .ok (.iinc 1 1, 3) := by decide +kernel
theorem dX6_init_37 : decode cX6_init 37 = .ok (.goto (-22), 3) := by decide +kernel
theorem dX6_init_40 : decode cX6_init 40 = .ok (.aload_n 0, 1) := by decide +kernel
theorem dX6_init_41 : decode cX6_init 41 = .ok (.bipush 96, 2) := by decide +kernel
theorem dX6_init_43 : decode cX6_init 43 = .ok (.newarray .int, 2) := by decide +kernel
theorem dX6_init_45 : decode cX6_init 45 = .ok (.putfield 18, 3) := by decide +kernel
theorem dX6_init_48 : decode cX6_init 48 = .ok (.return_, 1) := by decide +kernel
def T_X6_15 (Y : CD) (b : Nat) : Nat → List va_E
  | 0 => []
  | i + 1 => T_X6_15 Y b i ++ (oX5 (b + 2 * i) :: mX5 Y (b + 2 * i))
theorem len_T_X6_15 {Y : CD} {b : Nat} : ∀ i, (T_X6_15 Y b i).length = 2 * i := by
  intro i
  induction i with
  | zero => rfl
  | succ i ih => rw [T_X6_15, List.length_append, ih, List.length_cons, show (mX5 Y (b + 2 * i)).length = 1 from rfl]; omega
set_option maxHeartbeats 4000000 in
theorem lp_X6_15 {Y : CD} {p : Program} {l : Launch} {e : Env} {s : State} {mi : MethodId} {args : Array Value} {below : List Frame} {meth : Method} {c : Code} {Q : State → Prop} {a : Nat} (C : CC Y p s mi args c RX6 cX6_init 2) {fs : List Value} {nb : Nat} (hfs : fs[0]? = some (.ref (s.heap.size + nb))) {B : List va_E} (hB : B.length = nb) {c0 s0 : Nat} (hc0 : c0 + 28 ≤ 30) (hs0 : s0 + 1400 ≤ 1510)
    (kk : ∀ (H : Heap) (locs : List Loc) (ls : Array Slot), WS Y s [(a, .inr (6, fs))] (B ++ ((q_A Y 5 14 14 (fun j => s.heap.size + (nb + 1) + 2 * j)) :: T_X6_15 Y (s.heap.size + (nb + 2)) 14)) H locs → lv_has ls 2 [(1, .int 14), (0, .ref a)] → W p l e { frames := 2, cells := 30, slots := 1510, locals := 38 * 2 } s mi args below meth c H locs (c0 + 28) (s0 + 1400) Q (F0 mi 40 ls [])) :
    ∀ (n i : Nat), i + n = 14 → ∀ (H : Heap) (locs : List Loc) (ls : Array Slot), WS Y s [(a, .inr (6, fs))] (B ++ ((q_A Y 5 14 i (fun j => s.heap.size + (nb + 1) + 2 * j)) :: T_X6_15 Y (s.heap.size + (nb + 2)) i)) H locs → lv_has ls 2 [(1, .int (nI i)), (0, .ref a)] → W p l e { frames := 2, cells := 30, slots := 1510, locals := 38 * 2 } s mi args below meth c H locs (c0 + 2 * i) (s0 + 100 * i) Q (F0 mi 15 ls []) := by
  intro n
  induction n with
  | zero =>
    intro i hi H locs ls hW hl
    have hi : i = 14 := by omega
    subst hi
    refine lv_iload_n C.1 C.2.1 dX6_init_15 rfl (lv_at hl 0 rfl) ?_
    refine lv_bipush (v := 14) C.1 C.2.1 dX6_init_16 rfl ?_
    refine lv_icmp_ge (tgt := 40) C.1 C.2.1 dX6_init_18 (by decide) (fun _ => ?_) (fun hc => absurd (by decide) hc)
    exact kk H locs ls hW hl
  | succ n ih =>
    intro i hi H locs ls hW hl
    have hlt : i < 14 := by omega
    have hTl := len_T_X6_15 (Y := Y) (b := s.heap.size + (nb + 2)) i
    refine lv_iload_n C.1 C.2.1 dX6_init_15 rfl (lv_at hl 0 rfl) ?_
    refine lv_bipush (v := 14) C.1 C.2.1 dX6_init_16 rfl ?_
    refine lv_icmp_ge (tgt := 40) C.1 C.2.1 dX6_init_18 (by decide) (fun hc => absurd hc (by rw [show (14 : Int32) = nI 14 from rfl]; exact nI_ge hlt (by decide))) (fun _ => ?_)
    refine lv_aload_n C.1 C.2.1 dX6_init_21 rfl (lv_at hl 1 rfl) ?_
    refine sn_get C hW (ci := 6) rfl iX6 (k := 0) (by decide) w_120 hfs dX6_init_22 ?_
    refine lv_iload_n C.1 C.2.1 dX6_init_25 rfl (lv_at hl 0 rfl) ?_
    refine sn_new C hW (ci := 5) rfl iX5 tyX5 tyX5_ok w_93 w_95 w_63 dfX5 (by show _ ≤ 30; omega) (by show _ ≤ 1510; omega) (q := s.heap.size + (nb + 1 + 2 * i)) (by rw [List.length_append, List.length_cons, hB, hTl]; omega) dX6_init_26 (fun H hW => ?_)
    refine lv_dup C.1 C.2.1 dX6_init_29 rfl ?_
    refine sn_callNL C hW (k := nb + 1 + 2 * i) (z1 := s.heap.size + (nb + 2) + 2 * i) (by rw [List.length_append, List.length_cons, hB, hTl]; omega) (by rw [List.length_append, List.length_cons, hB, hTl]; omega) (cn_X5 Y l (s.heap.size + (nb + 1 + 2 * i)) (s.heap.size + (nb + 2) + 2 * i)) w_98 w_97 w_63 C.2.2.2.2.2.2.2.2.2.2.2.1 (by decide +kernel) (by exact ⟨Nat.le_of_ble_eq_true rfl, Nat.le_of_ble_eq_true rfl⟩) ⟨by show _ ≤ 30; omega, by show _ ≤ 1510; omega⟩ (As := []) rfl hl.1 (rest := [.ref (s.heap.size + (nb + 1 + 2 * i)), .int (nI i), .ref (s.heap.size + nb)]) rfl (by exact Nat.le_of_ble_eq_true rfl) dX6_init_30 (fun H locs hW => ?_)
    refine sn_aast C hW (k := nb) (j := nb + 1 + 2 * i) (t0 := 5) (ci := 5) (n := 14) (r := (RX5, TX5, 4)) (f := fun j => if j < i then some (s.heap.size + (nb + 1) + 2 * j) else none) (f' := fun j => if j < i + 1 then some (s.heap.size + (nb + 1) + 2 * j) else none) (vs := oX5_fs (s.heap.size + (nb + 2) + 2 * i)) (by rw [← hB]; exact ll_1) rfl (by have h := ll_2 (B := B) (x := (q_A Y 5 14 i (fun j => s.heap.size + (nb + 1) + 2 * j))) (T := T_X6_15 Y (s.heap.size + (nb + 2)) i) (y := oX5 (s.heap.size + (nb + 2) + 2 * i)) (E := mX5 Y (s.heap.size + (nb + 2) + 2 * i)); rw [hTl, hB] at h; exact h) rfl (inb_k2 hlt (by decide)) (q := s.heap.size + nb) (v := s.heap.size + (nb + 1 + 2 * i)) rfl rfl (by rw [nI_clamp (show i < 2 ^ 31 by omega)]; exact up_A (i := i) (g := fun j => s.heap.size + (nb + 1) + 2 * j) (show s.heap.size + (nb + 1 + 2 * i) = s.heap.size + (nb + 1) + 2 * i by omega)) dX6_init_33 (fun H locs hW => ?_)
    rw [← hB, ll_3, hB] at hW
    refine lv_iinc (v := nI (i + 1)) (lv' := [(1, .int (nI (i + 1))), (0, .ref a)]) C.1 C.2.1 dX6_init_34 hl (k := 0) rfl (nI_1 i) (by decide) rfl (fun ls hl => ?_)
    refine lv_goto (tgt := 15) C.1 C.2.1 dX6_init_37 (by decide) ?_
    have := ih (i + 1) (by omega) H locs ls hW hl
    rw [show c0 + 2 * (i + 1) = c0 + 2 * i + 1 + 1 by omega, show s0 + 100 * (i + 1) = s0 + 100 * i + 4 + 96 by omega] at this
    exact this
def oX6_fs (z : Nat) : List Value := [.ref (z + 0), .ref (z + 29)]
def oX6 (z : Nat) : va_E := .inr (6, oX6_fs z)
def mX6 (Y : CD) (z : Nat) : List va_E := ([] ++ ((q_A Y 5 14 14 (fun j => z + (0 + 1) + 2 * j)) :: T_X6_15 Y (z + (0 + 2)) 14)) ++ [.inl (Y.2 0, (96, .inl (fun _ => 0)))]
theorem lenM_X6 {Y : CD} {z : Nat} : (mX6 Y z).length = 30 := by unfold mX6; simp only [List.length_append, List.length_cons, List.length_nil, len_T_X6_15, Nat.reduceAdd, Nat.reduceMul, Nat.zero_add]
set_option maxHeartbeats 4000000 in
set_option maxRecDepth 20000 in
theorem cn_X6 (Y : CD) (l : Launch) (a z : Nat) : MetC Y l yX6_init cX6_init 2 2 30 1510 a [] (.inr (6, [.null, .null])) (oX6 z) z (mX6 Y z) := by
  refine met_C (by decide) rfl (Nat.le_of_ble_eq_true rfl) (fun p e s mi args below meth c ls Q hsz C hin hret hW hl => ?_)
  subst hsz
  have hl : lv_has ls 2 [(0, .ref a)] := lv_sub hl [0] rfl
  obtain ⟨H, hHe⟩ : ∃ H, H = s.heap := ⟨_, rfl⟩
  have hW : WS Y s [(a, .inr (6, [.null, .null]))] [] H [] := by rw [hHe]; exact hW
  rw [← hHe]
  refine lv_aload_n C.1 C.2.1 dX6_init_0 rfl (lv_at hl 0 rfl) ?_
  refine sn_obj C w_92 hl.1 (Nat.le_of_ble_eq_true rfl) (Nat.le_of_ble_eq_true rfl) dX6_init_1 ?_
  refine lv_aload_n C.1 C.2.1 dX6_init_4 rfl (lv_at hl 0 rfl) ?_
  refine lv_bipush (v := 14) C.1 C.2.1 dX6_init_5 rfl ?_
  refine sn_newq C hW (Cn := RX5) (t0 := 5) w_93 C.2.2.2.2.2.2.1.2.1 rfl (N' := 14) (by decide) rfl (Nat.le_of_ble_eq_true rfl) (Nat.le_of_ble_eq_true rfl) (Nat.le_of_ble_eq_true rfl) (q := s.heap.size + 0) rfl dX6_init_7 (fun H hW => ?_)
  have hW : WS Y s [(a, .inr (6, [.null, .null]))] ([.inl (Y.2 5, 14, .inr (.inr (.inr (.inr (fun _ => none)))))]) H _ := hW
  refine sn_put C hin hW (ci := 6) rfl iX6 tyX6 tyX6_ok nmX6 (k := 0) (by decide) w_120 rfl rfl rfl (Nat.le_of_ble_eq_true rfl) dX6_init_10 (fun H locs hW => ?_)
  have hW : WS Y s [(a, .inr (6, [.ref (s.heap.size + 0), .null]))] ([.inl (Y.2 5, 14, .inr (.inr (.inr (.inr (fun _ => none)))))]) H _ := hW
  refine lv_iconst (v := 0) C.1 C.2.1 dX6_init_13 rfl ?_
  refine lv_istore_n (lv' := [(1, .int 0), (0, .ref a)]) C.1 C.2.1 dX6_init_14 rfl hl (by decide) rfl (fun ls hl => ?_)
  have hW := WS.eq hW (es' := ([]) ++ ((q_A Y 5 14 0 (fun j => s.heap.size + (0 + 1) + 2 * j)) :: T_X6_15 Y (s.heap.size + (0 + 2)) 0)) (by rw [q_A0]; rfl)
  refine lp_X6_15 C (nb := 0) (fs := [.ref (s.heap.size + 0), .null]) rfl (B := []) rfl (c0 := 1) (s0 := 14) (by decide) (by decide) (fun H locs ls hW hl => ?_) 14 0 rfl H _ ls hW (lv_sub hl [0, 1] rfl)
  refine lv_aload_n C.1 C.2.1 dX6_init_40 rfl (lv_at hl 1 rfl) ?_
  refine lv_bipush (v := 96) C.1 C.2.1 dX6_init_41 rfl ?_
  refine sn_newa C hW (atype := .int) (t0 := 0) (ty := .int) rfl w_119 rfl (fun _ _ => rfl) (N' := 96) (a0 := (96, .inl (fun _ => 0))) (fun _ => rfl) (by decide) rfl (Nat.le_of_ble_eq_true rfl) (Nat.le_of_ble_eq_true rfl) (Nat.le_of_ble_eq_true rfl) (q := s.heap.size + 29) rfl dX6_init_43 (fun H hW => ?_)
  have hW : WS Y s [(a, .inr (6, [.ref (s.heap.size + 0), .null]))] (([] ++ ((q_A Y 5 14 14 (fun j => s.heap.size + (0 + 1) + 2 * j)) :: T_X6_15 Y (s.heap.size + (0 + 2)) 14)) ++ [.inl (Y.2 0, (96, .inl (fun _ => 0)))]) H _ := hW
  refine sn_put C hin hW (ci := 6) rfl iX6 tyX6 tyX6_ok nmX6 (k := 1) (by decide) w_122 rfl rfl rfl (Nat.le_of_ble_eq_true rfl) dX6_init_45 (fun H locs hW => ?_)
  have hW : WS Y s [(a, .inr (6, [.ref (s.heap.size + 0), .ref (s.heap.size + 29)]))] (([] ++ ((q_A Y 5 14 14 (fun j => s.heap.size + (0 + 1) + 2 * j)) :: T_X6_15 Y (s.heap.size + (0 + 2)) 14)) ++ [.inl (Y.2 0, (96, .inl (fun _ => 0)))]) H _ := hW
  exact hret _ _ _ _ hW dX6_init_48
