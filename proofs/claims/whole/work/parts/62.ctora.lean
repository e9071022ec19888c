/-- arrays of references as they are filled -/
theorem up_A0 {g : Nat → Nat} {v : Nat} (hv : v = g 0) : (fun j => if j < 1 then some (g j) else none) = va_up (fun _ => none) 0 (some v) := by
  funext j
  unfold va_up
  by_cases h : j = 0
  · subst h; rw [if_pos (by decide), if_pos rfl, hv]
  · rw [if_neg (by omega), if_neg h]
theorem up_A {i : Nat} {g : Nat → Nat} {v : Nat} (hv : v = g i) : (fun j => if j < i + 1 then some (g j) else none) = va_up (fun j => if j < i then some (g j) else none) i (some v) := by
  funext j
  unfold va_up
  by_cases h : j = i
  · subst h; rw [if_pos (by omega), if_pos rfl, hv]
  · by_cases h2 : j < i
    · rw [if_pos (by omega), if_neg h]; exact (if_pos h2).symm
    · rw [if_neg (by omega), if_neg h]; exact (if_neg h2).symm
def q_A (Y : CD) (t n i : Nat) (g : Nat → Nat) : va_E := .inl (Y.2 t, n, .inr (.inr (.inr (.inr (fun j => if j < i then some (g j) else none)))))
theorem q_A0 {Y : CD} {t n : Nat} {g : Nat → Nat} : q_A Y t n 0 g = .inl (Y.2 t, n, .inr (.inr (.inr (.inr (fun _ => none))))) := by
  have : (fun j => if j < 0 then some (g j) else none) = (fun _ : Nat => (none : Option Nat)) := by
    funext j
    exact if_neg (Nat.not_lt_zero j)
  unfold q_A
  rw [this]
theorem ll_1 {B T E : List va_E} {x y : va_E} : ((B ++ (x :: T)) ++ (y :: E))[B.length]? = some x := by
  rw [List.append_assoc, List.getElem?_append_right (Nat.le_refl _), Nat.sub_self]; rfl
theorem ll_2 {B T E : List va_E} {x y : va_E} : ((B ++ (x :: T)) ++ (y :: E))[B.length + 1 + T.length]? = some y := by
  rw [List.getElem?_append_right (by rw [List.length_append, List.length_cons]; omega), List.length_append, List.length_cons, show B.length + 1 + T.length - (B.length + (T.length + 1)) = 0 by omega]; rfl
theorem ll_3 {B T E : List va_E} {x x' : va_E} : ((B ++ (x :: T)) ++ E).set B.length x' = B ++ (x' :: (T ++ E)) := by
  rw [List.append_assoc, List.set_append_right _ _ (Nat.le_refl _), Nat.sub_self]; rfl
theorem WS.eq {Y : CD} {s : State} {th : va_W} {es es' : List va_E} {H : Heap} {locs : List Loc} (hW : WS Y s th es H locs) (h : es' = es) : WS Y s th es' H locs := h ▸ hW
theorem inb_k2 {i n : Nat} (h : i < n) (hn : n < 2 ^ 31) : vp_in (nI i) n := vp_in_nI h hn
theorem inb_k {i : Int32} {n : Nat} (h : ¬ (i < 0 ∨ n ≤ i.toNatClampNeg)) : vp_in i n := h
theorem dfX0 : ∀ j, j < 2 → defaultValue (tyX0 j) = vp_V [.int 0, .int 0] j := by decide +kernel
theorem dfX1 : ∀ j, j < 12 → defaultValue (tyX1 j) = vp_V [.null, .int 0, .null, .null, .int 0, .int 0, .int 0, .int 0, .int 0, .int 0, .int 0, .int 0] j := by decide +kernel
theorem dfX2 : ∀ j, j < 3 → defaultValue (tyX2 j) = vp_V [.int 0, .int 0, .null] j := by decide +kernel
theorem dfX3 : ∀ j, j < 4 → defaultValue (tyX3 j) = vp_V [.int 0, .null, .null, .int 0] j := by decide +kernel
theorem dfX4 : ∀ j, j < 19 → defaultValue (tyX4 j) = vp_V [.null, .int 0, .int 0, .int 0, .int 0, .int 0, .int 0, .int 0, .int 0, .int 0, .int 0, .int 0, .int 0, .int 0, .int 0, .int 0, .int 0, .null, .null] j := by decide +kernel
theorem dfX5 : ∀ j, j < 4 → defaultValue (tyX5 j) = vp_V [.int 0, .int 0, .int 0, .null] j := by decide +kernel
theorem dfX6 : ∀ j, j < 2 → defaultValue (tyX6 j) = vp_V [.null, .null] j := by decide +kernel
theorem dfX7 : ∀ j, j < 7 → defaultValue (tyX7 j) = vp_V [.int 0, .int 0, .int 0, .int 0, .int 0, .int 0, .int 0] j := by decide +kernel
theorem dfX8 : ∀ j, j < 11 → defaultValue (tyX8 j) = vp_V [.null, .null, .null, .null, .null, .int 0, .null, .null, .null, .null, .int 0] j := by decide +kernel
theorem dfX9 : ∀ j, j < 35 → defaultValue (tyX9 j) = vp_V [.null, .null, .null, .int 0, .int 0, .null, .null, .null, .int 0, .int 0, .int 0, .int 0, .int 0, .int 0, .int 0, .null, .null, .null, .int 0, .int 0, .null, .int 0, .null, .null, .null, .null, .null, .null, .null, .null, .null, .null, .null, .null, .int 0] j := by decide +kernel
theorem dX7_init_0 : decode cX7_init 0 = .ok (.aload_n 0, 1) := by decide +kernel
theorem dX7_init_1 : decode cX7_init 1 = .ok (.invokespecial 3, 3) := by decide +kernel
theorem dX7_init_4 : decode cX7_init 4 = .ok (.return_, 1) := by decide +kernel
def oX7_fs (z : Nat) : List Value := [.int 0, .int 0, .int 0, .int 0, .int 0, .int 0, .int 0]
def oX7 (z : Nat) : va_E := .inr (7, oX7_fs z)
def mX7 (Y : CD) (z : Nat) : List va_E := []
theorem lenM_X7 {Y : CD} {z : Nat} : (mX7 Y z).length = 0 := rfl
set_option maxHeartbeats 4000000 in
set_option maxRecDepth 20000 in
theorem cn_X7 (Y : CD) (l : Launch) (a z : Nat) : MetC Y l yX7_init cX7_init 1 1 0 0 a [] (.inr (7, [.int 0, .int 0, .int 0, .int 0, .int 0, .int 0, .int 0])) (oX7 z) z (mX7 Y z) := by
  refine met_C (by decide) rfl (Nat.le_of_ble_eq_true rfl) (fun p e s mi args below meth c ls Q hsz C hin hret hW hl => ?_)
  subst hsz
  have hl : lv_has ls 1 [(0, .ref a)] := lv_sub hl [0] rfl
  obtain ⟨H, hHe⟩ : ∃ H, H = s.heap := ⟨_, rfl⟩
  have hW : WS Y s [(a, .inr (7, [.int 0, .int 0, .int 0, .int 0, .int 0, .int 0, .int 0]))] [] H [] := by rw [hHe]; exact hW
  rw [← hHe]
  refine lv_aload_n C.1 C.2.1 dX7_init_0 rfl (lv_at hl 0 rfl) ?_
  refine sn_obj C w_187 hl.1 (Nat.le_of_ble_eq_true rfl) (Nat.le_of_ble_eq_true rfl) dX7_init_1 ?_
  exact hret _ _ _ _ hW dX7_init_4
theorem dX0_init_0 : decode cX0_init 0 = .ok (.aload_n 0, 1) := by decide +kernel
theorem dX0_init_1 : decode cX0_init 1 = .ok (.invokespecial 1, 3) := by decide +kernel
theorem dX0_init_4 : decode cX0_init 4 = .ok (.return_, 1) := by decide +kernel
def oX0_fs (z : Nat) : List Value := [.int 0, .int 0]
def oX0 (z : Nat) : va_E := .inr (0, oX0_fs z)
def mX0 (Y : CD) (z : Nat) : List va_E := []
theorem lenM_X0 {Y : CD} {z : Nat} : (mX0 Y z).length = 0 := rfl
set_option maxHeartbeats 4000000 in
set_option maxRecDepth 20000 in
theorem cn_X0 (Y : CD) (l : Launch) (a z : Nat) : MetC Y l yX0_init cX0_init 1 1 0 0 a [] (.inr (0, [.int 0, .int 0])) (oX0 z) z (mX0 Y z) := by
  refine met_C (by decide) rfl (Nat.le_of_ble_eq_true rfl) (fun p e s mi args below meth c ls Q hsz C hin hret hW hl => ?_)
  subst hsz
  have hl : lv_has ls 1 [(0, .ref a)] := lv_sub hl [0] rfl
  obtain ⟨H, hHe⟩ : ∃ H, H = s.heap := ⟨_, rfl⟩
  have hW : WS Y s [(a, .inr (0, [.int 0, .int 0]))] [] H [] := by rw [hHe]; exact hW
  rw [← hHe]
  refine lv_aload_n C.1 C.2.1 dX0_init_0 rfl (lv_at hl 0 rfl) ?_
  refine sn_obj C w_305 hl.1 (Nat.le_of_ble_eq_true rfl) (Nat.le_of_ble_eq_true rfl) dX0_init_1 ?_
  exact hret _ _ _ _ hW dX0_init_4
theorem dX5_init_0 : decode cX5_init 0 = .ok (.aload_n 0, 1) := by decide +kernel
theorem dX5_init_1 : decode cX5_init 1 = .ok (.invokespecial 3, 3) := by decide +kernel
theorem dX5_init_4 : decode cX5_init 4 = .ok (.aload_n 0, 1) := by decide +kernel
theorem dX5_init_5 : decode cX5_init 5 = .ok (.bipush 96, 2) := by decide +kernel
theorem dX5_init_7 : decode cX5_init 7 = .ok (.newarray .int, 2) := by decide +kernel
theorem dX5_init_9 : decode cX5_init 9 = .ok (.putfield 9, 3) := by decide +kernel
theorem dX5_init_12 : decode cX5_init 12 = .ok (.return_, 1) := by decide +kernel
def oX5_fs (z : Nat) : List Value := [.int 0, .int 0, .int 0, .ref (z + 0)]
def oX5 (z : Nat) : va_E := .inr (5, oX5_fs z)
def mX5 (Y : CD) (z : Nat) : List va_E := [.inl (Y.2 0, (96, .inl (fun _ => 0)))]
theorem lenM_X5 {Y : CD} {z : Nat} : (mX5 Y z).length = 1 := rfl
set_option maxHeartbeats 4000000 in
set_option maxRecDepth 20000 in
theorem cn_X5 (Y : CD) (l : Launch) (a z : Nat) : MetC Y l yX5_init cX5_init 1 1 1 96 a [] (.inr (5, [.int 0, .int 0, .int 0, .null])) (oX5 z) z (mX5 Y z) := by
  refine met_C (by decide) rfl (Nat.le_of_ble_eq_true rfl) (fun p e s mi args below meth c ls Q hsz C hin hret hW hl => ?_)
  subst hsz
  have hl : lv_has ls 1 [(0, .ref a)] := lv_sub hl [0] rfl
  obtain ⟨H, hHe⟩ : ∃ H, H = s.heap := ⟨_, rfl⟩
  have hW : WS Y s [(a, .inr (5, [.int 0, .int 0, .int 0, .null]))] [] H [] := by rw [hHe]; exact hW
  rw [← hHe]
  refine lv_aload_n C.1 C.2.1 dX5_init_0 rfl (lv_at hl 0 rfl) ?_
  refine sn_obj C w_99 hl.1 (Nat.le_of_ble_eq_true rfl) (Nat.le_of_ble_eq_true rfl) dX5_init_1 ?_
  refine lv_aload_n C.1 C.2.1 dX5_init_4 rfl (lv_at hl 0 rfl) ?_
  refine lv_bipush (v := 96) C.1 C.2.1 dX5_init_5 rfl ?_
  refine sn_newa C hW (atype := .int) (t0 := 0) (ty := .int) rfl w_119 rfl (fun _ _ => rfl) (N' := 96) (a0 := (96, .inl (fun _ => 0))) (fun _ => rfl) (by decide) rfl (Nat.le_of_ble_eq_true rfl) (Nat.le_of_ble_eq_true rfl) (Nat.le_of_ble_eq_true rfl) (q := s.heap.size + 0) rfl dX5_init_7 (fun H hW => ?_)
  have hW : WS Y s [(a, .inr (5, [.int 0, .int 0, .int 0, .null]))] ([.inl (Y.2 0, (96, .inl (fun _ => 0)))]) H _ := hW
  refine sn_put C hin hW (ci := 5) rfl iX5 tyX5 tyX5_ok nmX5 (k := 3) (by decide) w_108 rfl rfl rfl (Nat.le_of_ble_eq_true rfl) dX5_init_9 (fun H locs hW => ?_)
  have hW : WS Y s [(a, .inr (5, [.int 0, .int 0, .int 0, .ref (s.heap.size + 0)]))] ([.inl (Y.2 0, (96, .inl (fun _ => 0)))]) H _ := hW
  exact hret _ _ _ _ hW dX5_init_12
theorem dX2_init_0 : decode cX2_init 0 = .ok (.aload_n 0, 1) := by decide +kernel
theorem dX2_init_1 : decode cX2_init 1 = .ok (.invokespecial 3, 3) := by decide +kernel
theorem dX2_init_4 : decode cX2_init 4 = .ok (.aload_n 0, 1) := by decide +kernel
theorem dX2_init_5 : decode cX2_init 5 = .ok (.iconst (-1), 1) := by decide +kernel
theorem dX2_init_6 : decode cX2_init 6 = .ok (.putfield 9, 3) := by decide +kernel
theorem dX2_init_9 : decode cX2_init 9 = .ok (.aload_n 0, 1) := by decide +kernel
theorem dX2_init_10 : decode cX2_init 10 = .ok (.bipush 24, 2) := by decide +kernel
theorem dX2_init_12 : decode cX2_init 12 = .ok (.newarray .int, 2) := by decide +kernel
theorem dX2_init_14 : decode cX2_init 14 = .ok (.putfield 15, 3) := by decide +kernel
theorem dX2_init_17 : decode cX2_init 17 = .ok (.return_, 1) := by decide +kernel
def oX2_fs (z : Nat) : List Value := [.int (-1), .int 0, .ref (z + 0)]
def oX2 (z : Nat) : va_E := .inr (2, oX2_fs z)
def mX2 (Y : CD) (z : Nat) : List va_E := [.inl (Y.2 0, (24, .inl (fun _ => 0)))]
theorem lenM_X2 {Y : CD} {z : Nat} : (mX2 Y z).length = 1 := rfl
set_option maxHeartbeats 4000000 in
set_option maxRecDepth 20000 in
theorem cn_X2 (Y : CD) (l : Launch) (a z : Nat) : MetC Y l yX2_init cX2_init 1 1 1 24 a [] (.inr (2, [.int 0, .int 0, .null])) (oX2 z) z (mX2 Y z) := by
  refine met_C (by decide) rfl (Nat.le_of_ble_eq_true rfl) (fun p e s mi args below meth c ls Q hsz C hin hret hW hl => ?_)
  subst hsz
  have hl : lv_has ls 1 [(0, .ref a)] := lv_sub hl [0] rfl
  obtain ⟨H, hHe⟩ : ∃ H, H = s.heap := ⟨_, rfl⟩
  have hW : WS Y s [(a, .inr (2, [.int 0, .int 0, .null]))] [] H [] := by rw [hHe]; exact hW
  rw [← hHe]
  refine lv_aload_n C.1 C.2.1 dX2_init_0 rfl (lv_at hl 0 rfl) ?_
  refine sn_obj C w_319 hl.1 (Nat.le_of_ble_eq_true rfl) (Nat.le_of_ble_eq_true rfl) dX2_init_1 ?_
  refine lv_aload_n C.1 C.2.1 dX2_init_4 rfl (lv_at hl 0 rfl) ?_
  refine lv_iconst (v := (-1)) C.1 C.2.1 dX2_init_5 rfl ?_
  refine sn_put C hin hW (ci := 2) rfl iX2 tyX2 tyX2_ok nmX2 (k := 0) (by decide) w_320 rfl rfl rfl (Nat.le_of_ble_eq_true rfl) dX2_init_6 (fun H locs hW => ?_)
  have hW : WS Y s [(a, .inr (2, [.int (-1), .int 0, .null]))] ([]) H _ := hW
  refine lv_aload_n C.1 C.2.1 dX2_init_9 rfl (lv_at hl 0 rfl) ?_
  refine lv_bipush (v := 24) C.1 C.2.1 dX2_init_10 rfl ?_
  refine sn_newa C hW (atype := .int) (t0 := 0) (ty := .int) rfl w_119 rfl (fun _ _ => rfl) (N' := 24) (a0 := (24, .inl (fun _ => 0))) (fun _ => rfl) (by decide) rfl (Nat.le_of_ble_eq_true rfl) (Nat.le_of_ble_eq_true rfl) (Nat.le_of_ble_eq_true rfl) (q := s.heap.size + 0) rfl dX2_init_12 (fun H hW => ?_)
  have hW : WS Y s [(a, .inr (2, [.int (-1), .int 0, .null]))] ([.inl (Y.2 0, (24, .inl (fun _ => 0)))]) H _ := hW
  refine sn_put C hin hW (ci := 2) rfl iX2 tyX2 tyX2_ok nmX2 (k := 2) (by decide) w_324 rfl rfl rfl (Nat.le_of_ble_eq_true rfl) dX2_init_14 (fun H locs hW => ?_)
  have hW : WS Y s [(a, .inr (2, [.int (-1), .int 0, .ref (s.heap.size + 0)]))] ([.inl (Y.2 0, (24, .inl (fun _ => 0)))]) H _ := hW
  exact hret _ _ _ _ hW dX2_init_17
