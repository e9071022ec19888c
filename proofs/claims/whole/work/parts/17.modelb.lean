theorem dX9_begins_0 : decode cX9_begins 0 = .ok (.aload_n 0, 1) := by decide +kernel
theorem dX9_begins_1 : decode cX9_begins 1 = .ok (.iload_n 1, 1) := by decide +kernel
theorem dX9_begins_2 : decode cX9_begins 2 = .ok (.iconst 4, 1) := by decide +kernel
theorem dX9_begins_3 : decode cX9_begins 3 = .ok (.iconst 1, 1) := by decide +kernel
theorem dX9_begins_4 : decode cX9_begins 4 = .ok (.aload_n 0, 1) := by decide +kernel
theorem dX9_begins_5 : decode cX9_begins 5 = .ok (.invokevirtual 126, 3) := by decide +kernel
theorem dX9_begins_8 : decode cX9_begins 8 = .ok (.aload_n 0, 1) := by decide +kernel
theorem dX9_begins_9 : decode cX9_begins 9 = .ok (.iload_n 1, 1) := by decide +kernel
theorem dX9_begins_10 : decode cX9_begins 10 = .ok (.invokevirtual 109, 3) := by decide +kernel
theorem dX9_begins_13 : decode cX9_begins 13 = .ok (.irem, 1) := by decide +kernel
theorem dX9_begins_14 : decode cX9_begins 14 = .ok (.iadd, 1) := by decide +kernel
theorem dX9_begins_15 : decode cX9_begins 15 = .ok (.invokevirtual 83, 3) := by decide +kernel
theorem dX9_begins_18 : decode cX9_begins 18 = .ok (.aload_n 0, 1) := by decide +kernel
theorem dX9_begins_19 : decode cX9_begins 19 = .ok (.iload_n 1, 1) := by decide +kernel
theorem dX9_begins_20 : decode cX9_begins 20 = .ok (.bipush 6, 2) := by decide +kernel
theorem dX9_begins_22 : decode cX9_begins 22 = .ok (.aload_n 0, 1) := by decide +kernel
theorem dX9_begins_23 : decode cX9_begins 23 = .ok (.iload_n 1, 1) := by decide +kernel
theorem dX9_begins_24 : decode cX9_begins 24 = .ok (.bipush 6, 2) := by decide +kernel
theorem dX9_begins_26 : decode cX9_begins 26 = .ok (.invokevirtual 97, 3) := by decide +kernel
theorem dX9_begins_29 : decode cX9_begins 29 = .ok (.iconst 1, 1) := by decide +kernel
theorem dX9_begins_30 : decode cX9_begins 30 = .ok (.iadd, 1) := by decide +kernel
theorem dX9_begins_31 : decode cX9_begins 31 = .ok (.invokevirtual 83, 3) := by decide +kernel
theorem dX9_begins_34 : decode cX9_begins 34 = .ok (.aload_n 0, 1) := by decide +kernel
theorem dX9_begins_35 : decode cX9_begins 35 = .ok (.iload_n 1, 1) := by decide +kernel
theorem dX9_begins_36 : decode cX9_begins 36 = .ok (.iconst 5, 1) := by decide +kernel
theorem dX9_begins_37 : decode cX9_begins 37 = .ok (.iconst 0, 1) := by decide +kernel
theorem dX9_begins_38 : decode cX9_begins 38 = .ok (.invokevirtual 83, 3) := by decide +kernel
theorem dX9_begins_41 : decode cX9_begins 41 = .ok (.return_, 1) := by decide +kernel
def f_X9_begins (fu : Nat)  (x1 : Int32) (m : Mem) : Option Mem := doI (f_X9_draw fu  m) (fun r_3 m_2 => doI (f_X9_talksOf fu x1 m_2) (fun r_6 m_5 => chk (nz r_6) (doV (f_X9_put fu x1 4 (1 + (irem r_3 r_6)) m_5) (fun m_9 => doI (f_X9_of fu x1 6 m_9) (fun r_12 m_11 => doV (f_X9_put fu x1 6 (r_12 + 1) m_11) (fun m_14 => doV (f_X9_put fu x1 5 0 m_14) (fun m_16 => some m_16)))))))
set_option maxHeartbeats 4000000 in
set_option maxRecDepth 100000 in
theorem w_X9_begins {X : TX} {p : Program} {l : Launch} {e : Env} {s : State} {mi : MethodId} {args : Array Value} {below : List Frame} {meth : Method} {c : Code} {Q : State → Prop} {mE : Mem} (C : Cx X p s mi args c RX9 cX9_begins 2) (hq : RetV X p l e (rmD 2) s mi args below meth c cX9_begins Q mE) {fu : Nat} {x1 : Int32} {m : Mem} {H : Heap} {locs : List Loc} {ls : Array Slot} (h : f_X9_begins fu x1 m = some mE)  (hW : Wd X s m H locs) (hl : lv_has ls 2 [(0, .ref (ad X 20 0)), (1, .int x1)]) : W p l e (rmD 2) s mi args below meth c H locs 0 0 Q (F0 mi 0 ls []) := by
  unfold f_X9_begins at h
  refine lv_aload_n C.1 C.2.1 dX9_begins_0 rfl (lv_at hl 0 rfl) ?_
  refine lv_iload_n C.1 C.2.1 dX9_begins_1 rfl (lv_at hl 1 rfl) ?_
  refine lv_iconst (v := 4) C.1 C.2.1 dX9_begins_2 rfl ?_
  refine lv_iconst (v := 1) C.1 C.2.1 dX9_begins_3 rfl ?_
  refine lv_aload_n C.1 C.2.1 dX9_begins_4 rfl (lv_at hl 0 rfl) ?_
  obtain ⟨r_3, m_2, hc_1, h⟩ := doI_E h
  refine zr_cVI C hW (c_X9_draw  hc_1 ) k_X9_draw (zr_recv C hW id_20 zco_20 rfl) w_1197 ⟨Nat.le_of_ble_eq_true rfl, Nat.le_of_ble_eq_true rfl⟩ ⟨Nat.le_refl 0, Nat.le_refl 0⟩ rfl hl.1 rfl (Nat.le_of_ble_eq_true rfl) dX9_begins_5 (fun H locs hW => ?_)
  refine lv_aload_n C.1 C.2.1 dX9_begins_8 rfl (lv_at hl 0 rfl) ?_
  refine lv_iload_n C.1 C.2.1 dX9_begins_9 rfl (lv_at hl 1 rfl) ?_
  obtain ⟨r_6, m_5, hc_4, h⟩ := doI_E h
  refine zr_cVI C hW (c_X9_talksOf (x1 := x1) hc_4 ) k_X9_talksOf (zr_recv C hW id_20 zco_20 rfl) w_1149 ⟨Nat.le_of_ble_eq_true rfl, Nat.le_of_ble_eq_true rfl⟩ ⟨Nat.le_refl 0, Nat.le_refl 0⟩ rfl hl.1 rfl (Nat.le_of_ble_eq_true rfl) dX9_begins_10 (fun H locs hW => ?_)
  obtain ⟨hb_7, h⟩ := chk_E h
  refine zr_irem C.1 C.2.1 dX9_begins_13 (nz_E hb_7) ?_
  refine lv_iadd C.1 C.2.1 dX9_begins_14 ?_
  obtain ⟨m_9, hc_8, h⟩ := doV_E h
  refine zr_cVV C hW (c_X9_put (x1 := x1) (x2 := 4) (x3 := (1 + (irem r_3 r_6))) hc_8 ) k_X9_put (zr_recv C hW id_20 zco_20 rfl) w_1129 ⟨Nat.le_of_ble_eq_true rfl, Nat.le_of_ble_eq_true rfl⟩ ⟨Nat.le_refl 0, Nat.le_refl 0⟩ rfl hl.1 rfl (Nat.le_of_ble_eq_true rfl) dX9_begins_15 (fun H locs hW => ?_)
  refine lv_aload_n C.1 C.2.1 dX9_begins_18 rfl (lv_at hl 0 rfl) ?_
  refine lv_iload_n C.1 C.2.1 dX9_begins_19 rfl (lv_at hl 1 rfl) ?_
  refine lv_bipush (v := 6) C.1 C.2.1 dX9_begins_20 rfl ?_
  refine lv_aload_n C.1 C.2.1 dX9_begins_22 rfl (lv_at hl 0 rfl) ?_
  refine lv_iload_n C.1 C.2.1 dX9_begins_23 rfl (lv_at hl 1 rfl) ?_
  refine lv_bipush (v := 6) C.1 C.2.1 dX9_begins_24 rfl ?_
  obtain ⟨r_12, m_11, hc_10, h⟩ := doI_E h
  refine zr_cVI C hW (c_X9_of (x1 := x1) (x2 := 6) hc_10 ) k_X9_of (zr_recv C hW id_20 zco_20 rfl) w_1141 ⟨Nat.le_of_ble_eq_true rfl, Nat.le_of_ble_eq_true rfl⟩ ⟨Nat.le_refl 0, Nat.le_refl 0⟩ rfl hl.1 rfl (Nat.le_of_ble_eq_true rfl) dX9_begins_26 (fun H locs hW => ?_)
  refine lv_iconst (v := 1) C.1 C.2.1 dX9_begins_29 rfl ?_
  refine lv_iadd C.1 C.2.1 dX9_begins_30 ?_
  obtain ⟨m_14, hc_13, h⟩ := doV_E h
  refine zr_cVV C hW (c_X9_put (x1 := x1) (x2 := 6) (x3 := (r_12 + 1)) hc_13 ) k_X9_put (zr_recv C hW id_20 zco_20 rfl) w_1129 ⟨Nat.le_of_ble_eq_true rfl, Nat.le_of_ble_eq_true rfl⟩ ⟨Nat.le_refl 0, Nat.le_refl 0⟩ rfl hl.1 rfl (Nat.le_of_ble_eq_true rfl) dX9_begins_31 (fun H locs hW => ?_)
  refine lv_aload_n C.1 C.2.1 dX9_begins_34 rfl (lv_at hl 0 rfl) ?_
  refine lv_iload_n C.1 C.2.1 dX9_begins_35 rfl (lv_at hl 1 rfl) ?_
  refine lv_iconst (v := 5) C.1 C.2.1 dX9_begins_36 rfl ?_
  refine lv_iconst (v := 0) C.1 C.2.1 dX9_begins_37 rfl ?_
  obtain ⟨m_16, hc_15, h⟩ := doV_E h
  refine zr_cVV C hW (c_X9_put (x1 := x1) (x2 := 5) (x3 := 0) hc_15 ) k_X9_put (zr_recv C hW id_20 zco_20 rfl) w_1129 ⟨Nat.le_of_ble_eq_true rfl, Nat.le_of_ble_eq_true rfl⟩ ⟨Nat.le_refl 0, Nat.le_refl 0⟩ rfl hl.1 rfl (Nat.le_of_ble_eq_true rfl) dX9_begins_38 (fun H locs hW => ?_)
  exact ret_v h hq hW dX9_begins_41
theorem c_X9_begins {X : TX} {l : Launch} {fu : Nat} {x1 : Int32} {m mE : Mem} (h : f_X9_begins fu x1 m = some mE)  : MetV X l yX9_begins cX9_begins 2 2 [.ref (ad X 20 0), .int x1] m mE :=
  met_V (by decide) (Nat.le_of_ble_eq_true rfl) (fun p e s mi args below meth c ls Q C hq hW hl => w_X9_begins C hq h  hW (lv_sub hl [0, 1] rfl))
theorem k_X9_begins : CalV yX9_begins cX9_begins 2 none RX9 1 := ⟨w_1235, w_40, w_70, w_1236, by decide +kernel⟩
theorem dX9_crosses_0 : decode cX9_crosses 0 = .ok (.aload_n 0, 1) := by decide +kernel
theorem dX9_crosses_1 : decode cX9_crosses 1 = .ok (.getfield 9, 3) := by decide +kernel
theorem dX9_crosses_4 : decode cX9_crosses 4 = .ok (.bipush 11, 2) := by decide +kernel
theorem dX9_crosses_6 : decode cX9_crosses 6 = .ok (.dup2, 1) := by decide +kernel
theorem dX9_crosses_7 : decode cX9_crosses 7 = .ok (.iaload, 1) := by decide +kernel
theorem dX9_crosses_8 : decode cX9_crosses 8 = .ok (.iconst 1, 1) := by decide +kernel
theorem dX9_crosses_9 : decode cX9_crosses 9 = .ok (.iadd, 1) := by decide +kernel
theorem dX9_crosses_10 : decode cX9_crosses 10 = .ok (.iastore, 1) := by decide +kernel
theorem dX9_crosses_11 : decode cX9_crosses 11 = .ok (.iconst 0, 1) := by decide +kernel
theorem dX9_crosses_12 : decode cX9_crosses 12 = .ok (.istore_n 2, 1) := by decide +kernel
theorem dX9_crosses_13 : decode cX9_crosses 13 = .ok (.iload_n 2, 1) := by decide +kernel
theorem dX9_crosses_14 : decode cX9_crosses 14 = .ok (.aload_n 0, 1) := by decide +kernel
theorem dX9_crosses_15 : decode cX9_crosses 15 = .ok (.getfield 9, 3) := by decide +kernel
theorem dX9_crosses_18 : decode cX9_crosses 18 = .ok (.iconst 1, 1) := by decide +kernel
theorem dX9_crosses_19 : decode cX9_crosses 19 = .ok (.iaload, 1) := by decide +kernel
theorem dX9_crosses_20 : decode cX9_crosses 20 = .ok (.if_icmp .ge 47, 3) := by decide +kernel
theorem dX9_crosses_23 : decode cX9_crosses 23 = .ok (.iload_n 1, 1) := by decide +kernel
theorem dX9_crosses_24 : decode cX9_crosses 24 = .ok (.iload_n 2, 1) := by decide +kernel
theorem dX9_crosses_25 : decode cX9_crosses 25 = .ok (.ishr, 1) := by decide +kernel
theorem dX9_crosses_26 : decode cX9_crosses 26 = .ok (.iconst 1, 1) := by decide +kernel
theorem dX9_crosses_27 : decode cX9_crosses 27 = .ok (.iand, 1) := by decide +kernel
theorem dX9_crosses_28 : decode cX9_crosses 28 = .ok (.iconst 1, 1) := by decide +kernel
theorem dX9_crosses_29 : decode cX9_crosses 29 = .ok (.if_icmp .ne 32, 3) := by decide +kernel
theorem dX9_crosses_32 : decode cX9_crosses 32 = .ok (.aload_n 0, 1) := by decide +kernel
theorem dX9_crosses_33 : decode cX9_crosses 33 = .ok (.iload_n 2, 1) := by decide +kernel
theorem dX9_crosses_34 : decode cX9_crosses 34 = .ok (.invokevirtual 112, 3) := by decide +kernel
theorem dX9_crosses_37 : decode cX9_crosses 37 = .ok (.ifCond .eq 19, 3) := by decide +kernel
theorem dX9_crosses_40 : decode cX9_crosses 40 = .ok (.aload_n 0, 1) := by decide +kernel
theorem dX9_crosses_41 : decode cX9_crosses 41 = .ok (.iload_n 2, 1) := by decide +kernel
theorem dX9_crosses_42 : decode cX9_crosses 42 = .ok (.iconst 5, 1) := by decide +kernel
theorem dX9_crosses_43 : decode cX9_crosses 43 = .ok (.aload_n 0, 1) := by decide +kernel
theorem dX9_crosses_44 : decode cX9_crosses 44 = .ok (.invokevirtual 126, 3) := by decide +kernel
theorem dX9_crosses_47 : decode cX9_crosses 47 = .ok (.bipush 6, 2) := by decide +kernel
theorem dX9_crosses_49 : decode cX9_crosses 49 = .ok (.irem, 1) := by decide +kernel
theorem dX9_crosses_50 : decode cX9_crosses 50 = .ok (.invokevirtual 83, 3) := by decide +kernel
theorem dX9_crosses_53 : decode cX9_crosses 53 = .ok (.goto 8, 3) := by decide +kernel
theorem dX9_crosses_56 : decode cX9_crosses 56 = .ok (.aload_n 0, 1) := by decide +kernel
theorem dX9_crosses_57 : decode cX9_crosses 57 = .ok (.iload_n 2, 1) := by decide +kernel
theorem dX9_crosses_58 : decode cX9_crosses 58 = .ok (.invokevirtual 130, 3) := by decide +kernel
theorem dX9_crosses_61 : decode cX9_crosses 61 = .ok (.iinc 2 1, 3) := by decide +kernel
theorem dX9_crosses_64 : decode cX9_crosses 64 = .ok (.goto (-51), 3) := by decide +kernel
theorem dX9_crosses_67 : decode cX9_crosses 67 = .ok (.aload_n 0, 1) := by decide +kernel
theorem dX9_crosses_68 : decode cX9_crosses 68 = .ok (.getfield 9, 3) := by decide +kernel
theorem dX9_crosses_71 : decode cX9_crosses 71 = .ok (.bipush 6, 2) := by decide +kernel
theorem dX9_crosses_73 : decode cX9_crosses 73 = .ok (.aload_n 0, 1) := by decide +kernel
theorem dX9_crosses_74 : decode cX9_crosses 74 = .ok (.invokevirtual 134, 3) := by decide +kernel
theorem dX9_crosses_77 : decode cX9_crosses 77 = .ok (.ifCond .ne 7, 3) := by decide +kernel
theorem dX9_crosses_80 : decode cX9_crosses 80 = .ok (.iconst 0, 1) := by decide +kernel
theorem dX9_crosses_81 : decode cX9_crosses 81 = .ok (.goto 10, 3) := by decide +kernel
theorem dX9_crosses_84 : decode cX9_crosses 84 = .ok (.aload_n 0, 1) := by decide +kernel
theorem dX9_crosses_85 : decode cX9_crosses 85 = .ok (.getfield 9, 3) := by decide +kernel
theorem dX9_crosses_88 : decode cX9_crosses 88 = .ok (.bipush 6, 2) := by decide +kernel
theorem dX9_crosses_90 : decode cX9_crosses 90 = .ok (.iaload, 1) := by decide +kernel
theorem dX9_crosses_91 : decode cX9_crosses 91 = .ok (.iastore, 1) := by decide +kernel
theorem dX9_crosses_92 : decode cX9_crosses 92 = .ok (.return_, 1) := by decide +kernel
def f_X9_crosses_61 (fu : Nat) (k_13 : Int32 → Int32 → Mem → Option Mem) (x1 : Int32) (x2 : Int32) (m : Mem) : Option Mem := seqM (x2 + 1) (fun x_1 : Int32 => k_13 x1 x_1 m)
set_option maxHeartbeats 4000000 in
set_option maxRecDepth 100000 in
theorem w_X9_crosses_61 {X : TX} {p : Program} {l : Launch} {e : Env} {s : State} {mi : MethodId} {args : Array Value} {below : List Frame} {meth : Method} {c : Code} {Q : State → Prop} {mE : Mem} (C : Cx X p s mi args c RX9 cX9_crosses 3) (hq : RetV X p l e (rmD 3) s mi args below meth c cX9_crosses Q mE) {fu : Nat} {k_13 : Int32 → Int32 → Mem → Option Mem} (hk_13 : ∀ {x1 : Int32} {x2 : Int32} {m : Mem} {H : Heap} {locs : List Loc} {ls : Array Slot}, k_13 x1 x2 m = some mE → Wd X s m H locs → lv_has ls 3 [(0, .ref (ad X 20 0)), (1, .int x1), (2, .int x2)] → W p l e (rmD 3) s mi args below meth c H locs 0 0 Q (F0 mi 13 ls [])) {x1 : Int32} {x2 : Int32} {m : Mem} {H : Heap} {locs : List Loc} {ls : Array Slot} (h : f_X9_crosses_61 fu k_13 x1 x2 m = some mE)  (hW : Wd X s m H locs) (hl : lv_has ls 3 [(0, .ref (ad X 20 0)), (1, .int x1), (2, .int x2)]) : W p l e (rmD 3) s mi args below meth c H locs 0 0 Q (F0 mi 61 ls []) := by
  unfold f_X9_crosses_61 at h
  obtain ⟨x_1, e_2, h⟩ := seqM_E h
  refine lv_iinc (v := x_1) (lv' := [(2, .int x_1), (0, .ref (ad X 20 0)), (1, .int x1)]) C.1 C.2.1 dX9_crosses_61 hl (k := 2) rfl (by rw [e_2]; rfl) (by decide) rfl (fun ls hl => ?_)
  refine lv_goto (tgt := 13) C.1 C.2.1 dX9_crosses_64 (by decide) ?_
  exact hk_13 h  hW (lv_sub hl [1, 2, 0] rfl)
def f_X9_crosses_91 (fu : Nat)  (y2 : Int32) (m : Mem) : Option Mem := seqM (upd m ((4000 + 1500 * 0) + (6 : Int32).toNatClampNeg) y2) (fun m_1 : Mem => some m_1)
set_option maxHeartbeats 4000000 in
set_option maxRecDepth 100000 in
theorem w_X9_crosses_91 {X : TX} {p : Program} {l : Launch} {e : Env} {s : State} {mi : MethodId} {args : Array Value} {below : List Frame} {meth : Method} {c : Code} {Q : State → Prop} {mE : Mem} (C : Cx X p s mi args c RX9 cX9_crosses 3) (hq : RetV X p l e (rmD 3) s mi args below meth c cX9_crosses Q mE) {fu : Nat} {y2 : Int32} {m : Mem} {H : Heap} {locs : List Loc} {ls : Array Slot} (h : f_X9_crosses_91 fu y2 m = some mE)  (hW : Wd X s m H locs) (hl : lv_has ls 3 []) : W p l e (rmD 3) s mi args below meth c H locs 0 0 Q (F0 mi 91 ls [.int y2, .int 6, .ref (ad X 21 0)]) := by
  unfold f_X9_crosses_91 at h
  obtain ⟨m_1, e_2, h⟩ := seqM_E h
  refine zas_21 C hW id_21_0 (inb_E (by decide)) e_2 dX9_crosses_91 (fun H locs hW => ?_)
  exact ret_v h hq hW dX9_crosses_92
def f_X9_crosses_13 (fu : Nat)  : Nat → Int32 → Int32 → Mem → Option Mem
  | 0, _, _, _ => none
  | n + 1, x1, x2, m => if (m ((4000 + 1500 * 0) + (1 : Int32).toNatClampNeg)) ≤ x2 then (doI (f_X9_speaking fu  m) (fun r_3 m_2 => if r_3 = 0 then (f_X9_crosses_91 fu 0 m_2) else (f_X9_crosses_91 fu (m_2 ((4000 + 1500 * 0) + (6 : Int32).toNatClampNeg)) m_2))) else (if ((x1 >>> (x2 &&& 31)) &&& 1) = 1 then (doI (f_X9_doesYield fu x2 m) (fun r_7 m_6 => if r_7 = 0 then (doV (f_X9_begins fu x2 m_6) (fun m_9 => f_X9_crosses_61 fu (f_X9_crosses_13 fu n) x1 x2 m_9)) else (doI (f_X9_draw fu  m_6) (fun r_12 m_11 => doV (f_X9_put fu x2 5 (irem r_12 6) m_11) (fun m_14 => f_X9_crosses_61 fu (f_X9_crosses_13 fu n) x1 x2 m_14))))) else (f_X9_crosses_61 fu (f_X9_crosses_13 fu n) x1 x2 m))
set_option maxHeartbeats 4000000 in
set_option maxRecDepth 100000 in
theorem w_X9_crosses_13 {X : TX} {p : Program} {l : Launch} {e : Env} {s : State} {mi : MethodId} {args : Array Value} {below : List Frame} {meth : Method} {c : Code} {Q : State → Prop} {mE : Mem} (C : Cx X p s mi args c RX9 cX9_crosses 3) (hq : RetV X p l e (rmD 3) s mi args below meth c cX9_crosses Q mE) {fu : Nat} : ∀ (n : Nat) {x1 : Int32} {x2 : Int32} {m : Mem} {H : Heap} {locs : List Loc} {ls : Array Slot}, f_X9_crosses_13 fu n x1 x2 m = some mE → Wd X s m H locs → lv_has ls 3 [(0, .ref (ad X 20 0)), (1, .int x1), (2, .int x2)] → W p l e (rmD 3) s mi args below meth c H locs 0 0 Q (F0 mi 13 ls []) := by
  intro n
  induction n with
  | zero =>
    intro x1 x2 m H locs ls h hW hl
    rw [f_X9_crosses_13] at h
    cases h
  | succ n ih =>
    intro x1 x2 m H locs ls h hW hl
    rw [f_X9_crosses_13] at h
    refine lv_iload_n C.1 C.2.1 dX9_crosses_13 rfl (lv_at hl 2 rfl) ?_
    refine lv_aload_n C.1 C.2.1 dX9_crosses_14 rfl (lv_at hl 0 rfl) ?_
    refine zg_X9_now C hW id_20 w_1004 dX9_crosses_15 ?_
    refine lv_iconst (v := 1) C.1 C.2.1 dX9_crosses_18 rfl ?_
    refine zal_21 C hW id_21_0 (inb_E (by decide)) dX9_crosses_19 ?_
    refine lv_icmp_ge (tgt := 67) C.1 C.2.1 dX9_crosses_20 (by decide) (fun hc_17 => ?_) (fun hc_17 => ?_)
    · have h := ite_t hc_17 h
      refine lv_aload_n C.1 C.2.1 dX9_crosses_67 rfl (lv_at hl 0 rfl) ?_
      refine zg_X9_now C hW id_20 w_1004 dX9_crosses_68 ?_
      refine lv_bipush (v := 6) C.1 C.2.1 dX9_crosses_71 rfl ?_
      refine lv_aload_n C.1 C.2.1 dX9_crosses_73 rfl (lv_at hl 0 rfl) ?_
      obtain ⟨r_3, m_2, hc_1, h⟩ := doI_E h
      refine zr_cVI C hW (c_X9_speaking  hc_1 ) k_X9_speaking (zr_recv C hW id_20 zco_20 rfl) w_1221 ⟨Nat.le_of_ble_eq_true rfl, Nat.le_of_ble_eq_true rfl⟩ ⟨Nat.le_refl 0, Nat.le_refl 0⟩ rfl hl.1 rfl (Nat.le_of_ble_eq_true rfl) dX9_crosses_74 (fun H locs hW => ?_)
      refine lv_if_ne (tgt := 84) C.1 C.2.1 dX9_crosses_77 (by decide) (fun hc_4 => ?_) (fun hc_4 => ?_)
      · have h := ite_f hc_4 h
        refine lv_aload_n C.1 C.2.1 dX9_crosses_84 rfl (lv_at hl 0 rfl) ?_
        refine zg_X9_now C hW id_20 w_1004 dX9_crosses_85 ?_
        refine lv_bipush (v := 6) C.1 C.2.1 dX9_crosses_88 rfl ?_
        refine zal_21 C hW id_21_0 (inb_E (by decide)) dX9_crosses_90 ?_
        exact w_X9_crosses_91 C hq  h  hW (lv_sub hl [] rfl)
      · have h := ite_t hc_4 h
        refine lv_iconst (v := 0) C.1 C.2.1 dX9_crosses_80 rfl ?_
        refine lv_goto (tgt := 91) C.1 C.2.1 dX9_crosses_81 (by decide) ?_
        exact w_X9_crosses_91 C hq  h  hW (lv_sub hl [] rfl)
    · have h := ite_f hc_17 h
      refine lv_iload_n C.1 C.2.1 dX9_crosses_23 rfl (lv_at hl 1 rfl) ?_
      refine lv_iload_n C.1 C.2.1 dX9_crosses_24 rfl (lv_at hl 2 rfl) ?_
      refine lv_ishr C.1 C.2.1 dX9_crosses_25 ?_
      refine lv_iconst (v := 1) C.1 C.2.1 dX9_crosses_26 rfl ?_
      refine lv_iand C.1 C.2.1 dX9_crosses_27 ?_
      refine lv_iconst (v := 1) C.1 C.2.1 dX9_crosses_28 rfl ?_
      refine lv_icmp_ne (tgt := 61) C.1 C.2.1 dX9_crosses_29 (by decide) (fun hc_16 => ?_) (fun hc_16 => ?_)
      · have h := ite_f hc_16 h
        exact w_X9_crosses_61 C hq ih h  hW (lv_sub hl [0, 1, 2] rfl)
      · have h := ite_t hc_16 h
        refine lv_aload_n C.1 C.2.1 dX9_crosses_32 rfl (lv_at hl 0 rfl) ?_
        refine lv_iload_n C.1 C.2.1 dX9_crosses_33 rfl (lv_at hl 2 rfl) ?_
        obtain ⟨r_7, m_6, hc_5, h⟩ := doI_E h
        refine zr_cVI C hW (c_X9_doesYield (x1 := x2) hc_5 ) k_X9_doesYield (zr_recv C hW id_20 zco_20 rfl) w_1153 ⟨Nat.le_of_ble_eq_true rfl, Nat.le_of_ble_eq_true rfl⟩ ⟨Nat.le_refl 0, Nat.le_refl 0⟩ rfl hl.1 rfl (Nat.le_of_ble_eq_true rfl) dX9_crosses_34 (fun H locs hW => ?_)
        refine lv_if_eq (tgt := 56) C.1 C.2.1 dX9_crosses_37 (by decide) (fun hc_15 => ?_) (fun hc_15 => ?_)
        · have h := ite_t hc_15 h
          refine lv_aload_n C.1 C.2.1 dX9_crosses_56 rfl (lv_at hl 0 rfl) ?_
          refine lv_iload_n C.1 C.2.1 dX9_crosses_57 rfl (lv_at hl 2 rfl) ?_
          obtain ⟨m_9, hc_8, h⟩ := doV_E h
          refine zr_cVV C hW (c_X9_begins (x1 := x2) hc_8 ) k_X9_begins (zr_recv C hW id_20 zco_20 rfl) w_1233 ⟨Nat.le_of_ble_eq_true rfl, Nat.le_of_ble_eq_true rfl⟩ ⟨Nat.le_refl 0, Nat.le_refl 0⟩ rfl hl.1 rfl (Nat.le_of_ble_eq_true rfl) dX9_crosses_58 (fun H locs hW => ?_)
          exact w_X9_crosses_61 C hq ih h  hW (lv_sub hl [0, 1, 2] rfl)
        · have h := ite_f hc_15 h
          refine lv_aload_n C.1 C.2.1 dX9_crosses_40 rfl (lv_at hl 0 rfl) ?_
          refine lv_iload_n C.1 C.2.1 dX9_crosses_41 rfl (lv_at hl 2 rfl) ?_
          refine lv_iconst (v := 5) C.1 C.2.1 dX9_crosses_42 rfl ?_
          refine lv_aload_n C.1 C.2.1 dX9_crosses_43 rfl (lv_at hl 0 rfl) ?_
          obtain ⟨r_12, m_11, hc_10, h⟩ := doI_E h
          refine zr_cVI C hW (c_X9_draw  hc_10 ) k_X9_draw (zr_recv C hW id_20 zco_20 rfl) w_1197 ⟨Nat.le_of_ble_eq_true rfl, Nat.le_of_ble_eq_true rfl⟩ ⟨Nat.le_refl 0, Nat.le_refl 0⟩ rfl hl.1 rfl (Nat.le_of_ble_eq_true rfl) dX9_crosses_44 (fun H locs hW => ?_)
          refine lv_bipush (v := 6) C.1 C.2.1 dX9_crosses_47 rfl ?_
          refine zr_irem C.1 C.2.1 dX9_crosses_49 (by decide) ?_
          obtain ⟨m_14, hc_13, h⟩ := doV_E h
          refine zr_cVV C hW (c_X9_put (x1 := x2) (x2 := 5) (x3 := (irem r_12 6)) hc_13 ) k_X9_put (zr_recv C hW id_20 zco_20 rfl) w_1129 ⟨Nat.le_of_ble_eq_true rfl, Nat.le_of_ble_eq_true rfl⟩ ⟨Nat.le_refl 0, Nat.le_refl 0⟩ rfl hl.1 rfl (Nat.le_of_ble_eq_true rfl) dX9_crosses_50 (fun H locs hW => ?_)
          refine lv_goto (tgt := 61) C.1 C.2.1 dX9_crosses_53 (by decide) ?_
          exact w_X9_crosses_61 C hq ih h  hW (lv_sub hl [0, 1, 2] rfl)
def f_X9_crosses (fu : Nat)  (x1 : Int32) (m : Mem) : Option Mem := seqM (upd m ((4000 + 1500 * 0) + (11 : Int32).toNatClampNeg) ((m ((4000 + 1500 * 0) + (11 : Int32).toNatClampNeg)) + 1)) (fun m_1 : Mem => f_X9_crosses_13 fu fu x1 0 m_1)
set_option maxHeartbeats 4000000 in
set_option maxRecDepth 100000 in
theorem w_X9_crosses {X : TX} {p : Program} {l : Launch} {e : Env} {s : State} {mi : MethodId} {args : Array Value} {below : List Frame} {meth : Method} {c : Code} {Q : State → Prop} {mE : Mem} (C : Cx X p s mi args c RX9 cX9_crosses 3) (hq : RetV X p l e (rmD 3) s mi args below meth c cX9_crosses Q mE) {fu : Nat} {x1 : Int32} {m : Mem} {H : Heap} {locs : List Loc} {ls : Array Slot} (h : f_X9_crosses fu x1 m = some mE)  (hW : Wd X s m H locs) (hl : lv_has ls 3 [(0, .ref (ad X 20 0)), (1, .int x1)]) : W p l e (rmD 3) s mi args below meth c H locs 0 0 Q (F0 mi 0 ls []) := by
  unfold f_X9_crosses at h
  refine lv_aload_n C.1 C.2.1 dX9_crosses_0 rfl (lv_at hl 0 rfl) ?_
  refine zg_X9_now C hW id_20 w_1004 dX9_crosses_1 ?_
  refine lv_bipush (v := 11) C.1 C.2.1 dX9_crosses_4 rfl ?_
  refine lv_dup2_11 C.1 C.2.1 dX9_crosses_6 rfl rfl ?_
  refine zal_21 C hW id_21_0 (inb_E (by decide)) dX9_crosses_7 ?_
  refine lv_iconst (v := 1) C.1 C.2.1 dX9_crosses_8 rfl ?_
  refine lv_iadd C.1 C.2.1 dX9_crosses_9 ?_
  obtain ⟨m_1, e_2, h⟩ := seqM_E h
  refine zas_21 C hW id_21_0 (inb_E (by decide)) e_2 dX9_crosses_10 (fun H locs hW => ?_)
  refine lv_iconst (v := 0) C.1 C.2.1 dX9_crosses_11 rfl ?_
  refine lv_istore_n (lv' := [(2, .int 0), (0, .ref (ad X 20 0)), (1, .int x1)]) C.1 C.2.1 dX9_crosses_12 rfl hl (by decide) rfl (fun ls hl => ?_)
  exact w_X9_crosses_13 C hq  fu h  hW (lv_sub hl [1, 2, 0] rfl)
theorem c_X9_crosses {X : TX} {l : Launch} {fu : Nat} {x1 : Int32} {m mE : Mem} (h : f_X9_crosses fu x1 m = some mE)  : MetV X l yX9_crosses cX9_crosses 3 3 [.ref (ad X 20 0), .int x1] m mE :=
  met_V (by decide) (Nat.le_of_ble_eq_true rfl) (fun p e s mi args below meth c ls Q C hq hW hl => w_X9_crosses C hq h  hW (lv_sub hl [0, 1] rfl))
theorem k_X9_crosses : CalV yX9_crosses cX9_crosses 3 none RX9 1 := ⟨w_1231, w_39, w_70, w_1232, by decide +kernel⟩
theorem dX9_turnsTo_0 : decode cX9_turnsTo 0 = .ok (.iconst 0, 1) := by decide +kernel
theorem dX9_turnsTo_1 : decode cX9_turnsTo 1 = .ok (.istore_n 2, 1) := by decide +kernel
theorem dX9_turnsTo_2 : decode cX9_turnsTo 2 = .ok (.iload_n 2, 1) := by decide +kernel
theorem dX9_turnsTo_3 : decode cX9_turnsTo 3 = .ok (.aload_n 0, 1) := by decide +kernel
theorem dX9_turnsTo_4 : decode cX9_turnsTo 4 = .ok (.getfield 9, 3) := by decide +kernel
theorem dX9_turnsTo_7 : decode cX9_turnsTo 7 = .ok (.iconst 1, 1) := by decide +kernel
theorem dX9_turnsTo_8 : decode cX9_turnsTo 8 = .ok (.iaload, 1) := by decide +kernel
theorem dX9_turnsTo_9 : decode cX9_turnsTo 9 = .ok (.if_icmp .ge 48, 3) := by decide +kernel
theorem dX9_turnsTo_12 : decode cX9_turnsTo 12 = .ok (.iload_n 1, 1) := by decide +kernel
theorem dX9_turnsTo_13 : decode cX9_turnsTo 13 = .ok (.iconst 1, 1) := by decide +kernel
theorem dX9_turnsTo_14 : decode cX9_turnsTo 14 = .ok (.iload_n 2, 1) := by decide +kernel
theorem dX9_turnsTo_15 : decode cX9_turnsTo 15 = .ok (.ishl, 1) := by decide +kernel
theorem dX9_turnsTo_16 : decode cX9_turnsTo 16 = .ok (.if_icmp .ne 35, 3) := by decide +kernel
theorem dX9_turnsTo_19 : decode cX9_turnsTo 19 = .ok (.aload_n 0, 1) := by decide +kernel
theorem dX9_turnsTo_20 : decode cX9_turnsTo 20 = .ok (.getfield 9, 3) := by decide +kernel
theorem dX9_turnsTo_23 : decode cX9_turnsTo 23 = .ok (.aload_n 0, 1) := by decide +kernel
theorem dX9_turnsTo_24 : decode cX9_turnsTo 24 = .ok (.getfield 9, 3) := by decide +kernel
theorem dX9_turnsTo_27 : decode cX9_turnsTo 27 = .ok (.bipush 14, 2) := by decide +kernel
theorem dX9_turnsTo_29 : decode cX9_turnsTo 29 = .ok (.iaload, 1) := by decide +kernel
theorem dX9_turnsTo_30 : decode cX9_turnsTo 30 = .ok (.iload_n 2, 1) := by decide +kernel
theorem dX9_turnsTo_31 : decode cX9_turnsTo 31 = .ok (.if_icmp .ne 8, 3) := by decide +kernel
theorem dX9_turnsTo_34 : decode cX9_turnsTo 34 = .ok (.bipush 9, 2) := by decide +kernel
theorem dX9_turnsTo_36 : decode cX9_turnsTo 36 = .ok (.goto 5, 3) := by decide +kernel
theorem dX9_turnsTo_39 : decode cX9_turnsTo 39 = .ok (.bipush 10, 2) := by decide +kernel
theorem dX9_turnsTo_41 : decode cX9_turnsTo 41 = .ok (.dup2, 1) := by decide +kernel
theorem dX9_turnsTo_42 : decode cX9_turnsTo 42 = .ok (.iaload, 1) := by decide +kernel
theorem dX9_turnsTo_43 : decode cX9_turnsTo 43 = .ok (.iconst 1, 1) := by decide +kernel
theorem dX9_turnsTo_44 : decode cX9_turnsTo 44 = .ok (.iadd, 1) := by decide +kernel
theorem dX9_turnsTo_45 : decode cX9_turnsTo 45 = .ok (.iastore, 1) := by decide +kernel
theorem dX9_turnsTo_46 : decode cX9_turnsTo 46 = .ok (.aload_n 0, 1) := by decide +kernel
theorem dX9_turnsTo_47 : decode cX9_turnsTo 47 = .ok (.iload_n 2, 1) := by decide +kernel
theorem dX9_turnsTo_48 : decode cX9_turnsTo 48 = .ok (.invokevirtual 130, 3) := by decide +kernel
theorem dX9_turnsTo_51 : decode cX9_turnsTo 51 = .ok (.iinc 2 1, 3) := by decide +kernel
theorem dX9_turnsTo_54 : decode cX9_turnsTo 54 = .ok (.goto (-52), 3) := by decide +kernel
theorem dX9_turnsTo_57 : decode cX9_turnsTo 57 = .ok (.return_, 1) := by decide +kernel
def f_X9_turnsTo_51 (fu : Nat) (k_2 : Int32 → Int32 → Mem → Option Mem) (x1 : Int32) (x2 : Int32) (m : Mem) : Option Mem := seqM (x2 + 1) (fun x_1 : Int32 => k_2 x1 x_1 m)
set_option maxHeartbeats 4000000 in
set_option maxRecDepth 100000 in
theorem w_X9_turnsTo_51 {X : TX} {p : Program} {l : Launch} {e : Env} {s : State} {mi : MethodId} {args : Array Value} {below : List Frame} {meth : Method} {c : Code} {Q : State → Prop} {mE : Mem} (C : Cx X p s mi args c RX9 cX9_turnsTo 3) (hq : RetV X p l e (rmD 3) s mi args below meth c cX9_turnsTo Q mE) {fu : Nat} {k_2 : Int32 → Int32 → Mem → Option Mem} (hk_2 : ∀ {x1 : Int32} {x2 : Int32} {m : Mem} {H : Heap} {locs : List Loc} {ls : Array Slot}, k_2 x1 x2 m = some mE → Wd X s m H locs → lv_has ls 3 [(0, .ref (ad X 20 0)), (1, .int x1), (2, .int x2)] → W p l e (rmD 3) s mi args below meth c H locs 0 0 Q (F0 mi 2 ls [])) {x1 : Int32} {x2 : Int32} {m : Mem} {H : Heap} {locs : List Loc} {ls : Array Slot} (h : f_X9_turnsTo_51 fu k_2 x1 x2 m = some mE)  (hW : Wd X s m H locs) (hl : lv_has ls 3 [(0, .ref (ad X 20 0)), (1, .int x1), (2, .int x2)]) : W p l e (rmD 3) s mi args below meth c H locs 0 0 Q (F0 mi 51 ls []) := by
  unfold f_X9_turnsTo_51 at h
  obtain ⟨x_1, e_2, h⟩ := seqM_E h
  refine lv_iinc (v := x_1) (lv' := [(2, .int x_1), (0, .ref (ad X 20 0)), (1, .int x1)]) C.1 C.2.1 dX9_turnsTo_51 hl (k := 2) rfl (by rw [e_2]; rfl) (by decide) rfl (fun ls hl => ?_)
  refine lv_goto (tgt := 2) C.1 C.2.1 dX9_turnsTo_54 (by decide) ?_
  exact hk_2 h  hW (lv_sub hl [1, 2, 0] rfl)
def f_X9_turnsTo_41 (fu : Nat) (k_2 : Int32 → Int32 → Mem → Option Mem) (x1 : Int32) (x2 : Int32) (y1 : Int32) (m : Mem) : Option Mem := chk (inb y1 1423) (chk (inb y1 1423) (seqM (upd m ((4000 + 1500 * 0) + y1.toNatClampNeg) ((m ((4000 + 1500 * 0) + y1.toNatClampNeg)) + 1)) (fun m_3 : Mem => doV (f_X9_begins fu x2 m_3) (fun m_6 => f_X9_turnsTo_51 fu k_2 x1 x2 m_6))))
set_option maxHeartbeats 4000000 in
set_option maxRecDepth 100000 in
theorem w_X9_turnsTo_41 {X : TX} {p : Program} {l : Launch} {e : Env} {s : State} {mi : MethodId} {args : Array Value} {below : List Frame} {meth : Method} {c : Code} {Q : State → Prop} {mE : Mem} (C : Cx X p s mi args c RX9 cX9_turnsTo 3) (hq : RetV X p l e (rmD 3) s mi args below meth c cX9_turnsTo Q mE) {fu : Nat} {k_2 : Int32 → Int32 → Mem → Option Mem} (hk_2 : ∀ {x1 : Int32} {x2 : Int32} {m : Mem} {H : Heap} {locs : List Loc} {ls : Array Slot}, k_2 x1 x2 m = some mE → Wd X s m H locs → lv_has ls 3 [(0, .ref (ad X 20 0)), (1, .int x1), (2, .int x2)] → W p l e (rmD 3) s mi args below meth c H locs 0 0 Q (F0 mi 2 ls [])) {x1 : Int32} {x2 : Int32} {y1 : Int32} {m : Mem} {H : Heap} {locs : List Loc} {ls : Array Slot} (h : f_X9_turnsTo_41 fu k_2 x1 x2 y1 m = some mE)  (hW : Wd X s m H locs) (hl : lv_has ls 3 [(0, .ref (ad X 20 0)), (1, .int x1), (2, .int x2)]) : W p l e (rmD 3) s mi args below meth c H locs 0 0 Q (F0 mi 41 ls [.int y1, .ref (ad X 21 0)]) := by
  unfold f_X9_turnsTo_41 at h
  refine lv_dup2_11 C.1 C.2.1 dX9_turnsTo_41 rfl rfl ?_
  obtain ⟨hb_1, h⟩ := chk_E h
  refine zal_21 C hW id_21_0 (inb_E hb_1) dX9_turnsTo_42 ?_
  refine lv_iconst (v := 1) C.1 C.2.1 dX9_turnsTo_43 rfl ?_
  refine lv_iadd C.1 C.2.1 dX9_turnsTo_44 ?_
  obtain ⟨hb_2, h⟩ := chk_E h
  obtain ⟨m_3, e_4, h⟩ := seqM_E h
  refine zas_21 C hW id_21_0 (inb_E hb_2) e_4 dX9_turnsTo_45 (fun H locs hW => ?_)
  refine lv_aload_n C.1 C.2.1 dX9_turnsTo_46 rfl (lv_at hl 0 rfl) ?_
  refine lv_iload_n C.1 C.2.1 dX9_turnsTo_47 rfl (lv_at hl 2 rfl) ?_
  obtain ⟨m_6, hc_5, h⟩ := doV_E h
  refine zr_cVV C hW (c_X9_begins (x1 := x2) hc_5 ) k_X9_begins (zr_recv C hW id_20 zco_20 rfl) w_1233 ⟨Nat.le_of_ble_eq_true rfl, Nat.le_of_ble_eq_true rfl⟩ ⟨Nat.le_refl 0, Nat.le_refl 0⟩ rfl hl.1 rfl (Nat.le_of_ble_eq_true rfl) dX9_turnsTo_48 (fun H locs hW => ?_)
  exact w_X9_turnsTo_51 C hq hk_2 h  hW (lv_sub hl [0, 1, 2] rfl)
def f_X9_turnsTo_2 (fu : Nat)  : Nat → Int32 → Int32 → Mem → Option Mem
  | 0, _, _, _ => none
  | n + 1, x1, x2, m => if (m ((4000 + 1500 * 0) + (1 : Int32).toNatClampNeg)) ≤ x2 then (some m) else (if x1 = (1 <<< (x2 &&& 31)) then (if (m ((4000 + 1500 * 0) + (14 : Int32).toNatClampNeg)) = x2 then (f_X9_turnsTo_41 fu (f_X9_turnsTo_2 fu n) x1 x2 9 m) else (f_X9_turnsTo_41 fu (f_X9_turnsTo_2 fu n) x1 x2 10 m)) else (f_X9_turnsTo_51 fu (f_X9_turnsTo_2 fu n) x1 x2 m))
set_option maxHeartbeats 4000000 in
set_option maxRecDepth 100000 in
theorem w_X9_turnsTo_2 {X : TX} {p : Program} {l : Launch} {e : Env} {s : State} {mi : MethodId} {args : Array Value} {below : List Frame} {meth : Method} {c : Code} {Q : State → Prop} {mE : Mem} (C : Cx X p s mi args c RX9 cX9_turnsTo 3) (hq : RetV X p l e (rmD 3) s mi args below meth c cX9_turnsTo Q mE) {fu : Nat} : ∀ (n : Nat) {x1 : Int32} {x2 : Int32} {m : Mem} {H : Heap} {locs : List Loc} {ls : Array Slot}, f_X9_turnsTo_2 fu n x1 x2 m = some mE → Wd X s m H locs → lv_has ls 3 [(0, .ref (ad X 20 0)), (1, .int x1), (2, .int x2)] → W p l e (rmD 3) s mi args below meth c H locs 0 0 Q (F0 mi 2 ls []) := by
  intro n
  induction n with
  | zero =>
    intro x1 x2 m H locs ls h hW hl
    rw [f_X9_turnsTo_2] at h
    cases h
  | succ n ih =>
    intro x1 x2 m H locs ls h hW hl
    rw [f_X9_turnsTo_2] at h
    refine lv_iload_n C.1 C.2.1 dX9_turnsTo_2 rfl (lv_at hl 2 rfl) ?_
    refine lv_aload_n C.1 C.2.1 dX9_turnsTo_3 rfl (lv_at hl 0 rfl) ?_
    refine zg_X9_now C hW id_20 w_1004 dX9_turnsTo_4 ?_
    refine lv_iconst (v := 1) C.1 C.2.1 dX9_turnsTo_7 rfl ?_
    refine zal_21 C hW id_21_0 (inb_E (by decide)) dX9_turnsTo_8 ?_
    refine lv_icmp_ge (tgt := 57) C.1 C.2.1 dX9_turnsTo_9 (by decide) (fun hc_3 => ?_) (fun hc_3 => ?_)
    · have h := ite_t hc_3 h
      exact ret_v h hq hW dX9_turnsTo_57
    · have h := ite_f hc_3 h
      refine lv_iload_n C.1 C.2.1 dX9_turnsTo_12 rfl (lv_at hl 1 rfl) ?_
      refine lv_iconst (v := 1) C.1 C.2.1 dX9_turnsTo_13 rfl ?_
      refine lv_iload_n C.1 C.2.1 dX9_turnsTo_14 rfl (lv_at hl 2 rfl) ?_
      refine lv_ishl C.1 C.2.1 dX9_turnsTo_15 ?_
      refine lv_icmp_ne (tgt := 51) C.1 C.2.1 dX9_turnsTo_16 (by decide) (fun hc_2 => ?_) (fun hc_2 => ?_)
      · have h := ite_f hc_2 h
        exact w_X9_turnsTo_51 C hq ih h  hW (lv_sub hl [0, 1, 2] rfl)
      · have h := ite_t hc_2 h
        refine lv_aload_n C.1 C.2.1 dX9_turnsTo_19 rfl (lv_at hl 0 rfl) ?_
        refine zg_X9_now C hW id_20 w_1004 dX9_turnsTo_20 ?_
        refine lv_aload_n C.1 C.2.1 dX9_turnsTo_23 rfl (lv_at hl 0 rfl) ?_
        refine zg_X9_now C hW id_20 w_1004 dX9_turnsTo_24 ?_
        refine lv_bipush (v := 14) C.1 C.2.1 dX9_turnsTo_27 rfl ?_
        refine zal_21 C hW id_21_0 (inb_E (by decide)) dX9_turnsTo_29 ?_
        refine lv_iload_n C.1 C.2.1 dX9_turnsTo_30 rfl (lv_at hl 2 rfl) ?_
        refine lv_icmp_ne (tgt := 39) C.1 C.2.1 dX9_turnsTo_31 (by decide) (fun hc_1 => ?_) (fun hc_1 => ?_)
        · have h := ite_f hc_1 h
          refine lv_bipush (v := 10) C.1 C.2.1 dX9_turnsTo_39 rfl ?_
          exact w_X9_turnsTo_41 C hq ih h  hW (lv_sub hl [0, 1, 2] rfl)
        · have h := ite_t hc_1 h
          refine lv_bipush (v := 9) C.1 C.2.1 dX9_turnsTo_34 rfl ?_
          refine lv_goto (tgt := 41) C.1 C.2.1 dX9_turnsTo_36 (by decide) ?_
          exact w_X9_turnsTo_41 C hq ih h  hW (lv_sub hl [0, 1, 2] rfl)
def f_X9_turnsTo (fu : Nat)  (x1 : Int32) (m : Mem) : Option Mem := f_X9_turnsTo_2 fu fu x1 0 m
set_option maxHeartbeats 4000000 in
set_option maxRecDepth 100000 in
theorem w_X9_turnsTo {X : TX} {p : Program} {l : Launch} {e : Env} {s : State} {mi : MethodId} {args : Array Value} {below : List Frame} {meth : Method} {c : Code} {Q : State → Prop} {mE : Mem} (C : Cx X p s mi args c RX9 cX9_turnsTo 3) (hq : RetV X p l e (rmD 3) s mi args below meth c cX9_turnsTo Q mE) {fu : Nat} {x1 : Int32} {m : Mem} {H : Heap} {locs : List Loc} {ls : Array Slot} (h : f_X9_turnsTo fu x1 m = some mE)  (hW : Wd X s m H locs) (hl : lv_has ls 3 [(0, .ref (ad X 20 0)), (1, .int x1)]) : W p l e (rmD 3) s mi args below meth c H locs 0 0 Q (F0 mi 0 ls []) := by
  unfold f_X9_turnsTo at h
  refine lv_iconst (v := 0) C.1 C.2.1 dX9_turnsTo_0 rfl ?_
  refine lv_istore_n (lv' := [(2, .int 0), (0, .ref (ad X 20 0)), (1, .int x1)]) C.1 C.2.1 dX9_turnsTo_1 rfl hl (by decide) rfl (fun ls hl => ?_)
  exact w_X9_turnsTo_2 C hq  fu h  hW (lv_sub hl [1, 2, 0] rfl)
theorem c_X9_turnsTo {X : TX} {l : Launch} {fu : Nat} {x1 : Int32} {m mE : Mem} (h : f_X9_turnsTo fu x1 m = some mE)  : MetV X l yX9_turnsTo cX9_turnsTo 3 3 [.ref (ad X 20 0), .int x1] m mE :=
  met_V (by decide) (Nat.le_of_ble_eq_true rfl) (fun p e s mi args below meth c ls Q C hq hW hl => w_X9_turnsTo C hq h  hW (lv_sub hl [0, 1] rfl))
theorem k_X9_turnsTo : CalV yX9_turnsTo cX9_turnsTo 3 none RX9 1 := ⟨w_1239, w_41, w_70, w_1240, by decide +kernel⟩
theorem dX9_counts_0 : decode cX9_counts 0 = .ok (.aload_n 0, 1) := by decide +kernel
theorem dX9_counts_1 : decode cX9_counts 1 = .ok (.getfield 9, 3) := by decide +kernel
theorem dX9_counts_4 : decode cX9_counts 4 = .ok (.bipush 15, 2) := by decide +kernel
theorem dX9_counts_6 : decode cX9_counts 6 = .ok (.iaload, 1) := by decide +kernel
theorem dX9_counts_7 : decode cX9_counts 7 = .ok (.iconst 1, 1) := by decide +kernel
theorem dX9_counts_8 : decode cX9_counts 8 = .ok (.isub, 1) := by decide +kernel
theorem dX9_counts_9 : decode cX9_counts 9 = .ok (.istore_n 2, 1) := by decide +kernel
theorem dX9_counts_10 : decode cX9_counts 10 = .ok (.iload_n 2, 1) := by decide +kernel
theorem dX9_counts_11 : decode cX9_counts 11 = .ok (.ifCond .lt 30, 3) := by decide +kernel
theorem dX9_counts_14 : decode cX9_counts 14 = .ok (.aload_n 0, 1) := by decide +kernel
theorem dX9_counts_15 : decode cX9_counts 15 = .ok (.getfield 9, 3) := by decide +kernel
theorem dX9_counts_18 : decode cX9_counts 18 = .ok (.bipush 51, 2) := by decide +kernel
theorem dX9_counts_20 : decode cX9_counts 20 = .ok (.iconst 2, 1) := by decide +kernel
theorem dX9_counts_21 : decode cX9_counts 21 = .ok (.iload_n 2, 1) := by decide +kernel
theorem dX9_counts_22 : decode cX9_counts 22 = .ok (.imul, 1) := by decide +kernel
theorem dX9_counts_23 : decode cX9_counts 23 = .ok (.iadd, 1) := by decide +kernel
theorem dX9_counts_24 : decode cX9_counts 24 = .ok (.iaload, 1) := by decide +kernel
theorem dX9_counts_25 : decode cX9_counts 25 = .ok (.sipush 1000, 3) := by decide +kernel
theorem dX9_counts_28 : decode cX9_counts 28 = .ok (.idiv, 1) := by decide +kernel
theorem dX9_counts_29 : decode cX9_counts 29 = .ok (.iload_n 1, 1) := by decide +kernel
theorem dX9_counts_30 : decode cX9_counts 30 = .ok (.if_icmp .ne 5, 3) := by decide +kernel
theorem dX9_counts_33 : decode cX9_counts 33 = .ok (.iload_n 2, 1) := by decide +kernel
theorem dX9_counts_34 : decode cX9_counts 34 = .ok (.ireturn, 1) := by decide +kernel
theorem dX9_counts_35 : decode cX9_counts 35 = .ok (.iinc 2 (-1), 3) := by decide +kernel
theorem dX9_counts_38 : decode cX9_counts 38 = .ok (.goto (-28), 3) := by decide +kernel
theorem dX9_counts_41 : decode cX9_counts 41 = .ok (.iconst (-1), 1) := by decide +kernel
theorem dX9_counts_42 : decode cX9_counts 42 = .ok (.ireturn, 1) := by decide +kernel
def f_X9_counts_10 (fu : Nat)  : Nat → Int32 → Int32 → Mem → Option (Int32 × Mem)
  | 0, _, _, _ => none
  | n + 1, x1, x2, m => if x2 < 0 then (some ((-1), m)) else (chk (inb (51 + (2 * x2)) 1423) (if ((m ((4000 + 1500 * 0) + (51 + (2 * x2)).toNatClampNeg)) / 1000) = x1 then (some (x2, m)) else (seqM (x2 + (-1)) (fun x_2 : Int32 => f_X9_counts_10 fu n x1 x_2 m))))
set_option maxHeartbeats 4000000 in
set_option maxRecDepth 100000 in
theorem w_X9_counts_10 {X : TX} {p : Program} {l : Launch} {e : Env} {s : State} {mi : MethodId} {args : Array Value} {below : List Frame} {meth : Method} {c : Code} {Q : State → Prop} {r : Int32} {mE : Mem} (C : Cx X p s mi args c RX9 cX9_counts 3) (hq : RetI X p l e (rmD 0) s mi args below meth c cX9_counts .int Q r mE) {fu : Nat} : ∀ (n : Nat) {x1 : Int32} {x2 : Int32} {m : Mem} {H : Heap} {locs : List Loc} {ls : Array Slot}, f_X9_counts_10 fu n x1 x2 m = some (r, mE) → Wd X s m H locs → lv_has ls 3 [(0, .ref (ad X 20 0)), (1, .int x1), (2, .int x2)] → W p l e (rmD 0) s mi args below meth c H locs 0 0 Q (F0 mi 10 ls []) := by
  intro n
  induction n with
  | zero =>
    intro x1 x2 m H locs ls h hW hl
    rw [f_X9_counts_10] at h
    cases h
  | succ n ih =>
    intro x1 x2 m H locs ls h hW hl
    rw [f_X9_counts_10] at h
    refine lv_iload_n C.1 C.2.1 dX9_counts_10 rfl (lv_at hl 2 rfl) ?_
    refine lv_if_lt (tgt := 41) C.1 C.2.1 dX9_counts_11 (by decide) (fun hc_5 => ?_) (fun hc_5 => ?_)
    · have h := ite_t hc_5 h
      refine lv_iconst (v := (-1)) C.1 C.2.1 dX9_counts_41 rfl ?_
      exact ret_i h hq rfl hW dX9_counts_42
    · have h := ite_f hc_5 h
      refine lv_aload_n C.1 C.2.1 dX9_counts_14 rfl (lv_at hl 0 rfl) ?_
      refine zg_X9_now C hW id_20 w_1004 dX9_counts_15 ?_
      refine lv_bipush (v := 51) C.1 C.2.1 dX9_counts_18 rfl ?_
      refine lv_iconst (v := 2) C.1 C.2.1 dX9_counts_20 rfl ?_
      refine lv_iload_n C.1 C.2.1 dX9_counts_21 rfl (lv_at hl 2 rfl) ?_
      refine lv_imul C.1 C.2.1 dX9_counts_22 ?_
      refine lv_iadd C.1 C.2.1 dX9_counts_23 ?_
      obtain ⟨hb_1, h⟩ := chk_E h
      refine zal_21 C hW id_21_0 (inb_E hb_1) dX9_counts_24 ?_
      refine lv_sipush (v := 1000) C.1 C.2.1 dX9_counts_25 rfl ?_
      refine lv_idiv C.1 C.2.1 dX9_counts_28 (by decide) ?_
      refine lv_iload_n C.1 C.2.1 dX9_counts_29 rfl (lv_at hl 1 rfl) ?_
      refine lv_icmp_ne (tgt := 35) C.1 C.2.1 dX9_counts_30 (by decide) (fun hc_4 => ?_) (fun hc_4 => ?_)
      · have h := ite_f hc_4 h
        obtain ⟨x_2, e_3, h⟩ := seqM_E h
        refine lv_iinc (v := x_2) (lv' := [(2, .int x_2), (0, .ref (ad X 20 0)), (1, .int x1)]) C.1 C.2.1 dX9_counts_35 hl (k := 2) rfl (by rw [e_3]; rfl) (by decide) rfl (fun ls hl => ?_)
        refine lv_goto (tgt := 10) C.1 C.2.1 dX9_counts_38 (by decide) ?_
        exact ih h  hW (lv_sub hl [1, 2, 0] rfl)
      · have h := ite_t hc_4 h
        refine lv_iload_n C.1 C.2.1 dX9_counts_33 rfl (lv_at hl 2 rfl) ?_
        exact ret_i h hq rfl hW dX9_counts_34
def f_X9_counts (fu : Nat)  (x1 : Int32) (m : Mem) : Option (Int32 × Mem) := seqM ((m ((4000 + 1500 * 0) + (15 : Int32).toNatClampNeg)) - 1) (fun x_1 : Int32 => f_X9_counts_10 fu fu x1 x_1 m)
set_option maxHeartbeats 4000000 in
set_option maxRecDepth 100000 in
theorem w_X9_counts {X : TX} {p : Program} {l : Launch} {e : Env} {s : State} {mi : MethodId} {args : Array Value} {below : List Frame} {meth : Method} {c : Code} {Q : State → Prop} {r : Int32} {mE : Mem} (C : Cx X p s mi args c RX9 cX9_counts 3) (hq : RetI X p l e (rmD 0) s mi args below meth c cX9_counts .int Q r mE) {fu : Nat} {x1 : Int32} {m : Mem} {H : Heap} {locs : List Loc} {ls : Array Slot} (h : f_X9_counts fu x1 m = some (r, mE))  (hW : Wd X s m H locs) (hl : lv_has ls 3 [(0, .ref (ad X 20 0)), (1, .int x1)]) : W p l e (rmD 0) s mi args below meth c H locs 0 0 Q (F0 mi 0 ls []) := by
  unfold f_X9_counts at h
  refine lv_aload_n C.1 C.2.1 dX9_counts_0 rfl (lv_at hl 0 rfl) ?_
  refine zg_X9_now C hW id_20 w_1004 dX9_counts_1 ?_
  refine lv_bipush (v := 15) C.1 C.2.1 dX9_counts_4 rfl ?_
  refine zal_21 C hW id_21_0 (inb_E (by decide)) dX9_counts_6 ?_
  refine lv_iconst (v := 1) C.1 C.2.1 dX9_counts_7 rfl ?_
  refine lv_isub C.1 C.2.1 dX9_counts_8 ?_
  obtain ⟨x_1, e_2, h⟩ := seqM_E h
  refine lv_name e_2 ?_
  refine lv_istore_n (lv' := [(2, .int x_1), (0, .ref (ad X 20 0)), (1, .int x1)]) C.1 C.2.1 dX9_counts_9 rfl hl (by decide) rfl (fun ls hl => ?_)
  exact w_X9_counts_10 C hq  fu h  hW (lv_sub hl [1, 2, 0] rfl)
theorem c_X9_counts {X : TX} {l : Launch} {fu : Nat} {x1 : Int32} {m mE : Mem} {r : Int32} (h : f_X9_counts fu x1 m = some (r, mE))  : MetI X l yX9_counts cX9_counts 3 .int 0 [.ref (ad X 20 0), .int x1] m r mE :=
  met_I (by decide) (Nat.le_of_ble_eq_true rfl) (fun p e s mi args below meth c ls Q C hq hW hl => w_X9_counts C hq h  hW (lv_sub hl [0, 1] rfl))
theorem k_X9_counts : CalV yX9_counts cX9_counts 3 (some .int) RX9 1 := ⟨w_1251, w_44, w_70, w_1252, by decide +kernel⟩
theorem dX9_two_0 : decode cX9_two 0 = .ok (.iload_n 0, 1) := by decide +kernel
theorem dX9_two_1 : decode cX9_two 1 = .ok (.tableswitch 120 (-8) (-1) #[116, 112, 108, 97, 86, 75, 61, 47], 47) := by decide +kernel
theorem dX9_two_48 : decode cX9_two 48 = .ok (.iload_n 1, 1) := by decide +kernel
theorem dX9_two_49 : decode cX9_two 49 = .ok (.ifCond .ne 7, 3) := by decide +kernel
theorem dX9_two_52 : decode cX9_two 52 = .ok (.iload_n 2, 1) := by decide +kernel
theorem dX9_two_53 : decode cX9_two 53 = .ok (.ifCond .eq 7, 3) := by decide +kernel
theorem dX9_two_56 : decode cX9_two 56 = .ok (.iconst 1, 1) := by decide +kernel
theorem dX9_two_57 : decode cX9_two 57 = .ok (.goto 4, 3) := by decide +kernel
theorem dX9_two_60 : decode cX9_two 60 = .ok (.iconst 0, 1) := by decide +kernel
theorem dX9_two_61 : decode cX9_two 61 = .ok (.ireturn, 1) := by decide +kernel
theorem dX9_two_62 : decode cX9_two 62 = .ok (.iload_n 1, 1) := by decide +kernel
theorem dX9_two_63 : decode cX9_two 63 = .ok (.ifCond .eq 11, 3) := by decide +kernel
theorem dX9_two_66 : decode cX9_two 66 = .ok (.iload_n 2, 1) := by decide +kernel
theorem dX9_two_67 : decode cX9_two 67 = .ok (.ifCond .eq 7, 3) := by decide +kernel
theorem dX9_two_70 : decode cX9_two 70 = .ok (.iconst 1, 1) := by decide +kernel
theorem dX9_two_71 : decode cX9_two 71 = .ok (.goto 4, 3) := by decide +kernel
theorem dX9_two_74 : decode cX9_two 74 = .ok (.iconst 0, 1) := by decide +kernel
theorem dX9_two_75 : decode cX9_two 75 = .ok (.ireturn, 1) := by decide +kernel
theorem dX9_two_76 : decode cX9_two 76 = .ok (.iload_n 1, 1) := by decide +kernel
theorem dX9_two_77 : decode cX9_two 77 = .ok (.iload_n 2, 1) := by decide +kernel
theorem dX9_two_78 : decode cX9_two 78 = .ok (.if_icmp .ge 7, 3) := by decide +kernel
theorem dX9_two_81 : decode cX9_two 81 = .ok (.iconst 1, 1) := by decide +kernel
theorem dX9_two_82 : decode cX9_two 82 = .ok (.goto 4, 3) := by decide +kernel
theorem dX9_two_85 : decode cX9_two 85 = .ok (.iconst 0, 1) := by decide +kernel
theorem dX9_two_86 : decode cX9_two 86 = .ok (.ireturn, 1) := by decide +kernel
theorem dX9_two_87 : decode cX9_two 87 = .ok (.iload_n 1, 1) := by decide +kernel
theorem dX9_two_88 : decode cX9_two 88 = .ok (.iload_n 2, 1) := by decide +kernel
theorem dX9_two_89 : decode cX9_two 89 = .ok (.if_icmp .ne 7, 3) := by decide +kernel
theorem dX9_two_92 : decode cX9_two 92 = .ok (.iconst 1, 1) := by decide +kernel
theorem dX9_two_93 : decode cX9_two 93 = .ok (.goto 4, 3) := by decide +kernel
theorem dX9_two_96 : decode cX9_two 96 = .ok (.iconst 0, 1) := by decide +kernel
theorem dX9_two_97 : decode cX9_two 97 = .ok (.ireturn, 1) := by decide +kernel
theorem dX9_two_98 : decode cX9_two 98 = .ok (.iload_n 1, 1) := by decide +kernel
theorem dX9_two_99 : decode cX9_two 99 = .ok (.iload_n 2, 1) := by decide +kernel
theorem dX9_two_100 : decode cX9_two 100 = .ok (.if_icmp .le 7, 3) := by decide +kernel
theorem dX9_two_103 : decode cX9_two 103 = .ok (.iconst 1, 1) := by decide +kernel
theorem dX9_two_104 : decode cX9_two 104 = .ok (.goto 4, 3) := by decide +kernel
theorem dX9_two_107 : decode cX9_two 107 = .ok (.iconst 0, 1) := by decide +kernel
theorem dX9_two_108 : decode cX9_two 108 = .ok (.ireturn, 1) := by decide +kernel
theorem dX9_two_109 : decode cX9_two 109 = .ok (.iload_n 1, 1) := by decide +kernel
theorem dX9_two_110 : decode cX9_two 110 = .ok (.iload_n 2, 1) := by decide +kernel
theorem dX9_two_111 : decode cX9_two 111 = .ok (.iadd, 1) := by decide +kernel
theorem dX9_two_112 : decode cX9_two 112 = .ok (.ireturn, 1) := by decide +kernel
theorem dX9_two_113 : decode cX9_two 113 = .ok (.iload_n 1, 1) := by decide +kernel
theorem dX9_two_114 : decode cX9_two 114 = .ok (.iload_n 2, 1) := by decide +kernel
theorem dX9_two_115 : decode cX9_two 115 = .ok (.isub, 1) := by decide +kernel
theorem dX9_two_116 : decode cX9_two 116 = .ok (.ireturn, 1) := by decide +kernel
theorem dX9_two_117 : decode cX9_two 117 = .ok (.iload_n 1, 1) := by decide +kernel
theorem dX9_two_118 : decode cX9_two 118 = .ok (.iload_n 2, 1) := by decide +kernel
theorem dX9_two_119 : decode cX9_two 119 = .ok (.imul, 1) := by decide +kernel
theorem dX9_two_120 : decode cX9_two 120 = .ok (.ireturn, 1) := by decide +kernel
theorem dX9_two_121 : decode cX9_two 121 = .ok (.iload_n 2, 1) := by decide +kernel
theorem dX9_two_122 : decode cX9_two 122 = .ok (.ifCond .ne 7, 3) := by decide +kernel
theorem dX9_two_125 : decode cX9_two 125 = .ok (.iconst 0, 1) := by decide +kernel
theorem dX9_two_126 : decode cX9_two 126 = .ok (.goto 6, 3) := by decide +kernel
theorem dX9_two_129 : decode cX9_two 129 = .ok (.iload_n 1, 1) := by decide +kernel
theorem dX9_two_130 : decode cX9_two 130 = .ok (.iload_n 2, 1) := by decide +kernel
theorem dX9_two_131 : decode cX9_two 131 = .ok (.idiv, 1) := by decide +kernel
theorem dX9_two_132 : decode cX9_two 132 = .ok (.ireturn, 1) := by decide +kernel
def f_X9_two_56 (fu : Nat)   (m : Mem) : Option (Int32 × Mem) := some (1, m)
set_option maxHeartbeats 4000000 in
set_option maxRecDepth 100000 in
theorem w_X9_two_56 {X : TX} {p : Program} {l : Launch} {e : Env} {s : State} {mi : MethodId} {args : Array Value} {below : List Frame} {meth : Method} {c : Code} {Q : State → Prop} {r : Int32} {mE : Mem} (C : Cx X p s mi args c RX9 cX9_two 3) (hq : RetI X p l e (rmD 0) s mi args below meth c cX9_two .int Q r mE) {fu : Nat}  {m : Mem} {H : Heap} {locs : List Loc} {ls : Array Slot} (h : f_X9_two_56 fu  m = some (r, mE))  (hW : Wd X s m H locs) (hl : lv_has ls 3 []) : W p l e (rmD 0) s mi args below meth c H locs 0 0 Q (F0 mi 56 ls []) := by
  unfold f_X9_two_56 at h
  refine lv_iconst (v := 1) C.1 C.2.1 dX9_two_56 rfl ?_
  refine lv_goto (tgt := 61) C.1 C.2.1 dX9_two_57 (by decide) ?_
  exact ret_i h hq rfl hW dX9_two_61
def f_X9_two (fu : Nat)  (x0 : Int32) (x1 : Int32) (x2 : Int32) (m : Mem) : Option (Int32 × Mem) := if x0 = (-8) then (some ((x1 * x2), m)) else (if x0 = (-7) then (some ((x1 - x2), m)) else (if x0 = (-6) then (some ((x1 + x2), m)) else (if x0 = (-5) then (if x1 ≤ x2 then (some (0, m)) else (some (1, m))) else (if x0 = (-4) then (if x1 = x2 then (some (1, m)) else (some (0, m))) else (if x0 = (-3) then (if x2 ≤ x1 then (some (0, m)) else (some (1, m))) else (if x0 = (-2) then (if x1 = 0 then (some (0, m)) else (if x2 = 0 then (some (0, m)) else (some (1, m)))) else (if x0 = (-1) then (if x1 = 0 then (if x2 = 0 then (some (0, m)) else (f_X9_two_56 fu m)) else (f_X9_two_56 fu m)) else (if x2 = 0 then (some (0, m)) else (chk (nz x2) (some ((x1 / x2), m)))))))))))
set_option maxHeartbeats 4000000 in
set_option maxRecDepth 100000 in
theorem w_X9_two {X : TX} {p : Program} {l : Launch} {e : Env} {s : State} {mi : MethodId} {args : Array Value} {below : List Frame} {meth : Method} {c : Code} {Q : State → Prop} {r : Int32} {mE : Mem} (C : Cx X p s mi args c RX9 cX9_two 3) (hq : RetI X p l e (rmD 0) s mi args below meth c cX9_two .int Q r mE) {fu : Nat} {x0 : Int32} {x1 : Int32} {x2 : Int32} {m : Mem} {H : Heap} {locs : List Loc} {ls : Array Slot} (h : f_X9_two fu x0 x1 x2 m = some (r, mE))  (hW : Wd X s m H locs) (hl : lv_has ls 3 [(0, .int x0), (1, .int x1), (2, .int x2)]) : W p l e (rmD 0) s mi args below meth c H locs 0 0 Q (F0 mi 0 ls []) := by
  unfold f_X9_two at h
  refine lv_iload_n C.1 C.2.1 dX9_two_0 rfl (lv_at hl 0 rfl) ?_
  by_cases hc_1 : x0 = (-8)
  · have h := ite_t hc_1 h
    refine lv_tableIn (tgt := 117) C.1 C.2.1 dX9_two_1 (by rw [hc_1]; decide) (by rw [hc_1]; decide) (by rw [hc_1]; rfl) (by decide) ?_
    refine lv_iload_n C.1 C.2.1 dX9_two_117 rfl (lv_at hl 1 rfl) ?_
    refine lv_iload_n C.1 C.2.1 dX9_two_118 rfl (lv_at hl 2 rfl) ?_
    refine lv_imul C.1 C.2.1 dX9_two_119 ?_
    exact ret_i h hq rfl hW dX9_two_120
  · have h := ite_f hc_1 h
    by_cases hc_2 : x0 = (-7)
    · have h := ite_t hc_2 h
      refine lv_tableIn (tgt := 113) C.1 C.2.1 dX9_two_1 (by rw [hc_2]; decide) (by rw [hc_2]; decide) (by rw [hc_2]; rfl) (by decide) ?_
      refine lv_iload_n C.1 C.2.1 dX9_two_113 rfl (lv_at hl 1 rfl) ?_
      refine lv_iload_n C.1 C.2.1 dX9_two_114 rfl (lv_at hl 2 rfl) ?_
      refine lv_isub C.1 C.2.1 dX9_two_115 ?_
      exact ret_i h hq rfl hW dX9_two_116
    · have h := ite_f hc_2 h
      by_cases hc_3 : x0 = (-6)
      · have h := ite_t hc_3 h
        refine lv_tableIn (tgt := 109) C.1 C.2.1 dX9_two_1 (by rw [hc_3]; decide) (by rw [hc_3]; decide) (by rw [hc_3]; rfl) (by decide) ?_
        refine lv_iload_n C.1 C.2.1 dX9_two_109 rfl (lv_at hl 1 rfl) ?_
        refine lv_iload_n C.1 C.2.1 dX9_two_110 rfl (lv_at hl 2 rfl) ?_
        refine lv_iadd C.1 C.2.1 dX9_two_111 ?_
        exact ret_i h hq rfl hW dX9_two_112
      · have h := ite_f hc_3 h
        by_cases hc_5 : x0 = (-5)
        · have h := ite_t hc_5 h
          refine lv_tableIn (tgt := 98) C.1 C.2.1 dX9_two_1 (by rw [hc_5]; decide) (by rw [hc_5]; decide) (by rw [hc_5]; rfl) (by decide) ?_
          refine lv_iload_n C.1 C.2.1 dX9_two_98 rfl (lv_at hl 1 rfl) ?_
          refine lv_iload_n C.1 C.2.1 dX9_two_99 rfl (lv_at hl 2 rfl) ?_
          refine lv_icmp_le (tgt := 107) C.1 C.2.1 dX9_two_100 (by decide) (fun hc_4 => ?_) (fun hc_4 => ?_)
          · have h := ite_t hc_4 h
            refine lv_iconst (v := 0) C.1 C.2.1 dX9_two_107 rfl ?_
            exact ret_i h hq rfl hW dX9_two_108
          · have h := ite_f hc_4 h
            refine lv_iconst (v := 1) C.1 C.2.1 dX9_two_103 rfl ?_
            refine lv_goto (tgt := 108) C.1 C.2.1 dX9_two_104 (by decide) ?_
            exact ret_i h hq rfl hW dX9_two_108
        · have h := ite_f hc_5 h
          by_cases hc_7 : x0 = (-4)
          · have h := ite_t hc_7 h
            refine lv_tableIn (tgt := 87) C.1 C.2.1 dX9_two_1 (by rw [hc_7]; decide) (by rw [hc_7]; decide) (by rw [hc_7]; rfl) (by decide) ?_
            refine lv_iload_n C.1 C.2.1 dX9_two_87 rfl (lv_at hl 1 rfl) ?_
            refine lv_iload_n C.1 C.2.1 dX9_two_88 rfl (lv_at hl 2 rfl) ?_
            refine lv_icmp_ne (tgt := 96) C.1 C.2.1 dX9_two_89 (by decide) (fun hc_6 => ?_) (fun hc_6 => ?_)
            · have h := ite_f hc_6 h
              refine lv_iconst (v := 0) C.1 C.2.1 dX9_two_96 rfl ?_
              exact ret_i h hq rfl hW dX9_two_97
            · have h := ite_t hc_6 h
              refine lv_iconst (v := 1) C.1 C.2.1 dX9_two_92 rfl ?_
              refine lv_goto (tgt := 97) C.1 C.2.1 dX9_two_93 (by decide) ?_
              exact ret_i h hq rfl hW dX9_two_97
          · have h := ite_f hc_7 h
            by_cases hc_9 : x0 = (-3)
            · have h := ite_t hc_9 h
              refine lv_tableIn (tgt := 76) C.1 C.2.1 dX9_two_1 (by rw [hc_9]; decide) (by rw [hc_9]; decide) (by rw [hc_9]; rfl) (by decide) ?_
              refine lv_iload_n C.1 C.2.1 dX9_two_76 rfl (lv_at hl 1 rfl) ?_
              refine lv_iload_n C.1 C.2.1 dX9_two_77 rfl (lv_at hl 2 rfl) ?_
              refine lv_icmp_ge (tgt := 85) C.1 C.2.1 dX9_two_78 (by decide) (fun hc_8 => ?_) (fun hc_8 => ?_)
              · have h := ite_t hc_8 h
                refine lv_iconst (v := 0) C.1 C.2.1 dX9_two_85 rfl ?_
                exact ret_i h hq rfl hW dX9_two_86
              · have h := ite_f hc_8 h
                refine lv_iconst (v := 1) C.1 C.2.1 dX9_two_81 rfl ?_
                refine lv_goto (tgt := 86) C.1 C.2.1 dX9_two_82 (by decide) ?_
                exact ret_i h hq rfl hW dX9_two_86
            · have h := ite_f hc_9 h
              by_cases hc_12 : x0 = (-2)
              · have h := ite_t hc_12 h
                refine lv_tableIn (tgt := 62) C.1 C.2.1 dX9_two_1 (by rw [hc_12]; decide) (by rw [hc_12]; decide) (by rw [hc_12]; rfl) (by decide) ?_
                refine lv_iload_n C.1 C.2.1 dX9_two_62 rfl (lv_at hl 1 rfl) ?_
                refine lv_if_eq (tgt := 74) C.1 C.2.1 dX9_two_63 (by decide) (fun hc_11 => ?_) (fun hc_11 => ?_)
                · have h := ite_t hc_11 h
                  refine lv_iconst (v := 0) C.1 C.2.1 dX9_two_74 rfl ?_
                  exact ret_i h hq rfl hW dX9_two_75
                · have h := ite_f hc_11 h
                  refine lv_iload_n C.1 C.2.1 dX9_two_66 rfl (lv_at hl 2 rfl) ?_
                  refine lv_if_eq (tgt := 74) C.1 C.2.1 dX9_two_67 (by decide) (fun hc_10 => ?_) (fun hc_10 => ?_)
                  · have h := ite_t hc_10 h
                    refine lv_iconst (v := 0) C.1 C.2.1 dX9_two_74 rfl ?_
                    exact ret_i h hq rfl hW dX9_two_75
                  · have h := ite_f hc_10 h
                    refine lv_iconst (v := 1) C.1 C.2.1 dX9_two_70 rfl ?_
                    refine lv_goto (tgt := 75) C.1 C.2.1 dX9_two_71 (by decide) ?_
                    exact ret_i h hq rfl hW dX9_two_75
              · have h := ite_f hc_12 h
                by_cases hc_15 : x0 = (-1)
                · have h := ite_t hc_15 h
                  refine lv_tableIn (tgt := 48) C.1 C.2.1 dX9_two_1 (by rw [hc_15]; decide) (by rw [hc_15]; decide) (by rw [hc_15]; rfl) (by decide) ?_
                  refine lv_iload_n C.1 C.2.1 dX9_two_48 rfl (lv_at hl 1 rfl) ?_
                  refine lv_if_ne (tgt := 56) C.1 C.2.1 dX9_two_49 (by decide) (fun hc_14 => ?_) (fun hc_14 => ?_)
                  · have h := ite_f hc_14 h
                    exact w_X9_two_56 C hq  h  hW (lv_sub hl [] rfl)
                  · have h := ite_t hc_14 h
                    refine lv_iload_n C.1 C.2.1 dX9_two_52 rfl (lv_at hl 2 rfl) ?_
                    refine lv_if_eq (tgt := 60) C.1 C.2.1 dX9_two_53 (by decide) (fun hc_13 => ?_) (fun hc_13 => ?_)
                    · have h := ite_t hc_13 h
                      refine lv_iconst (v := 0) C.1 C.2.1 dX9_two_60 rfl ?_
                      exact ret_i h hq rfl hW dX9_two_61
                    · have h := ite_f hc_13 h
                      exact w_X9_two_56 C hq  h  hW (lv_sub hl [] rfl)
                · have h := ite_f hc_15 h
                  have nhc_1 := ne_k (-8) rfl hc_1
                  have nhc_2 := ne_k (-7) rfl hc_2
                  have nhc_3 := ne_k (-6) rfl hc_3
                  have nhc_5 := ne_k (-5) rfl hc_5
                  have nhc_7 := ne_k (-4) rfl hc_7
                  have nhc_9 := ne_k (-3) rfl hc_9
                  have nhc_12 := ne_k (-2) rfl hc_12
                  have nhc_15 := ne_k (-1) rfl hc_15
                  refine lv_tableOut (tgt := 121) C.1 C.2.1 dX9_two_1 (by omega) (by decide) ?_
                  refine lv_iload_n C.1 C.2.1 dX9_two_121 rfl (lv_at hl 2 rfl) ?_
                  refine lv_if_ne (tgt := 129) C.1 C.2.1 dX9_two_122 (by decide) (fun hc_17 => ?_) (fun hc_17 => ?_)
                  · have h := ite_f hc_17 h
                    refine lv_iload_n C.1 C.2.1 dX9_two_129 rfl (lv_at hl 1 rfl) ?_
                    refine lv_iload_n C.1 C.2.1 dX9_two_130 rfl (lv_at hl 2 rfl) ?_
                    obtain ⟨hb_16, h⟩ := chk_E h
                    refine lv_idiv C.1 C.2.1 dX9_two_131 (nz_E hb_16) ?_
                    exact ret_i h hq rfl hW dX9_two_132
                  · have h := ite_t hc_17 h
                    refine lv_iconst (v := 0) C.1 C.2.1 dX9_two_125 rfl ?_
                    refine lv_goto (tgt := 132) C.1 C.2.1 dX9_two_126 (by decide) ?_
                    exact ret_i h hq rfl hW dX9_two_132
theorem c_X9_two {X : TX} {l : Launch} {fu : Nat} {x0 : Int32} {x1 : Int32} {x2 : Int32} {m mE : Mem} {r : Int32} (h : f_X9_two fu x0 x1 x2 m = some (r, mE))  : MetI X l yX9_two cX9_two 3 .int 0 [.int x0, .int x1, .int x2] m r mE :=
  met_I (by decide) (Nat.le_of_ble_eq_true rfl) (fun p e s mi args below meth c ls Q C hq hW hl => w_X9_two C hq h  hW (lv_sub hl [0, 1, 2] rfl))
theorem k_X9_two : CalS yX9_two cX9_two 3 (some .int) 3 := ⟨w_1258, w_70, w_1259, by decide +kernel⟩
theorem dX9_worksOut_0 : decode cX9_worksOut 0 = .ok (.iconst 0, 1) := by decide +kernel
theorem dX9_worksOut_1 : decode cX9_worksOut 1 = .ok (.istore_n 2, 1) := by decide +kernel
theorem dX9_worksOut_2 : decode cX9_worksOut 2 = .ok (.aload_n 0, 1) := by decide +kernel
theorem dX9_worksOut_3 : decode cX9_worksOut 3 = .ok (.getfield 9, 3) := by decide +kernel
theorem dX9_worksOut_6 : decode cX9_worksOut 6 = .ok (.bipush 51, 2) := by decide +kernel
theorem dX9_worksOut_8 : decode cX9_worksOut 8 = .ok (.iconst 2, 1) := by decide +kernel
theorem dX9_worksOut_9 : decode cX9_worksOut 9 = .ok (.iload_n 1, 1) := by decide +kernel
theorem dX9_worksOut_10 : decode cX9_worksOut 10 = .ok (.imul, 1) := by decide +kernel
theorem dX9_worksOut_11 : decode cX9_worksOut 11 = .ok (.iadd, 1) := by decide +kernel
theorem dX9_worksOut_12 : decode cX9_worksOut 12 = .ok (.iaload, 1) := by decide +kernel
theorem dX9_worksOut_13 : decode cX9_worksOut 13 = .ok (.sipush 1000, 3) := by decide +kernel
theorem dX9_worksOut_16 : decode cX9_worksOut 16 = .ok (.irem, 1) := by decide +kernel
theorem dX9_worksOut_17 : decode cX9_worksOut 17 = .ok (.istore_n 3, 1) := by decide +kernel
theorem dX9_worksOut_18 : decode cX9_worksOut 18 = .ok (.iconst 0, 1) := by decide +kernel
theorem dX9_worksOut_19 : decode cX9_worksOut 19 = .ok (.istore 4, 2) := by decide +kernel
theorem dX9_worksOut_21 : decode cX9_worksOut 21 = .ok (.iload 4, 2) := by decide +kernel
theorem dX9_worksOut_23 : decode cX9_worksOut 23 = .ok (.iload_n 3, 1) := by decide +kernel
theorem dX9_worksOut_24 : decode cX9_worksOut 24 = .ok (.if_icmp .ge 131, 3) := by decide +kernel
theorem dX9_worksOut_27 : decode cX9_worksOut 27 = .ok (.aload_n 0, 1) := by decide +kernel
theorem dX9_worksOut_28 : decode cX9_worksOut 28 = .ok (.getfield 9, 3) := by decide +kernel
theorem dX9_worksOut_31 : decode cX9_worksOut 31 = .ok (.bipush 79, 2) := by decide +kernel
theorem dX9_worksOut_33 : decode cX9_worksOut 33 = .ok (.bipush 96, 2) := by decide +kernel
theorem dX9_worksOut_35 : decode cX9_worksOut 35 = .ok (.iload_n 1, 1) := by decide +kernel
theorem dX9_worksOut_36 : decode cX9_worksOut 36 = .ok (.imul, 1) := by decide +kernel
theorem dX9_worksOut_37 : decode cX9_worksOut 37 = .ok (.iadd, 1) := by decide +kernel
theorem dX9_worksOut_38 : decode cX9_worksOut 38 = .ok (.iload 4, 2) := by decide +kernel
theorem dX9_worksOut_40 : decode cX9_worksOut 40 = .ok (.iadd, 1) := by decide +kernel
theorem dX9_worksOut_41 : decode cX9_worksOut 41 = .ok (.iaload, 1) := by decide +kernel
theorem dX9_worksOut_42 : decode cX9_worksOut 42 = .ok (.istore 5, 2) := by decide +kernel
theorem dX9_worksOut_44 : decode cX9_worksOut 44 = .ok (.iload 5, 2) := by decide +kernel
theorem dX9_worksOut_46 : decode cX9_worksOut 46 = .ok (.ifCond .lt 39, 3) := by decide +kernel
theorem dX9_worksOut_49 : decode cX9_worksOut 49 = .ok (.aload_n 0, 1) := by decide +kernel
theorem dX9_worksOut_50 : decode cX9_worksOut 50 = .ok (.getfield 46, 3) := by decide +kernel
theorem dX9_worksOut_53 : decode cX9_worksOut 53 = .ok (.iload_n 2, 1) := by decide +kernel
theorem dX9_worksOut_54 : decode cX9_worksOut 54 = .ok (.iload 5, 2) := by decide +kernel
theorem dX9_worksOut_56 : decode cX9_worksOut 56 = .ok (.sipush 10000, 3) := by decide +kernel
theorem dX9_worksOut_59 : decode cX9_worksOut 59 = .ok (.if_icmp .ge 8, 3) := by decide +kernel
theorem dX9_worksOut_62 : decode cX9_worksOut 62 = .ok (.iload 5, 2) := by decide +kernel
theorem dX9_worksOut_64 : decode cX9_worksOut 64 = .ok (.goto 14, 3) := by decide +kernel
theorem dX9_worksOut_67 : decode cX9_worksOut 67 = .ok (.aload_n 0, 1) := by decide +kernel
theorem dX9_worksOut_68 : decode cX9_worksOut 68 = .ok (.getfield 49, 3) := by decide +kernel
theorem dX9_worksOut_71 : decode cX9_worksOut 71 = .ok (.iload 5, 2) := by decide +kernel
theorem dX9_worksOut_73 : decode cX9_worksOut 73 = .ok (.sipush 10000, 3) := by decide +kernel
theorem dX9_worksOut_76 : decode cX9_worksOut 76 = .ok (.isub, 1) := by decide +kernel
theorem dX9_worksOut_77 : decode cX9_worksOut 77 = .ok (.iaload, 1) := by decide +kernel
theorem dX9_worksOut_78 : decode cX9_worksOut 78 = .ok (.iastore, 1) := by decide +kernel
theorem dX9_worksOut_79 : decode cX9_worksOut 79 = .ok (.iinc 2 1, 3) := by decide +kernel
theorem dX9_worksOut_82 : decode cX9_worksOut 82 = .ok (.goto 67, 3) := by decide +kernel
theorem dX9_worksOut_85 : decode cX9_worksOut 85 = .ok (.iload 5, 2) := by decide +kernel
theorem dX9_worksOut_87 : decode cX9_worksOut 87 = .ok (.bipush (-10), 2) := by decide +kernel
theorem dX9_worksOut_89 : decode cX9_worksOut 89 = .ok (.if_icmp .ne 30, 3) := by decide +kernel
theorem dX9_worksOut_92 : decode cX9_worksOut 92 = .ok (.aload_n 0, 1) := by decide +kernel
theorem dX9_worksOut_93 : decode cX9_worksOut 93 = .ok (.getfield 46, 3) := by decide +kernel
theorem dX9_worksOut_96 : decode cX9_worksOut 96 = .ok (.iload_n 2, 1) := by decide +kernel
theorem dX9_worksOut_97 : decode cX9_worksOut 97 = .ok (.iconst 1, 1) := by decide +kernel
theorem dX9_worksOut_98 : decode cX9_worksOut 98 = .ok (.isub, 1) := by decide +kernel
theorem dX9_worksOut_99 : decode cX9_worksOut 99 = .ok (.aload_n 0, 1) := by decide +kernel
theorem dX9_worksOut_100 : decode cX9_worksOut 100 = .ok (.getfield 46, 3) := by decide +kernel
theorem dX9_worksOut_103 : decode cX9_worksOut 103 = .ok (.iload_n 2, 1) := by decide +kernel
theorem dX9_worksOut_104 : decode cX9_worksOut 104 = .ok (.iconst 1, 1) := by decide +kernel
theorem dX9_worksOut_105 : decode cX9_worksOut 105 = .ok (.isub, 1) := by decide +kernel
theorem dX9_worksOut_106 : decode cX9_worksOut 106 = .ok (.iaload, 1) := by decide +kernel
theorem dX9_worksOut_107 : decode cX9_worksOut 107 = .ok (.ifCond .ne 7, 3) := by decide +kernel
theorem dX9_worksOut_110 : decode cX9_worksOut 110 = .ok (.iconst 1, 1) := by decide +kernel
theorem dX9_worksOut_111 : decode cX9_worksOut 111 = .ok (.goto 4, 3) := by decide +kernel
theorem dX9_worksOut_114 : decode cX9_worksOut 114 = .ok (.iconst 0, 1) := by decide +kernel
theorem dX9_worksOut_115 : decode cX9_worksOut 115 = .ok (.iastore, 1) := by decide +kernel
theorem dX9_worksOut_116 : decode cX9_worksOut 116 = .ok (.goto 33, 3) := by decide +kernel
theorem dX9_worksOut_119 : decode cX9_worksOut 119 = .ok (.iinc 2 (-1), 3) := by decide +kernel
theorem dX9_worksOut_122 : decode cX9_worksOut 122 = .ok (.aload_n 0, 1) := by decide +kernel
theorem dX9_worksOut_123 : decode cX9_worksOut 123 = .ok (.getfield 46, 3) := by decide +kernel
theorem dX9_worksOut_126 : decode cX9_worksOut 126 = .ok (.iload_n 2, 1) := by decide +kernel
theorem dX9_worksOut_127 : decode cX9_worksOut 127 = .ok (.iconst 1, 1) := by decide +kernel
theorem dX9_worksOut_128 : decode cX9_worksOut 128 = .ok (.isub, 1) := by decide +kernel
theorem dX9_worksOut_129 : decode cX9_worksOut 129 = .ok (.iload 5, 2) := by decide +kernel
theorem dX9_worksOut_131 : decode cX9_worksOut 131 = .ok (.aload_n 0, 1) := by decide +kernel
theorem dX9_worksOut_132 : decode cX9_worksOut 132 = .ok (.getfield 46, 3) := by decide +kernel
theorem dX9_worksOut_135 : decode cX9_worksOut 135 = .ok (.iload_n 2, 1) := by decide +kernel
theorem dX9_worksOut_136 : decode cX9_worksOut 136 = .ok (.iconst 1, 1) := by decide +kernel
theorem dX9_worksOut_137 : decode cX9_worksOut 137 = .ok (.isub, 1) := by decide +kernel
theorem dX9_worksOut_138 : decode cX9_worksOut 138 = .ok (.iaload, 1) := by decide +kernel
theorem dX9_worksOut_139 : decode cX9_worksOut 139 = .ok (.aload_n 0, 1) := by decide +kernel
theorem dX9_worksOut_140 : decode cX9_worksOut 140 = .ok (.getfield 46, 3) := by decide +kernel
theorem dX9_worksOut_143 : decode cX9_worksOut 143 = .ok (.iload_n 2, 1) := by decide +kernel
theorem dX9_worksOut_144 : decode cX9_worksOut 144 = .ok (.iaload, 1) := by decide +kernel
theorem dX9_worksOut_145 : decode cX9_worksOut 145 = .ok (.invokestatic 256, 3) := by decide +kernel
theorem dX9_worksOut_148 : decode cX9_worksOut 148 = .ok (.iastore, 1) := by decide +kernel
theorem dX9_worksOut_149 : decode cX9_worksOut 149 = .ok (.iinc 4 1, 3) := by decide +kernel
theorem dX9_worksOut_152 : decode cX9_worksOut 152 = .ok (.goto (-131), 3) := by decide +kernel
theorem dX9_worksOut_155 : decode cX9_worksOut 155 = .ok (.aload_n 0, 1) := by decide +kernel
theorem dX9_worksOut_156 : decode cX9_worksOut 156 = .ok (.getfield 46, 3) := by decide +kernel
theorem dX9_worksOut_159 : decode cX9_worksOut 159 = .ok (.iconst 0, 1) := by decide +kernel
theorem dX9_worksOut_160 : decode cX9_worksOut 160 = .ok (.iaload, 1) := by decide +kernel
theorem dX9_worksOut_161 : decode cX9_worksOut 161 = .ok (.ireturn, 1) := by decide +kernel
def f_X9_worksOut_149 (fu : Nat) (k_21 : Int32 → Int32 → Int32 → Int32 → Mem → Option (Int32 × Mem)) (x1 : Int32) (x2 : Int32) (x3 : Int32) (x4 : Int32) (m : Mem) : Option (Int32 × Mem) := seqM (x4 + 1) (fun x_1 : Int32 => k_21 x1 x2 x3 x_1 m)
set_option maxHeartbeats 4000000 in
set_option maxRecDepth 100000 in
theorem w_X9_worksOut_149 {X : TX} {p : Program} {l : Launch} {e : Env} {s : State} {mi : MethodId} {args : Array Value} {below : List Frame} {meth : Method} {c : Code} {Q : State → Prop} {r : Int32} {mE : Mem} (C : Cx X p s mi args c RX9 cX9_worksOut 6) (hq : RetI X p l e (rmD 1) s mi args below meth c cX9_worksOut .int Q r mE) {fu : Nat} {k_21 : Int32 → Int32 → Int32 → Int32 → Mem → Option (Int32 × Mem)} (hk_21 : ∀ {x1 : Int32} {x2 : Int32} {x3 : Int32} {x4 : Int32} {m : Mem} {H : Heap} {locs : List Loc} {ls : Array Slot}, k_21 x1 x2 x3 x4 m = some (r, mE) → Wd X s m H locs → lv_has ls 6 [(0, .ref (ad X 20 0)), (1, .int x1), (2, .int x2), (3, .int x3), (4, .int x4)] → W p l e (rmD 1) s mi args below meth c H locs 0 0 Q (F0 mi 21 ls [])) {x1 : Int32} {x2 : Int32} {x3 : Int32} {x4 : Int32} {m : Mem} {H : Heap} {locs : List Loc} {ls : Array Slot} (h : f_X9_worksOut_149 fu k_21 x1 x2 x3 x4 m = some (r, mE))  (hW : Wd X s m H locs) (hl : lv_has ls 6 [(0, .ref (ad X 20 0)), (1, .int x1), (2, .int x2), (3, .int x3), (4, .int x4)]) : W p l e (rmD 1) s mi args below meth c H locs 0 0 Q (F0 mi 149 ls []) := by
  unfold f_X9_worksOut_149 at h
  obtain ⟨x_1, e_2, h⟩ := seqM_E h
  refine lv_iinc (v := x_1) (lv' := [(4, .int x_1), (0, .ref (ad X 20 0)), (1, .int x1), (2, .int x2), (3, .int x3)]) C.1 C.2.1 dX9_worksOut_149 hl (k := 4) rfl (by rw [e_2]; rfl) (by decide) rfl (fun ls hl => ?_)
  refine lv_goto (tgt := 21) C.1 C.2.1 dX9_worksOut_152 (by decide) ?_
  exact hk_21 h  hW (lv_sub hl [1, 2, 3, 4, 0] rfl)
def f_X9_worksOut_78 (fu : Nat) (k_21 : Int32 → Int32 → Int32 → Int32 → Mem → Option (Int32 × Mem)) (x1 : Int32) (x2 : Int32) (x3 : Int32) (x4 : Int32) (y1 : Int32) (y2 : Int32) (m : Mem) : Option (Int32 × Mem) := chk (inb y1 96) (seqM (upd m (3700 + y1.toNatClampNeg) y2) (fun m_2 : Mem => seqM (x2 + 1) (fun x_4 : Int32 => f_X9_worksOut_149 fu k_21 x1 x_4 x3 x4 m_2)))
set_option maxHeartbeats 4000000 in
set_option maxRecDepth 100000 in
theorem w_X9_worksOut_78 {X : TX} {p : Program} {l : Launch} {e : Env} {s : State} {mi : MethodId} {args : Array Value} {below : List Frame} {meth : Method} {c : Code} {Q : State → Prop} {r : Int32} {mE : Mem} (C : Cx X p s mi args c RX9 cX9_worksOut 6) (hq : RetI X p l e (rmD 1) s mi args below meth c cX9_worksOut .int Q r mE) {fu : Nat} {k_21 : Int32 → Int32 → Int32 → Int32 → Mem → Option (Int32 × Mem)} (hk_21 : ∀ {x1 : Int32} {x2 : Int32} {x3 : Int32} {x4 : Int32} {m : Mem} {H : Heap} {locs : List Loc} {ls : Array Slot}, k_21 x1 x2 x3 x4 m = some (r, mE) → Wd X s m H locs → lv_has ls 6 [(0, .ref (ad X 20 0)), (1, .int x1), (2, .int x2), (3, .int x3), (4, .int x4)] → W p l e (rmD 1) s mi args below meth c H locs 0 0 Q (F0 mi 21 ls [])) {x1 : Int32} {x2 : Int32} {x3 : Int32} {x4 : Int32} {y1 : Int32} {y2 : Int32} {m : Mem} {H : Heap} {locs : List Loc} {ls : Array Slot} (h : f_X9_worksOut_78 fu k_21 x1 x2 x3 x4 y1 y2 m = some (r, mE))  (hW : Wd X s m H locs) (hl : lv_has ls 6 [(0, .ref (ad X 20 0)), (1, .int x1), (2, .int x2), (3, .int x3), (4, .int x4)]) : W p l e (rmD 1) s mi args below meth c H locs 0 0 Q (F0 mi 78 ls [.int y2, .int y1, .ref (ad X 30 0)]) := by
  unfold f_X9_worksOut_78 at h
  obtain ⟨hb_1, h⟩ := chk_E h
  obtain ⟨m_2, e_3, h⟩ := seqM_E h
  refine zas_30 C hW id_30 (inb_E hb_1) e_3 dX9_worksOut_78 (fun H locs hW => ?_)
  obtain ⟨x_4, e_5, h⟩ := seqM_E h
  refine lv_iinc (v := x_4) (lv' := [(2, .int x_4), (0, .ref (ad X 20 0)), (1, .int x1), (3, .int x3), (4, .int x4)]) C.1 C.2.1 dX9_worksOut_79 hl (k := 2) rfl (by rw [e_5]; rfl) (by decide) rfl (fun ls hl => ?_)
  refine lv_goto (tgt := 149) C.1 C.2.1 dX9_worksOut_82 (by decide) ?_
  exact w_X9_worksOut_149 C hq hk_21 h  hW (lv_sub hl [1, 2, 0, 3, 4] rfl)
def f_X9_worksOut_115 (fu : Nat) (k_21 : Int32 → Int32 → Int32 → Int32 → Mem → Option (Int32 × Mem)) (x1 : Int32) (x2 : Int32) (x3 : Int32) (x4 : Int32) (y1 : Int32) (y2 : Int32) (m : Mem) : Option (Int32 × Mem) := chk (inb y1 96) (seqM (upd m (3700 + y1.toNatClampNeg) y2) (fun m_2 : Mem => f_X9_worksOut_149 fu k_21 x1 x2 x3 x4 m_2))
set_option maxHeartbeats 4000000 in
set_option maxRecDepth 100000 in
theorem w_X9_worksOut_115 {X : TX} {p : Program} {l : Launch} {e : Env} {s : State} {mi : MethodId} {args : Array Value} {below : List Frame} {meth : Method} {c : Code} {Q : State → Prop} {r : Int32} {mE : Mem} (C : Cx X p s mi args c RX9 cX9_worksOut 6) (hq : RetI X p l e (rmD 1) s mi args below meth c cX9_worksOut .int Q r mE) {fu : Nat} {k_21 : Int32 → Int32 → Int32 → Int32 → Mem → Option (Int32 × Mem)} (hk_21 : ∀ {x1 : Int32} {x2 : Int32} {x3 : Int32} {x4 : Int32} {m : Mem} {H : Heap} {locs : List Loc} {ls : Array Slot}, k_21 x1 x2 x3 x4 m = some (r, mE) → Wd X s m H locs → lv_has ls 6 [(0, .ref (ad X 20 0)), (1, .int x1), (2, .int x2), (3, .int x3), (4, .int x4)] → W p l e (rmD 1) s mi args below meth c H locs 0 0 Q (F0 mi 21 ls [])) {x1 : Int32} {x2 : Int32} {x3 : Int32} {x4 : Int32} {y1 : Int32} {y2 : Int32} {m : Mem} {H : Heap} {locs : List Loc} {ls : Array Slot} (h : f_X9_worksOut_115 fu k_21 x1 x2 x3 x4 y1 y2 m = some (r, mE))  (hW : Wd X s m H locs) (hl : lv_has ls 6 [(0, .ref (ad X 20 0)), (1, .int x1), (2, .int x2), (3, .int x3), (4, .int x4)]) : W p l e (rmD 1) s mi args below meth c H locs 0 0 Q (F0 mi 115 ls [.int y2, .int y1, .ref (ad X 30 0)]) := by
  unfold f_X9_worksOut_115 at h
  obtain ⟨hb_1, h⟩ := chk_E h
  obtain ⟨m_2, e_3, h⟩ := seqM_E h
  refine zas_30 C hW id_30 (inb_E hb_1) e_3 dX9_worksOut_115 (fun H locs hW => ?_)
  refine lv_goto (tgt := 149) C.1 C.2.1 dX9_worksOut_116 (by decide) ?_
  exact w_X9_worksOut_149 C hq hk_21 h  hW (lv_sub hl [0, 1, 2, 3, 4] rfl)
def f_X9_worksOut_21 (fu : Nat)  : Nat → Int32 → Int32 → Int32 → Int32 → Mem → Option (Int32 × Mem)
  | 0, _, _, _, _, _ => none
  | n + 1, x1, x2, x3, x4, m => if x3 ≤ x4 then (some ((m (3700 + (0 : Int32).toNatClampNeg)), m)) else (chk (inb ((79 + (96 * x1)) + x4) 1423) (seqM (m ((4000 + 1500 * 0) + ((79 + (96 * x1)) + x4).toNatClampNeg)) (fun x_2 : Int32 => if x_2 < 0 then (if x_2 = (-10) then (chk (inb (x2 - 1) 96) (if (m (3700 + (x2 - 1).toNatClampNeg)) = 0 then (f_X9_worksOut_115 fu (f_X9_worksOut_21 fu n) x1 x2 x3 x4 (x2 - 1) 1 m) else (f_X9_worksOut_115 fu (f_X9_worksOut_21 fu n) x1 x2 x3 x4 (x2 - 1) 0 m))) else (seqM (x2 + (-1)) (fun x_4 : Int32 => chk (inb (x_4 - 1) 96) (chk (inb x_4 96) (doI (f_X9_two fu x_2 (m (3700 + (x_4 - 1).toNatClampNeg)) (m (3700 + x_4.toNatClampNeg)) m) (fun r_10 m_9 => chk (inb (x_4 - 1) 96) (seqM (upd m_9 (3700 + (x_4 - 1).toNatClampNeg) r_10) (fun m_12 : Mem => f_X9_worksOut_149 fu (f_X9_worksOut_21 fu n) x1 x_4 x3 x4 m_12)))))))) else (if 10000 ≤ x_2 then (chk (inb (x_2 - 10000) 4) (f_X9_worksOut_78 fu (f_X9_worksOut_21 fu n) x1 x2 x3 x4 x2 (m (3800 + (x_2 - 10000).toNatClampNeg)) m)) else (f_X9_worksOut_78 fu (f_X9_worksOut_21 fu n) x1 x2 x3 x4 x2 x_2 m)))))
set_option maxHeartbeats 4000000 in
set_option maxRecDepth 100000 in
theorem w_X9_worksOut_21 {X : TX} {p : Program} {l : Launch} {e : Env} {s : State} {mi : MethodId} {args : Array Value} {below : List Frame} {meth : Method} {c : Code} {Q : State → Prop} {r : Int32} {mE : Mem} (C : Cx X p s mi args c RX9 cX9_worksOut 6) (hq : RetI X p l e (rmD 1) s mi args below meth c cX9_worksOut .int Q r mE) {fu : Nat} : ∀ (n : Nat) {x1 : Int32} {x2 : Int32} {x3 : Int32} {x4 : Int32} {m : Mem} {H : Heap} {locs : List Loc} {ls : Array Slot}, f_X9_worksOut_21 fu n x1 x2 x3 x4 m = some (r, mE) → Wd X s m H locs → lv_has ls 6 [(0, .ref (ad X 20 0)), (1, .int x1), (2, .int x2), (3, .int x3), (4, .int x4)] → W p l e (rmD 1) s mi args below meth c H locs 0 0 Q (F0 mi 21 ls []) := by
  intro n
  induction n with
  | zero =>
    intro x1 x2 x3 x4 m H locs ls h hW hl
    rw [f_X9_worksOut_21] at h
    cases h
  | succ n ih =>
    intro x1 x2 x3 x4 m H locs ls h hW hl
    rw [f_X9_worksOut_21] at h
    refine lv_iload C.1 C.2.1 dX9_worksOut_21 (lv_at hl 4 rfl) ?_
    refine lv_iload_n C.1 C.2.1 dX9_worksOut_23 rfl (lv_at hl 3 rfl) ?_
    refine lv_icmp_ge (tgt := 155) C.1 C.2.1 dX9_worksOut_24 (by decide) (fun hc_20 => ?_) (fun hc_20 => ?_)
    · have h := ite_t hc_20 h
      refine lv_aload_n C.1 C.2.1 dX9_worksOut_155 rfl (lv_at hl 0 rfl) ?_
      refine zg_X9_stack C hW id_20 w_1027 dX9_worksOut_156 ?_
      refine lv_iconst (v := 0) C.1 C.2.1 dX9_worksOut_159 rfl ?_
      refine zal_30 C hW id_30 (inb_E (by decide)) dX9_worksOut_160 ?_
      exact ret_i h hq rfl hW dX9_worksOut_161
    · have h := ite_f hc_20 h
      refine lv_aload_n C.1 C.2.1 dX9_worksOut_27 rfl (lv_at hl 0 rfl) ?_
      refine zg_X9_now C hW id_20 w_1004 dX9_worksOut_28 ?_
      refine lv_bipush (v := 79) C.1 C.2.1 dX9_worksOut_31 rfl ?_
      refine lv_bipush (v := 96) C.1 C.2.1 dX9_worksOut_33 rfl ?_
      refine lv_iload_n C.1 C.2.1 dX9_worksOut_35 rfl (lv_at hl 1 rfl) ?_
      refine lv_imul C.1 C.2.1 dX9_worksOut_36 ?_
      refine lv_iadd C.1 C.2.1 dX9_worksOut_37 ?_
      refine lv_iload C.1 C.2.1 dX9_worksOut_38 (lv_at hl 4 rfl) ?_
      refine lv_iadd C.1 C.2.1 dX9_worksOut_40 ?_
      obtain ⟨hb_1, h⟩ := chk_E h
      refine zal_21 C hW id_21_0 (inb_E hb_1) dX9_worksOut_41 ?_
      obtain ⟨x_2, e_3, h⟩ := seqM_E h
      refine lv_name e_3 ?_
      refine lv_istore (lv' := [(5, .int x_2), (0, .ref (ad X 20 0)), (1, .int x1), (2, .int x2), (3, .int x3), (4, .int x4)]) C.1 C.2.1 dX9_worksOut_42 hl (by decide) rfl (fun ls hl => ?_)
      refine lv_iload C.1 C.2.1 dX9_worksOut_44 (lv_at hl 0 rfl) ?_
      refine lv_if_lt (tgt := 85) C.1 C.2.1 dX9_worksOut_46 (by decide) (fun hc_19 => ?_) (fun hc_19 => ?_)
      · have h := ite_t hc_19 h
        refine lv_iload C.1 C.2.1 dX9_worksOut_85 (lv_at hl 0 rfl) ?_
        refine lv_bipush (v := (-10)) C.1 C.2.1 dX9_worksOut_87 rfl ?_
        refine lv_icmp_ne (tgt := 119) C.1 C.2.1 dX9_worksOut_89 (by decide) (fun hc_16 => ?_) (fun hc_16 => ?_)
        · have h := ite_f hc_16 h
          obtain ⟨x_4, e_5, h⟩ := seqM_E h
          refine lv_iinc (v := x_4) (lv' := [(2, .int x_4), (5, .int x_2), (0, .ref (ad X 20 0)), (1, .int x1), (3, .int x3), (4, .int x4)]) C.1 C.2.1 dX9_worksOut_119 hl (k := 3) rfl (by rw [e_5]; rfl) (by decide) rfl (fun ls hl => ?_)
          refine lv_aload_n C.1 C.2.1 dX9_worksOut_122 rfl (lv_at hl 2 rfl) ?_
          refine zg_X9_stack C hW id_20 w_1027 dX9_worksOut_123 ?_
          refine lv_iload_n C.1 C.2.1 dX9_worksOut_126 rfl (lv_at hl 0 rfl) ?_
          refine lv_iconst (v := 1) C.1 C.2.1 dX9_worksOut_127 rfl ?_
          refine lv_isub C.1 C.2.1 dX9_worksOut_128 ?_
          refine lv_iload C.1 C.2.1 dX9_worksOut_129 (lv_at hl 1 rfl) ?_
          refine lv_aload_n C.1 C.2.1 dX9_worksOut_131 rfl (lv_at hl 2 rfl) ?_
          refine zg_X9_stack C hW id_20 w_1027 dX9_worksOut_132 ?_
          refine lv_iload_n C.1 C.2.1 dX9_worksOut_135 rfl (lv_at hl 0 rfl) ?_
          refine lv_iconst (v := 1) C.1 C.2.1 dX9_worksOut_136 rfl ?_
          refine lv_isub C.1 C.2.1 dX9_worksOut_137 ?_
          obtain ⟨hb_6, h⟩ := chk_E h
          refine zal_30 C hW id_30 (inb_E hb_6) dX9_worksOut_138 ?_
          refine lv_aload_n C.1 C.2.1 dX9_worksOut_139 rfl (lv_at hl 2 rfl) ?_
          refine zg_X9_stack C hW id_20 w_1027 dX9_worksOut_140 ?_
          refine lv_iload_n C.1 C.2.1 dX9_worksOut_143 rfl (lv_at hl 0 rfl) ?_
          obtain ⟨hb_7, h⟩ := chk_E h
          refine zal_30 C hW id_30 (inb_E hb_7) dX9_worksOut_144 ?_
          obtain ⟨r_10, m_9, hc_8, h⟩ := doI_E h
          refine zr_cSI C hW (c_X9_two (x0 := x_2) (x1 := (m (3700 + (x_4 - 1).toNatClampNeg))) (x2 := (m (3700 + x_4.toNatClampNeg))) hc_8 ) k_X9_two w_1257 ⟨Nat.le_of_ble_eq_true rfl, Nat.le_of_ble_eq_true rfl⟩ ⟨Nat.le_refl 0, Nat.le_refl 0⟩ rfl hl.1 rfl (Nat.le_of_ble_eq_true rfl) dX9_worksOut_145 (fun H locs hW => ?_)
          obtain ⟨hb_11, h⟩ := chk_E h
          obtain ⟨m_12, e_13, h⟩ := seqM_E h
          refine zas_30 C hW id_30 (inb_E hb_11) e_13 dX9_worksOut_148 (fun H locs hW => ?_)
          exact w_X9_worksOut_149 C hq ih h  hW (lv_sub hl [2, 3, 0, 4, 5] rfl)
        · have h := ite_t hc_16 h
          refine lv_aload_n C.1 C.2.1 dX9_worksOut_92 rfl (lv_at hl 1 rfl) ?_
          refine zg_X9_stack C hW id_20 w_1027 dX9_worksOut_93 ?_
          refine lv_iload_n C.1 C.2.1 dX9_worksOut_96 rfl (lv_at hl 3 rfl) ?_
          refine lv_iconst (v := 1) C.1 C.2.1 dX9_worksOut_97 rfl ?_
          refine lv_isub C.1 C.2.1 dX9_worksOut_98 ?_
          refine lv_aload_n C.1 C.2.1 dX9_worksOut_99 rfl (lv_at hl 1 rfl) ?_
          refine zg_X9_stack C hW id_20 w_1027 dX9_worksOut_100 ?_
          refine lv_iload_n C.1 C.2.1 dX9_worksOut_103 rfl (lv_at hl 3 rfl) ?_
          refine lv_iconst (v := 1) C.1 C.2.1 dX9_worksOut_104 rfl ?_
          refine lv_isub C.1 C.2.1 dX9_worksOut_105 ?_
          obtain ⟨hb_14, h⟩ := chk_E h
          refine zal_30 C hW id_30 (inb_E hb_14) dX9_worksOut_106 ?_
          refine lv_if_ne (tgt := 114) C.1 C.2.1 dX9_worksOut_107 (by decide) (fun hc_15 => ?_) (fun hc_15 => ?_)
          · have h := ite_f hc_15 h
            refine lv_iconst (v := 0) C.1 C.2.1 dX9_worksOut_114 rfl ?_
            exact w_X9_worksOut_115 C hq ih h  hW (lv_sub hl [1, 2, 3, 4, 5] rfl)
          · have h := ite_t hc_15 h
            refine lv_iconst (v := 1) C.1 C.2.1 dX9_worksOut_110 rfl ?_
            refine lv_goto (tgt := 115) C.1 C.2.1 dX9_worksOut_111 (by decide) ?_
            exact w_X9_worksOut_115 C hq ih h  hW (lv_sub hl [1, 2, 3, 4, 5] rfl)
      · have h := ite_f hc_19 h
        refine lv_aload_n C.1 C.2.1 dX9_worksOut_49 rfl (lv_at hl 1 rfl) ?_
        refine zg_X9_stack C hW id_20 w_1027 dX9_worksOut_50 ?_
        refine lv_iload_n C.1 C.2.1 dX9_worksOut_53 rfl (lv_at hl 3 rfl) ?_
        refine lv_iload C.1 C.2.1 dX9_worksOut_54 (lv_at hl 0 rfl) ?_
        refine lv_sipush (v := 10000) C.1 C.2.1 dX9_worksOut_56 rfl ?_
        refine lv_icmp_ge (tgt := 67) C.1 C.2.1 dX9_worksOut_59 (by decide) (fun hc_18 => ?_) (fun hc_18 => ?_)
        · have h := ite_t hc_18 h
          refine lv_aload_n C.1 C.2.1 dX9_worksOut_67 rfl (lv_at hl 1 rfl) ?_
          refine zg_X9_facts C hW id_20 w_1028 dX9_worksOut_68 ?_
          refine lv_iload C.1 C.2.1 dX9_worksOut_71 (lv_at hl 0 rfl) ?_
          refine lv_sipush (v := 10000) C.1 C.2.1 dX9_worksOut_73 rfl ?_
          refine lv_isub C.1 C.2.1 dX9_worksOut_76 ?_
          obtain ⟨hb_17, h⟩ := chk_E h
          refine zal_31 C hW id_31 (inb_E hb_17) dX9_worksOut_77 ?_
          exact w_X9_worksOut_78 C hq ih h  hW (lv_sub hl [1, 2, 3, 4, 5] rfl)
        · have h := ite_f hc_18 h
          refine lv_iload C.1 C.2.1 dX9_worksOut_62 (lv_at hl 0 rfl) ?_
          refine lv_goto (tgt := 78) C.1 C.2.1 dX9_worksOut_64 (by decide) ?_
          exact w_X9_worksOut_78 C hq ih h  hW (lv_sub hl [1, 2, 3, 4, 5] rfl)
def f_X9_worksOut (fu : Nat)  (x1 : Int32) (m : Mem) : Option (Int32 × Mem) := chk (inb (51 + (2 * x1)) 1423) (seqM (irem (m ((4000 + 1500 * 0) + (51 + (2 * x1)).toNatClampNeg)) 1000) (fun x_2 : Int32 => f_X9_worksOut_21 fu fu x1 0 x_2 0 m))
set_option maxHeartbeats 4000000 in
set_option maxRecDepth 100000 in
theorem w_X9_worksOut {X : TX} {p : Program} {l : Launch} {e : Env} {s : State} {mi : MethodId} {args : Array Value} {below : List Frame} {meth : Method} {c : Code} {Q : State → Prop} {r : Int32} {mE : Mem} (C : Cx X p s mi args c RX9 cX9_worksOut 6) (hq : RetI X p l e (rmD 1) s mi args below meth c cX9_worksOut .int Q r mE) {fu : Nat} {x1 : Int32} {m : Mem} {H : Heap} {locs : List Loc} {ls : Array Slot} (h : f_X9_worksOut fu x1 m = some (r, mE))  (hW : Wd X s m H locs) (hl : lv_has ls 6 [(0, .ref (ad X 20 0)), (1, .int x1)]) : W p l e (rmD 1) s mi args below meth c H locs 0 0 Q (F0 mi 0 ls []) := by
  unfold f_X9_worksOut at h
  refine lv_iconst (v := 0) C.1 C.2.1 dX9_worksOut_0 rfl ?_
  refine lv_istore_n (lv' := [(2, .int 0), (0, .ref (ad X 20 0)), (1, .int x1)]) C.1 C.2.1 dX9_worksOut_1 rfl hl (by decide) rfl (fun ls hl => ?_)
  refine lv_aload_n C.1 C.2.1 dX9_worksOut_2 rfl (lv_at hl 1 rfl) ?_
  refine zg_X9_now C hW id_20 w_1004 dX9_worksOut_3 ?_
  refine lv_bipush (v := 51) C.1 C.2.1 dX9_worksOut_6 rfl ?_
  refine lv_iconst (v := 2) C.1 C.2.1 dX9_worksOut_8 rfl ?_
  refine lv_iload_n C.1 C.2.1 dX9_worksOut_9 rfl (lv_at hl 2 rfl) ?_
  refine lv_imul C.1 C.2.1 dX9_worksOut_10 ?_
  refine lv_iadd C.1 C.2.1 dX9_worksOut_11 ?_
  obtain ⟨hb_1, h⟩ := chk_E h
  refine zal_21 C hW id_21_0 (inb_E hb_1) dX9_worksOut_12 ?_
  refine lv_sipush (v := 1000) C.1 C.2.1 dX9_worksOut_13 rfl ?_
  refine zr_irem C.1 C.2.1 dX9_worksOut_16 (by decide) ?_
  obtain ⟨x_2, e_3, h⟩ := seqM_E h
  refine lv_name e_3 ?_
  refine lv_istore_n (lv' := [(3, .int x_2), (2, .int 0), (0, .ref (ad X 20 0)), (1, .int x1)]) C.1 C.2.1 dX9_worksOut_17 rfl hl (by decide) rfl (fun ls hl => ?_)
  refine lv_iconst (v := 0) C.1 C.2.1 dX9_worksOut_18 rfl ?_
  refine lv_istore (lv' := [(4, .int 0), (3, .int x_2), (2, .int 0), (0, .ref (ad X 20 0)), (1, .int x1)]) C.1 C.2.1 dX9_worksOut_19 hl (by decide) rfl (fun ls hl => ?_)
  exact w_X9_worksOut_21 C hq  fu h  hW (lv_sub hl [3, 4, 2, 1, 0] rfl)
theorem c_X9_worksOut {X : TX} {l : Launch} {fu : Nat} {x1 : Int32} {m mE : Mem} {r : Int32} (h : f_X9_worksOut fu x1 m = some (r, mE))  : MetI X l yX9_worksOut cX9_worksOut 6 .int 1 [.ref (ad X 20 0), .int x1] m r mE :=
  met_I (by decide) (Nat.le_of_ble_eq_true rfl) (fun p e s mi args below meth c ls Q C hq hW hl => w_X9_worksOut C hq h  hW (lv_sub hl [0, 1] rfl))
theorem k_X9_worksOut : CalV yX9_worksOut cX9_worksOut 6 (some .int) RX9 1 := ⟨w_1255, w_45, w_70, w_1256, by decide +kernel⟩
theorem dX9_offGives_0 : decode cX9_offGives 0 = .ok (.aload_n 0, 1) := by decide +kernel
theorem dX9_offGives_1 : decode cX9_offGives 1 = .ok (.iconst 0, 1) := by decide +kernel
theorem dX9_offGives_2 : decode cX9_offGives 2 = .ok (.invokevirtual 137, 3) := by decide +kernel
theorem dX9_offGives_5 : decode cX9_offGives 5 = .ok (.istore_n 1, 1) := by decide +kernel
theorem dX9_offGives_6 : decode cX9_offGives 6 = .ok (.aload_n 0, 1) := by decide +kernel
theorem dX9_offGives_7 : decode cX9_offGives 7 = .ok (.getfield 49, 3) := by decide +kernel
theorem dX9_offGives_10 : decode cX9_offGives 10 = .ok (.iconst 0, 1) := by decide +kernel
theorem dX9_offGives_11 : decode cX9_offGives 11 = .ok (.aload_n 0, 1) := by decide +kernel
theorem dX9_offGives_12 : decode cX9_offGives 12 = .ok (.getfield 9, 3) := by decide +kernel
theorem dX9_offGives_15 : decode cX9_offGives 15 = .ok (.bipush 6, 2) := by decide +kernel
theorem dX9_offGives_17 : decode cX9_offGives 17 = .ok (.iaload, 1) := by decide +kernel
theorem dX9_offGives_18 : decode cX9_offGives 18 = .ok (.iastore, 1) := by decide +kernel
theorem dX9_offGives_19 : decode cX9_offGives 19 = .ok (.aload_n 0, 1) := by decide +kernel
theorem dX9_offGives_20 : decode cX9_offGives 20 = .ok (.getfield 49, 3) := by decide +kernel
theorem dX9_offGives_23 : decode cX9_offGives 23 = .ok (.iconst 1, 1) := by decide +kernel
theorem dX9_offGives_24 : decode cX9_offGives 24 = .ok (.aload_n 0, 1) := by decide +kernel
theorem dX9_offGives_25 : decode cX9_offGives 25 = .ok (.getfield 9, 3) := by decide +kernel
theorem dX9_offGives_28 : decode cX9_offGives 28 = .ok (.iconst 5, 1) := by decide +kernel
theorem dX9_offGives_29 : decode cX9_offGives 29 = .ok (.iaload, 1) := by decide +kernel
theorem dX9_offGives_30 : decode cX9_offGives 30 = .ok (.iastore, 1) := by decide +kernel
theorem dX9_offGives_31 : decode cX9_offGives 31 = .ok (.aload_n 0, 1) := by decide +kernel
theorem dX9_offGives_32 : decode cX9_offGives 32 = .ok (.getfield 49, 3) := by decide +kernel
theorem dX9_offGives_35 : decode cX9_offGives 35 = .ok (.iconst 2, 1) := by decide +kernel
theorem dX9_offGives_36 : decode cX9_offGives 36 = .ok (.aload_n 0, 1) := by decide +kernel
theorem dX9_offGives_37 : decode cX9_offGives 37 = .ok (.getfield 9, 3) := by decide +kernel
theorem dX9_offGives_40 : decode cX9_offGives 40 = .ok (.bipush 8, 2) := by decide +kernel
theorem dX9_offGives_42 : decode cX9_offGives 42 = .ok (.iaload, 1) := by decide +kernel
theorem dX9_offGives_43 : decode cX9_offGives 43 = .ok (.iastore, 1) := by decide +kernel
theorem dX9_offGives_44 : decode cX9_offGives 44 = .ok (.iload_n 1, 1) := by decide +kernel
theorem dX9_offGives_45 : decode cX9_offGives 45 = .ok (.ifCond .ge 16, 3) := by decide +kernel
theorem dX9_offGives_48 : decode cX9_offGives 48 = .ok (.aload_n 0, 1) := by decide +kernel
theorem dX9_offGives_49 : decode cX9_offGives 49 = .ok (.getfield 9, 3) := by decide +kernel
theorem dX9_offGives_52 : decode cX9_offGives 52 = .ok (.bipush 6, 2) := by decide +kernel
theorem dX9_offGives_54 : decode cX9_offGives 54 = .ok (.iaload, 1) := by decide +kernel
theorem dX9_offGives_55 : decode cX9_offGives 55 = .ok (.bipush 20, 2) := by decide +kernel
theorem dX9_offGives_57 : decode cX9_offGives 57 = .ok (.idiv, 1) := by decide +kernel
theorem dX9_offGives_58 : decode cX9_offGives 58 = .ok (.goto 8, 3) := by decide +kernel
theorem dX9_offGives_61 : decode cX9_offGives 61 = .ok (.aload_n 0, 1) := by decide +kernel
theorem dX9_offGives_62 : decode cX9_offGives 62 = .ok (.iload_n 1, 1) := by decide +kernel
theorem dX9_offGives_63 : decode cX9_offGives 63 = .ok (.invokevirtual 140, 3) := by decide +kernel
theorem dX9_offGives_66 : decode cX9_offGives 66 = .ok (.iconst 0, 1) := by decide +kernel
theorem dX9_offGives_67 : decode cX9_offGives 67 = .ok (.aload_n 0, 1) := by decide +kernel
theorem dX9_offGives_68 : decode cX9_offGives 68 = .ok (.getfield 9, 3) := by decide +kernel
theorem dX9_offGives_71 : decode cX9_offGives 71 = .ok (.iconst 5, 1) := by decide +kernel
theorem dX9_offGives_72 : decode cX9_offGives 72 = .ok (.iaload, 1) := by decide +kernel
theorem dX9_offGives_73 : decode cX9_offGives 73 = .ok (.invokestatic 143, 3) := by decide +kernel
theorem dX9_offGives_76 : decode cX9_offGives 76 = .ok (.ireturn, 1) := by decide +kernel
def f_X9_offGives_66 (fu : Nat)  (y0 : Int32) (m : Mem) : Option (Int32 × Mem) := doI (f_X9_within fu y0 0 (m ((4000 + 1500 * 0) + (5 : Int32).toNatClampNeg)) m) (fun r_3 m_2 => some (r_3, m_2))
set_option maxHeartbeats 4000000 in
set_option maxRecDepth 100000 in
theorem w_X9_offGives_66 {X : TX} {p : Program} {l : Launch} {e : Env} {s : State} {mi : MethodId} {args : Array Value} {below : List Frame} {meth : Method} {c : Code} {Q : State → Prop} {r : Int32} {mE : Mem} (C : Cx X p s mi args c RX9 cX9_offGives 2) (hq : RetI X p l e (rmD 2) s mi args below meth c cX9_offGives .int Q r mE) {fu : Nat} {y0 : Int32} {m : Mem} {H : Heap} {locs : List Loc} {ls : Array Slot} (h : f_X9_offGives_66 fu y0 m = some (r, mE))  (hW : Wd X s m H locs) (hl : lv_has ls 2 [(0, .ref (ad X 20 0))]) : W p l e (rmD 2) s mi args below meth c H locs 0 0 Q (F0 mi 66 ls [.int y0]) := by
  unfold f_X9_offGives_66 at h
  refine lv_iconst (v := 0) C.1 C.2.1 dX9_offGives_66 rfl ?_
  refine lv_aload_n C.1 C.2.1 dX9_offGives_67 rfl (lv_at hl 0 rfl) ?_
  refine zg_X9_now C hW id_20 w_1004 dX9_offGives_68 ?_
  refine lv_iconst (v := 5) C.1 C.2.1 dX9_offGives_71 rfl ?_
  refine zal_21 C hW id_21_0 (inb_E (by decide)) dX9_offGives_72 ?_
  obtain ⟨r_3, m_2, hc_1, h⟩ := doI_E h
  refine zr_cSI C hW (c_X9_within (x0 := y0) (x1 := 0) (x2 := (m ((4000 + 1500 * 0) + (5 : Int32).toNatClampNeg))) hc_1 ) k_X9_within w_1210 ⟨Nat.le_of_ble_eq_true rfl, Nat.le_of_ble_eq_true rfl⟩ ⟨Nat.le_refl 0, Nat.le_refl 0⟩ rfl hl.1 rfl (Nat.le_of_ble_eq_true rfl) dX9_offGives_73 (fun H locs hW => ?_)
  exact ret_i h hq rfl hW dX9_offGives_76
def f_X9_offGives (fu : Nat)   (m : Mem) : Option (Int32 × Mem) := doI (f_X9_counts fu 0 m) (fun r_3 m_2 => seqM (upd m_2 (3800 + (0 : Int32).toNatClampNeg) (m_2 ((4000 + 1500 * 0) + (6 : Int32).toNatClampNeg))) (fun m_4 : Mem => seqM (upd m_4 (3800 + (1 : Int32).toNatClampNeg) (m_4 ((4000 + 1500 * 0) + (5 : Int32).toNatClampNeg))) (fun m_6 : Mem => seqM (upd m_6 (3800 + (2 : Int32).toNatClampNeg) (m_6 ((4000 + 1500 * 0) + (8 : Int32).toNatClampNeg))) (fun m_8 : Mem => if 0 ≤ r_3 then (doI (f_X9_worksOut fu r_3 m_8) (fun r_12 m_11 => f_X9_offGives_66 fu r_12 m_11)) else (f_X9_offGives_66 fu ((m_8 ((4000 + 1500 * 0) + (6 : Int32).toNatClampNeg)) / 20) m_8)))))
set_option maxHeartbeats 4000000 in
set_option maxRecDepth 100000 in
theorem w_X9_offGives {X : TX} {p : Program} {l : Launch} {e : Env} {s : State} {mi : MethodId} {args : Array Value} {below : List Frame} {meth : Method} {c : Code} {Q : State → Prop} {r : Int32} {mE : Mem} (C : Cx X p s mi args c RX9 cX9_offGives 2) (hq : RetI X p l e (rmD 2) s mi args below meth c cX9_offGives .int Q r mE) {fu : Nat}  {m : Mem} {H : Heap} {locs : List Loc} {ls : Array Slot} (h : f_X9_offGives fu  m = some (r, mE))  (hW : Wd X s m H locs) (hl : lv_has ls 2 [(0, .ref (ad X 20 0))]) : W p l e (rmD 2) s mi args below meth c H locs 0 0 Q (F0 mi 0 ls []) := by
  unfold f_X9_offGives at h
  refine lv_aload_n C.1 C.2.1 dX9_offGives_0 rfl (lv_at hl 0 rfl) ?_
  refine lv_iconst (v := 0) C.1 C.2.1 dX9_offGives_1 rfl ?_
  obtain ⟨r_3, m_2, hc_1, h⟩ := doI_E h
  refine zr_cVI C hW (c_X9_counts (x1 := 0) hc_1 ) k_X9_counts (zr_recv C hW id_20 zco_20 rfl) w_1249 ⟨Nat.le_of_ble_eq_true rfl, Nat.le_of_ble_eq_true rfl⟩ ⟨Nat.le_refl 0, Nat.le_refl 0⟩ rfl hl.1 rfl (Nat.le_of_ble_eq_true rfl) dX9_offGives_2 (fun H locs hW => ?_)
  refine lv_istore_n (lv' := [(1, .int r_3), (0, .ref (ad X 20 0))]) C.1 C.2.1 dX9_offGives_5 rfl hl (by decide) rfl (fun ls hl => ?_)
  refine lv_aload_n C.1 C.2.1 dX9_offGives_6 rfl (lv_at hl 1 rfl) ?_
  refine zg_X9_facts C hW id_20 w_1028 dX9_offGives_7 ?_
  refine lv_iconst (v := 0) C.1 C.2.1 dX9_offGives_10 rfl ?_
  refine lv_aload_n C.1 C.2.1 dX9_offGives_11 rfl (lv_at hl 1 rfl) ?_
  refine zg_X9_now C hW id_20 w_1004 dX9_offGives_12 ?_
  refine lv_bipush (v := 6) C.1 C.2.1 dX9_offGives_15 rfl ?_
  refine zal_21 C hW id_21_0 (inb_E (by decide)) dX9_offGives_17 ?_
  obtain ⟨m_4, e_5, h⟩ := seqM_E h
  refine zas_31 C hW id_31 (inb_E (by decide)) e_5 dX9_offGives_18 (fun H locs hW => ?_)
  refine lv_aload_n C.1 C.2.1 dX9_offGives_19 rfl (lv_at hl 1 rfl) ?_
  refine zg_X9_facts C hW id_20 w_1028 dX9_offGives_20 ?_
  refine lv_iconst (v := 1) C.1 C.2.1 dX9_offGives_23 rfl ?_
  refine lv_aload_n C.1 C.2.1 dX9_offGives_24 rfl (lv_at hl 1 rfl) ?_
  refine zg_X9_now C hW id_20 w_1004 dX9_offGives_25 ?_
  refine lv_iconst (v := 5) C.1 C.2.1 dX9_offGives_28 rfl ?_
  refine zal_21 C hW id_21_0 (inb_E (by decide)) dX9_offGives_29 ?_
  obtain ⟨m_6, e_7, h⟩ := seqM_E h
  refine zas_31 C hW id_31 (inb_E (by decide)) e_7 dX9_offGives_30 (fun H locs hW => ?_)
  refine lv_aload_n C.1 C.2.1 dX9_offGives_31 rfl (lv_at hl 1 rfl) ?_
  refine zg_X9_facts C hW id_20 w_1028 dX9_offGives_32 ?_
  refine lv_iconst (v := 2) C.1 C.2.1 dX9_offGives_35 rfl ?_
  refine lv_aload_n C.1 C.2.1 dX9_offGives_36 rfl (lv_at hl 1 rfl) ?_
  refine zg_X9_now C hW id_20 w_1004 dX9_offGives_37 ?_
  refine lv_bipush (v := 8) C.1 C.2.1 dX9_offGives_40 rfl ?_
  refine zal_21 C hW id_21_0 (inb_E (by decide)) dX9_offGives_42 ?_
  obtain ⟨m_8, e_9, h⟩ := seqM_E h
  refine zas_31 C hW id_31 (inb_E (by decide)) e_9 dX9_offGives_43 (fun H locs hW => ?_)
  refine lv_iload_n C.1 C.2.1 dX9_offGives_44 rfl (lv_at hl 0 rfl) ?_
  refine lv_if_ge (tgt := 61) C.1 C.2.1 dX9_offGives_45 (by decide) (fun hc_13 => ?_) (fun hc_13 => ?_)
  · have h := ite_t hc_13 h
    refine lv_aload_n C.1 C.2.1 dX9_offGives_61 rfl (lv_at hl 1 rfl) ?_
    refine lv_iload_n C.1 C.2.1 dX9_offGives_62 rfl (lv_at hl 0 rfl) ?_
    obtain ⟨r_12, m_11, hc_10, h⟩ := doI_E h
    refine zr_cVI C hW (c_X9_worksOut (x1 := r_3) hc_10 ) k_X9_worksOut (zr_recv C hW id_20 zco_20 rfl) w_1253 ⟨Nat.le_of_ble_eq_true rfl, Nat.le_of_ble_eq_true rfl⟩ ⟨Nat.le_refl 0, Nat.le_refl 0⟩ rfl hl.1 rfl (Nat.le_of_ble_eq_true rfl) dX9_offGives_63 (fun H locs hW => ?_)
    exact w_X9_offGives_66 C hq  h  hW (lv_sub hl [1] rfl)
  · have h := ite_f hc_13 h
    refine lv_aload_n C.1 C.2.1 dX9_offGives_48 rfl (lv_at hl 1 rfl) ?_
    refine zg_X9_now C hW id_20 w_1004 dX9_offGives_49 ?_
    refine lv_bipush (v := 6) C.1 C.2.1 dX9_offGives_52 rfl ?_
    refine zal_21 C hW id_21_0 (inb_E (by decide)) dX9_offGives_54 ?_
    refine lv_bipush (v := 20) C.1 C.2.1 dX9_offGives_55 rfl ?_
    refine lv_idiv C.1 C.2.1 dX9_offGives_57 (by decide) ?_
    refine lv_goto (tgt := 66) C.1 C.2.1 dX9_offGives_58 (by decide) ?_
    exact w_X9_offGives_66 C hq  h  hW (lv_sub hl [1] rfl)
theorem c_X9_offGives {X : TX} {l : Launch} {fu : Nat}  {m mE : Mem} {r : Int32} (h : f_X9_offGives fu  m = some (r, mE))  : MetI X l yX9_offGives cX9_offGives 2 .int 2 [.ref (ad X 20 0)] m r mE :=
  met_I (by decide) (Nat.le_of_ble_eq_true rfl) (fun p e s mi args below meth c ls Q C hq hW hl => w_X9_offGives C hq h  hW (lv_sub hl [0] rfl))
theorem k_X9_offGives : CalV yX9_offGives cX9_offGives 2 (some .int) RX9 0 := ⟨w_1247, w_43, w_70, w_1248, by decide +kernel⟩
theorem dX9_hearsNothing_0 : decode cX9_hearsNothing 0 = .ok (.aload_n 0, 1) := by decide +kernel
theorem dX9_hearsNothing_1 : decode cX9_hearsNothing 1 = .ok (.getfield 9, 3) := by decide +kernel
theorem dX9_hearsNothing_4 : decode cX9_hearsNothing 4 = .ok (.iconst 4, 1) := by decide +kernel
theorem dX9_hearsNothing_5 : decode cX9_hearsNothing 5 = .ok (.iaload, 1) := by decide +kernel
theorem dX9_hearsNothing_6 : decode cX9_hearsNothing 6 = .ok (.ifCond .eq 68, 3) := by decide +kernel
theorem dX9_hearsNothing_9 : decode cX9_hearsNothing 9 = .ok (.aload_n 0, 1) := by decide +kernel
theorem dX9_hearsNothing_10 : decode cX9_hearsNothing 10 = .ok (.getfield 9, 3) := by decide +kernel
theorem dX9_hearsNothing_13 : decode cX9_hearsNothing 13 = .ok (.bipush 6, 2) := by decide +kernel
theorem dX9_hearsNothing_15 : decode cX9_hearsNothing 15 = .ok (.iaload, 1) := by decide +kernel
theorem dX9_hearsNothing_16 : decode cX9_hearsNothing 16 = .ok (.aload_n 0, 1) := by decide +kernel
theorem dX9_hearsNothing_17 : decode cX9_hearsNothing 17 = .ok (.getfield 9, 3) := by decide +kernel
theorem dX9_hearsNothing_20 : decode cX9_hearsNothing 20 = .ok (.iconst 4, 1) := by decide +kernel
theorem dX9_hearsNothing_21 : decode cX9_hearsNothing 21 = .ok (.iaload, 1) := by decide +kernel
theorem dX9_hearsNothing_22 : decode cX9_hearsNothing 22 = .ok (.if_icmp .ne 52, 3) := by decide +kernel
theorem dX9_hearsNothing_25 : decode cX9_hearsNothing 25 = .ok (.aload_n 0, 1) := by decide +kernel
theorem dX9_hearsNothing_26 : decode cX9_hearsNothing 26 = .ok (.getfield 9, 3) := by decide +kernel
theorem dX9_hearsNothing_29 : decode cX9_hearsNothing 29 = .ok (.iconst 5, 1) := by decide +kernel
theorem dX9_hearsNothing_30 : decode cX9_hearsNothing 30 = .ok (.aload_n 0, 1) := by decide +kernel
theorem dX9_hearsNothing_31 : decode cX9_hearsNothing 31 = .ok (.getfield 9, 3) := by decide +kernel
theorem dX9_hearsNothing_34 : decode cX9_hearsNothing 34 = .ok (.iconst 5, 1) := by decide +kernel
theorem dX9_hearsNothing_35 : decode cX9_hearsNothing 35 = .ok (.iaload, 1) := by decide +kernel
theorem dX9_hearsNothing_36 : decode cX9_hearsNothing 36 = .ok (.aload_n 0, 1) := by decide +kernel
theorem dX9_hearsNothing_37 : decode cX9_hearsNothing 37 = .ok (.getfield 9, 3) := by decide +kernel
theorem dX9_hearsNothing_40 : decode cX9_hearsNothing 40 = .ok (.bipush 12, 2) := by decide +kernel
theorem dX9_hearsNothing_42 : decode cX9_hearsNothing 42 = .ok (.iaload, 1) := by decide +kernel
theorem dX9_hearsNothing_43 : decode cX9_hearsNothing 43 = .ok (.isub, 1) := by decide +kernel
theorem dX9_hearsNothing_44 : decode cX9_hearsNothing 44 = .ok (.iconst 0, 1) := by decide +kernel
theorem dX9_hearsNothing_45 : decode cX9_hearsNothing 45 = .ok (.sipush 9999, 3) := by decide +kernel
theorem dX9_hearsNothing_48 : decode cX9_hearsNothing 48 = .ok (.invokestatic 143, 3) := by decide +kernel
theorem dX9_hearsNothing_51 : decode cX9_hearsNothing 51 = .ok (.iastore, 1) := by decide +kernel
theorem dX9_hearsNothing_52 : decode cX9_hearsNothing 52 = .ok (.aload_n 0, 1) := by decide +kernel
theorem dX9_hearsNothing_53 : decode cX9_hearsNothing 53 = .ok (.getfield 9, 3) := by decide +kernel
theorem dX9_hearsNothing_56 : decode cX9_hearsNothing 56 = .ok (.bipush 12, 2) := by decide +kernel
theorem dX9_hearsNothing_58 : decode cX9_hearsNothing 58 = .ok (.dup2, 1) := by decide +kernel
theorem dX9_hearsNothing_59 : decode cX9_hearsNothing 59 = .ok (.iaload, 1) := by decide +kernel
theorem dX9_hearsNothing_60 : decode cX9_hearsNothing 60 = .ok (.iconst 1, 1) := by decide +kernel
theorem dX9_hearsNothing_61 : decode cX9_hearsNothing 61 = .ok (.iadd, 1) := by decide +kernel
theorem dX9_hearsNothing_62 : decode cX9_hearsNothing 62 = .ok (.iastore, 1) := by decide +kernel
theorem dX9_hearsNothing_63 : decode cX9_hearsNothing 63 = .ok (.aload_n 0, 1) := by decide +kernel
theorem dX9_hearsNothing_64 : decode cX9_hearsNothing 64 = .ok (.getfield 9, 3) := by decide +kernel
theorem dX9_hearsNothing_67 : decode cX9_hearsNothing 67 = .ok (.bipush 6, 2) := by decide +kernel
theorem dX9_hearsNothing_69 : decode cX9_hearsNothing 69 = .ok (.iconst 0, 1) := by decide +kernel
theorem dX9_hearsNothing_70 : decode cX9_hearsNothing 70 = .ok (.iastore, 1) := by decide +kernel
theorem dX9_hearsNothing_71 : decode cX9_hearsNothing 71 = .ok (.goto 73, 3) := by decide +kernel
theorem dX9_hearsNothing_74 : decode cX9_hearsNothing 74 = .ok (.aload_n 0, 1) := by decide +kernel
theorem dX9_hearsNothing_75 : decode cX9_hearsNothing 75 = .ok (.getfield 9, 3) := by decide +kernel
theorem dX9_hearsNothing_78 : decode cX9_hearsNothing 78 = .ok (.iconst 3, 1) := by decide +kernel
theorem dX9_hearsNothing_79 : decode cX9_hearsNothing 79 = .ok (.iaload, 1) := by decide +kernel
theorem dX9_hearsNothing_80 : decode cX9_hearsNothing 80 = .ok (.ifCond .eq 51, 3) := by decide +kernel
theorem dX9_hearsNothing_83 : decode cX9_hearsNothing 83 = .ok (.aload_n 0, 1) := by decide +kernel
theorem dX9_hearsNothing_84 : decode cX9_hearsNothing 84 = .ok (.getfield 9, 3) := by decide +kernel
theorem dX9_hearsNothing_87 : decode cX9_hearsNothing 87 = .ok (.bipush 6, 2) := by decide +kernel
theorem dX9_hearsNothing_89 : decode cX9_hearsNothing 89 = .ok (.iaload, 1) := by decide +kernel
theorem dX9_hearsNothing_90 : decode cX9_hearsNothing 90 = .ok (.aload_n 0, 1) := by decide +kernel
theorem dX9_hearsNothing_91 : decode cX9_hearsNothing 91 = .ok (.getfield 9, 3) := by decide +kernel
theorem dX9_hearsNothing_94 : decode cX9_hearsNothing 94 = .ok (.iconst 3, 1) := by decide +kernel
theorem dX9_hearsNothing_95 : decode cX9_hearsNothing 95 = .ok (.iaload, 1) := by decide +kernel
theorem dX9_hearsNothing_96 : decode cX9_hearsNothing 96 = .ok (.if_icmp .lt 35, 3) := by decide +kernel
theorem dX9_hearsNothing_99 : decode cX9_hearsNothing 99 = .ok (.aload_n 0, 1) := by decide +kernel
theorem dX9_hearsNothing_100 : decode cX9_hearsNothing 100 = .ok (.getfield 9, 3) := by decide +kernel
theorem dX9_hearsNothing_103 : decode cX9_hearsNothing 103 = .ok (.iconst 5, 1) := by decide +kernel
theorem dX9_hearsNothing_104 : decode cX9_hearsNothing 104 = .ok (.dup2, 1) := by decide +kernel
theorem dX9_hearsNothing_105 : decode cX9_hearsNothing 105 = .ok (.iaload, 1) := by decide +kernel
theorem dX9_hearsNothing_106 : decode cX9_hearsNothing 106 = .ok (.iconst 2, 1) := by decide +kernel
theorem dX9_hearsNothing_107 : decode cX9_hearsNothing 107 = .ok (.idiv, 1) := by decide +kernel
theorem dX9_hearsNothing_108 : decode cX9_hearsNothing 108 = .ok (.iastore, 1) := by decide +kernel
theorem dX9_hearsNothing_109 : decode cX9_hearsNothing 109 = .ok (.aload_n 0, 1) := by decide +kernel
theorem dX9_hearsNothing_110 : decode cX9_hearsNothing 110 = .ok (.getfield 9, 3) := by decide +kernel
theorem dX9_hearsNothing_113 : decode cX9_hearsNothing 113 = .ok (.bipush 13, 2) := by decide +kernel
theorem dX9_hearsNothing_115 : decode cX9_hearsNothing 115 = .ok (.dup2, 1) := by decide +kernel
theorem dX9_hearsNothing_116 : decode cX9_hearsNothing 116 = .ok (.iaload, 1) := by decide +kernel
theorem dX9_hearsNothing_117 : decode cX9_hearsNothing 117 = .ok (.iconst 1, 1) := by decide +kernel
theorem dX9_hearsNothing_118 : decode cX9_hearsNothing 118 = .ok (.iadd, 1) := by decide +kernel
theorem dX9_hearsNothing_119 : decode cX9_hearsNothing 119 = .ok (.iastore, 1) := by decide +kernel
theorem dX9_hearsNothing_120 : decode cX9_hearsNothing 120 = .ok (.aload_n 0, 1) := by decide +kernel
theorem dX9_hearsNothing_121 : decode cX9_hearsNothing 121 = .ok (.getfield 9, 3) := by decide +kernel
theorem dX9_hearsNothing_124 : decode cX9_hearsNothing 124 = .ok (.bipush 6, 2) := by decide +kernel
theorem dX9_hearsNothing_126 : decode cX9_hearsNothing 126 = .ok (.iconst 0, 1) := by decide +kernel
theorem dX9_hearsNothing_127 : decode cX9_hearsNothing 127 = .ok (.iastore, 1) := by decide +kernel
theorem dX9_hearsNothing_128 : decode cX9_hearsNothing 128 = .ok (.goto 16, 3) := by decide +kernel
theorem dX9_hearsNothing_131 : decode cX9_hearsNothing 131 = .ok (.aload_n 0, 1) := by decide +kernel
theorem dX9_hearsNothing_132 : decode cX9_hearsNothing 132 = .ok (.getfield 9, 3) := by decide +kernel
theorem dX9_hearsNothing_135 : decode cX9_hearsNothing 135 = .ok (.iconst 5, 1) := by decide +kernel
theorem dX9_hearsNothing_136 : decode cX9_hearsNothing 136 = .ok (.dup2, 1) := by decide +kernel
theorem dX9_hearsNothing_137 : decode cX9_hearsNothing 137 = .ok (.iaload, 1) := by decide +kernel
theorem dX9_hearsNothing_138 : decode cX9_hearsNothing 138 = .ok (.aload_n 0, 1) := by decide +kernel
theorem dX9_hearsNothing_139 : decode cX9_hearsNothing 139 = .ok (.invokevirtual 146, 3) := by decide +kernel
theorem dX9_hearsNothing_142 : decode cX9_hearsNothing 142 = .ok (.isub, 1) := by decide +kernel
theorem dX9_hearsNothing_143 : decode cX9_hearsNothing 143 = .ok (.iastore, 1) := by decide +kernel
theorem dX9_hearsNothing_144 : decode cX9_hearsNothing 144 = .ok (.return_, 1) := by decide +kernel
def f_X9_hearsNothing_131 (fu : Nat)   (m : Mem) : Option Mem := doI (f_X9_offGives fu  m) (fun r_3 m_2 => seqM (upd m_2 ((4000 + 1500 * 0) + (5 : Int32).toNatClampNeg) ((m ((4000 + 1500 * 0) + (5 : Int32).toNatClampNeg)) - r_3)) (fun m_4 : Mem => some m_4))
set_option maxHeartbeats 4000000 in
set_option maxRecDepth 100000 in
theorem w_X9_hearsNothing_131 {X : TX} {p : Program} {l : Launch} {e : Env} {s : State} {mi : MethodId} {args : Array Value} {below : List Frame} {meth : Method} {c : Code} {Q : State → Prop} {mE : Mem} (C : Cx X p s mi args c RX9 cX9_hearsNothing 1) (hq : RetV X p l e (rmD 3) s mi args below meth c cX9_hearsNothing Q mE) {fu : Nat}  {m : Mem} {H : Heap} {locs : List Loc} {ls : Array Slot} (h : f_X9_hearsNothing_131 fu  m = some mE)  (hW : Wd X s m H locs) (hl : lv_has ls 1 [(0, .ref (ad X 20 0))]) : W p l e (rmD 3) s mi args below meth c H locs 0 0 Q (F0 mi 131 ls []) := by
  unfold f_X9_hearsNothing_131 at h
  refine lv_aload_n C.1 C.2.1 dX9_hearsNothing_131 rfl (lv_at hl 0 rfl) ?_
  refine zg_X9_now C hW id_20 w_1004 dX9_hearsNothing_132 ?_
  refine lv_iconst (v := 5) C.1 C.2.1 dX9_hearsNothing_135 rfl ?_
  refine lv_dup2_11 C.1 C.2.1 dX9_hearsNothing_136 rfl rfl ?_
  refine zal_21 C hW id_21_0 (inb_E (by decide)) dX9_hearsNothing_137 ?_
  refine lv_aload_n C.1 C.2.1 dX9_hearsNothing_138 rfl (lv_at hl 0 rfl) ?_
  obtain ⟨r_3, m_2, hc_1, h⟩ := doI_E h
  refine zr_cVI C hW (c_X9_offGives  hc_1 ) k_X9_offGives (zr_recv C hW id_20 zco_20 rfl) w_1245 ⟨Nat.le_of_ble_eq_true rfl, Nat.le_of_ble_eq_true rfl⟩ ⟨Nat.le_refl 0, Nat.le_refl 0⟩ rfl hl.1 rfl (Nat.le_of_ble_eq_true rfl) dX9_hearsNothing_139 (fun H locs hW => ?_)
  refine lv_isub C.1 C.2.1 dX9_hearsNothing_142 ?_
  obtain ⟨m_4, e_5, h⟩ := seqM_E h
  refine zas_21 C hW id_21_0 (inb_E (by decide)) e_5 dX9_hearsNothing_143 (fun H locs hW => ?_)
  exact ret_v h hq hW dX9_hearsNothing_144
def f_X9_hearsNothing_74 (fu : Nat)   (m : Mem) : Option Mem := if (m ((4000 + 1500 * 0) + (3 : Int32).toNatClampNeg)) = 0 then (f_X9_hearsNothing_131 fu m) else (if (m ((4000 + 1500 * 0) + (6 : Int32).toNatClampNeg)) < (m ((4000 + 1500 * 0) + (3 : Int32).toNatClampNeg)) then (f_X9_hearsNothing_131 fu m) else (seqM (upd m ((4000 + 1500 * 0) + (5 : Int32).toNatClampNeg) ((m ((4000 + 1500 * 0) + (5 : Int32).toNatClampNeg)) / 2)) (fun m_1 : Mem => seqM (upd m_1 ((4000 + 1500 * 0) + (13 : Int32).toNatClampNeg) ((m_1 ((4000 + 1500 * 0) + (13 : Int32).toNatClampNeg)) + 1)) (fun m_3 : Mem => seqM (upd m_3 ((4000 + 1500 * 0) + (6 : Int32).toNatClampNeg) 0) (fun m_5 : Mem => some m_5)))))
set_option maxHeartbeats 4000000 in
set_option maxRecDepth 100000 in
theorem w_X9_hearsNothing_74 {X : TX} {p : Program} {l : Launch} {e : Env} {s : State} {mi : MethodId} {args : Array Value} {below : List Frame} {meth : Method} {c : Code} {Q : State → Prop} {mE : Mem} (C : Cx X p s mi args c RX9 cX9_hearsNothing 1) (hq : RetV X p l e (rmD 3) s mi args below meth c cX9_hearsNothing Q mE) {fu : Nat}  {m : Mem} {H : Heap} {locs : List Loc} {ls : Array Slot} (h : f_X9_hearsNothing_74 fu  m = some mE)  (hW : Wd X s m H locs) (hl : lv_has ls 1 [(0, .ref (ad X 20 0))]) : W p l e (rmD 3) s mi args below meth c H locs 0 0 Q (F0 mi 74 ls []) := by
  unfold f_X9_hearsNothing_74 at h
  refine lv_aload_n C.1 C.2.1 dX9_hearsNothing_74 rfl (lv_at hl 0 rfl) ?_
  refine zg_X9_now C hW id_20 w_1004 dX9_hearsNothing_75 ?_
  refine lv_iconst (v := 3) C.1 C.2.1 dX9_hearsNothing_78 rfl ?_
  refine zal_21 C hW id_21_0 (inb_E (by decide)) dX9_hearsNothing_79 ?_
  refine lv_if_eq (tgt := 131) C.1 C.2.1 dX9_hearsNothing_80 (by decide) (fun hc_8 => ?_) (fun hc_8 => ?_)
  · have h := ite_t hc_8 h
    exact w_X9_hearsNothing_131 C hq  h  hW (lv_sub hl [0] rfl)
  · have h := ite_f hc_8 h
    refine lv_aload_n C.1 C.2.1 dX9_hearsNothing_83 rfl (lv_at hl 0 rfl) ?_
    refine zg_X9_now C hW id_20 w_1004 dX9_hearsNothing_84 ?_
    refine lv_bipush (v := 6) C.1 C.2.1 dX9_hearsNothing_87 rfl ?_
    refine zal_21 C hW id_21_0 (inb_E (by decide)) dX9_hearsNothing_89 ?_
    refine lv_aload_n C.1 C.2.1 dX9_hearsNothing_90 rfl (lv_at hl 0 rfl) ?_
    refine zg_X9_now C hW id_20 w_1004 dX9_hearsNothing_91 ?_
    refine lv_iconst (v := 3) C.1 C.2.1 dX9_hearsNothing_94 rfl ?_
    refine zal_21 C hW id_21_0 (inb_E (by decide)) dX9_hearsNothing_95 ?_
    refine lv_icmp_lt (tgt := 131) C.1 C.2.1 dX9_hearsNothing_96 (by decide) (fun hc_7 => ?_) (fun hc_7 => ?_)
    · have h := ite_t hc_7 h
      exact w_X9_hearsNothing_131 C hq  h  hW (lv_sub hl [0] rfl)
    · have h := ite_f hc_7 h
      refine lv_aload_n C.1 C.2.1 dX9_hearsNothing_99 rfl (lv_at hl 0 rfl) ?_
      refine zg_X9_now C hW id_20 w_1004 dX9_hearsNothing_100 ?_
      refine lv_iconst (v := 5) C.1 C.2.1 dX9_hearsNothing_103 rfl ?_
      refine lv_dup2_11 C.1 C.2.1 dX9_hearsNothing_104 rfl rfl ?_
      refine zal_21 C hW id_21_0 (inb_E (by decide)) dX9_hearsNothing_105 ?_
      refine lv_iconst (v := 2) C.1 C.2.1 dX9_hearsNothing_106 rfl ?_
      refine lv_idiv C.1 C.2.1 dX9_hearsNothing_107 (by decide) ?_
      obtain ⟨m_1, e_2, h⟩ := seqM_E h
      refine zas_21 C hW id_21_0 (inb_E (by decide)) e_2 dX9_hearsNothing_108 (fun H locs hW => ?_)
      refine lv_aload_n C.1 C.2.1 dX9_hearsNothing_109 rfl (lv_at hl 0 rfl) ?_
      refine zg_X9_now C hW id_20 w_1004 dX9_hearsNothing_110 ?_
      refine lv_bipush (v := 13) C.1 C.2.1 dX9_hearsNothing_113 rfl ?_
      refine lv_dup2_11 C.1 C.2.1 dX9_hearsNothing_115 rfl rfl ?_
      refine zal_21 C hW id_21_0 (inb_E (by decide)) dX9_hearsNothing_116 ?_
      refine lv_iconst (v := 1) C.1 C.2.1 dX9_hearsNothing_117 rfl ?_
      refine lv_iadd C.1 C.2.1 dX9_hearsNothing_118 ?_
      obtain ⟨m_3, e_4, h⟩ := seqM_E h
      refine zas_21 C hW id_21_0 (inb_E (by decide)) e_4 dX9_hearsNothing_119 (fun H locs hW => ?_)
      refine lv_aload_n C.1 C.2.1 dX9_hearsNothing_120 rfl (lv_at hl 0 rfl) ?_
      refine zg_X9_now C hW id_20 w_1004 dX9_hearsNothing_121 ?_
      refine lv_bipush (v := 6) C.1 C.2.1 dX9_hearsNothing_124 rfl ?_
      refine lv_iconst (v := 0) C.1 C.2.1 dX9_hearsNothing_126 rfl ?_
      obtain ⟨m_5, e_6, h⟩ := seqM_E h
      refine zas_21 C hW id_21_0 (inb_E (by decide)) e_6 dX9_hearsNothing_127 (fun H locs hW => ?_)
      refine lv_goto (tgt := 144) C.1 C.2.1 dX9_hearsNothing_128 (by decide) ?_
      exact ret_v h hq hW dX9_hearsNothing_144
def f_X9_hearsNothing (fu : Nat)   (m : Mem) : Option Mem := if (m ((4000 + 1500 * 0) + (4 : Int32).toNatClampNeg)) = 0 then (f_X9_hearsNothing_74 fu m) else (if (m ((4000 + 1500 * 0) + (6 : Int32).toNatClampNeg)) = (m ((4000 + 1500 * 0) + (4 : Int32).toNatClampNeg)) then (doI (f_X9_within fu ((m ((4000 + 1500 * 0) + (5 : Int32).toNatClampNeg)) - (m ((4000 + 1500 * 0) + (12 : Int32).toNatClampNeg))) 0 9999 m) (fun r_3 m_2 => seqM (upd m_2 ((4000 + 1500 * 0) + (5 : Int32).toNatClampNeg) r_3) (fun m_4 : Mem => seqM (upd m_4 ((4000 + 1500 * 0) + (12 : Int32).toNatClampNeg) ((m_4 ((4000 + 1500 * 0) + (12 : Int32).toNatClampNeg)) + 1)) (fun m_6 : Mem => seqM (upd m_6 ((4000 + 1500 * 0) + (6 : Int32).toNatClampNeg) 0) (fun m_8 : Mem => some m_8))))) else (f_X9_hearsNothing_74 fu m))
set_option maxHeartbeats 4000000 in
set_option maxRecDepth 100000 in
theorem w_X9_hearsNothing {X : TX} {p : Program} {l : Launch} {e : Env} {s : State} {mi : MethodId} {args : Array Value} {below : List Frame} {meth : Method} {c : Code} {Q : State → Prop} {mE : Mem} (C : Cx X p s mi args c RX9 cX9_hearsNothing 1) (hq : RetV X p l e (rmD 3) s mi args below meth c cX9_hearsNothing Q mE) {fu : Nat}  {m : Mem} {H : Heap} {locs : List Loc} {ls : Array Slot} (h : f_X9_hearsNothing fu  m = some mE)  (hW : Wd X s m H locs) (hl : lv_has ls 1 [(0, .ref (ad X 20 0))]) : W p l e (rmD 3) s mi args below meth c H locs 0 0 Q (F0 mi 0 ls []) := by
  unfold f_X9_hearsNothing at h
  refine lv_aload_n C.1 C.2.1 dX9_hearsNothing_0 rfl (lv_at hl 0 rfl) ?_
  refine zg_X9_now C hW id_20 w_1004 dX9_hearsNothing_1 ?_
  refine lv_iconst (v := 4) C.1 C.2.1 dX9_hearsNothing_4 rfl ?_
  refine zal_21 C hW id_21_0 (inb_E (by decide)) dX9_hearsNothing_5 ?_
  refine lv_if_eq (tgt := 74) C.1 C.2.1 dX9_hearsNothing_6 (by decide) (fun hc_11 => ?_) (fun hc_11 => ?_)
  · have h := ite_t hc_11 h
    exact w_X9_hearsNothing_74 C hq  h  hW (lv_sub hl [0] rfl)
  · have h := ite_f hc_11 h
    refine lv_aload_n C.1 C.2.1 dX9_hearsNothing_9 rfl (lv_at hl 0 rfl) ?_
    refine zg_X9_now C hW id_20 w_1004 dX9_hearsNothing_10 ?_
    refine lv_bipush (v := 6) C.1 C.2.1 dX9_hearsNothing_13 rfl ?_
    refine zal_21 C hW id_21_0 (inb_E (by decide)) dX9_hearsNothing_15 ?_
    refine lv_aload_n C.1 C.2.1 dX9_hearsNothing_16 rfl (lv_at hl 0 rfl) ?_
    refine zg_X9_now C hW id_20 w_1004 dX9_hearsNothing_17 ?_
    refine lv_iconst (v := 4) C.1 C.2.1 dX9_hearsNothing_20 rfl ?_
    refine zal_21 C hW id_21_0 (inb_E (by decide)) dX9_hearsNothing_21 ?_
    refine lv_icmp_ne (tgt := 74) C.1 C.2.1 dX9_hearsNothing_22 (by decide) (fun hc_10 => ?_) (fun hc_10 => ?_)
    · have h := ite_f hc_10 h
      exact w_X9_hearsNothing_74 C hq  h  hW (lv_sub hl [0] rfl)
    · have h := ite_t hc_10 h
      refine lv_aload_n C.1 C.2.1 dX9_hearsNothing_25 rfl (lv_at hl 0 rfl) ?_
      refine zg_X9_now C hW id_20 w_1004 dX9_hearsNothing_26 ?_
      refine lv_iconst (v := 5) C.1 C.2.1 dX9_hearsNothing_29 rfl ?_
      refine lv_aload_n C.1 C.2.1 dX9_hearsNothing_30 rfl (lv_at hl 0 rfl) ?_
      refine zg_X9_now C hW id_20 w_1004 dX9_hearsNothing_31 ?_
      refine lv_iconst (v := 5) C.1 C.2.1 dX9_hearsNothing_34 rfl ?_
      refine zal_21 C hW id_21_0 (inb_E (by decide)) dX9_hearsNothing_35 ?_
      refine lv_aload_n C.1 C.2.1 dX9_hearsNothing_36 rfl (lv_at hl 0 rfl) ?_
      refine zg_X9_now C hW id_20 w_1004 dX9_hearsNothing_37 ?_
      refine lv_bipush (v := 12) C.1 C.2.1 dX9_hearsNothing_40 rfl ?_
      refine zal_21 C hW id_21_0 (inb_E (by decide)) dX9_hearsNothing_42 ?_
      refine lv_isub C.1 C.2.1 dX9_hearsNothing_43 ?_
      refine lv_iconst (v := 0) C.1 C.2.1 dX9_hearsNothing_44 rfl ?_
      refine lv_sipush (v := 9999) C.1 C.2.1 dX9_hearsNothing_45 rfl ?_
      obtain ⟨r_3, m_2, hc_1, h⟩ := doI_E h
      refine zr_cSI C hW (c_X9_within (x0 := ((m ((4000 + 1500 * 0) + (5 : Int32).toNatClampNeg)) - (m ((4000 + 1500 * 0) + (12 : Int32).toNatClampNeg)))) (x1 := 0) (x2 := 9999) hc_1 ) k_X9_within w_1210 ⟨Nat.le_of_ble_eq_true rfl, Nat.le_of_ble_eq_true rfl⟩ ⟨Nat.le_refl 0, Nat.le_refl 0⟩ rfl hl.1 rfl (Nat.le_of_ble_eq_true rfl) dX9_hearsNothing_48 (fun H locs hW => ?_)
      obtain ⟨m_4, e_5, h⟩ := seqM_E h
      refine zas_21 C hW id_21_0 (inb_E (by decide)) e_5 dX9_hearsNothing_51 (fun H locs hW => ?_)
      refine lv_aload_n C.1 C.2.1 dX9_hearsNothing_52 rfl (lv_at hl 0 rfl) ?_
      refine zg_X9_now C hW id_20 w_1004 dX9_hearsNothing_53 ?_
      refine lv_bipush (v := 12) C.1 C.2.1 dX9_hearsNothing_56 rfl ?_
      refine lv_dup2_11 C.1 C.2.1 dX9_hearsNothing_58 rfl rfl ?_
      refine zal_21 C hW id_21_0 (inb_E (by decide)) dX9_hearsNothing_59 ?_
      refine lv_iconst (v := 1) C.1 C.2.1 dX9_hearsNothing_60 rfl ?_
      refine lv_iadd C.1 C.2.1 dX9_hearsNothing_61 ?_
      obtain ⟨m_6, e_7, h⟩ := seqM_E h
      refine zas_21 C hW id_21_0 (inb_E (by decide)) e_7 dX9_hearsNothing_62 (fun H locs hW => ?_)
      refine lv_aload_n C.1 C.2.1 dX9_hearsNothing_63 rfl (lv_at hl 0 rfl) ?_
      refine zg_X9_now C hW id_20 w_1004 dX9_hearsNothing_64 ?_
      refine lv_bipush (v := 6) C.1 C.2.1 dX9_hearsNothing_67 rfl ?_
      refine lv_iconst (v := 0) C.1 C.2.1 dX9_hearsNothing_69 rfl ?_
      obtain ⟨m_8, e_9, h⟩ := seqM_E h
      refine zas_21 C hW id_21_0 (inb_E (by decide)) e_9 dX9_hearsNothing_70 (fun H locs hW => ?_)
      refine lv_goto (tgt := 144) C.1 C.2.1 dX9_hearsNothing_71 (by decide) ?_
      exact ret_v h hq hW dX9_hearsNothing_144
theorem c_X9_hearsNothing {X : TX} {l : Launch} {fu : Nat}  {m mE : Mem} (h : f_X9_hearsNothing fu  m = some mE)  : MetV X l yX9_hearsNothing cX9_hearsNothing 1 3 [.ref (ad X 20 0)] m mE :=
  met_V (by decide) (Nat.le_of_ble_eq_true rfl) (fun p e s mi args below meth c ls Q C hq hW hl => w_X9_hearsNothing C hq h  hW (lv_sub hl [0] rfl))
theorem k_X9_hearsNothing : CalV yX9_hearsNothing cX9_hearsNothing 1 none RX9 0 := ⟨w_1243, w_42, w_70, w_1244, by decide +kernel⟩
theorem dX9_tenth_0 : decode cX9_tenth 0 = .ok (.iconst 0, 1) := by decide +kernel
theorem dX9_tenth_1 : decode cX9_tenth 1 = .ok (.istore_n 1, 1) := by decide +kernel
theorem dX9_tenth_2 : decode cX9_tenth 2 = .ok (.iload_n 1, 1) := by decide +kernel
theorem dX9_tenth_3 : decode cX9_tenth 3 = .ok (.aload_n 0, 1) := by decide +kernel
theorem dX9_tenth_4 : decode cX9_tenth 4 = .ok (.getfield 9, 3) := by decide +kernel
theorem dX9_tenth_7 : decode cX9_tenth 7 = .ok (.iconst 1, 1) := by decide +kernel
theorem dX9_tenth_8 : decode cX9_tenth 8 = .ok (.iaload, 1) := by decide +kernel
theorem dX9_tenth_9 : decode cX9_tenth 9 = .ok (.if_icmp .ge 59, 3) := by decide +kernel
theorem dX9_tenth_12 : decode cX9_tenth 12 = .ok (.aload_n 0, 1) := by decide +kernel
theorem dX9_tenth_13 : decode cX9_tenth 13 = .ok (.iload_n 1, 1) := by decide +kernel
theorem dX9_tenth_14 : decode cX9_tenth 14 = .ok (.iconst 4, 1) := by decide +kernel
theorem dX9_tenth_15 : decode cX9_tenth 15 = .ok (.invokevirtual 97, 3) := by decide +kernel
theorem dX9_tenth_18 : decode cX9_tenth 18 = .ok (.ifCond .le 44, 3) := by decide +kernel
theorem dX9_tenth_21 : decode cX9_tenth 21 = .ok (.aload_n 0, 1) := by decide +kernel
theorem dX9_tenth_22 : decode cX9_tenth 22 = .ok (.iload_n 1, 1) := by decide +kernel
theorem dX9_tenth_23 : decode cX9_tenth 23 = .ok (.iconst 4, 1) := by decide +kernel
theorem dX9_tenth_24 : decode cX9_tenth 24 = .ok (.aload_n 0, 1) := by decide +kernel
theorem dX9_tenth_25 : decode cX9_tenth 25 = .ok (.iload_n 1, 1) := by decide +kernel
theorem dX9_tenth_26 : decode cX9_tenth 26 = .ok (.iconst 4, 1) := by decide +kernel
theorem dX9_tenth_27 : decode cX9_tenth 27 = .ok (.invokevirtual 97, 3) := by decide +kernel
theorem dX9_tenth_30 : decode cX9_tenth 30 = .ok (.iconst 1, 1) := by decide +kernel
theorem dX9_tenth_31 : decode cX9_tenth 31 = .ok (.isub, 1) := by decide +kernel
theorem dX9_tenth_32 : decode cX9_tenth 32 = .ok (.invokevirtual 83, 3) := by decide +kernel
theorem dX9_tenth_35 : decode cX9_tenth 35 = .ok (.aload_n 0, 1) := by decide +kernel
theorem dX9_tenth_36 : decode cX9_tenth 36 = .ok (.getfield 9, 3) := by decide +kernel
theorem dX9_tenth_39 : decode cX9_tenth 39 = .ok (.bipush 14, 2) := by decide +kernel
theorem dX9_tenth_41 : decode cX9_tenth 41 = .ok (.aload_n 0, 1) := by decide +kernel
theorem dX9_tenth_42 : decode cX9_tenth 42 = .ok (.iload_n 1, 1) := by decide +kernel
theorem dX9_tenth_43 : decode cX9_tenth 43 = .ok (.iconst 4, 1) := by decide +kernel
theorem dX9_tenth_44 : decode cX9_tenth 44 = .ok (.invokevirtual 97, 3) := by decide +kernel
theorem dX9_tenth_47 : decode cX9_tenth 47 = .ok (.ifCond .ne 7, 3) := by decide +kernel
theorem dX9_tenth_50 : decode cX9_tenth 50 = .ok (.iload_n 1, 1) := by decide +kernel
theorem dX9_tenth_51 : decode cX9_tenth 51 = .ok (.goto 10, 3) := by decide +kernel
theorem dX9_tenth_54 : decode cX9_tenth 54 = .ok (.aload_n 0, 1) := by decide +kernel
theorem dX9_tenth_55 : decode cX9_tenth 55 = .ok (.getfield 9, 3) := by decide +kernel
theorem dX9_tenth_58 : decode cX9_tenth 58 = .ok (.bipush 14, 2) := by decide +kernel
theorem dX9_tenth_60 : decode cX9_tenth 60 = .ok (.iaload, 1) := by decide +kernel
theorem dX9_tenth_61 : decode cX9_tenth 61 = .ok (.iastore, 1) := by decide +kernel
theorem dX9_tenth_62 : decode cX9_tenth 62 = .ok (.iinc 1 1, 3) := by decide +kernel
theorem dX9_tenth_65 : decode cX9_tenth 65 = .ok (.goto (-63), 3) := by decide +kernel
theorem dX9_tenth_68 : decode cX9_tenth 68 = .ok (.aload_n 0, 1) := by decide +kernel
theorem dX9_tenth_69 : decode cX9_tenth 69 = .ok (.invokevirtual 134, 3) := by decide +kernel
theorem dX9_tenth_72 : decode cX9_tenth 72 = .ok (.ifCond .ne 7, 3) := by decide +kernel
theorem dX9_tenth_75 : decode cX9_tenth 75 = .ok (.iconst 1, 1) := by decide +kernel
theorem dX9_tenth_76 : decode cX9_tenth 76 = .ok (.goto 4, 3) := by decide +kernel
theorem dX9_tenth_79 : decode cX9_tenth 79 = .ok (.iconst 0, 1) := by decide +kernel
theorem dX9_tenth_80 : decode cX9_tenth 80 = .ok (.istore_n 1, 1) := by decide +kernel
theorem dX9_tenth_81 : decode cX9_tenth 81 = .ok (.aload_n 0, 1) := by decide +kernel
theorem dX9_tenth_82 : decode cX9_tenth 82 = .ok (.getfield 9, 3) := by decide +kernel
theorem dX9_tenth_85 : decode cX9_tenth 85 = .ok (.bipush 6, 2) := by decide +kernel
theorem dX9_tenth_87 : decode cX9_tenth 87 = .ok (.iload_n 1, 1) := by decide +kernel
theorem dX9_tenth_88 : decode cX9_tenth 88 = .ok (.ifCond .eq 15, 3) := by decide +kernel
theorem dX9_tenth_91 : decode cX9_tenth 91 = .ok (.aload_n 0, 1) := by decide +kernel
theorem dX9_tenth_92 : decode cX9_tenth 92 = .ok (.getfield 9, 3) := by decide +kernel
theorem dX9_tenth_95 : decode cX9_tenth 95 = .ok (.bipush 6, 2) := by decide +kernel
theorem dX9_tenth_97 : decode cX9_tenth 97 = .ok (.iaload, 1) := by decide +kernel
theorem dX9_tenth_98 : decode cX9_tenth 98 = .ok (.iconst 1, 1) := by decide +kernel
theorem dX9_tenth_99 : decode cX9_tenth 99 = .ok (.iadd, 1) := by decide +kernel
theorem dX9_tenth_100 : decode cX9_tenth 100 = .ok (.goto 4, 3) := by decide +kernel
theorem dX9_tenth_103 : decode cX9_tenth 103 = .ok (.iconst 0, 1) := by decide +kernel
theorem dX9_tenth_104 : decode cX9_tenth 104 = .ok (.iastore, 1) := by decide +kernel
theorem dX9_tenth_105 : decode cX9_tenth 105 = .ok (.aload_n 0, 1) := by decide +kernel
theorem dX9_tenth_106 : decode cX9_tenth 106 = .ok (.getfield 9, 3) := by decide +kernel
theorem dX9_tenth_109 : decode cX9_tenth 109 = .ok (.bipush 7, 2) := by decide +kernel
theorem dX9_tenth_111 : decode cX9_tenth 111 = .ok (.dup2, 1) := by decide +kernel
theorem dX9_tenth_112 : decode cX9_tenth 112 = .ok (.iaload, 1) := by decide +kernel
theorem dX9_tenth_113 : decode cX9_tenth 113 = .ok (.iload_n 1, 1) := by decide +kernel
theorem dX9_tenth_114 : decode cX9_tenth 114 = .ok (.ifCond .eq 7, 3) := by decide +kernel
theorem dX9_tenth_117 : decode cX9_tenth 117 = .ok (.iconst 1, 1) := by decide +kernel
theorem dX9_tenth_118 : decode cX9_tenth 118 = .ok (.goto 4, 3) := by decide +kernel
theorem dX9_tenth_121 : decode cX9_tenth 121 = .ok (.iconst 0, 1) := by decide +kernel
theorem dX9_tenth_122 : decode cX9_tenth 122 = .ok (.iadd, 1) := by decide +kernel
theorem dX9_tenth_123 : decode cX9_tenth 123 = .ok (.iastore, 1) := by decide +kernel
theorem dX9_tenth_124 : decode cX9_tenth 124 = .ok (.aload_n 0, 1) := by decide +kernel
theorem dX9_tenth_125 : decode cX9_tenth 125 = .ok (.getfield 9, 3) := by decide +kernel
theorem dX9_tenth_128 : decode cX9_tenth 128 = .ok (.bipush 8, 2) := by decide +kernel
theorem dX9_tenth_130 : decode cX9_tenth 130 = .ok (.aload_n 0, 1) := by decide +kernel
theorem dX9_tenth_131 : decode cX9_tenth 131 = .ok (.getfield 9, 3) := by decide +kernel
theorem dX9_tenth_134 : decode cX9_tenth 134 = .ok (.bipush 6, 2) := by decide +kernel
theorem dX9_tenth_136 : decode cX9_tenth 136 = .ok (.iaload, 1) := by decide +kernel
theorem dX9_tenth_137 : decode cX9_tenth 137 = .ok (.aload_n 0, 1) := by decide +kernel
theorem dX9_tenth_138 : decode cX9_tenth 138 = .ok (.getfield 9, 3) := by decide +kernel
theorem dX9_tenth_141 : decode cX9_tenth 141 = .ok (.bipush 8, 2) := by decide +kernel
theorem dX9_tenth_143 : decode cX9_tenth 143 = .ok (.iaload, 1) := by decide +kernel
theorem dX9_tenth_144 : decode cX9_tenth 144 = .ok (.if_icmp .le 13, 3) := by decide +kernel
theorem dX9_tenth_147 : decode cX9_tenth 147 = .ok (.aload_n 0, 1) := by decide +kernel
theorem dX9_tenth_148 : decode cX9_tenth 148 = .ok (.getfield 9, 3) := by decide +kernel
theorem dX9_tenth_151 : decode cX9_tenth 151 = .ok (.bipush 6, 2) := by decide +kernel
theorem dX9_tenth_153 : decode cX9_tenth 153 = .ok (.iaload, 1) := by decide +kernel
theorem dX9_tenth_154 : decode cX9_tenth 154 = .ok (.goto 10, 3) := by decide +kernel
theorem dX9_tenth_157 : decode cX9_tenth 157 = .ok (.aload_n 0, 1) := by decide +kernel
theorem dX9_tenth_158 : decode cX9_tenth 158 = .ok (.getfield 9, 3) := by decide +kernel
theorem dX9_tenth_161 : decode cX9_tenth 161 = .ok (.bipush 8, 2) := by decide +kernel
theorem dX9_tenth_163 : decode cX9_tenth 163 = .ok (.iaload, 1) := by decide +kernel
theorem dX9_tenth_164 : decode cX9_tenth 164 = .ok (.iastore, 1) := by decide +kernel
theorem dX9_tenth_165 : decode cX9_tenth 165 = .ok (.aload_n 0, 1) := by decide +kernel
theorem dX9_tenth_166 : decode cX9_tenth 166 = .ok (.aload_n 0, 1) := by decide +kernel
theorem dX9_tenth_167 : decode cX9_tenth 167 = .ok (.getfield 9, 3) := by decide +kernel
theorem dX9_tenth_170 : decode cX9_tenth 170 = .ok (.bipush 6, 2) := by decide +kernel
theorem dX9_tenth_172 : decode cX9_tenth 172 = .ok (.iaload, 1) := by decide +kernel
theorem dX9_tenth_173 : decode cX9_tenth 173 = .ok (.putfield 149, 3) := by decide +kernel
theorem dX9_tenth_176 : decode cX9_tenth 176 = .ok (.iload_n 1, 1) := by decide +kernel
theorem dX9_tenth_177 : decode cX9_tenth 177 = .ok (.ifCond .eq 29, 3) := by decide +kernel
theorem dX9_tenth_180 : decode cX9_tenth 180 = .ok (.aload_n 0, 1) := by decide +kernel
theorem dX9_tenth_181 : decode cX9_tenth 181 = .ok (.invokevirtual 153, 3) := by decide +kernel
theorem dX9_tenth_184 : decode cX9_tenth 184 = .ok (.istore_n 2, 1) := by decide +kernel
theorem dX9_tenth_185 : decode cX9_tenth 185 = .ok (.iload_n 2, 1) := by decide +kernel
theorem dX9_tenth_186 : decode cX9_tenth 186 = .ok (.iload_n 2, 1) := by decide +kernel
theorem dX9_tenth_187 : decode cX9_tenth 187 = .ok (.iconst 1, 1) := by decide +kernel
theorem dX9_tenth_188 : decode cX9_tenth 188 = .ok (.isub, 1) := by decide +kernel
theorem dX9_tenth_189 : decode cX9_tenth 189 = .ok (.iand, 1) := by decide +kernel
theorem dX9_tenth_190 : decode cX9_tenth 190 = .ok (.ifCond .eq 11, 3) := by decide +kernel
theorem dX9_tenth_193 : decode cX9_tenth 193 = .ok (.aload_n 0, 1) := by decide +kernel
theorem dX9_tenth_194 : decode cX9_tenth 194 = .ok (.iload_n 2, 1) := by decide +kernel
theorem dX9_tenth_195 : decode cX9_tenth 195 = .ok (.invokevirtual 156, 3) := by decide +kernel
theorem dX9_tenth_198 : decode cX9_tenth 198 = .ok (.goto 8, 3) := by decide +kernel
theorem dX9_tenth_201 : decode cX9_tenth 201 = .ok (.aload_n 0, 1) := by decide +kernel
theorem dX9_tenth_202 : decode cX9_tenth 202 = .ok (.iload_n 2, 1) := by decide +kernel
theorem dX9_tenth_203 : decode cX9_tenth 203 = .ok (.invokevirtual 159, 3) := by decide +kernel
theorem dX9_tenth_206 : decode cX9_tenth 206 = .ok (.aload_n 0, 1) := by decide +kernel
theorem dX9_tenth_207 : decode cX9_tenth 207 = .ok (.invokevirtual 134, 3) := by decide +kernel
theorem dX9_tenth_210 : decode cX9_tenth 210 = .ok (.ifCond .ne 17, 3) := by decide +kernel
theorem dX9_tenth_213 : decode cX9_tenth 213 = .ok (.aload_n 0, 1) := by decide +kernel
theorem dX9_tenth_214 : decode cX9_tenth 214 = .ok (.getfield 9, 3) := by decide +kernel
theorem dX9_tenth_217 : decode cX9_tenth 217 = .ok (.bipush 6, 2) := by decide +kernel
theorem dX9_tenth_219 : decode cX9_tenth 219 = .ok (.iaload, 1) := by decide +kernel
theorem dX9_tenth_220 : decode cX9_tenth 220 = .ok (.ifCond .eq 7, 3) := by decide +kernel
theorem dX9_tenth_223 : decode cX9_tenth 223 = .ok (.aload_n 0, 1) := by decide +kernel
theorem dX9_tenth_224 : decode cX9_tenth 224 = .ok (.invokevirtual 162, 3) := by decide +kernel
theorem dX9_tenth_227 : decode cX9_tenth 227 = .ok (.aload_n 0, 1) := by decide +kernel
theorem dX9_tenth_228 : decode cX9_tenth 228 = .ok (.getfield 9, 3) := by decide +kernel
theorem dX9_tenth_231 : decode cX9_tenth 231 = .ok (.iconst 2, 1) := by decide +kernel
theorem dX9_tenth_232 : decode cX9_tenth 232 = .ok (.dup2, 1) := by decide +kernel
theorem dX9_tenth_233 : decode cX9_tenth 233 = .ok (.iaload, 1) := by decide +kernel
theorem dX9_tenth_234 : decode cX9_tenth 234 = .ok (.iconst 1, 1) := by decide +kernel
theorem dX9_tenth_235 : decode cX9_tenth 235 = .ok (.iadd, 1) := by decide +kernel
theorem dX9_tenth_236 : decode cX9_tenth 236 = .ok (.iastore, 1) := by decide +kernel
theorem dX9_tenth_237 : decode cX9_tenth 237 = .ok (.return_, 1) := by decide +kernel
def f_X9_tenth_62 (fu : Nat) (k_2 : Int32 → Mem → Option Mem) (x1 : Int32) (m : Mem) : Option Mem := seqM (x1 + 1) (fun x_1 : Int32 => k_2 x_1 m)
set_option maxHeartbeats 4000000 in
set_option maxRecDepth 100000 in
theorem w_X9_tenth_62 {X : TX} {p : Program} {l : Launch} {e : Env} {s : State} {mi : MethodId} {args : Array Value} {below : List Frame} {meth : Method} {c : Code} {Q : State → Prop} {mE : Mem} (C : Cx X p s mi args c RX9 cX9_tenth 3) (hq : RetV X p l e (rmD 4) s mi args below meth c cX9_tenth Q mE) {fu : Nat} {k_2 : Int32 → Mem → Option Mem} (hk_2 : ∀ {x1 : Int32} {m : Mem} {H : Heap} {locs : List Loc} {ls : Array Slot}, k_2 x1 m = some mE → Wd X s m H locs → lv_has ls 3 [(0, .ref (ad X 20 0)), (1, .int x1)] → W p l e (rmD 4) s mi args below meth c H locs 0 0 Q (F0 mi 2 ls [])) {x1 : Int32} {m : Mem} {H : Heap} {locs : List Loc} {ls : Array Slot} (h : f_X9_tenth_62 fu k_2 x1 m = some mE)  (hW : Wd X s m H locs) (hl : lv_has ls 3 [(0, .ref (ad X 20 0)), (1, .int x1)]) : W p l e (rmD 4) s mi args below meth c H locs 0 0 Q (F0 mi 62 ls []) := by
  unfold f_X9_tenth_62 at h
  obtain ⟨x_1, e_2, h⟩ := seqM_E h
  refine lv_iinc (v := x_1) (lv' := [(1, .int x_1), (0, .ref (ad X 20 0))]) C.1 C.2.1 dX9_tenth_62 hl (k := 1) rfl (by rw [e_2]; rfl) (by decide) rfl (fun ls hl => ?_)
  refine lv_goto (tgt := 2) C.1 C.2.1 dX9_tenth_65 (by decide) ?_
  exact hk_2 h  hW (lv_sub hl [1, 0] rfl)
def f_X9_tenth_61 (fu : Nat) (k_2 : Int32 → Mem → Option Mem) (x1 : Int32) (y2 : Int32) (m : Mem) : Option Mem := seqM (upd m ((4000 + 1500 * 0) + (14 : Int32).toNatClampNeg) y2) (fun m_1 : Mem => f_X9_tenth_62 fu k_2 x1 m_1)
set_option maxHeartbeats 4000000 in
set_option maxRecDepth 100000 in
theorem w_X9_tenth_61 {X : TX} {p : Program} {l : Launch} {e : Env} {s : State} {mi : MethodId} {args : Array Value} {below : List Frame} {meth : Method} {c : Code} {Q : State → Prop} {mE : Mem} (C : Cx X p s mi args c RX9 cX9_tenth 3) (hq : RetV X p l e (rmD 4) s mi args below meth c cX9_tenth Q mE) {fu : Nat} {k_2 : Int32 → Mem → Option Mem} (hk_2 : ∀ {x1 : Int32} {m : Mem} {H : Heap} {locs : List Loc} {ls : Array Slot}, k_2 x1 m = some mE → Wd X s m H locs → lv_has ls 3 [(0, .ref (ad X 20 0)), (1, .int x1)] → W p l e (rmD 4) s mi args below meth c H locs 0 0 Q (F0 mi 2 ls [])) {x1 : Int32} {y2 : Int32} {m : Mem} {H : Heap} {locs : List Loc} {ls : Array Slot} (h : f_X9_tenth_61 fu k_2 x1 y2 m = some mE)  (hW : Wd X s m H locs) (hl : lv_has ls 3 [(0, .ref (ad X 20 0)), (1, .int x1)]) : W p l e (rmD 4) s mi args below meth c H locs 0 0 Q (F0 mi 61 ls [.int y2, .int 14, .ref (ad X 21 0)]) := by
  unfold f_X9_tenth_61 at h
  obtain ⟨m_1, e_2, h⟩ := seqM_E h
  refine zas_21 C hW id_21_0 (inb_E (by decide)) e_2 dX9_tenth_61 (fun H locs hW => ?_)
  exact w_X9_tenth_62 C hq hk_2 h  hW (lv_sub hl [0, 1] rfl)
def f_X9_tenth_227 (fu : Nat)   (m : Mem) : Option Mem := seqM (upd m ((4000 + 1500 * 0) + (2 : Int32).toNatClampNeg) ((m ((4000 + 1500 * 0) + (2 : Int32).toNatClampNeg)) + 1)) (fun m_1 : Mem => some m_1)
set_option maxHeartbeats 4000000 in
set_option maxRecDepth 100000 in
theorem w_X9_tenth_227 {X : TX} {p : Program} {l : Launch} {e : Env} {s : State} {mi : MethodId} {args : Array Value} {below : List Frame} {meth : Method} {c : Code} {Q : State → Prop} {mE : Mem} (C : Cx X p s mi args c RX9 cX9_tenth 3) (hq : RetV X p l e (rmD 4) s mi args below meth c cX9_tenth Q mE) {fu : Nat}  {m : Mem} {H : Heap} {locs : List Loc} {ls : Array Slot} (h : f_X9_tenth_227 fu  m = some mE)  (hW : Wd X s m H locs) (hl : lv_has ls 3 [(0, .ref (ad X 20 0))]) : W p l e (rmD 4) s mi args below meth c H locs 0 0 Q (F0 mi 227 ls []) := by
  unfold f_X9_tenth_227 at h
  refine lv_aload_n C.1 C.2.1 dX9_tenth_227 rfl (lv_at hl 0 rfl) ?_
  refine zg_X9_now C hW id_20 w_1004 dX9_tenth_228 ?_
  refine lv_iconst (v := 2) C.1 C.2.1 dX9_tenth_231 rfl ?_
  refine lv_dup2_11 C.1 C.2.1 dX9_tenth_232 rfl rfl ?_
  refine zal_21 C hW id_21_0 (inb_E (by decide)) dX9_tenth_233 ?_
  refine lv_iconst (v := 1) C.1 C.2.1 dX9_tenth_234 rfl ?_
  refine lv_iadd C.1 C.2.1 dX9_tenth_235 ?_
  obtain ⟨m_1, e_2, h⟩ := seqM_E h
  refine zas_21 C hW id_21_0 (inb_E (by decide)) e_2 dX9_tenth_236 (fun H locs hW => ?_)
  exact ret_v h hq hW dX9_tenth_237
def f_X9_tenth_206 (fu : Nat)   (m : Mem) : Option Mem := doI (f_X9_speaking fu  m) (fun r_3 m_2 => if r_3 = 0 then (if (m_2 ((4000 + 1500 * 0) + (6 : Int32).toNatClampNeg)) = 0 then (f_X9_tenth_227 fu m_2) else (doV (f_X9_hearsNothing fu  m_2) (fun m_5 => f_X9_tenth_227 fu m_5))) else (f_X9_tenth_227 fu m_2))
set_option maxHeartbeats 4000000 in
set_option maxRecDepth 100000 in
theorem w_X9_tenth_206 {X : TX} {p : Program} {l : Launch} {e : Env} {s : State} {mi : MethodId} {args : Array Value} {below : List Frame} {meth : Method} {c : Code} {Q : State → Prop} {mE : Mem} (C : Cx X p s mi args c RX9 cX9_tenth 3) (hq : RetV X p l e (rmD 4) s mi args below meth c cX9_tenth Q mE) {fu : Nat}  {m : Mem} {H : Heap} {locs : List Loc} {ls : Array Slot} (h : f_X9_tenth_206 fu  m = some mE)  (hW : Wd X s m H locs) (hl : lv_has ls 3 [(0, .ref (ad X 20 0))]) : W p l e (rmD 4) s mi args below meth c H locs 0 0 Q (F0 mi 206 ls []) := by
  unfold f_X9_tenth_206 at h
  refine lv_aload_n C.1 C.2.1 dX9_tenth_206 rfl (lv_at hl 0 rfl) ?_
  obtain ⟨r_3, m_2, hc_1, h⟩ := doI_E h
  refine zr_cVI C hW (c_X9_speaking  hc_1 ) k_X9_speaking (zr_recv C hW id_20 zco_20 rfl) w_1221 ⟨Nat.le_of_ble_eq_true rfl, Nat.le_of_ble_eq_true rfl⟩ ⟨Nat.le_refl 0, Nat.le_refl 0⟩ rfl hl.1 rfl (Nat.le_of_ble_eq_true rfl) dX9_tenth_207 (fun H locs hW => ?_)
  refine lv_if_ne (tgt := 227) C.1 C.2.1 dX9_tenth_210 (by decide) (fun hc_7 => ?_) (fun hc_7 => ?_)
  · have h := ite_f hc_7 h
    exact w_X9_tenth_227 C hq  h  hW (lv_sub hl [0] rfl)
  · have h := ite_t hc_7 h
    refine lv_aload_n C.1 C.2.1 dX9_tenth_213 rfl (lv_at hl 0 rfl) ?_
    refine zg_X9_now C hW id_20 w_1004 dX9_tenth_214 ?_
    refine lv_bipush (v := 6) C.1 C.2.1 dX9_tenth_217 rfl ?_
    refine zal_21 C hW id_21_0 (inb_E (by decide)) dX9_tenth_219 ?_
    refine lv_if_eq (tgt := 227) C.1 C.2.1 dX9_tenth_220 (by decide) (fun hc_6 => ?_) (fun hc_6 => ?_)
    · have h := ite_t hc_6 h
      exact w_X9_tenth_227 C hq  h  hW (lv_sub hl [0] rfl)
    · have h := ite_f hc_6 h
      refine lv_aload_n C.1 C.2.1 dX9_tenth_223 rfl (lv_at hl 0 rfl) ?_
      obtain ⟨m_5, hc_4, h⟩ := doV_E h
      refine zr_cVV C hW (c_X9_hearsNothing  hc_4 ) k_X9_hearsNothing (zr_recv C hW id_20 zco_20 rfl) w_1241 ⟨Nat.le_of_ble_eq_true rfl, Nat.le_of_ble_eq_true rfl⟩ ⟨Nat.le_refl 0, Nat.le_refl 0⟩ rfl hl.1 rfl (Nat.le_of_ble_eq_true rfl) dX9_tenth_224 (fun H locs hW => ?_)
      exact w_X9_tenth_227 C hq  h  hW (lv_sub hl [0] rfl)
def f_X9_tenth_164 (fu : Nat)  (x1 : Int32) (y2 : Int32) (m : Mem) : Option Mem := seqM (upd m ((4000 + 1500 * 0) + (8 : Int32).toNatClampNeg) y2) (fun m_1 : Mem => seqM (upd m_1 3001 (m_1 ((4000 + 1500 * 0) + (6 : Int32).toNatClampNeg))) (fun m_3 : Mem => if x1 = 0 then (f_X9_tenth_206 fu m_3) else (doI (f_X9_ready fu  m_3) (fun r_7 m_6 => if (r_7 &&& (r_7 - 1)) = 0 then (doV (f_X9_turnsTo fu r_7 m_6) (fun m_9 => f_X9_tenth_206 fu m_9)) else (doV (f_X9_crosses fu r_7 m_6) (fun m_11 => f_X9_tenth_206 fu m_11))))))
set_option maxHeartbeats 4000000 in
set_option maxRecDepth 100000 in
theorem w_X9_tenth_164 {X : TX} {p : Program} {l : Launch} {e : Env} {s : State} {mi : MethodId} {args : Array Value} {below : List Frame} {meth : Method} {c : Code} {Q : State → Prop} {mE : Mem} (C : Cx X p s mi args c RX9 cX9_tenth 3) (hq : RetV X p l e (rmD 4) s mi args below meth c cX9_tenth Q mE) {fu : Nat} {x1 : Int32} {y2 : Int32} {m : Mem} {H : Heap} {locs : List Loc} {ls : Array Slot} (h : f_X9_tenth_164 fu x1 y2 m = some mE)  (hW : Wd X s m H locs) (hl : lv_has ls 3 [(0, .ref (ad X 20 0)), (1, .int x1)]) : W p l e (rmD 4) s mi args below meth c H locs 0 0 Q (F0 mi 164 ls [.int y2, .int 8, .ref (ad X 21 0)]) := by
  unfold f_X9_tenth_164 at h
  obtain ⟨m_1, e_2, h⟩ := seqM_E h
  refine zas_21 C hW id_21_0 (inb_E (by decide)) e_2 dX9_tenth_164 (fun H locs hW => ?_)
  refine lv_aload_n C.1 C.2.1 dX9_tenth_165 rfl (lv_at hl 0 rfl) ?_
  refine lv_aload_n C.1 C.2.1 dX9_tenth_166 rfl (lv_at hl 0 rfl) ?_
  refine zg_X9_now C hW id_20 w_1004 dX9_tenth_167 ?_
  refine lv_bipush (v := 6) C.1 C.2.1 dX9_tenth_170 rfl ?_
  refine zal_21 C hW id_21_0 (inb_E (by decide)) dX9_tenth_172 ?_
  obtain ⟨m_3, e_4, h⟩ := seqM_E h
  refine zp_X9_heardSilence C hW id_20 w_1008 e_4 dX9_tenth_173 (fun H locs hW => ?_)
  refine lv_iload_n C.1 C.2.1 dX9_tenth_176 rfl (lv_at hl 1 rfl) ?_
  refine lv_if_eq (tgt := 206) C.1 C.2.1 dX9_tenth_177 (by decide) (fun hc_13 => ?_) (fun hc_13 => ?_)
  · have h := ite_t hc_13 h
    exact w_X9_tenth_206 C hq  h  hW (lv_sub hl [0] rfl)
  · have h := ite_f hc_13 h
    refine lv_aload_n C.1 C.2.1 dX9_tenth_180 rfl (lv_at hl 0 rfl) ?_
    obtain ⟨r_7, m_6, hc_5, h⟩ := doI_E h
    refine zr_cVI C hW (c_X9_ready  hc_5 ) k_X9_ready (zr_recv C hW id_20 zco_20 rfl) w_1225 ⟨Nat.le_of_ble_eq_true rfl, Nat.le_of_ble_eq_true rfl⟩ ⟨Nat.le_refl 0, Nat.le_refl 0⟩ rfl hl.1 rfl (Nat.le_of_ble_eq_true rfl) dX9_tenth_181 (fun H locs hW => ?_)
    refine lv_istore_n (lv' := [(2, .int r_7), (0, .ref (ad X 20 0)), (1, .int x1)]) C.1 C.2.1 dX9_tenth_184 rfl hl (by decide) rfl (fun ls hl => ?_)
    refine lv_iload_n C.1 C.2.1 dX9_tenth_185 rfl (lv_at hl 0 rfl) ?_
    refine lv_iload_n C.1 C.2.1 dX9_tenth_186 rfl (lv_at hl 0 rfl) ?_
    refine lv_iconst (v := 1) C.1 C.2.1 dX9_tenth_187 rfl ?_
    refine lv_isub C.1 C.2.1 dX9_tenth_188 ?_
    refine lv_iand C.1 C.2.1 dX9_tenth_189 ?_
    refine lv_if_eq (tgt := 201) C.1 C.2.1 dX9_tenth_190 (by decide) (fun hc_12 => ?_) (fun hc_12 => ?_)
    · have h := ite_t hc_12 h
      refine lv_aload_n C.1 C.2.1 dX9_tenth_201 rfl (lv_at hl 1 rfl) ?_
      refine lv_iload_n C.1 C.2.1 dX9_tenth_202 rfl (lv_at hl 0 rfl) ?_
      obtain ⟨m_9, hc_8, h⟩ := doV_E h
      refine zr_cVV C hW (c_X9_turnsTo (x1 := r_7) hc_8 ) k_X9_turnsTo (zr_recv C hW id_20 zco_20 rfl) w_1237 ⟨Nat.le_of_ble_eq_true rfl, Nat.le_of_ble_eq_true rfl⟩ ⟨Nat.le_refl 0, Nat.le_refl 0⟩ rfl hl.1 rfl (Nat.le_of_ble_eq_true rfl) dX9_tenth_203 (fun H locs hW => ?_)
      exact w_X9_tenth_206 C hq  h  hW (lv_sub hl [1] rfl)
    · have h := ite_f hc_12 h
      refine lv_aload_n C.1 C.2.1 dX9_tenth_193 rfl (lv_at hl 1 rfl) ?_
      refine lv_iload_n C.1 C.2.1 dX9_tenth_194 rfl (lv_at hl 0 rfl) ?_
      obtain ⟨m_11, hc_10, h⟩ := doV_E h
      refine zr_cVV C hW (c_X9_crosses (x1 := r_7) hc_10 ) k_X9_crosses (zr_recv C hW id_20 zco_20 rfl) w_1229 ⟨Nat.le_of_ble_eq_true rfl, Nat.le_of_ble_eq_true rfl⟩ ⟨Nat.le_refl 0, Nat.le_refl 0⟩ rfl hl.1 rfl (Nat.le_of_ble_eq_true rfl) dX9_tenth_195 (fun H locs hW => ?_)
      refine lv_goto (tgt := 206) C.1 C.2.1 dX9_tenth_198 (by decide) ?_
      exact w_X9_tenth_206 C hq  h  hW (lv_sub hl [1] rfl)
def f_X9_tenth_122 (fu : Nat)  (x1 : Int32) (y2 : Int32) (y3 : Int32) (m : Mem) : Option Mem := seqM (upd m ((4000 + 1500 * 0) + (7 : Int32).toNatClampNeg) (y2 + y3)) (fun m_1 : Mem => if (m_1 ((4000 + 1500 * 0) + (6 : Int32).toNatClampNeg)) ≤ (m_1 ((4000 + 1500 * 0) + (8 : Int32).toNatClampNeg)) then (f_X9_tenth_164 fu x1 (m_1 ((4000 + 1500 * 0) + (8 : Int32).toNatClampNeg)) m_1) else (f_X9_tenth_164 fu x1 (m_1 ((4000 + 1500 * 0) + (6 : Int32).toNatClampNeg)) m_1))
set_option maxHeartbeats 4000000 in
set_option maxRecDepth 100000 in
theorem w_X9_tenth_122 {X : TX} {p : Program} {l : Launch} {e : Env} {s : State} {mi : MethodId} {args : Array Value} {below : List Frame} {meth : Method} {c : Code} {Q : State → Prop} {mE : Mem} (C : Cx X p s mi args c RX9 cX9_tenth 3) (hq : RetV X p l e (rmD 4) s mi args below meth c cX9_tenth Q mE) {fu : Nat} {x1 : Int32} {y2 : Int32} {y3 : Int32} {m : Mem} {H : Heap} {locs : List Loc} {ls : Array Slot} (h : f_X9_tenth_122 fu x1 y2 y3 m = some mE)  (hW : Wd X s m H locs) (hl : lv_has ls 3 [(0, .ref (ad X 20 0)), (1, .int x1)]) : W p l e (rmD 4) s mi args below meth c H locs 0 0 Q (F0 mi 122 ls [.int y3, .int y2, .int 7, .ref (ad X 21 0)]) := by
  unfold f_X9_tenth_122 at h
  refine lv_iadd C.1 C.2.1 dX9_tenth_122 ?_
  obtain ⟨m_1, e_2, h⟩ := seqM_E h
  refine zas_21 C hW id_21_0 (inb_E (by decide)) e_2 dX9_tenth_123 (fun H locs hW => ?_)
  refine lv_aload_n C.1 C.2.1 dX9_tenth_124 rfl (lv_at hl 0 rfl) ?_
  refine zg_X9_now C hW id_20 w_1004 dX9_tenth_125 ?_
  refine lv_bipush (v := 8) C.1 C.2.1 dX9_tenth_128 rfl ?_
  refine lv_aload_n C.1 C.2.1 dX9_tenth_130 rfl (lv_at hl 0 rfl) ?_
  refine zg_X9_now C hW id_20 w_1004 dX9_tenth_131 ?_
  refine lv_bipush (v := 6) C.1 C.2.1 dX9_tenth_134 rfl ?_
  refine zal_21 C hW id_21_0 (inb_E (by decide)) dX9_tenth_136 ?_
  refine lv_aload_n C.1 C.2.1 dX9_tenth_137 rfl (lv_at hl 0 rfl) ?_
  refine zg_X9_now C hW id_20 w_1004 dX9_tenth_138 ?_
  refine lv_bipush (v := 8) C.1 C.2.1 dX9_tenth_141 rfl ?_
  refine zal_21 C hW id_21_0 (inb_E (by decide)) dX9_tenth_143 ?_
  refine lv_icmp_le (tgt := 157) C.1 C.2.1 dX9_tenth_144 (by decide) (fun hc_3 => ?_) (fun hc_3 => ?_)
  · have h := ite_t hc_3 h
    refine lv_aload_n C.1 C.2.1 dX9_tenth_157 rfl (lv_at hl 0 rfl) ?_
    refine zg_X9_now C hW id_20 w_1004 dX9_tenth_158 ?_
    refine lv_bipush (v := 8) C.1 C.2.1 dX9_tenth_161 rfl ?_
    refine zal_21 C hW id_21_0 (inb_E (by decide)) dX9_tenth_163 ?_
    exact w_X9_tenth_164 C hq  h  hW (lv_sub hl [0, 1] rfl)
  · have h := ite_f hc_3 h
    refine lv_aload_n C.1 C.2.1 dX9_tenth_147 rfl (lv_at hl 0 rfl) ?_
    refine zg_X9_now C hW id_20 w_1004 dX9_tenth_148 ?_
    refine lv_bipush (v := 6) C.1 C.2.1 dX9_tenth_151 rfl ?_
    refine zal_21 C hW id_21_0 (inb_E (by decide)) dX9_tenth_153 ?_
    refine lv_goto (tgt := 164) C.1 C.2.1 dX9_tenth_154 (by decide) ?_
    exact w_X9_tenth_164 C hq  h  hW (lv_sub hl [0, 1] rfl)
def f_X9_tenth_104 (fu : Nat)  (x1 : Int32) (y2 : Int32) (m : Mem) : Option Mem := seqM (upd m ((4000 + 1500 * 0) + (6 : Int32).toNatClampNeg) y2) (fun m_1 : Mem => if x1 = 0 then (f_X9_tenth_122 fu x1 (m_1 ((4000 + 1500 * 0) + (7 : Int32).toNatClampNeg)) 0 m_1) else (f_X9_tenth_122 fu x1 (m_1 ((4000 + 1500 * 0) + (7 : Int32).toNatClampNeg)) 1 m_1))
set_option maxHeartbeats 4000000 in
set_option maxRecDepth 100000 in
theorem w_X9_tenth_104 {X : TX} {p : Program} {l : Launch} {e : Env} {s : State} {mi : MethodId} {args : Array Value} {below : List Frame} {meth : Method} {c : Code} {Q : State → Prop} {mE : Mem} (C : Cx X p s mi args c RX9 cX9_tenth 3) (hq : RetV X p l e (rmD 4) s mi args below meth c cX9_tenth Q mE) {fu : Nat} {x1 : Int32} {y2 : Int32} {m : Mem} {H : Heap} {locs : List Loc} {ls : Array Slot} (h : f_X9_tenth_104 fu x1 y2 m = some mE)  (hW : Wd X s m H locs) (hl : lv_has ls 3 [(0, .ref (ad X 20 0)), (1, .int x1)]) : W p l e (rmD 4) s mi args below meth c H locs 0 0 Q (F0 mi 104 ls [.int y2, .int 6, .ref (ad X 21 0)]) := by
  unfold f_X9_tenth_104 at h
  obtain ⟨m_1, e_2, h⟩ := seqM_E h
  refine zas_21 C hW id_21_0 (inb_E (by decide)) e_2 dX9_tenth_104 (fun H locs hW => ?_)
  refine lv_aload_n C.1 C.2.1 dX9_tenth_105 rfl (lv_at hl 0 rfl) ?_
  refine zg_X9_now C hW id_20 w_1004 dX9_tenth_106 ?_
  refine lv_bipush (v := 7) C.1 C.2.1 dX9_tenth_109 rfl ?_
  refine lv_dup2_11 C.1 C.2.1 dX9_tenth_111 rfl rfl ?_
  refine zal_21 C hW id_21_0 (inb_E (by decide)) dX9_tenth_112 ?_
  refine lv_iload_n C.1 C.2.1 dX9_tenth_113 rfl (lv_at hl 1 rfl) ?_
  refine lv_if_eq (tgt := 121) C.1 C.2.1 dX9_tenth_114 (by decide) (fun hc_3 => ?_) (fun hc_3 => ?_)
  · have h := ite_t hc_3 h
    refine lv_iconst (v := 0) C.1 C.2.1 dX9_tenth_121 rfl ?_
    exact w_X9_tenth_122 C hq  h  hW (lv_sub hl [0, 1] rfl)
  · have h := ite_f hc_3 h
    refine lv_iconst (v := 1) C.1 C.2.1 dX9_tenth_117 rfl ?_
    refine lv_goto (tgt := 122) C.1 C.2.1 dX9_tenth_118 (by decide) ?_
    exact w_X9_tenth_122 C hq  h  hW (lv_sub hl [0, 1] rfl)
def f_X9_tenth_80 (fu : Nat)  (y0 : Int32) (m : Mem) : Option Mem := if y0 = 0 then (f_X9_tenth_104 fu y0 0 m) else (f_X9_tenth_104 fu y0 ((m ((4000 + 1500 * 0) + (6 : Int32).toNatClampNeg)) + 1) m)
set_option maxHeartbeats 4000000 in
set_option maxRecDepth 100000 in
theorem w_X9_tenth_80 {X : TX} {p : Program} {l : Launch} {e : Env} {s : State} {mi : MethodId} {args : Array Value} {below : List Frame} {meth : Method} {c : Code} {Q : State → Prop} {mE : Mem} (C : Cx X p s mi args c RX9 cX9_tenth 3) (hq : RetV X p l e (rmD 4) s mi args below meth c cX9_tenth Q mE) {fu : Nat} {y0 : Int32} {m : Mem} {H : Heap} {locs : List Loc} {ls : Array Slot} (h : f_X9_tenth_80 fu y0 m = some mE)  (hW : Wd X s m H locs) (hl : lv_has ls 3 [(0, .ref (ad X 20 0))]) : W p l e (rmD 4) s mi args below meth c H locs 0 0 Q (F0 mi 80 ls [.int y0]) := by
  unfold f_X9_tenth_80 at h
  refine lv_istore_n (lv' := [(1, .int y0), (0, .ref (ad X 20 0))]) C.1 C.2.1 dX9_tenth_80 rfl hl (by decide) rfl (fun ls hl => ?_)
  refine lv_aload_n C.1 C.2.1 dX9_tenth_81 rfl (lv_at hl 1 rfl) ?_
  refine zg_X9_now C hW id_20 w_1004 dX9_tenth_82 ?_
  refine lv_bipush (v := 6) C.1 C.2.1 dX9_tenth_85 rfl ?_
  refine lv_iload_n C.1 C.2.1 dX9_tenth_87 rfl (lv_at hl 0 rfl) ?_
  refine lv_if_eq (tgt := 103) C.1 C.2.1 dX9_tenth_88 (by decide) (fun hc_1 => ?_) (fun hc_1 => ?_)
  · have h := ite_t hc_1 h
    refine lv_iconst (v := 0) C.1 C.2.1 dX9_tenth_103 rfl ?_
    exact w_X9_tenth_104 C hq  h  hW (lv_sub hl [1, 0] rfl)
  · have h := ite_f hc_1 h
    refine lv_aload_n C.1 C.2.1 dX9_tenth_91 rfl (lv_at hl 1 rfl) ?_
    refine zg_X9_now C hW id_20 w_1004 dX9_tenth_92 ?_
    refine lv_bipush (v := 6) C.1 C.2.1 dX9_tenth_95 rfl ?_
    refine zal_21 C hW id_21_0 (inb_E (by decide)) dX9_tenth_97 ?_
    refine lv_iconst (v := 1) C.1 C.2.1 dX9_tenth_98 rfl ?_
    refine lv_iadd C.1 C.2.1 dX9_tenth_99 ?_
    refine lv_goto (tgt := 104) C.1 C.2.1 dX9_tenth_100 (by decide) ?_
    exact w_X9_tenth_104 C hq  h  hW (lv_sub hl [1, 0] rfl)
def f_X9_tenth_2 (fu : Nat)  : Nat → Int32 → Mem → Option Mem
  | 0, _, _ => none
  | n + 1, x1, m => if (m ((4000 + 1500 * 0) + (1 : Int32).toNatClampNeg)) ≤ x1 then (doI (f_X9_speaking fu  m) (fun r_3 m_2 => if r_3 = 0 then (f_X9_tenth_80 fu 1 m_2) else (f_X9_tenth_80 fu 0 m_2))) else (doI (f_X9_of fu x1 4 m) (fun r_7 m_6 => if r_7 ≤ 0 then (f_X9_tenth_62 fu (f_X9_tenth_2 fu n) x1 m_6) else (doI (f_X9_of fu x1 4 m_6) (fun r_10 m_9 => doV (f_X9_put fu x1 4 (r_10 - 1) m_9) (fun m_12 => doI (f_X9_of fu x1 4 m_12) (fun r_15 m_14 => if r_15 = 0 then (f_X9_tenth_61 fu (f_X9_tenth_2 fu n) x1 x1 m_14) else (f_X9_tenth_61 fu (f_X9_tenth_2 fu n) x1 (m_14 ((4000 + 1500 * 0) + (14 : Int32).toNatClampNeg)) m_14)))))))
set_option maxHeartbeats 4000000 in
set_option maxRecDepth 100000 in
theorem w_X9_tenth_2 {X : TX} {p : Program} {l : Launch} {e : Env} {s : State} {mi : MethodId} {args : Array Value} {below : List Frame} {meth : Method} {c : Code} {Q : State → Prop} {mE : Mem} (C : Cx X p s mi args c RX9 cX9_tenth 3) (hq : RetV X p l e (rmD 4) s mi args below meth c cX9_tenth Q mE) {fu : Nat} : ∀ (n : Nat) {x1 : Int32} {m : Mem} {H : Heap} {locs : List Loc} {ls : Array Slot}, f_X9_tenth_2 fu n x1 m = some mE → Wd X s m H locs → lv_has ls 3 [(0, .ref (ad X 20 0)), (1, .int x1)] → W p l e (rmD 4) s mi args below meth c H locs 0 0 Q (F0 mi 2 ls []) := by
  intro n
  induction n with
  | zero =>
    intro x1 m H locs ls h hW hl
    rw [f_X9_tenth_2] at h
    cases h
  | succ n ih =>
    intro x1 m H locs ls h hW hl
    rw [f_X9_tenth_2] at h
    refine lv_iload_n C.1 C.2.1 dX9_tenth_2 rfl (lv_at hl 1 rfl) ?_
    refine lv_aload_n C.1 C.2.1 dX9_tenth_3 rfl (lv_at hl 0 rfl) ?_
    refine zg_X9_now C hW id_20 w_1004 dX9_tenth_4 ?_
    refine lv_iconst (v := 1) C.1 C.2.1 dX9_tenth_7 rfl ?_
    refine zal_21 C hW id_21_0 (inb_E (by decide)) dX9_tenth_8 ?_
    refine lv_icmp_ge (tgt := 68) C.1 C.2.1 dX9_tenth_9 (by decide) (fun hc_18 => ?_) (fun hc_18 => ?_)
    · have h := ite_t hc_18 h
      refine lv_aload_n C.1 C.2.1 dX9_tenth_68 rfl (lv_at hl 0 rfl) ?_
      obtain ⟨r_3, m_2, hc_1, h⟩ := doI_E h
      refine zr_cVI C hW (c_X9_speaking  hc_1 ) k_X9_speaking (zr_recv C hW id_20 zco_20 rfl) w_1221 ⟨Nat.le_of_ble_eq_true rfl, Nat.le_of_ble_eq_true rfl⟩ ⟨Nat.le_refl 0, Nat.le_refl 0⟩ rfl hl.1 rfl (Nat.le_of_ble_eq_true rfl) dX9_tenth_69 (fun H locs hW => ?_)
      refine lv_if_ne (tgt := 79) C.1 C.2.1 dX9_tenth_72 (by decide) (fun hc_4 => ?_) (fun hc_4 => ?_)
      · have h := ite_f hc_4 h
        refine lv_iconst (v := 0) C.1 C.2.1 dX9_tenth_79 rfl ?_
        exact w_X9_tenth_80 C hq  h  hW (lv_sub hl [0] rfl)
      · have h := ite_t hc_4 h
        refine lv_iconst (v := 1) C.1 C.2.1 dX9_tenth_75 rfl ?_
        refine lv_goto (tgt := 80) C.1 C.2.1 dX9_tenth_76 (by decide) ?_
        exact w_X9_tenth_80 C hq  h  hW (lv_sub hl [0] rfl)
    · have h := ite_f hc_18 h
      refine lv_aload_n C.1 C.2.1 dX9_tenth_12 rfl (lv_at hl 0 rfl) ?_
      refine lv_iload_n C.1 C.2.1 dX9_tenth_13 rfl (lv_at hl 1 rfl) ?_
      refine lv_iconst (v := 4) C.1 C.2.1 dX9_tenth_14 rfl ?_
      obtain ⟨r_7, m_6, hc_5, h⟩ := doI_E h
      refine zr_cVI C hW (c_X9_of (x1 := x1) (x2 := 4) hc_5 ) k_X9_of (zr_recv C hW id_20 zco_20 rfl) w_1141 ⟨Nat.le_of_ble_eq_true rfl, Nat.le_of_ble_eq_true rfl⟩ ⟨Nat.le_refl 0, Nat.le_refl 0⟩ rfl hl.1 rfl (Nat.le_of_ble_eq_true rfl) dX9_tenth_15 (fun H locs hW => ?_)
      refine lv_if_le (tgt := 62) C.1 C.2.1 dX9_tenth_18 (by decide) (fun hc_17 => ?_) (fun hc_17 => ?_)
      · have h := ite_t hc_17 h
        exact w_X9_tenth_62 C hq ih h  hW (lv_sub hl [0, 1] rfl)
      · have h := ite_f hc_17 h
        refine lv_aload_n C.1 C.2.1 dX9_tenth_21 rfl (lv_at hl 0 rfl) ?_
        refine lv_iload_n C.1 C.2.1 dX9_tenth_22 rfl (lv_at hl 1 rfl) ?_
        refine lv_iconst (v := 4) C.1 C.2.1 dX9_tenth_23 rfl ?_
        refine lv_aload_n C.1 C.2.1 dX9_tenth_24 rfl (lv_at hl 0 rfl) ?_
        refine lv_iload_n C.1 C.2.1 dX9_tenth_25 rfl (lv_at hl 1 rfl) ?_
        refine lv_iconst (v := 4) C.1 C.2.1 dX9_tenth_26 rfl ?_
        obtain ⟨r_10, m_9, hc_8, h⟩ := doI_E h
        refine zr_cVI C hW (c_X9_of (x1 := x1) (x2 := 4) hc_8 ) k_X9_of (zr_recv C hW id_20 zco_20 rfl) w_1141 ⟨Nat.le_of_ble_eq_true rfl, Nat.le_of_ble_eq_true rfl⟩ ⟨Nat.le_refl 0, Nat.le_refl 0⟩ rfl hl.1 rfl (Nat.le_of_ble_eq_true rfl) dX9_tenth_27 (fun H locs hW => ?_)
        refine lv_iconst (v := 1) C.1 C.2.1 dX9_tenth_30 rfl ?_
        refine lv_isub C.1 C.2.1 dX9_tenth_31 ?_
        obtain ⟨m_12, hc_11, h⟩ := doV_E h
        refine zr_cVV C hW (c_X9_put (x1 := x1) (x2 := 4) (x3 := (r_10 - 1)) hc_11 ) k_X9_put (zr_recv C hW id_20 zco_20 rfl) w_1129 ⟨Nat.le_of_ble_eq_true rfl, Nat.le_of_ble_eq_true rfl⟩ ⟨Nat.le_refl 0, Nat.le_refl 0⟩ rfl hl.1 rfl (Nat.le_of_ble_eq_true rfl) dX9_tenth_32 (fun H locs hW => ?_)
        refine lv_aload_n C.1 C.2.1 dX9_tenth_35 rfl (lv_at hl 0 rfl) ?_
        refine zg_X9_now C hW id_20 w_1004 dX9_tenth_36 ?_
        refine lv_bipush (v := 14) C.1 C.2.1 dX9_tenth_39 rfl ?_
        refine lv_aload_n C.1 C.2.1 dX9_tenth_41 rfl (lv_at hl 0 rfl) ?_
        refine lv_iload_n C.1 C.2.1 dX9_tenth_42 rfl (lv_at hl 1 rfl) ?_
        refine lv_iconst (v := 4) C.1 C.2.1 dX9_tenth_43 rfl ?_
        obtain ⟨r_15, m_14, hc_13, h⟩ := doI_E h
        refine zr_cVI C hW (c_X9_of (x1 := x1) (x2 := 4) hc_13 ) k_X9_of (zr_recv C hW id_20 zco_20 rfl) w_1141 ⟨Nat.le_of_ble_eq_true rfl, Nat.le_of_ble_eq_true rfl⟩ ⟨Nat.le_refl 0, Nat.le_refl 0⟩ rfl hl.1 rfl (Nat.le_of_ble_eq_true rfl) dX9_tenth_44 (fun H locs hW => ?_)
        refine lv_if_ne (tgt := 54) C.1 C.2.1 dX9_tenth_47 (by decide) (fun hc_16 => ?_) (fun hc_16 => ?_)
        · have h := ite_f hc_16 h
          refine lv_aload_n C.1 C.2.1 dX9_tenth_54 rfl (lv_at hl 0 rfl) ?_
          refine zg_X9_now C hW id_20 w_1004 dX9_tenth_55 ?_
          refine lv_bipush (v := 14) C.1 C.2.1 dX9_tenth_58 rfl ?_
          refine zal_21 C hW id_21_0 (inb_E (by decide)) dX9_tenth_60 ?_
          exact w_X9_tenth_61 C hq ih h  hW (lv_sub hl [0, 1] rfl)
        · have h := ite_t hc_16 h
          refine lv_iload_n C.1 C.2.1 dX9_tenth_50 rfl (lv_at hl 1 rfl) ?_
          refine lv_goto (tgt := 61) C.1 C.2.1 dX9_tenth_51 (by decide) ?_
          exact w_X9_tenth_61 C hq ih h  hW (lv_sub hl [0, 1] rfl)
def f_X9_tenth (fu : Nat)   (m : Mem) : Option Mem := f_X9_tenth_2 fu fu 0 m
set_option maxHeartbeats 4000000 in
set_option maxRecDepth 100000 in
theorem w_X9_tenth {X : TX} {p : Program} {l : Launch} {e : Env} {s : State} {mi : MethodId} {args : Array Value} {below : List Frame} {meth : Method} {c : Code} {Q : State → Prop} {mE : Mem} (C : Cx X p s mi args c RX9 cX9_tenth 3) (hq : RetV X p l e (rmD 4) s mi args below meth c cX9_tenth Q mE) {fu : Nat}  {m : Mem} {H : Heap} {locs : List Loc} {ls : Array Slot} (h : f_X9_tenth fu  m = some mE)  (hW : Wd X s m H locs) (hl : lv_has ls 3 [(0, .ref (ad X 20 0))]) : W p l e (rmD 4) s mi args below meth c H locs 0 0 Q (F0 mi 0 ls []) := by
  unfold f_X9_tenth at h
  refine lv_iconst (v := 0) C.1 C.2.1 dX9_tenth_0 rfl ?_
  refine lv_istore_n (lv' := [(1, .int 0), (0, .ref (ad X 20 0))]) C.1 C.2.1 dX9_tenth_1 rfl hl (by decide) rfl (fun ls hl => ?_)
  exact w_X9_tenth_2 C hq  fu h  hW (lv_sub hl [1, 0] rfl)
theorem c_X9_tenth {X : TX} {l : Launch} {fu : Nat}  {m mE : Mem} (h : f_X9_tenth fu  m = some mE)  : MetV X l yX9_tenth cX9_tenth 3 4 [.ref (ad X 20 0)] m mE :=
  met_V (by decide) (Nat.le_of_ble_eq_true rfl) (fun p e s mi args below meth c ls Q C hq hW hl => w_X9_tenth C hq h  hW (lv_sub hl [0] rfl))
theorem k_X9_tenth : CalV yX9_tenth cX9_tenth 3 none RX9 0 := ⟨w_1219, w_36, w_70, w_1220, by decide +kernel⟩
theorem dX9_goesOn_0 : decode cX9_goesOn 0 = .ok (.iconst 0, 1) := by decide +kernel
theorem dX9_goesOn_1 : decode cX9_goesOn 1 = .ok (.istore_n 2, 1) := by decide +kernel
theorem dX9_goesOn_2 : decode cX9_goesOn 2 = .ok (.iload_n 2, 1) := by decide +kernel
theorem dX9_goesOn_3 : decode cX9_goesOn 3 = .ok (.iload_n 1, 1) := by decide +kernel
theorem dX9_goesOn_4 : decode cX9_goesOn 4 = .ok (.if_icmp .ge 13, 3) := by decide +kernel
theorem dX9_goesOn_7 : decode cX9_goesOn 7 = .ok (.aload_n 0, 1) := by decide +kernel
theorem dX9_goesOn_8 : decode cX9_goesOn 8 = .ok (.invokevirtual 165, 3) := by decide +kernel
theorem dX9_goesOn_11 : decode cX9_goesOn 11 = .ok (.iinc 2 1, 3) := by decide +kernel
theorem dX9_goesOn_14 : decode cX9_goesOn 14 = .ok (.goto (-12), 3) := by decide +kernel
theorem dX9_goesOn_17 : decode cX9_goesOn 17 = .ok (.return_, 1) := by decide +kernel
def f_X9_goesOn_2 (fu : Nat)  : Nat → Int32 → Int32 → Mem → Option Mem
  | 0, _, _, _ => none
  | n + 1, x1, x2, m => if x1 ≤ x2 then (some m) else (doV (f_X9_tenth fu  m) (fun m_2 => seqM (x2 + 1) (fun x_3 : Int32 => f_X9_goesOn_2 fu n x1 x_3 m_2)))
set_option maxHeartbeats 4000000 in
set_option maxRecDepth 100000 in
theorem w_X9_goesOn_2 {X : TX} {p : Program} {l : Launch} {e : Env} {s : State} {mi : MethodId} {args : Array Value} {below : List Frame} {meth : Method} {c : Code} {Q : State → Prop} {mE : Mem} (C : Cx X p s mi args c RX9 cX9_goesOn 3) (hq : RetV X p l e (rmD 5) s mi args below meth c cX9_goesOn Q mE) {fu : Nat} : ∀ (n : Nat) {x1 : Int32} {x2 : Int32} {m : Mem} {H : Heap} {locs : List Loc} {ls : Array Slot}, f_X9_goesOn_2 fu n x1 x2 m = some mE → Wd X s m H locs → lv_has ls 3 [(0, .ref (ad X 20 0)), (1, .int x1), (2, .int x2)] → W p l e (rmD 5) s mi args below meth c H locs 0 0 Q (F0 mi 2 ls []) := by
  intro n
  induction n with
  | zero =>
    intro x1 x2 m H locs ls h hW hl
    rw [f_X9_goesOn_2] at h
    cases h
  | succ n ih =>
    intro x1 x2 m H locs ls h hW hl
    rw [f_X9_goesOn_2] at h
    refine lv_iload_n C.1 C.2.1 dX9_goesOn_2 rfl (lv_at hl 2 rfl) ?_
    refine lv_iload_n C.1 C.2.1 dX9_goesOn_3 rfl (lv_at hl 1 rfl) ?_
    refine lv_icmp_ge (tgt := 17) C.1 C.2.1 dX9_goesOn_4 (by decide) (fun hc_5 => ?_) (fun hc_5 => ?_)
    · have h := ite_t hc_5 h
      exact ret_v h hq hW dX9_goesOn_17
    · have h := ite_f hc_5 h
      refine lv_aload_n C.1 C.2.1 dX9_goesOn_7 rfl (lv_at hl 0 rfl) ?_
      obtain ⟨m_2, hc_1, h⟩ := doV_E h
      refine zr_cVV C hW (c_X9_tenth  hc_1 ) k_X9_tenth (zr_recv C hW id_20 zco_20 rfl) w_1217 ⟨Nat.le_of_ble_eq_true rfl, Nat.le_of_ble_eq_true rfl⟩ ⟨Nat.le_refl 0, Nat.le_refl 0⟩ rfl hl.1 rfl (Nat.le_of_ble_eq_true rfl) dX9_goesOn_8 (fun H locs hW => ?_)
      obtain ⟨x_3, e_4, h⟩ := seqM_E h
      refine lv_iinc (v := x_3) (lv' := [(2, .int x_3), (0, .ref (ad X 20 0)), (1, .int x1)]) C.1 C.2.1 dX9_goesOn_11 hl (k := 2) rfl (by rw [e_4]; rfl) (by decide) rfl (fun ls hl => ?_)
      refine lv_goto (tgt := 2) C.1 C.2.1 dX9_goesOn_14 (by decide) ?_
      exact ih h  hW (lv_sub hl [1, 2, 0] rfl)
def f_X9_goesOn (fu : Nat)  (x1 : Int32) (m : Mem) : Option Mem := f_X9_goesOn_2 fu fu x1 0 m
set_option maxHeartbeats 4000000 in
set_option maxRecDepth 100000 in
theorem w_X9_goesOn {X : TX} {p : Program} {l : Launch} {e : Env} {s : State} {mi : MethodId} {args : Array Value} {below : List Frame} {meth : Method} {c : Code} {Q : State → Prop} {mE : Mem} (C : Cx X p s mi args c RX9 cX9_goesOn 3) (hq : RetV X p l e (rmD 5) s mi args below meth c cX9_goesOn Q mE) {fu : Nat} {x1 : Int32} {m : Mem} {H : Heap} {locs : List Loc} {ls : Array Slot} (h : f_X9_goesOn fu x1 m = some mE)  (hW : Wd X s m H locs) (hl : lv_has ls 3 [(0, .ref (ad X 20 0)), (1, .int x1)]) : W p l e (rmD 5) s mi args below meth c H locs 0 0 Q (F0 mi 0 ls []) := by
  unfold f_X9_goesOn at h
  refine lv_iconst (v := 0) C.1 C.2.1 dX9_goesOn_0 rfl ?_
  refine lv_istore_n (lv' := [(2, .int 0), (0, .ref (ad X 20 0)), (1, .int x1)]) C.1 C.2.1 dX9_goesOn_1 rfl hl (by decide) rfl (fun ls hl => ?_)
  exact w_X9_goesOn_2 C hq  fu h  hW (lv_sub hl [1, 2, 0] rfl)
theorem c_X9_goesOn {X : TX} {l : Launch} {fu : Nat} {x1 : Int32} {m mE : Mem} (h : f_X9_goesOn fu x1 m = some mE)  : MetV X l yX9_goesOn cX9_goesOn 3 5 [.ref (ad X 20 0), .int x1] m mE :=
  met_V (by decide) (Nat.le_of_ble_eq_true rfl) (fun p e s mi args below meth c ls Q C hq hW hl => w_X9_goesOn C hq h  hW (lv_sub hl [0, 1] rfl))
theorem k_X9_goesOn : CalV yX9_goesOn cX9_goesOn 3 none RX9 1 := ⟨w_1215, w_35, w_70, w_1216, by decide +kernel⟩
theorem dX9_tenths_0 : decode cX9_tenths 0 = .ok (.iload_n 1, 1) := by decide +kernel
theorem dX9_tenths_1 : decode cX9_tenths 1 = .ok (.iconst 1, 1) := by decide +kernel
theorem dX9_tenths_2 : decode cX9_tenths 2 = .ok (.bipush 100, 2) := by decide +kernel
theorem dX9_tenths_4 : decode cX9_tenths 4 = .ok (.invokestatic 79, 3) := by decide +kernel
theorem dX9_tenths_7 : decode cX9_tenths 7 = .ok (.ifCond .ne 6, 3) := by decide +kernel
theorem dX9_tenths_10 : decode cX9_tenths 10 = .ok (.ldc 91, 2) := by decide +kernel
theorem dX9_tenths_12 : decode cX9_tenths 12 = .ok (.ireturn, 1) := by decide +kernel
theorem dX9_tenths_13 : decode cX9_tenths 13 = .ok (.aload_n 0, 1) := by decide +kernel
theorem dX9_tenths_14 : decode cX9_tenths 14 = .ok (.getfield 9, 3) := by decide +kernel
theorem dX9_tenths_17 : decode cX9_tenths 17 = .ok (.bipush 7, 2) := by decide +kernel
theorem dX9_tenths_19 : decode cX9_tenths 19 = .ok (.iaload, 1) := by decide +kernel
theorem dX9_tenths_20 : decode cX9_tenths 20 = .ok (.istore_n 2, 1) := by decide +kernel
theorem dX9_tenths_21 : decode cX9_tenths 21 = .ok (.aload_n 0, 1) := by decide +kernel
theorem dX9_tenths_22 : decode cX9_tenths 22 = .ok (.sipush 9999, 3) := by decide +kernel
theorem dX9_tenths_25 : decode cX9_tenths 25 = .ok (.aload_n 0, 1) := by decide +kernel
theorem dX9_tenths_26 : decode cX9_tenths 26 = .ok (.getfield 9, 3) := by decide +kernel
theorem dX9_tenths_29 : decode cX9_tenths 29 = .ok (.iconst 2, 1) := by decide +kernel
theorem dX9_tenths_30 : decode cX9_tenths 30 = .ok (.iaload, 1) := by decide +kernel
theorem dX9_tenths_31 : decode cX9_tenths 31 = .ok (.isub, 1) := by decide +kernel
theorem dX9_tenths_32 : decode cX9_tenths 32 = .ok (.iconst 0, 1) := by decide +kernel
theorem dX9_tenths_33 : decode cX9_tenths 33 = .ok (.iload_n 1, 1) := by decide +kernel
theorem dX9_tenths_34 : decode cX9_tenths 34 = .ok (.invokestatic 143, 3) := by decide +kernel
theorem dX9_tenths_37 : decode cX9_tenths 37 = .ok (.invokevirtual 168, 3) := by decide +kernel
theorem dX9_tenths_40 : decode cX9_tenths 40 = .ok (.aload_n 0, 1) := by decide +kernel
theorem dX9_tenths_41 : decode cX9_tenths 41 = .ok (.getfield 9, 3) := by decide +kernel
theorem dX9_tenths_44 : decode cX9_tenths 44 = .ok (.bipush 7, 2) := by decide +kernel
theorem dX9_tenths_46 : decode cX9_tenths 46 = .ok (.iaload, 1) := by decide +kernel
theorem dX9_tenths_47 : decode cX9_tenths 47 = .ok (.iload_n 2, 1) := by decide +kernel
theorem dX9_tenths_48 : decode cX9_tenths 48 = .ok (.isub, 1) := by decide +kernel
theorem dX9_tenths_49 : decode cX9_tenths 49 = .ok (.ireturn, 1) := by decide +kernel
def f_X9_tenths (fu : Nat)  (x1 : Int32) (m : Mem) : Option (Int32 × Mem) := doI (f_X9_in fu x1 1 100 m) (fun r_3 m_2 => if r_3 = 0 then (some ((-1000000001), m_2)) else (seqM (m_2 ((4000 + 1500 * 0) + (7 : Int32).toNatClampNeg)) (fun x_4 : Int32 => doI (f_X9_within fu (9999 - (m_2 ((4000 + 1500 * 0) + (2 : Int32).toNatClampNeg))) 0 x1 m_2) (fun r_8 m_7 => doV (f_X9_goesOn fu r_8 m_7) (fun m_10 => some (((m_10 ((4000 + 1500 * 0) + (7 : Int32).toNatClampNeg)) - x_4), m_10))))))
set_option maxHeartbeats 4000000 in
set_option maxRecDepth 100000 in
theorem w_X9_tenths {X : TX} {p : Program} {l : Launch} {e : Env} {s : State} {mi : MethodId} {args : Array Value} {below : List Frame} {meth : Method} {c : Code} {Q : State → Prop} {r : Int32} {mE : Mem} (C : Cx X p s mi args c RX9 cX9_tenths 3) (hq : RetI X p l e (rmD 6) s mi args below meth c cX9_tenths .int Q r mE) {fu : Nat} {x1 : Int32} {m : Mem} {H : Heap} {locs : List Loc} {ls : Array Slot} (h : f_X9_tenths fu x1 m = some (r, mE))  (hW : Wd X s m H locs) (hl : lv_has ls 3 [(0, .ref (ad X 20 0)), (1, .int x1)]) : W p l e (rmD 6) s mi args below meth c H locs 0 0 Q (F0 mi 0 ls []) := by
  unfold f_X9_tenths at h
  refine lv_iload_n C.1 C.2.1 dX9_tenths_0 rfl (lv_at hl 1 rfl) ?_
  refine lv_iconst (v := 1) C.1 C.2.1 dX9_tenths_1 rfl ?_
  refine lv_bipush (v := 100) C.1 C.2.1 dX9_tenths_2 rfl ?_
  obtain ⟨r_3, m_2, hc_1, h⟩ := doI_E h
  refine zr_cSI C hW (c_X9_in (x0 := x1) (x1 := 1) (x2 := 100) hc_1 ) k_X9_in w_1117 ⟨Nat.le_of_ble_eq_true rfl, Nat.le_of_ble_eq_true rfl⟩ ⟨Nat.le_refl 0, Nat.le_refl 0⟩ rfl hl.1 rfl (Nat.le_of_ble_eq_true rfl) dX9_tenths_4 (fun H locs hW => ?_)
  refine lv_if_ne (tgt := 13) C.1 C.2.1 dX9_tenths_7 (by decide) (fun hc_11 => ?_) (fun hc_11 => ?_)
  · have h := ite_f hc_11 h
    refine lv_aload_n C.1 C.2.1 dX9_tenths_13 rfl (lv_at hl 0 rfl) ?_
    refine zg_X9_now C hW id_20 w_1004 dX9_tenths_14 ?_
    refine lv_bipush (v := 7) C.1 C.2.1 dX9_tenths_17 rfl ?_
    refine zal_21 C hW id_21_0 (inb_E (by decide)) dX9_tenths_19 ?_
    obtain ⟨x_4, e_5, h⟩ := seqM_E h
    refine lv_name e_5 ?_
    refine lv_istore_n (lv' := [(2, .int x_4), (0, .ref (ad X 20 0)), (1, .int x1)]) C.1 C.2.1 dX9_tenths_20 rfl hl (by decide) rfl (fun ls hl => ?_)
    refine lv_aload_n C.1 C.2.1 dX9_tenths_21 rfl (lv_at hl 1 rfl) ?_
    refine lv_sipush (v := 9999) C.1 C.2.1 dX9_tenths_22 rfl ?_
    refine lv_aload_n C.1 C.2.1 dX9_tenths_25 rfl (lv_at hl 1 rfl) ?_
    refine zg_X9_now C hW id_20 w_1004 dX9_tenths_26 ?_
    refine lv_iconst (v := 2) C.1 C.2.1 dX9_tenths_29 rfl ?_
    refine zal_21 C hW id_21_0 (inb_E (by decide)) dX9_tenths_30 ?_
    refine lv_isub C.1 C.2.1 dX9_tenths_31 ?_
    refine lv_iconst (v := 0) C.1 C.2.1 dX9_tenths_32 rfl ?_
    refine lv_iload_n C.1 C.2.1 dX9_tenths_33 rfl (lv_at hl 2 rfl) ?_
    obtain ⟨r_8, m_7, hc_6, h⟩ := doI_E h
    refine zr_cSI C hW (c_X9_within (x0 := (9999 - (m_2 ((4000 + 1500 * 0) + (2 : Int32).toNatClampNeg)))) (x1 := 0) (x2 := x1) hc_6 ) k_X9_within w_1210 ⟨Nat.le_of_ble_eq_true rfl, Nat.le_of_ble_eq_true rfl⟩ ⟨Nat.le_refl 0, Nat.le_refl 0⟩ rfl hl.1 rfl (Nat.le_of_ble_eq_true rfl) dX9_tenths_34 (fun H locs hW => ?_)
    obtain ⟨m_10, hc_9, h⟩ := doV_E h
    refine zr_cVV C hW (c_X9_goesOn (x1 := r_8) hc_9 ) k_X9_goesOn (zr_recv C hW id_20 zco_20 rfl) w_1213 ⟨Nat.le_of_ble_eq_true rfl, Nat.le_of_ble_eq_true rfl⟩ ⟨Nat.le_refl 0, Nat.le_refl 0⟩ rfl hl.1 rfl (Nat.le_of_ble_eq_true rfl) dX9_tenths_37 (fun H locs hW => ?_)
    refine lv_aload_n C.1 C.2.1 dX9_tenths_40 rfl (lv_at hl 1 rfl) ?_
    refine zg_X9_now C hW id_20 w_1004 dX9_tenths_41 ?_
    refine lv_bipush (v := 7) C.1 C.2.1 dX9_tenths_44 rfl ?_
    refine zal_21 C hW id_21_0 (inb_E (by decide)) dX9_tenths_46 ?_
    refine lv_iload_n C.1 C.2.1 dX9_tenths_47 rfl (lv_at hl 0 rfl) ?_
    refine lv_isub C.1 C.2.1 dX9_tenths_48 ?_
    exact ret_i h hq rfl hW dX9_tenths_49
  · have h := ite_t hc_11 h
    refine lv_ldc C.1 C.2.1 C.2.2.2.1 (C.2.2.2.2.1 _ w_1123) dX9_tenths_10 ?_
    exact ret_i h hq rfl hW dX9_tenths_12
theorem c_X9_tenths {X : TX} {l : Launch} {fu : Nat} {x1 : Int32} {m mE : Mem} {r : Int32} (h : f_X9_tenths fu x1 m = some (r, mE))  : MetI X l yX9_tenths cX9_tenths 3 .int 6 [.ref (ad X 20 0), .int x1] m r mE :=
  met_I (by decide) (Nat.le_of_ble_eq_true rfl) (fun p e s mi args below meth c ls Q C hq hW hl => w_X9_tenths C hq h  hW (lv_sub hl [0, 1] rfl))
theorem k_X9_tenths : CalV yX9_tenths cX9_tenths 3 (some .int) RX9 1 := ⟨w_1207, w_1208, w_70, w_1209, by decide +kernel⟩
theorem dX9_studio_0 : decode cX9_studio 0 = .ok (.iload_n 1, 1) := by decide +kernel
theorem dX9_studio_1 : decode cX9_studio 1 = .ok (.iconst 0, 1) := by decide +kernel
theorem dX9_studio_2 : decode cX9_studio 2 = .ok (.bipush 10, 2) := by decide +kernel
theorem dX9_studio_4 : decode cX9_studio 4 = .ok (.invokestatic 79, 3) := by decide +kernel
theorem dX9_studio_7 : decode cX9_studio 7 = .ok (.ifCond .ne 6, 3) := by decide +kernel
theorem dX9_studio_10 : decode cX9_studio 10 = .ok (.ldc 91, 2) := by decide +kernel
theorem dX9_studio_12 : decode cX9_studio 12 = .ok (.ireturn, 1) := by decide +kernel
theorem dX9_studio_13 : decode cX9_studio 13 = .ok (.iload_n 1, 1) := by decide +kernel
theorem dX9_studio_14 : decode cX9_studio 14 = .ok (.bipush 10, 2) := by decide +kernel
theorem dX9_studio_16 : decode cX9_studio 16 = .ok (.if_icmp .ne 10, 3) := by decide +kernel
theorem dX9_studio_19 : decode cX9_studio 19 = .ok (.aload_n 0, 1) := by decide +kernel
theorem dX9_studio_20 : decode cX9_studio 20 = .ok (.invokevirtual 134, 3) := by decide +kernel
theorem dX9_studio_23 : decode cX9_studio 23 = .ok (.goto 11, 3) := by decide +kernel
theorem dX9_studio_26 : decode cX9_studio 26 = .ok (.aload_n 0, 1) := by decide +kernel
theorem dX9_studio_27 : decode cX9_studio 27 = .ok (.getfield 9, 3) := by decide +kernel
theorem dX9_studio_30 : decode cX9_studio 30 = .ok (.iconst 5, 1) := by decide +kernel
theorem dX9_studio_31 : decode cX9_studio 31 = .ok (.iload_n 1, 1) := by decide +kernel
theorem dX9_studio_32 : decode cX9_studio 32 = .ok (.iadd, 1) := by decide +kernel
theorem dX9_studio_33 : decode cX9_studio 33 = .ok (.iaload, 1) := by decide +kernel
theorem dX9_studio_34 : decode cX9_studio 34 = .ok (.ireturn, 1) := by decide +kernel
def f_X9_studio (fu : Nat)  (x1 : Int32) (m : Mem) : Option (Int32 × Mem) := doI (f_X9_in fu x1 0 10 m) (fun r_3 m_2 => if r_3 = 0 then (some ((-1000000001), m_2)) else (if x1 = 10 then (doI (f_X9_speaking fu  m_2) (fun r_7 m_6 => some (r_7, m_6))) else (chk (inb (5 + x1) 1423) (some ((m_2 ((4000 + 1500 * 0) + (5 + x1).toNatClampNeg)), m_2)))))
set_option maxHeartbeats 4000000 in
set_option maxRecDepth 100000 in
theorem w_X9_studio {X : TX} {p : Program} {l : Launch} {e : Env} {s : State} {mi : MethodId} {args : Array Value} {below : List Frame} {meth : Method} {c : Code} {Q : State → Prop} {r : Int32} {mE : Mem} (C : Cx X p s mi args c RX9 cX9_studio 2) (hq : RetI X p l e (rmD 2) s mi args below meth c cX9_studio .int Q r mE) {fu : Nat} {x1 : Int32} {m : Mem} {H : Heap} {locs : List Loc} {ls : Array Slot} (h : f_X9_studio fu x1 m = some (r, mE))  (hW : Wd X s m H locs) (hl : lv_has ls 2 [(0, .ref (ad X 20 0)), (1, .int x1)]) : W p l e (rmD 2) s mi args below meth c H locs 0 0 Q (F0 mi 0 ls []) := by
  unfold f_X9_studio at h
  refine lv_iload_n C.1 C.2.1 dX9_studio_0 rfl (lv_at hl 1 rfl) ?_
  refine lv_iconst (v := 0) C.1 C.2.1 dX9_studio_1 rfl ?_
  refine lv_bipush (v := 10) C.1 C.2.1 dX9_studio_2 rfl ?_
  obtain ⟨r_3, m_2, hc_1, h⟩ := doI_E h
  refine zr_cSI C hW (c_X9_in (x0 := x1) (x1 := 0) (x2 := 10) hc_1 ) k_X9_in w_1117 ⟨Nat.le_of_ble_eq_true rfl, Nat.le_of_ble_eq_true rfl⟩ ⟨Nat.le_refl 0, Nat.le_refl 0⟩ rfl hl.1 rfl (Nat.le_of_ble_eq_true rfl) dX9_studio_4 (fun H locs hW => ?_)
  refine lv_if_ne (tgt := 13) C.1 C.2.1 dX9_studio_7 (by decide) (fun hc_9 => ?_) (fun hc_9 => ?_)
  · have h := ite_f hc_9 h
    refine lv_iload_n C.1 C.2.1 dX9_studio_13 rfl (lv_at hl 1 rfl) ?_
    refine lv_bipush (v := 10) C.1 C.2.1 dX9_studio_14 rfl ?_
    refine lv_icmp_ne (tgt := 26) C.1 C.2.1 dX9_studio_16 (by decide) (fun hc_8 => ?_) (fun hc_8 => ?_)
    · have h := ite_f hc_8 h
      refine lv_aload_n C.1 C.2.1 dX9_studio_26 rfl (lv_at hl 0 rfl) ?_
      refine zg_X9_now C hW id_20 w_1004 dX9_studio_27 ?_
      refine lv_iconst (v := 5) C.1 C.2.1 dX9_studio_30 rfl ?_
      refine lv_iload_n C.1 C.2.1 dX9_studio_31 rfl (lv_at hl 1 rfl) ?_
      refine lv_iadd C.1 C.2.1 dX9_studio_32 ?_
      obtain ⟨hb_4, h⟩ := chk_E h
      refine zal_21 C hW id_21_0 (inb_E hb_4) dX9_studio_33 ?_
      exact ret_i h hq rfl hW dX9_studio_34
    · have h := ite_t hc_8 h
      refine lv_aload_n C.1 C.2.1 dX9_studio_19 rfl (lv_at hl 0 rfl) ?_
      obtain ⟨r_7, m_6, hc_5, h⟩ := doI_E h
      refine zr_cVI C hW (c_X9_speaking  hc_5 ) k_X9_speaking (zr_recv C hW id_20 zco_20 rfl) w_1221 ⟨Nat.le_of_ble_eq_true rfl, Nat.le_of_ble_eq_true rfl⟩ ⟨Nat.le_refl 0, Nat.le_refl 0⟩ rfl hl.1 rfl (Nat.le_of_ble_eq_true rfl) dX9_studio_20 (fun H locs hW => ?_)
      refine lv_goto (tgt := 34) C.1 C.2.1 dX9_studio_23 (by decide) ?_
      exact ret_i h hq rfl hW dX9_studio_34
  · have h := ite_t hc_9 h
    refine lv_ldc C.1 C.2.1 C.2.2.2.1 (C.2.2.2.2.1 _ w_1123) dX9_studio_10 ?_
    exact ret_i h hq rfl hW dX9_studio_12
theorem c_X9_studio {X : TX} {l : Launch} {fu : Nat} {x1 : Int32} {m mE : Mem} {r : Int32} (h : f_X9_studio fu x1 m = some (r, mE))  : MetI X l yX9_studio cX9_studio 2 .int 2 [.ref (ad X 20 0), .int x1] m r mE :=
  met_I (by decide) (Nat.le_of_ble_eq_true rfl) (fun p e s mi args below meth c ls Q C hq hW hl => w_X9_studio C hq h  hW (lv_sub hl [0, 1] rfl))
theorem k_X9_studio : CalV yX9_studio cX9_studio 2 (some .int) RX9 1 := ⟨w_1261, w_1262, w_70, w_1263, by decide +kernel⟩
theorem dX9_thinks_0 : decode cX9_thinks 0 = .ok (.iconst 0, 1) := by decide +kernel
theorem dX9_thinks_1 : decode cX9_thinks 1 = .ok (.istore_n 1, 1) := by decide +kernel
theorem dX9_thinks_2 : decode cX9_thinks 2 = .ok (.iload_n 1, 1) := by decide +kernel
theorem dX9_thinks_3 : decode cX9_thinks 3 = .ok (.bipush 51, 2) := by decide +kernel
theorem dX9_thinks_5 : decode cX9_thinks 5 = .ok (.if_icmp .ge 21, 3) := by decide +kernel
theorem dX9_thinks_8 : decode cX9_thinks 8 = .ok (.aload_n 0, 1) := by decide +kernel
theorem dX9_thinks_9 : decode cX9_thinks 9 = .ok (.getfield 19, 3) := by decide +kernel
theorem dX9_thinks_12 : decode cX9_thinks 12 = .ok (.iload_n 1, 1) := by decide +kernel
theorem dX9_thinks_13 : decode cX9_thinks 13 = .ok (.aload_n 0, 1) := by decide +kernel
theorem dX9_thinks_14 : decode cX9_thinks 14 = .ok (.getfield 9, 3) := by decide +kernel
theorem dX9_thinks_17 : decode cX9_thinks 17 = .ok (.iload_n 1, 1) := by decide +kernel
theorem dX9_thinks_18 : decode cX9_thinks 18 = .ok (.iaload, 1) := by decide +kernel
theorem dX9_thinks_19 : decode cX9_thinks 19 = .ok (.iastore, 1) := by decide +kernel
theorem dX9_thinks_20 : decode cX9_thinks 20 = .ok (.iinc 1 1, 3) := by decide +kernel
theorem dX9_thinks_23 : decode cX9_thinks 23 = .ok (.goto (-21), 3) := by decide +kernel
theorem dX9_thinks_26 : decode cX9_thinks 26 = .ok (.return_, 1) := by decide +kernel
def f_X9_thinks_2 (fu : Nat)  : Nat → Int32 → Mem → Option Mem
  | 0, _, _ => none
  | n + 1, x1, m => if 51 ≤ x1 then (some m) else (chk (inb x1 1423) (chk (inb x1 51) (seqM (upd m (3100 + x1.toNatClampNeg) (m ((4000 + 1500 * 0) + x1.toNatClampNeg))) (fun m_3 : Mem => seqM (x1 + 1) (fun x_5 : Int32 => f_X9_thinks_2 fu n x_5 m_3)))))
set_option maxHeartbeats 4000000 in
set_option maxRecDepth 100000 in
theorem w_X9_thinks_2 {X : TX} {p : Program} {l : Launch} {e : Env} {s : State} {mi : MethodId} {args : Array Value} {below : List Frame} {meth : Method} {c : Code} {Q : State → Prop} {mE : Mem} (C : Cx X p s mi args c RX9 cX9_thinks 2) (hq : RetV X p l e (rmD 0) s mi args below meth c cX9_thinks Q mE) {fu : Nat} : ∀ (n : Nat) {x1 : Int32} {m : Mem} {H : Heap} {locs : List Loc} {ls : Array Slot}, f_X9_thinks_2 fu n x1 m = some mE → Wd X s m H locs → lv_has ls 2 [(0, .ref (ad X 20 0)), (1, .int x1)] → W p l e (rmD 0) s mi args below meth c H locs 0 0 Q (F0 mi 2 ls []) := by
  intro n
  induction n with
  | zero =>
    intro x1 m H locs ls h hW hl
    rw [f_X9_thinks_2] at h
    cases h
  | succ n ih =>
    intro x1 m H locs ls h hW hl
    rw [f_X9_thinks_2] at h
    refine lv_iload_n C.1 C.2.1 dX9_thinks_2 rfl (lv_at hl 1 rfl) ?_
    refine lv_bipush (v := 51) C.1 C.2.1 dX9_thinks_3 rfl ?_
    refine lv_icmp_ge (tgt := 26) C.1 C.2.1 dX9_thinks_5 (by decide) (fun hc_7 => ?_) (fun hc_7 => ?_)
    · have h := ite_t hc_7 h
      exact ret_v h hq hW dX9_thinks_26
    · have h := ite_f hc_7 h
      refine lv_aload_n C.1 C.2.1 dX9_thinks_8 rfl (lv_at hl 0 rfl) ?_
      refine zg_X9_before C hW id_20 w_1009 dX9_thinks_9 ?_
      refine lv_iload_n C.1 C.2.1 dX9_thinks_12 rfl (lv_at hl 1 rfl) ?_
      refine lv_aload_n C.1 C.2.1 dX9_thinks_13 rfl (lv_at hl 0 rfl) ?_
      refine zg_X9_now C hW id_20 w_1004 dX9_thinks_14 ?_
      refine lv_iload_n C.1 C.2.1 dX9_thinks_17 rfl (lv_at hl 1 rfl) ?_
      obtain ⟨hb_1, h⟩ := chk_E h
      refine zal_21 C hW id_21_0 (inb_E hb_1) dX9_thinks_18 ?_
      obtain ⟨hb_2, h⟩ := chk_E h
      obtain ⟨m_3, e_4, h⟩ := seqM_E h
      refine zas_22 C hW id_22 (inb_E hb_2) e_4 dX9_thinks_19 (fun H locs hW => ?_)
      obtain ⟨x_5, e_6, h⟩ := seqM_E h
      refine lv_iinc (v := x_5) (lv' := [(1, .int x_5), (0, .ref (ad X 20 0))]) C.1 C.2.1 dX9_thinks_20 hl (k := 1) rfl (by rw [e_6]; rfl) (by decide) rfl (fun ls hl => ?_)
      refine lv_goto (tgt := 2) C.1 C.2.1 dX9_thinks_23 (by decide) ?_
      exact ih h  hW (lv_sub hl [1, 0] rfl)
def f_X9_thinks (fu : Nat)   (m : Mem) : Option Mem := f_X9_thinks_2 fu fu 0 m
set_option maxHeartbeats 4000000 in
set_option maxRecDepth 100000 in
theorem w_X9_thinks {X : TX} {p : Program} {l : Launch} {e : Env} {s : State} {mi : MethodId} {args : Array Value} {below : List Frame} {meth : Method} {c : Code} {Q : State → Prop} {mE : Mem} (C : Cx X p s mi args c RX9 cX9_thinks 2) (hq : RetV X p l e (rmD 0) s mi args below meth c cX9_thinks Q mE) {fu : Nat}  {m : Mem} {H : Heap} {locs : List Loc} {ls : Array Slot} (h : f_X9_thinks fu  m = some mE)  (hW : Wd X s m H locs) (hl : lv_has ls 2 [(0, .ref (ad X 20 0))]) : W p l e (rmD 0) s mi args below meth c H locs 0 0 Q (F0 mi 0 ls []) := by
  unfold f_X9_thinks at h
  refine lv_iconst (v := 0) C.1 C.2.1 dX9_thinks_0 rfl ?_
  refine lv_istore_n (lv' := [(1, .int 0), (0, .ref (ad X 20 0))]) C.1 C.2.1 dX9_thinks_1 rfl hl (by decide) rfl (fun ls hl => ?_)
  exact w_X9_thinks_2 C hq  fu h  hW (lv_sub hl [1, 0] rfl)
theorem c_X9_thinks {X : TX} {l : Launch} {fu : Nat}  {m mE : Mem} (h : f_X9_thinks fu  m = some mE)  : MetV X l yX9_thinks cX9_thinks 2 0 [.ref (ad X 20 0)] m mE :=
  met_V (by decide) (Nat.le_of_ble_eq_true rfl) (fun p e s mi args below meth c ls Q C hq hW hl => w_X9_thinks C hq h  hW (lv_sub hl [0] rfl))
theorem k_X9_thinks : CalV yX9_thinks cX9_thinks 2 none RX9 0 := ⟨w_1270, w_46, w_70, w_1271, by decide +kernel⟩
