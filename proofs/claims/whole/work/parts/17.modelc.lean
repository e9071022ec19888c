theorem dX9_putsBack_0 : decode cX9_putsBack 0 = .ok (.iconst 0, 1) := by decide +kernel
theorem dX9_putsBack_1 : decode cX9_putsBack 1 = .ok (.istore_n 1, 1) := by decide +kernel
theorem dX9_putsBack_2 : decode cX9_putsBack 2 = .ok (.iload_n 1, 1) := by decide +kernel
theorem dX9_putsBack_3 : decode cX9_putsBack 3 = .ok (.bipush 51, 2) := by decide +kernel
theorem dX9_putsBack_5 : decode cX9_putsBack 5 = .ok (.if_icmp .ge 21, 3) := by decide +kernel
theorem dX9_putsBack_8 : decode cX9_putsBack 8 = .ok (.aload_n 0, 1) := by decide +kernel
theorem dX9_putsBack_9 : decode cX9_putsBack 9 = .ok (.getfield 9, 3) := by decide +kernel
theorem dX9_putsBack_12 : decode cX9_putsBack 12 = .ok (.iload_n 1, 1) := by decide +kernel
theorem dX9_putsBack_13 : decode cX9_putsBack 13 = .ok (.aload_n 0, 1) := by decide +kernel
theorem dX9_putsBack_14 : decode cX9_putsBack 14 = .ok (.getfield 19, 3) := by decide +kernel
theorem dX9_putsBack_17 : decode cX9_putsBack 17 = .ok (.iload_n 1, 1) := by decide +kernel
theorem dX9_putsBack_18 : decode cX9_putsBack 18 = .ok (.iaload, 1) := by decide +kernel
theorem dX9_putsBack_19 : decode cX9_putsBack 19 = .ok (.iastore, 1) := by decide +kernel
theorem dX9_putsBack_20 : decode cX9_putsBack 20 = .ok (.iinc 1 1, 3) := by decide +kernel
theorem dX9_putsBack_23 : decode cX9_putsBack 23 = .ok (.goto (-21), 3) := by decide +kernel
theorem dX9_putsBack_26 : decode cX9_putsBack 26 = .ok (.return_, 1) := by decide +kernel
def f_X9_putsBack_2 (fu : Nat)  : Nat → Int32 → Mem → Option Mem
  | 0, _, _ => none
  | n + 1, x1, m => if 51 ≤ x1 then (some m) else (chk (inb x1 51) (chk (inb x1 1423) (seqM (upd m ((4000 + 1500 * 0) + x1.toNatClampNeg) (m (3100 + x1.toNatClampNeg))) (fun m_3 : Mem => seqM (x1 + 1) (fun x_5 : Int32 => f_X9_putsBack_2 fu n x_5 m_3)))))
set_option maxHeartbeats 4000000 in
set_option maxRecDepth 100000 in
theorem w_X9_putsBack_2 {X : TX} {p : Program} {l : Launch} {e : Env} {s : State} {mi : MethodId} {args : Array Value} {below : List Frame} {meth : Method} {c : Code} {Q : State → Prop} {mE : Mem} (C : Cx X p s mi args c RX9 cX9_putsBack 2) (hq : RetV X p l e (rmD 0) s mi args below meth c cX9_putsBack Q mE) {fu : Nat} : ∀ (n : Nat) {x1 : Int32} {m : Mem} {H : Heap} {locs : List Loc} {ls : Array Slot}, f_X9_putsBack_2 fu n x1 m = some mE → Wd X s m H locs → lv_has ls 2 [(0, .ref (ad X 20 0)), (1, .int x1)] → W p l e (rmD 0) s mi args below meth c H locs 0 0 Q (F0 mi 2 ls []) := by
  intro n
  induction n with
  | zero =>
    intro x1 m H locs ls h hW hl
    rw [f_X9_putsBack_2] at h
    cases h
  | succ n ih =>
    intro x1 m H locs ls h hW hl
    rw [f_X9_putsBack_2] at h
    refine lv_iload_n C.1 C.2.1 dX9_putsBack_2 rfl (lv_at hl 1 rfl) ?_
    refine lv_bipush (v := 51) C.1 C.2.1 dX9_putsBack_3 rfl ?_
    refine lv_icmp_ge (tgt := 26) C.1 C.2.1 dX9_putsBack_5 (by decide) (fun hc_7 => ?_) (fun hc_7 => ?_)
    · have h := ite_t hc_7 h
      exact ret_v h hq hW dX9_putsBack_26
    · have h := ite_f hc_7 h
      refine lv_aload_n C.1 C.2.1 dX9_putsBack_8 rfl (lv_at hl 0 rfl) ?_
      refine zg_X9_now C hW id_20 w_1004 dX9_putsBack_9 ?_
      refine lv_iload_n C.1 C.2.1 dX9_putsBack_12 rfl (lv_at hl 1 rfl) ?_
      refine lv_aload_n C.1 C.2.1 dX9_putsBack_13 rfl (lv_at hl 0 rfl) ?_
      refine zg_X9_before C hW id_20 w_1009 dX9_putsBack_14 ?_
      refine lv_iload_n C.1 C.2.1 dX9_putsBack_17 rfl (lv_at hl 1 rfl) ?_
      obtain ⟨hb_1, h⟩ := chk_E h
      refine zal_22 C hW id_22 (inb_E hb_1) dX9_putsBack_18 ?_
      obtain ⟨hb_2, h⟩ := chk_E h
      obtain ⟨m_3, e_4, h⟩ := seqM_E h
      refine zas_21 C hW id_21_0 (inb_E hb_2) e_4 dX9_putsBack_19 (fun H locs hW => ?_)
      obtain ⟨x_5, e_6, h⟩ := seqM_E h
      refine lv_iinc (v := x_5) (lv' := [(1, .int x_5), (0, .ref (ad X 20 0))]) C.1 C.2.1 dX9_putsBack_20 hl (k := 1) rfl (by rw [e_6]; rfl) (by decide) rfl (fun ls hl => ?_)
      refine lv_goto (tgt := 2) C.1 C.2.1 dX9_putsBack_23 (by decide) ?_
      exact ih h  hW (lv_sub hl [1, 0] rfl)
def f_X9_putsBack (fu : Nat)   (m : Mem) : Option Mem := f_X9_putsBack_2 fu fu 0 m
set_option maxHeartbeats 4000000 in
set_option maxRecDepth 100000 in
theorem w_X9_putsBack {X : TX} {p : Program} {l : Launch} {e : Env} {s : State} {mi : MethodId} {args : Array Value} {below : List Frame} {meth : Method} {c : Code} {Q : State → Prop} {mE : Mem} (C : Cx X p s mi args c RX9 cX9_putsBack 2) (hq : RetV X p l e (rmD 0) s mi args below meth c cX9_putsBack Q mE) {fu : Nat}  {m : Mem} {H : Heap} {locs : List Loc} {ls : Array Slot} (h : f_X9_putsBack fu  m = some mE)  (hW : Wd X s m H locs) (hl : lv_has ls 2 [(0, .ref (ad X 20 0))]) : W p l e (rmD 0) s mi args below meth c H locs 0 0 Q (F0 mi 0 ls []) := by
  unfold f_X9_putsBack at h
  refine lv_iconst (v := 0) C.1 C.2.1 dX9_putsBack_0 rfl ?_
  refine lv_istore_n (lv' := [(1, .int 0), (0, .ref (ad X 20 0))]) C.1 C.2.1 dX9_putsBack_1 rfl hl (by decide) rfl (fun ls hl => ?_)
  exact w_X9_putsBack_2 C hq  fu h  hW (lv_sub hl [1, 0] rfl)
theorem c_X9_putsBack {X : TX} {l : Launch} {fu : Nat}  {m mE : Mem} (h : f_X9_putsBack fu  m = some mE)  : MetV X l yX9_putsBack cX9_putsBack 2 0 [.ref (ad X 20 0)] m mE :=
  met_V (by decide) (Nat.le_of_ble_eq_true rfl) (fun p e s mi args below meth c ls Q C hq hW hl => w_X9_putsBack C hq h  hW (lv_sub hl [0] rfl))
theorem k_X9_putsBack : CalV yX9_putsBack cX9_putsBack 2 none RX9 0 := ⟨w_1274, w_47, w_70, w_1275, by decide +kernel⟩
theorem dX9_behind_0 : decode cX9_behind 0 = .ok (.iload_n 1, 1) := by decide +kernel
theorem dX9_behind_1 : decode cX9_behind 1 = .ok (.iconst 0, 1) := by decide +kernel
theorem dX9_behind_2 : decode cX9_behind 2 = .ok (.bipush 100, 2) := by decide +kernel
theorem dX9_behind_4 : decode cX9_behind 4 = .ok (.invokestatic 79, 3) := by decide +kernel
theorem dX9_behind_7 : decode cX9_behind 7 = .ok (.ifCond .eq 22, 3) := by decide +kernel
theorem dX9_behind_10 : decode cX9_behind 10 = .ok (.iload_n 2, 1) := by decide +kernel
theorem dX9_behind_11 : decode cX9_behind 11 = .ok (.ifCond .lt 18, 3) := by decide +kernel
theorem dX9_behind_14 : decode cX9_behind 14 = .ok (.iload_n 2, 1) := by decide +kernel
theorem dX9_behind_15 : decode cX9_behind 15 = .ok (.iconst 2, 1) := by decide +kernel
theorem dX9_behind_16 : decode cX9_behind 16 = .ok (.if_icmp .le 16, 3) := by decide +kernel
theorem dX9_behind_19 : decode cX9_behind 19 = .ok (.aload_n 0, 1) := by decide +kernel
theorem dX9_behind_20 : decode cX9_behind 20 = .ok (.iload_n 2, 1) := by decide +kernel
theorem dX9_behind_21 : decode cX9_behind 21 = .ok (.iconst 3, 1) := by decide +kernel
theorem dX9_behind_22 : decode cX9_behind 22 = .ok (.isub, 1) := by decide +kernel
theorem dX9_behind_23 : decode cX9_behind 23 = .ok (.invokevirtual 101, 3) := by decide +kernel
theorem dX9_behind_26 : decode cX9_behind 26 = .ok (.ifCond .ne 6, 3) := by decide +kernel
theorem dX9_behind_29 : decode cX9_behind 29 = .ok (.ldc 91, 2) := by decide +kernel
theorem dX9_behind_31 : decode cX9_behind 31 = .ok (.ireturn, 1) := by decide +kernel
theorem dX9_behind_32 : decode cX9_behind 32 = .ok (.aload_n 0, 1) := by decide +kernel
theorem dX9_behind_33 : decode cX9_behind 33 = .ok (.invokevirtual 171, 3) := by decide +kernel
theorem dX9_behind_36 : decode cX9_behind 36 = .ok (.aload_n 0, 1) := by decide +kernel
theorem dX9_behind_37 : decode cX9_behind 37 = .ok (.iload_n 1, 1) := by decide +kernel
theorem dX9_behind_38 : decode cX9_behind 38 = .ok (.invokevirtual 168, 3) := by decide +kernel
theorem dX9_behind_41 : decode cX9_behind 41 = .ok (.iload_n 2, 1) := by decide +kernel
theorem dX9_behind_42 : decode cX9_behind 42 = .ok (.ifCond .ne 12, 3) := by decide +kernel
theorem dX9_behind_45 : decode cX9_behind 45 = .ok (.aload_n 0, 1) := by decide +kernel
theorem dX9_behind_46 : decode cX9_behind 46 = .ok (.getfield 9, 3) := by decide +kernel
theorem dX9_behind_49 : decode cX9_behind 49 = .ok (.iconst 5, 1) := by decide +kernel
theorem dX9_behind_50 : decode cX9_behind 50 = .ok (.iaload, 1) := by decide +kernel
theorem dX9_behind_51 : decode cX9_behind 51 = .ok (.goto 42, 3) := by decide +kernel
theorem dX9_behind_54 : decode cX9_behind 54 = .ok (.iload_n 2, 1) := by decide +kernel
theorem dX9_behind_55 : decode cX9_behind 55 = .ok (.iconst 1, 1) := by decide +kernel
theorem dX9_behind_56 : decode cX9_behind 56 = .ok (.if_icmp .ne 13, 3) := by decide +kernel
theorem dX9_behind_59 : decode cX9_behind 59 = .ok (.aload_n 0, 1) := by decide +kernel
theorem dX9_behind_60 : decode cX9_behind 60 = .ok (.getfield 9, 3) := by decide +kernel
theorem dX9_behind_63 : decode cX9_behind 63 = .ok (.bipush 7, 2) := by decide +kernel
theorem dX9_behind_65 : decode cX9_behind 65 = .ok (.iaload, 1) := by decide +kernel
theorem dX9_behind_66 : decode cX9_behind 66 = .ok (.goto 27, 3) := by decide +kernel
theorem dX9_behind_69 : decode cX9_behind 69 = .ok (.iload_n 2, 1) := by decide +kernel
theorem dX9_behind_70 : decode cX9_behind 70 = .ok (.iconst 2, 1) := by decide +kernel
theorem dX9_behind_71 : decode cX9_behind 71 = .ok (.if_icmp .ne 13, 3) := by decide +kernel
theorem dX9_behind_74 : decode cX9_behind 74 = .ok (.aload_n 0, 1) := by decide +kernel
theorem dX9_behind_75 : decode cX9_behind 75 = .ok (.getfield 9, 3) := by decide +kernel
theorem dX9_behind_78 : decode cX9_behind 78 = .ok (.bipush 11, 2) := by decide +kernel
theorem dX9_behind_80 : decode cX9_behind 80 = .ok (.iaload, 1) := by decide +kernel
theorem dX9_behind_81 : decode cX9_behind 81 = .ok (.goto 12, 3) := by decide +kernel
theorem dX9_behind_84 : decode cX9_behind 84 = .ok (.aload_n 0, 1) := by decide +kernel
theorem dX9_behind_85 : decode cX9_behind 85 = .ok (.iload_n 2, 1) := by decide +kernel
theorem dX9_behind_86 : decode cX9_behind 86 = .ok (.iconst 3, 1) := by decide +kernel
theorem dX9_behind_87 : decode cX9_behind 87 = .ok (.isub, 1) := by decide +kernel
theorem dX9_behind_88 : decode cX9_behind 88 = .ok (.bipush 6, 2) := by decide +kernel
theorem dX9_behind_90 : decode cX9_behind 90 = .ok (.invokevirtual 97, 3) := by decide +kernel
theorem dX9_behind_93 : decode cX9_behind 93 = .ok (.istore_n 3, 1) := by decide +kernel
theorem dX9_behind_94 : decode cX9_behind 94 = .ok (.aload_n 0, 1) := by decide +kernel
theorem dX9_behind_95 : decode cX9_behind 95 = .ok (.invokevirtual 174, 3) := by decide +kernel
theorem dX9_behind_98 : decode cX9_behind 98 = .ok (.iload_n 3, 1) := by decide +kernel
theorem dX9_behind_99 : decode cX9_behind 99 = .ok (.ireturn, 1) := by decide +kernel
def f_X9_behind_93 (fu : Nat)  (y0 : Int32) (m : Mem) : Option (Int32 × Mem) := doV (f_X9_putsBack fu  m) (fun m_2 => some (y0, m_2))
set_option maxHeartbeats 4000000 in
set_option maxRecDepth 100000 in
theorem w_X9_behind_93 {X : TX} {p : Program} {l : Launch} {e : Env} {s : State} {mi : MethodId} {args : Array Value} {below : List Frame} {meth : Method} {c : Code} {Q : State → Prop} {r : Int32} {mE : Mem} (C : Cx X p s mi args c RX9 cX9_behind 4) (hq : RetI X p l e (rmD 6) s mi args below meth c cX9_behind .int Q r mE) {fu : Nat} {y0 : Int32} {m : Mem} {H : Heap} {locs : List Loc} {ls : Array Slot} (h : f_X9_behind_93 fu y0 m = some (r, mE))  (hW : Wd X s m H locs) (hl : lv_has ls 4 [(0, .ref (ad X 20 0))]) : W p l e (rmD 6) s mi args below meth c H locs 0 0 Q (F0 mi 93 ls [.int y0]) := by
  unfold f_X9_behind_93 at h
  refine lv_istore_n (lv' := [(3, .int y0), (0, .ref (ad X 20 0))]) C.1 C.2.1 dX9_behind_93 rfl hl (by decide) rfl (fun ls hl => ?_)
  refine lv_aload_n C.1 C.2.1 dX9_behind_94 rfl (lv_at hl 1 rfl) ?_
  obtain ⟨m_2, hc_1, h⟩ := doV_E h
  refine zr_cVV C hW (c_X9_putsBack  hc_1 ) k_X9_putsBack (zr_recv C hW id_20 zco_20 rfl) w_1272 ⟨Nat.le_of_ble_eq_true rfl, Nat.le_of_ble_eq_true rfl⟩ ⟨Nat.le_refl 0, Nat.le_refl 0⟩ rfl hl.1 rfl (Nat.le_of_ble_eq_true rfl) dX9_behind_95 (fun H locs hW => ?_)
  refine lv_iload_n C.1 C.2.1 dX9_behind_98 rfl (lv_at hl 0 rfl) ?_
  exact ret_i h hq rfl hW dX9_behind_99
def f_X9_behind_32 (fu : Nat)  (x1 : Int32) (x2 : Int32) (m : Mem) : Option (Int32 × Mem) := doV (f_X9_thinks fu  m) (fun m_2 => doV (f_X9_goesOn fu x1 m_2) (fun m_4 => if x2 = 0 then (f_X9_behind_93 fu (m_4 ((4000 + 1500 * 0) + (5 : Int32).toNatClampNeg)) m_4) else (if x2 = 1 then (f_X9_behind_93 fu (m_4 ((4000 + 1500 * 0) + (7 : Int32).toNatClampNeg)) m_4) else (if x2 = 2 then (f_X9_behind_93 fu (m_4 ((4000 + 1500 * 0) + (11 : Int32).toNatClampNeg)) m_4) else (doI (f_X9_of fu (x2 - 3) 6 m_4) (fun r_7 m_6 => f_X9_behind_93 fu r_7 m_6))))))
set_option maxHeartbeats 4000000 in
set_option maxRecDepth 100000 in
theorem w_X9_behind_32 {X : TX} {p : Program} {l : Launch} {e : Env} {s : State} {mi : MethodId} {args : Array Value} {below : List Frame} {meth : Method} {c : Code} {Q : State → Prop} {r : Int32} {mE : Mem} (C : Cx X p s mi args c RX9 cX9_behind 4) (hq : RetI X p l e (rmD 6) s mi args below meth c cX9_behind .int Q r mE) {fu : Nat} {x1 : Int32} {x2 : Int32} {m : Mem} {H : Heap} {locs : List Loc} {ls : Array Slot} (h : f_X9_behind_32 fu x1 x2 m = some (r, mE))  (hW : Wd X s m H locs) (hl : lv_has ls 4 [(0, .ref (ad X 20 0)), (1, .int x1), (2, .int x2)]) : W p l e (rmD 6) s mi args below meth c H locs 0 0 Q (F0 mi 32 ls []) := by
  unfold f_X9_behind_32 at h
  refine lv_aload_n C.1 C.2.1 dX9_behind_32 rfl (lv_at hl 0 rfl) ?_
  obtain ⟨m_2, hc_1, h⟩ := doV_E h
  refine zr_cVV C hW (c_X9_thinks  hc_1 ) k_X9_thinks (zr_recv C hW id_20 zco_20 rfl) w_1268 ⟨Nat.le_of_ble_eq_true rfl, Nat.le_of_ble_eq_true rfl⟩ ⟨Nat.le_refl 0, Nat.le_refl 0⟩ rfl hl.1 rfl (Nat.le_of_ble_eq_true rfl) dX9_behind_33 (fun H locs hW => ?_)
  refine lv_aload_n C.1 C.2.1 dX9_behind_36 rfl (lv_at hl 0 rfl) ?_
  refine lv_iload_n C.1 C.2.1 dX9_behind_37 rfl (lv_at hl 1 rfl) ?_
  obtain ⟨m_4, hc_3, h⟩ := doV_E h
  refine zr_cVV C hW (c_X9_goesOn (x1 := x1) hc_3 ) k_X9_goesOn (zr_recv C hW id_20 zco_20 rfl) w_1213 ⟨Nat.le_of_ble_eq_true rfl, Nat.le_of_ble_eq_true rfl⟩ ⟨Nat.le_refl 0, Nat.le_refl 0⟩ rfl hl.1 rfl (Nat.le_of_ble_eq_true rfl) dX9_behind_38 (fun H locs hW => ?_)
  refine lv_iload_n C.1 C.2.1 dX9_behind_41 rfl (lv_at hl 2 rfl) ?_
  refine lv_if_ne (tgt := 54) C.1 C.2.1 dX9_behind_42 (by decide) (fun hc_10 => ?_) (fun hc_10 => ?_)
  · have h := ite_f hc_10 h
    refine lv_iload_n C.1 C.2.1 dX9_behind_54 rfl (lv_at hl 2 rfl) ?_
    refine lv_iconst (v := 1) C.1 C.2.1 dX9_behind_55 rfl ?_
    refine lv_icmp_ne (tgt := 69) C.1 C.2.1 dX9_behind_56 (by decide) (fun hc_9 => ?_) (fun hc_9 => ?_)
    · have h := ite_f hc_9 h
      refine lv_iload_n C.1 C.2.1 dX9_behind_69 rfl (lv_at hl 2 rfl) ?_
      refine lv_iconst (v := 2) C.1 C.2.1 dX9_behind_70 rfl ?_
      refine lv_icmp_ne (tgt := 84) C.1 C.2.1 dX9_behind_71 (by decide) (fun hc_8 => ?_) (fun hc_8 => ?_)
      · have h := ite_f hc_8 h
        refine lv_aload_n C.1 C.2.1 dX9_behind_84 rfl (lv_at hl 0 rfl) ?_
        refine lv_iload_n C.1 C.2.1 dX9_behind_85 rfl (lv_at hl 2 rfl) ?_
        refine lv_iconst (v := 3) C.1 C.2.1 dX9_behind_86 rfl ?_
        refine lv_isub C.1 C.2.1 dX9_behind_87 ?_
        refine lv_bipush (v := 6) C.1 C.2.1 dX9_behind_88 rfl ?_
        obtain ⟨r_7, m_6, hc_5, h⟩ := doI_E h
        refine zr_cVI C hW (c_X9_of (x1 := (x2 - 3)) (x2 := 6) hc_5 ) k_X9_of (zr_recv C hW id_20 zco_20 rfl) w_1141 ⟨Nat.le_of_ble_eq_true rfl, Nat.le_of_ble_eq_true rfl⟩ ⟨Nat.le_refl 0, Nat.le_refl 0⟩ rfl hl.1 rfl (Nat.le_of_ble_eq_true rfl) dX9_behind_90 (fun H locs hW => ?_)
        exact w_X9_behind_93 C hq  h  hW (lv_sub hl [0] rfl)
      · have h := ite_t hc_8 h
        refine lv_aload_n C.1 C.2.1 dX9_behind_74 rfl (lv_at hl 0 rfl) ?_
        refine zg_X9_now C hW id_20 w_1004 dX9_behind_75 ?_
        refine lv_bipush (v := 11) C.1 C.2.1 dX9_behind_78 rfl ?_
        refine zal_21 C hW id_21_0 (inb_E (by decide)) dX9_behind_80 ?_
        refine lv_goto (tgt := 93) C.1 C.2.1 dX9_behind_81 (by decide) ?_
        exact w_X9_behind_93 C hq  h  hW (lv_sub hl [0] rfl)
    · have h := ite_t hc_9 h
      refine lv_aload_n C.1 C.2.1 dX9_behind_59 rfl (lv_at hl 0 rfl) ?_
      refine zg_X9_now C hW id_20 w_1004 dX9_behind_60 ?_
      refine lv_bipush (v := 7) C.1 C.2.1 dX9_behind_63 rfl ?_
      refine zal_21 C hW id_21_0 (inb_E (by decide)) dX9_behind_65 ?_
      refine lv_goto (tgt := 93) C.1 C.2.1 dX9_behind_66 (by decide) ?_
      exact w_X9_behind_93 C hq  h  hW (lv_sub hl [0] rfl)
  · have h := ite_t hc_10 h
    refine lv_aload_n C.1 C.2.1 dX9_behind_45 rfl (lv_at hl 0 rfl) ?_
    refine zg_X9_now C hW id_20 w_1004 dX9_behind_46 ?_
    refine lv_iconst (v := 5) C.1 C.2.1 dX9_behind_49 rfl ?_
    refine zal_21 C hW id_21_0 (inb_E (by decide)) dX9_behind_50 ?_
    refine lv_goto (tgt := 93) C.1 C.2.1 dX9_behind_51 (by decide) ?_
    exact w_X9_behind_93 C hq  h  hW (lv_sub hl [0] rfl)
def f_X9_behind (fu : Nat)  (x1 : Int32) (x2 : Int32) (m : Mem) : Option (Int32 × Mem) := doI (f_X9_in fu x1 0 100 m) (fun r_3 m_2 => if r_3 = 0 then (some ((-1000000001), m_2)) else (if x2 < 0 then (some ((-1000000001), m_2)) else (if x2 ≤ 2 then (f_X9_behind_32 fu x1 x2 m_2) else (doI (f_X9_isVoice fu (x2 - 3) m_2) (fun r_6 m_5 => if r_6 = 0 then (some ((-1000000001), m_5)) else (f_X9_behind_32 fu x1 x2 m_5))))))
set_option maxHeartbeats 4000000 in
set_option maxRecDepth 100000 in
theorem w_X9_behind {X : TX} {p : Program} {l : Launch} {e : Env} {s : State} {mi : MethodId} {args : Array Value} {below : List Frame} {meth : Method} {c : Code} {Q : State → Prop} {r : Int32} {mE : Mem} (C : Cx X p s mi args c RX9 cX9_behind 4) (hq : RetI X p l e (rmD 6) s mi args below meth c cX9_behind .int Q r mE) {fu : Nat} {x1 : Int32} {x2 : Int32} {m : Mem} {H : Heap} {locs : List Loc} {ls : Array Slot} (h : f_X9_behind fu x1 x2 m = some (r, mE))  (hW : Wd X s m H locs) (hl : lv_has ls 4 [(0, .ref (ad X 20 0)), (1, .int x1), (2, .int x2)]) : W p l e (rmD 6) s mi args below meth c H locs 0 0 Q (F0 mi 0 ls []) := by
  unfold f_X9_behind at h
  refine lv_iload_n C.1 C.2.1 dX9_behind_0 rfl (lv_at hl 1 rfl) ?_
  refine lv_iconst (v := 0) C.1 C.2.1 dX9_behind_1 rfl ?_
  refine lv_bipush (v := 100) C.1 C.2.1 dX9_behind_2 rfl ?_
  obtain ⟨r_3, m_2, hc_1, h⟩ := doI_E h
  refine zr_cSI C hW (c_X9_in (x0 := x1) (x1 := 0) (x2 := 100) hc_1 ) k_X9_in w_1117 ⟨Nat.le_of_ble_eq_true rfl, Nat.le_of_ble_eq_true rfl⟩ ⟨Nat.le_refl 0, Nat.le_refl 0⟩ rfl hl.1 rfl (Nat.le_of_ble_eq_true rfl) dX9_behind_4 (fun H locs hW => ?_)
  refine lv_if_eq (tgt := 29) C.1 C.2.1 dX9_behind_7 (by decide) (fun hc_10 => ?_) (fun hc_10 => ?_)
  · have h := ite_t hc_10 h
    refine lv_ldc C.1 C.2.1 C.2.2.2.1 (C.2.2.2.2.1 _ w_1123) dX9_behind_29 ?_
    exact ret_i h hq rfl hW dX9_behind_31
  · have h := ite_f hc_10 h
    refine lv_iload_n C.1 C.2.1 dX9_behind_10 rfl (lv_at hl 2 rfl) ?_
    refine lv_if_lt (tgt := 29) C.1 C.2.1 dX9_behind_11 (by decide) (fun hc_9 => ?_) (fun hc_9 => ?_)
    · have h := ite_t hc_9 h
      refine lv_ldc C.1 C.2.1 C.2.2.2.1 (C.2.2.2.2.1 _ w_1123) dX9_behind_29 ?_
      exact ret_i h hq rfl hW dX9_behind_31
    · have h := ite_f hc_9 h
      refine lv_iload_n C.1 C.2.1 dX9_behind_14 rfl (lv_at hl 2 rfl) ?_
      refine lv_iconst (v := 2) C.1 C.2.1 dX9_behind_15 rfl ?_
      refine lv_icmp_le (tgt := 32) C.1 C.2.1 dX9_behind_16 (by decide) (fun hc_8 => ?_) (fun hc_8 => ?_)
      · have h := ite_t hc_8 h
        exact w_X9_behind_32 C hq  h  hW (lv_sub hl [0, 1, 2] rfl)
      · have h := ite_f hc_8 h
        refine lv_aload_n C.1 C.2.1 dX9_behind_19 rfl (lv_at hl 0 rfl) ?_
        refine lv_iload_n C.1 C.2.1 dX9_behind_20 rfl (lv_at hl 2 rfl) ?_
        refine lv_iconst (v := 3) C.1 C.2.1 dX9_behind_21 rfl ?_
        refine lv_isub C.1 C.2.1 dX9_behind_22 ?_
        obtain ⟨r_6, m_5, hc_4, h⟩ := doI_E h
        refine zr_cVI C hW (c_X9_isVoice (x1 := (x2 - 3)) hc_4 ) k_X9_isVoice (zr_recv C hW id_20 zco_20 rfl) w_1137 ⟨Nat.le_of_ble_eq_true rfl, Nat.le_of_ble_eq_true rfl⟩ ⟨Nat.le_refl 0, Nat.le_refl 0⟩ rfl hl.1 rfl (Nat.le_of_ble_eq_true rfl) dX9_behind_23 (fun H locs hW => ?_)
        refine lv_if_ne (tgt := 32) C.1 C.2.1 dX9_behind_26 (by decide) (fun hc_7 => ?_) (fun hc_7 => ?_)
        · have h := ite_f hc_7 h
          exact w_X9_behind_32 C hq  h  hW (lv_sub hl [0, 1, 2] rfl)
        · have h := ite_t hc_7 h
          refine lv_ldc C.1 C.2.1 C.2.2.2.1 (C.2.2.2.2.1 _ w_1123) dX9_behind_29 ?_
          exact ret_i h hq rfl hW dX9_behind_31
theorem c_X9_behind {X : TX} {l : Launch} {fu : Nat} {x1 : Int32} {x2 : Int32} {m mE : Mem} {r : Int32} (h : f_X9_behind fu x1 x2 m = some (r, mE))  : MetI X l yX9_behind cX9_behind 4 .int 6 [.ref (ad X 20 0), .int x1, .int x2] m r mE :=
  met_I (by decide) (Nat.le_of_ble_eq_true rfl) (fun p e s mi args below meth c ls Q C hq hW hl => w_X9_behind C hq h  hW (lv_sub hl [0, 1, 2] rfl))
theorem k_X9_behind : CalV yX9_behind cX9_behind 4 (some .int) RX9 2 := ⟨w_1265, w_1266, w_70, w_1267, by decide +kernel⟩
theorem dX9_hasBegun_0 : decode cX9_hasBegun 0 = .ok (.iconst (-1), 1) := by decide +kernel
theorem dX9_hasBegun_1 : decode cX9_hasBegun 1 = .ok (.istore_n 1, 1) := by decide +kernel
theorem dX9_hasBegun_2 : decode cX9_hasBegun 2 = .ok (.aload_n 0, 1) := by decide +kernel
theorem dX9_hasBegun_3 : decode cX9_hasBegun 3 = .ok (.getfield 9, 3) := by decide +kernel
theorem dX9_hasBegun_6 : decode cX9_hasBegun 6 = .ok (.iconst 1, 1) := by decide +kernel
theorem dX9_hasBegun_7 : decode cX9_hasBegun 7 = .ok (.iaload, 1) := by decide +kernel
theorem dX9_hasBegun_8 : decode cX9_hasBegun 8 = .ok (.iconst 1, 1) := by decide +kernel
theorem dX9_hasBegun_9 : decode cX9_hasBegun 9 = .ok (.isub, 1) := by decide +kernel
theorem dX9_hasBegun_10 : decode cX9_hasBegun 10 = .ok (.istore_n 2, 1) := by decide +kernel
theorem dX9_hasBegun_11 : decode cX9_hasBegun 11 = .ok (.iload_n 2, 1) := by decide +kernel
theorem dX9_hasBegun_12 : decode cX9_hasBegun 12 = .ok (.ifCond .lt 40, 3) := by decide +kernel
theorem dX9_hasBegun_15 : decode cX9_hasBegun 15 = .ok (.aload_n 0, 1) := by decide +kernel
theorem dX9_hasBegun_16 : decode cX9_hasBegun 16 = .ok (.iload_n 2, 1) := by decide +kernel
theorem dX9_hasBegun_17 : decode cX9_hasBegun 17 = .ok (.bipush 6, 2) := by decide +kernel
theorem dX9_hasBegun_19 : decode cX9_hasBegun 19 = .ok (.invokevirtual 97, 3) := by decide +kernel
theorem dX9_hasBegun_22 : decode cX9_hasBegun 22 = .ok (.aload_n 0, 1) := by decide +kernel
theorem dX9_hasBegun_23 : decode cX9_hasBegun 23 = .ok (.getfield 19, 3) := by decide +kernel
theorem dX9_hasBegun_26 : decode cX9_hasBegun 26 = .ok (.bipush 16, 2) := by decide +kernel
theorem dX9_hasBegun_28 : decode cX9_hasBegun 28 = .ok (.bipush 7, 2) := by decide +kernel
theorem dX9_hasBegun_30 : decode cX9_hasBegun 30 = .ok (.iload_n 2, 1) := by decide +kernel
theorem dX9_hasBegun_31 : decode cX9_hasBegun 31 = .ok (.imul, 1) := by decide +kernel
theorem dX9_hasBegun_32 : decode cX9_hasBegun 32 = .ok (.iadd, 1) := by decide +kernel
theorem dX9_hasBegun_33 : decode cX9_hasBegun 33 = .ok (.bipush 6, 2) := by decide +kernel
theorem dX9_hasBegun_35 : decode cX9_hasBegun 35 = .ok (.iadd, 1) := by decide +kernel
theorem dX9_hasBegun_36 : decode cX9_hasBegun 36 = .ok (.iaload, 1) := by decide +kernel
theorem dX9_hasBegun_37 : decode cX9_hasBegun 37 = .ok (.if_icmp .le 7, 3) := by decide +kernel
theorem dX9_hasBegun_40 : decode cX9_hasBegun 40 = .ok (.iload_n 2, 1) := by decide +kernel
theorem dX9_hasBegun_41 : decode cX9_hasBegun 41 = .ok (.goto 4, 3) := by decide +kernel
theorem dX9_hasBegun_44 : decode cX9_hasBegun 44 = .ok (.iload_n 1, 1) := by decide +kernel
theorem dX9_hasBegun_45 : decode cX9_hasBegun 45 = .ok (.istore_n 1, 1) := by decide +kernel
theorem dX9_hasBegun_46 : decode cX9_hasBegun 46 = .ok (.iinc 2 (-1), 3) := by decide +kernel
theorem dX9_hasBegun_49 : decode cX9_hasBegun 49 = .ok (.goto (-38), 3) := by decide +kernel
theorem dX9_hasBegun_52 : decode cX9_hasBegun 52 = .ok (.iload_n 1, 1) := by decide +kernel
theorem dX9_hasBegun_53 : decode cX9_hasBegun 53 = .ok (.ireturn, 1) := by decide +kernel
def f_X9_hasBegun_45 (fu : Nat) (k_11 : Int32 → Int32 → Mem → Option (Int32 × Mem)) (x2 : Int32) (y0 : Int32) (m : Mem) : Option (Int32 × Mem) := seqM (x2 + (-1)) (fun x_1 : Int32 => k_11 y0 x_1 m)
set_option maxHeartbeats 4000000 in
set_option maxRecDepth 100000 in
theorem w_X9_hasBegun_45 {X : TX} {p : Program} {l : Launch} {e : Env} {s : State} {mi : MethodId} {args : Array Value} {below : List Frame} {meth : Method} {c : Code} {Q : State → Prop} {r : Int32} {mE : Mem} (C : Cx X p s mi args c RX9 cX9_hasBegun 3) (hq : RetI X p l e (rmD 1) s mi args below meth c cX9_hasBegun .int Q r mE) {fu : Nat} {k_11 : Int32 → Int32 → Mem → Option (Int32 × Mem)} (hk_11 : ∀ {x1 : Int32} {x2 : Int32} {m : Mem} {H : Heap} {locs : List Loc} {ls : Array Slot}, k_11 x1 x2 m = some (r, mE) → Wd X s m H locs → lv_has ls 3 [(0, .ref (ad X 20 0)), (1, .int x1), (2, .int x2)] → W p l e (rmD 1) s mi args below meth c H locs 0 0 Q (F0 mi 11 ls [])) {x2 : Int32} {y0 : Int32} {m : Mem} {H : Heap} {locs : List Loc} {ls : Array Slot} (h : f_X9_hasBegun_45 fu k_11 x2 y0 m = some (r, mE))  (hW : Wd X s m H locs) (hl : lv_has ls 3 [(0, .ref (ad X 20 0)), (2, .int x2)]) : W p l e (rmD 1) s mi args below meth c H locs 0 0 Q (F0 mi 45 ls [.int y0]) := by
  unfold f_X9_hasBegun_45 at h
  refine lv_istore_n (lv' := [(1, .int y0), (0, .ref (ad X 20 0)), (2, .int x2)]) C.1 C.2.1 dX9_hasBegun_45 rfl hl (by decide) rfl (fun ls hl => ?_)
  obtain ⟨x_1, e_2, h⟩ := seqM_E h
  refine lv_iinc (v := x_1) (lv' := [(2, .int x_1), (1, .int y0), (0, .ref (ad X 20 0))]) C.1 C.2.1 dX9_hasBegun_46 hl (k := 2) rfl (by rw [e_2]; rfl) (by decide) rfl (fun ls hl => ?_)
  refine lv_goto (tgt := 11) C.1 C.2.1 dX9_hasBegun_49 (by decide) ?_
  exact hk_11 h  hW (lv_sub hl [2, 1, 0] rfl)
def f_X9_hasBegun_11 (fu : Nat)  : Nat → Int32 → Int32 → Mem → Option (Int32 × Mem)
  | 0, _, _, _ => none
  | n + 1, x1, x2, m => if x2 < 0 then (some (x1, m)) else (doI (f_X9_of fu x2 6 m) (fun r_3 m_2 => chk (inb ((16 + (7 * x2)) + 6) 51) (if r_3 ≤ (m_2 (3100 + ((16 + (7 * x2)) + 6).toNatClampNeg)) then (f_X9_hasBegun_45 fu (f_X9_hasBegun_11 fu n) x2 x1 m_2) else (f_X9_hasBegun_45 fu (f_X9_hasBegun_11 fu n) x2 x2 m_2))))
set_option maxHeartbeats 4000000 in
set_option maxRecDepth 100000 in
theorem w_X9_hasBegun_11 {X : TX} {p : Program} {l : Launch} {e : Env} {s : State} {mi : MethodId} {args : Array Value} {below : List Frame} {meth : Method} {c : Code} {Q : State → Prop} {r : Int32} {mE : Mem} (C : Cx X p s mi args c RX9 cX9_hasBegun 3) (hq : RetI X p l e (rmD 1) s mi args below meth c cX9_hasBegun .int Q r mE) {fu : Nat} : ∀ (n : Nat) {x1 : Int32} {x2 : Int32} {m : Mem} {H : Heap} {locs : List Loc} {ls : Array Slot}, f_X9_hasBegun_11 fu n x1 x2 m = some (r, mE) → Wd X s m H locs → lv_has ls 3 [(0, .ref (ad X 20 0)), (1, .int x1), (2, .int x2)] → W p l e (rmD 1) s mi args below meth c H locs 0 0 Q (F0 mi 11 ls []) := by
  intro n
  induction n with
  | zero =>
    intro x1 x2 m H locs ls h hW hl
    rw [f_X9_hasBegun_11] at h
    cases h
  | succ n ih =>
    intro x1 x2 m H locs ls h hW hl
    rw [f_X9_hasBegun_11] at h
    refine lv_iload_n C.1 C.2.1 dX9_hasBegun_11 rfl (lv_at hl 2 rfl) ?_
    refine lv_if_lt (tgt := 52) C.1 C.2.1 dX9_hasBegun_12 (by decide) (fun hc_6 => ?_) (fun hc_6 => ?_)
    · have h := ite_t hc_6 h
      refine lv_iload_n C.1 C.2.1 dX9_hasBegun_52 rfl (lv_at hl 1 rfl) ?_
      exact ret_i h hq rfl hW dX9_hasBegun_53
    · have h := ite_f hc_6 h
      refine lv_aload_n C.1 C.2.1 dX9_hasBegun_15 rfl (lv_at hl 0 rfl) ?_
      refine lv_iload_n C.1 C.2.1 dX9_hasBegun_16 rfl (lv_at hl 2 rfl) ?_
      refine lv_bipush (v := 6) C.1 C.2.1 dX9_hasBegun_17 rfl ?_
      obtain ⟨r_3, m_2, hc_1, h⟩ := doI_E h
      refine zr_cVI C hW (c_X9_of (x1 := x2) (x2 := 6) hc_1 ) k_X9_of (zr_recv C hW id_20 zco_20 rfl) w_1141 ⟨Nat.le_of_ble_eq_true rfl, Nat.le_of_ble_eq_true rfl⟩ ⟨Nat.le_refl 0, Nat.le_refl 0⟩ rfl hl.1 rfl (Nat.le_of_ble_eq_true rfl) dX9_hasBegun_19 (fun H locs hW => ?_)
      refine lv_aload_n C.1 C.2.1 dX9_hasBegun_22 rfl (lv_at hl 0 rfl) ?_
      refine zg_X9_before C hW id_20 w_1009 dX9_hasBegun_23 ?_
      refine lv_bipush (v := 16) C.1 C.2.1 dX9_hasBegun_26 rfl ?_
      refine lv_bipush (v := 7) C.1 C.2.1 dX9_hasBegun_28 rfl ?_
      refine lv_iload_n C.1 C.2.1 dX9_hasBegun_30 rfl (lv_at hl 2 rfl) ?_
      refine lv_imul C.1 C.2.1 dX9_hasBegun_31 ?_
      refine lv_iadd C.1 C.2.1 dX9_hasBegun_32 ?_
      refine lv_bipush (v := 6) C.1 C.2.1 dX9_hasBegun_33 rfl ?_
      refine lv_iadd C.1 C.2.1 dX9_hasBegun_35 ?_
      obtain ⟨hb_4, h⟩ := chk_E h
      refine zal_22 C hW id_22 (inb_E hb_4) dX9_hasBegun_36 ?_
      refine lv_icmp_le (tgt := 44) C.1 C.2.1 dX9_hasBegun_37 (by decide) (fun hc_5 => ?_) (fun hc_5 => ?_)
      · have h := ite_t hc_5 h
        refine lv_iload_n C.1 C.2.1 dX9_hasBegun_44 rfl (lv_at hl 1 rfl) ?_
        exact w_X9_hasBegun_45 C hq ih h  hW (lv_sub hl [0, 2] rfl)
      · have h := ite_f hc_5 h
        refine lv_iload_n C.1 C.2.1 dX9_hasBegun_40 rfl (lv_at hl 2 rfl) ?_
        refine lv_goto (tgt := 45) C.1 C.2.1 dX9_hasBegun_41 (by decide) ?_
        exact w_X9_hasBegun_45 C hq ih h  hW (lv_sub hl [0, 2] rfl)
def f_X9_hasBegun (fu : Nat)   (m : Mem) : Option (Int32 × Mem) := seqM ((m ((4000 + 1500 * 0) + (1 : Int32).toNatClampNeg)) - 1) (fun x_1 : Int32 => f_X9_hasBegun_11 fu fu (-1) x_1 m)
set_option maxHeartbeats 4000000 in
set_option maxRecDepth 100000 in
theorem w_X9_hasBegun {X : TX} {p : Program} {l : Launch} {e : Env} {s : State} {mi : MethodId} {args : Array Value} {below : List Frame} {meth : Method} {c : Code} {Q : State → Prop} {r : Int32} {mE : Mem} (C : Cx X p s mi args c RX9 cX9_hasBegun 3) (hq : RetI X p l e (rmD 1) s mi args below meth c cX9_hasBegun .int Q r mE) {fu : Nat}  {m : Mem} {H : Heap} {locs : List Loc} {ls : Array Slot} (h : f_X9_hasBegun fu  m = some (r, mE))  (hW : Wd X s m H locs) (hl : lv_has ls 3 [(0, .ref (ad X 20 0))]) : W p l e (rmD 1) s mi args below meth c H locs 0 0 Q (F0 mi 0 ls []) := by
  unfold f_X9_hasBegun at h
  refine lv_iconst (v := (-1)) C.1 C.2.1 dX9_hasBegun_0 rfl ?_
  refine lv_istore_n (lv' := [(1, .int (-1)), (0, .ref (ad X 20 0))]) C.1 C.2.1 dX9_hasBegun_1 rfl hl (by decide) rfl (fun ls hl => ?_)
  refine lv_aload_n C.1 C.2.1 dX9_hasBegun_2 rfl (lv_at hl 1 rfl) ?_
  refine zg_X9_now C hW id_20 w_1004 dX9_hasBegun_3 ?_
  refine lv_iconst (v := 1) C.1 C.2.1 dX9_hasBegun_6 rfl ?_
  refine zal_21 C hW id_21_0 (inb_E (by decide)) dX9_hasBegun_7 ?_
  refine lv_iconst (v := 1) C.1 C.2.1 dX9_hasBegun_8 rfl ?_
  refine lv_isub C.1 C.2.1 dX9_hasBegun_9 ?_
  obtain ⟨x_1, e_2, h⟩ := seqM_E h
  refine lv_name e_2 ?_
  refine lv_istore_n (lv' := [(2, .int x_1), (1, .int (-1)), (0, .ref (ad X 20 0))]) C.1 C.2.1 dX9_hasBegun_10 rfl hl (by decide) rfl (fun ls hl => ?_)
  exact w_X9_hasBegun_11 C hq  fu h  hW (lv_sub hl [2, 1, 0] rfl)
theorem c_X9_hasBegun {X : TX} {l : Launch} {fu : Nat}  {m mE : Mem} {r : Int32} (h : f_X9_hasBegun fu  m = some (r, mE))  : MetI X l yX9_hasBegun cX9_hasBegun 3 .int 1 [.ref (ad X 20 0)] m r mE :=
  met_I (by decide) (Nat.le_of_ble_eq_true rfl) (fun p e s mi args below meth c ls Q C hq hW hl => w_X9_hasBegun C hq h  hW (lv_sub hl [0] rfl))
theorem k_X9_hasBegun : CalV yX9_hasBegun cX9_hasBegun 3 (some .int) RX9 0 := ⟨w_1282, w_48, w_70, w_1283, by decide +kernel⟩
theorem dX9_next_0 : decode cX9_next 0 = .ok (.iload_n 1, 1) := by decide +kernel
theorem dX9_next_1 : decode cX9_next 1 = .ok (.iconst 0, 1) := by decide +kernel
theorem dX9_next_2 : decode cX9_next 2 = .ok (.iconst 1, 1) := by decide +kernel
theorem dX9_next_3 : decode cX9_next 3 = .ok (.invokestatic 79, 3) := by decide +kernel
theorem dX9_next_6 : decode cX9_next 6 = .ok (.ifCond .ne 6, 3) := by decide +kernel
theorem dX9_next_9 : decode cX9_next 9 = .ok (.ldc 91, 2) := by decide +kernel
theorem dX9_next_11 : decode cX9_next 11 = .ok (.ireturn, 1) := by decide +kernel
theorem dX9_next_12 : decode cX9_next 12 = .ok (.aload_n 0, 1) := by decide +kernel
theorem dX9_next_13 : decode cX9_next 13 = .ok (.invokevirtual 171, 3) := by decide +kernel
theorem dX9_next_16 : decode cX9_next 16 = .ok (.iconst 0, 1) := by decide +kernel
theorem dX9_next_17 : decode cX9_next 17 = .ok (.istore_n 2, 1) := by decide +kernel
theorem dX9_next_18 : decode cX9_next 18 = .ok (.iload_n 2, 1) := by decide +kernel
theorem dX9_next_19 : decode cX9_next 19 = .ok (.sipush 200, 3) := by decide +kernel
theorem dX9_next_22 : decode cX9_next 22 = .ok (.if_icmp .ge 20, 3) := by decide +kernel
theorem dX9_next_25 : decode cX9_next 25 = .ok (.aload_n 0, 1) := by decide +kernel
theorem dX9_next_26 : decode cX9_next 26 = .ok (.invokevirtual 177, 3) := by decide +kernel
theorem dX9_next_29 : decode cX9_next 29 = .ok (.ifCond .ge 13, 3) := by decide +kernel
theorem dX9_next_32 : decode cX9_next 32 = .ok (.aload_n 0, 1) := by decide +kernel
theorem dX9_next_33 : decode cX9_next 33 = .ok (.invokevirtual 165, 3) := by decide +kernel
theorem dX9_next_36 : decode cX9_next 36 = .ok (.iinc 2 1, 3) := by decide +kernel
theorem dX9_next_39 : decode cX9_next 39 = .ok (.goto (-21), 3) := by decide +kernel
theorem dX9_next_42 : decode cX9_next 42 = .ok (.aload_n 0, 1) := by decide +kernel
theorem dX9_next_43 : decode cX9_next 43 = .ok (.invokevirtual 177, 3) := by decide +kernel
theorem dX9_next_46 : decode cX9_next 46 = .ok (.istore_n 3, 1) := by decide +kernel
theorem dX9_next_47 : decode cX9_next 47 = .ok (.aload_n 0, 1) := by decide +kernel
theorem dX9_next_48 : decode cX9_next 48 = .ok (.invokevirtual 174, 3) := by decide +kernel
theorem dX9_next_51 : decode cX9_next 51 = .ok (.iload_n 3, 1) := by decide +kernel
theorem dX9_next_52 : decode cX9_next 52 = .ok (.ifCond .ge 8, 3) := by decide +kernel
theorem dX9_next_55 : decode cX9_next 55 = .ok (.ldc 180, 2) := by decide +kernel
theorem dX9_next_57 : decode cX9_next 57 = .ok (.goto 12, 3) := by decide +kernel
theorem dX9_next_60 : decode cX9_next 60 = .ok (.iload_n 1, 1) := by decide +kernel
theorem dX9_next_61 : decode cX9_next 61 = .ok (.ifCond .ne 7, 3) := by decide +kernel
theorem dX9_next_64 : decode cX9_next 64 = .ok (.iload_n 3, 1) := by decide +kernel
theorem dX9_next_65 : decode cX9_next 65 = .ok (.goto 4, 3) := by decide +kernel
theorem dX9_next_68 : decode cX9_next 68 = .ok (.iload_n 2, 1) := by decide +kernel
theorem dX9_next_69 : decode cX9_next 69 = .ok (.ireturn, 1) := by decide +kernel
def f_X9_next_42 (fu : Nat)  (x1 : Int32) (x2 : Int32) (m : Mem) : Option (Int32 × Mem) := doI (f_X9_hasBegun fu  m) (fun r_3 m_2 => doV (f_X9_putsBack fu  m_2) (fun m_5 => if 0 ≤ r_3 then (if x1 = 0 then (some (r_3, m_5)) else (some (x2, m_5))) else (some ((-1000000005), m_5))))
set_option maxHeartbeats 4000000 in
set_option maxRecDepth 100000 in
theorem w_X9_next_42 {X : TX} {p : Program} {l : Launch} {e : Env} {s : State} {mi : MethodId} {args : Array Value} {below : List Frame} {meth : Method} {c : Code} {Q : State → Prop} {r : Int32} {mE : Mem} (C : Cx X p s mi args c RX9 cX9_next 4) (hq : RetI X p l e (rmD 5) s mi args below meth c cX9_next .int Q r mE) {fu : Nat} {x1 : Int32} {x2 : Int32} {m : Mem} {H : Heap} {locs : List Loc} {ls : Array Slot} (h : f_X9_next_42 fu x1 x2 m = some (r, mE))  (hW : Wd X s m H locs) (hl : lv_has ls 4 [(0, .ref (ad X 20 0)), (1, .int x1), (2, .int x2)]) : W p l e (rmD 5) s mi args below meth c H locs 0 0 Q (F0 mi 42 ls []) := by
  unfold f_X9_next_42 at h
  refine lv_aload_n C.1 C.2.1 dX9_next_42 rfl (lv_at hl 0 rfl) ?_
  obtain ⟨r_3, m_2, hc_1, h⟩ := doI_E h
  refine zr_cVI C hW (c_X9_hasBegun  hc_1 ) k_X9_hasBegun (zr_recv C hW id_20 zco_20 rfl) w_1280 ⟨Nat.le_of_ble_eq_true rfl, Nat.le_of_ble_eq_true rfl⟩ ⟨Nat.le_refl 0, Nat.le_refl 0⟩ rfl hl.1 rfl (Nat.le_of_ble_eq_true rfl) dX9_next_43 (fun H locs hW => ?_)
  refine lv_istore_n (lv' := [(3, .int r_3), (0, .ref (ad X 20 0)), (1, .int x1), (2, .int x2)]) C.1 C.2.1 dX9_next_46 rfl hl (by decide) rfl (fun ls hl => ?_)
  refine lv_aload_n C.1 C.2.1 dX9_next_47 rfl (lv_at hl 1 rfl) ?_
  obtain ⟨m_5, hc_4, h⟩ := doV_E h
  refine zr_cVV C hW (c_X9_putsBack  hc_4 ) k_X9_putsBack (zr_recv C hW id_20 zco_20 rfl) w_1272 ⟨Nat.le_of_ble_eq_true rfl, Nat.le_of_ble_eq_true rfl⟩ ⟨Nat.le_refl 0, Nat.le_refl 0⟩ rfl hl.1 rfl (Nat.le_of_ble_eq_true rfl) dX9_next_48 (fun H locs hW => ?_)
  refine lv_iload_n C.1 C.2.1 dX9_next_51 rfl (lv_at hl 0 rfl) ?_
  refine lv_if_ge (tgt := 60) C.1 C.2.1 dX9_next_52 (by decide) (fun hc_7 => ?_) (fun hc_7 => ?_)
  · have h := ite_t hc_7 h
    refine lv_iload_n C.1 C.2.1 dX9_next_60 rfl (lv_at hl 2 rfl) ?_
    refine lv_if_ne (tgt := 68) C.1 C.2.1 dX9_next_61 (by decide) (fun hc_6 => ?_) (fun hc_6 => ?_)
    · have h := ite_f hc_6 h
      refine lv_iload_n C.1 C.2.1 dX9_next_68 rfl (lv_at hl 3 rfl) ?_
      exact ret_i h hq rfl hW dX9_next_69
    · have h := ite_t hc_6 h
      refine lv_iload_n C.1 C.2.1 dX9_next_64 rfl (lv_at hl 0 rfl) ?_
      refine lv_goto (tgt := 69) C.1 C.2.1 dX9_next_65 (by decide) ?_
      exact ret_i h hq rfl hW dX9_next_69
  · have h := ite_f hc_7 h
    refine lv_ldc C.1 C.2.1 C.2.2.2.1 (C.2.2.2.2.1 _ w_1284) dX9_next_55 ?_
    refine lv_goto (tgt := 69) C.1 C.2.1 dX9_next_57 (by decide) ?_
    exact ret_i h hq rfl hW dX9_next_69
def f_X9_next_18 (fu : Nat)  : Nat → Int32 → Int32 → Mem → Option (Int32 × Mem)
  | 0, _, _, _ => none
  | n + 1, x1, x2, m => if 200 ≤ x2 then (f_X9_next_42 fu x1 x2 m) else (doI (f_X9_hasBegun fu  m) (fun r_3 m_2 => if 0 ≤ r_3 then (f_X9_next_42 fu x1 x2 m_2) else (doV (f_X9_tenth fu  m_2) (fun m_5 => seqM (x2 + 1) (fun x_6 : Int32 => f_X9_next_18 fu n x1 x_6 m_5)))))
set_option maxHeartbeats 4000000 in
set_option maxRecDepth 100000 in
theorem w_X9_next_18 {X : TX} {p : Program} {l : Launch} {e : Env} {s : State} {mi : MethodId} {args : Array Value} {below : List Frame} {meth : Method} {c : Code} {Q : State → Prop} {r : Int32} {mE : Mem} (C : Cx X p s mi args c RX9 cX9_next 4) (hq : RetI X p l e (rmD 5) s mi args below meth c cX9_next .int Q r mE) {fu : Nat} : ∀ (n : Nat) {x1 : Int32} {x2 : Int32} {m : Mem} {H : Heap} {locs : List Loc} {ls : Array Slot}, f_X9_next_18 fu n x1 x2 m = some (r, mE) → Wd X s m H locs → lv_has ls 4 [(0, .ref (ad X 20 0)), (1, .int x1), (2, .int x2)] → W p l e (rmD 5) s mi args below meth c H locs 0 0 Q (F0 mi 18 ls []) := by
  intro n
  induction n with
  | zero =>
    intro x1 x2 m H locs ls h hW hl
    rw [f_X9_next_18] at h
    cases h
  | succ n ih =>
    intro x1 x2 m H locs ls h hW hl
    rw [f_X9_next_18] at h
    refine lv_iload_n C.1 C.2.1 dX9_next_18 rfl (lv_at hl 2 rfl) ?_
    refine lv_sipush (v := 200) C.1 C.2.1 dX9_next_19 rfl ?_
    refine lv_icmp_ge (tgt := 42) C.1 C.2.1 dX9_next_22 (by decide) (fun hc_9 => ?_) (fun hc_9 => ?_)
    · have h := ite_t hc_9 h
      exact w_X9_next_42 C hq  h  hW (lv_sub hl [0, 1, 2] rfl)
    · have h := ite_f hc_9 h
      refine lv_aload_n C.1 C.2.1 dX9_next_25 rfl (lv_at hl 0 rfl) ?_
      obtain ⟨r_3, m_2, hc_1, h⟩ := doI_E h
      refine zr_cVI C hW (c_X9_hasBegun  hc_1 ) k_X9_hasBegun (zr_recv C hW id_20 zco_20 rfl) w_1280 ⟨Nat.le_of_ble_eq_true rfl, Nat.le_of_ble_eq_true rfl⟩ ⟨Nat.le_refl 0, Nat.le_refl 0⟩ rfl hl.1 rfl (Nat.le_of_ble_eq_true rfl) dX9_next_26 (fun H locs hW => ?_)
      refine lv_if_ge (tgt := 42) C.1 C.2.1 dX9_next_29 (by decide) (fun hc_8 => ?_) (fun hc_8 => ?_)
      · have h := ite_t hc_8 h
        exact w_X9_next_42 C hq  h  hW (lv_sub hl [0, 1, 2] rfl)
      · have h := ite_f hc_8 h
        refine lv_aload_n C.1 C.2.1 dX9_next_32 rfl (lv_at hl 0 rfl) ?_
        obtain ⟨m_5, hc_4, h⟩ := doV_E h
        refine zr_cVV C hW (c_X9_tenth  hc_4 ) k_X9_tenth (zr_recv C hW id_20 zco_20 rfl) w_1217 ⟨Nat.le_of_ble_eq_true rfl, Nat.le_of_ble_eq_true rfl⟩ ⟨Nat.le_refl 0, Nat.le_refl 0⟩ rfl hl.1 rfl (Nat.le_of_ble_eq_true rfl) dX9_next_33 (fun H locs hW => ?_)
        obtain ⟨x_6, e_7, h⟩ := seqM_E h
        refine lv_iinc (v := x_6) (lv' := [(2, .int x_6), (0, .ref (ad X 20 0)), (1, .int x1)]) C.1 C.2.1 dX9_next_36 hl (k := 2) rfl (by rw [e_7]; rfl) (by decide) rfl (fun ls hl => ?_)
        refine lv_goto (tgt := 18) C.1 C.2.1 dX9_next_39 (by decide) ?_
        exact ih h  hW (lv_sub hl [1, 2, 0] rfl)
def f_X9_next (fu : Nat)  (x1 : Int32) (m : Mem) : Option (Int32 × Mem) := doI (f_X9_in fu x1 0 1 m) (fun r_3 m_2 => if r_3 = 0 then (some ((-1000000001), m_2)) else (doV (f_X9_thinks fu  m_2) (fun m_5 => f_X9_next_18 fu fu x1 0 m_5)))
set_option maxHeartbeats 4000000 in
set_option maxRecDepth 100000 in
theorem w_X9_next {X : TX} {p : Program} {l : Launch} {e : Env} {s : State} {mi : MethodId} {args : Array Value} {below : List Frame} {meth : Method} {c : Code} {Q : State → Prop} {r : Int32} {mE : Mem} (C : Cx X p s mi args c RX9 cX9_next 4) (hq : RetI X p l e (rmD 5) s mi args below meth c cX9_next .int Q r mE) {fu : Nat} {x1 : Int32} {m : Mem} {H : Heap} {locs : List Loc} {ls : Array Slot} (h : f_X9_next fu x1 m = some (r, mE))  (hW : Wd X s m H locs) (hl : lv_has ls 4 [(0, .ref (ad X 20 0)), (1, .int x1)]) : W p l e (rmD 5) s mi args below meth c H locs 0 0 Q (F0 mi 0 ls []) := by
  unfold f_X9_next at h
  refine lv_iload_n C.1 C.2.1 dX9_next_0 rfl (lv_at hl 1 rfl) ?_
  refine lv_iconst (v := 0) C.1 C.2.1 dX9_next_1 rfl ?_
  refine lv_iconst (v := 1) C.1 C.2.1 dX9_next_2 rfl ?_
  obtain ⟨r_3, m_2, hc_1, h⟩ := doI_E h
  refine zr_cSI C hW (c_X9_in (x0 := x1) (x1 := 0) (x2 := 1) hc_1 ) k_X9_in w_1117 ⟨Nat.le_of_ble_eq_true rfl, Nat.le_of_ble_eq_true rfl⟩ ⟨Nat.le_refl 0, Nat.le_refl 0⟩ rfl hl.1 rfl (Nat.le_of_ble_eq_true rfl) dX9_next_3 (fun H locs hW => ?_)
  refine lv_if_ne (tgt := 12) C.1 C.2.1 dX9_next_6 (by decide) (fun hc_6 => ?_) (fun hc_6 => ?_)
  · have h := ite_f hc_6 h
    refine lv_aload_n C.1 C.2.1 dX9_next_12 rfl (lv_at hl 0 rfl) ?_
    obtain ⟨m_5, hc_4, h⟩ := doV_E h
    refine zr_cVV C hW (c_X9_thinks  hc_4 ) k_X9_thinks (zr_recv C hW id_20 zco_20 rfl) w_1268 ⟨Nat.le_of_ble_eq_true rfl, Nat.le_of_ble_eq_true rfl⟩ ⟨Nat.le_refl 0, Nat.le_refl 0⟩ rfl hl.1 rfl (Nat.le_of_ble_eq_true rfl) dX9_next_13 (fun H locs hW => ?_)
    refine lv_iconst (v := 0) C.1 C.2.1 dX9_next_16 rfl ?_
    refine lv_istore_n (lv' := [(2, .int 0), (0, .ref (ad X 20 0)), (1, .int x1)]) C.1 C.2.1 dX9_next_17 rfl hl (by decide) rfl (fun ls hl => ?_)
    exact w_X9_next_18 C hq  fu h  hW (lv_sub hl [1, 2, 0] rfl)
  · have h := ite_t hc_6 h
    refine lv_ldc C.1 C.2.1 C.2.2.2.1 (C.2.2.2.2.1 _ w_1123) dX9_next_9 ?_
    exact ret_i h hq rfl hW dX9_next_11
theorem c_X9_next {X : TX} {l : Launch} {fu : Nat} {x1 : Int32} {m mE : Mem} {r : Int32} (h : f_X9_next fu x1 m = some (r, mE))  : MetI X l yX9_next cX9_next 4 .int 5 [.ref (ad X 20 0), .int x1] m r mE :=
  met_I (by decide) (Nat.le_of_ble_eq_true rfl) (fun p e s mi args below meth c ls Q C hq hW hl => w_X9_next C hq h  hW (lv_sub hl [0, 1] rfl))
theorem k_X9_next : CalV yX9_next cX9_next 4 (some .int) RX9 1 := ⟨w_1277, w_1278, w_70, w_1279, by decide +kernel⟩
theorem dX9_hole_0 : decode cX9_hole 0 = .ok (.iload_n 1, 1) := by decide +kernel
theorem dX9_hole_1 : decode cX9_hole 1 = .ok (.iconst 1, 1) := by decide +kernel
theorem dX9_hole_2 : decode cX9_hole 2 = .ok (.sipush 200, 3) := by decide +kernel
theorem dX9_hole_5 : decode cX9_hole 5 = .ok (.invokestatic 79, 3) := by decide +kernel
theorem dX9_hole_8 : decode cX9_hole 8 = .ok (.ifCond .ne 6, 3) := by decide +kernel
theorem dX9_hole_11 : decode cX9_hole 11 = .ok (.ldc 91, 2) := by decide +kernel
theorem dX9_hole_13 : decode cX9_hole 13 = .ok (.ireturn, 1) := by decide +kernel
theorem dX9_hole_14 : decode cX9_hole 14 = .ok (.aload_n 0, 1) := by decide +kernel
theorem dX9_hole_15 : decode cX9_hole 15 = .ok (.invokevirtual 171, 3) := by decide +kernel
theorem dX9_hole_18 : decode cX9_hole 18 = .ok (.iconst 0, 1) := by decide +kernel
theorem dX9_hole_19 : decode cX9_hole 19 = .ok (.istore_n 2, 1) := by decide +kernel
theorem dX9_hole_20 : decode cX9_hole 20 = .ok (.aload_n 0, 1) := by decide +kernel
theorem dX9_hole_21 : decode cX9_hole 21 = .ok (.iconst 0, 1) := by decide +kernel
theorem dX9_hole_22 : decode cX9_hole 22 = .ok (.putfield 149, 3) := by decide +kernel
theorem dX9_hole_25 : decode cX9_hole 25 = .ok (.iload_n 2, 1) := by decide +kernel
theorem dX9_hole_26 : decode cX9_hole 26 = .ok (.sipush 200, 3) := by decide +kernel
theorem dX9_hole_29 : decode cX9_hole 29 = .ok (.if_icmp .gt 21, 3) := by decide +kernel
theorem dX9_hole_32 : decode cX9_hole 32 = .ok (.aload_n 0, 1) := by decide +kernel
theorem dX9_hole_33 : decode cX9_hole 33 = .ok (.getfield 149, 3) := by decide +kernel
theorem dX9_hole_36 : decode cX9_hole 36 = .ok (.iload_n 1, 1) := by decide +kernel
theorem dX9_hole_37 : decode cX9_hole 37 = .ok (.if_icmp .ge 13, 3) := by decide +kernel
theorem dX9_hole_40 : decode cX9_hole 40 = .ok (.aload_n 0, 1) := by decide +kernel
theorem dX9_hole_41 : decode cX9_hole 41 = .ok (.invokevirtual 165, 3) := by decide +kernel
theorem dX9_hole_44 : decode cX9_hole 44 = .ok (.iinc 2 1, 3) := by decide +kernel
theorem dX9_hole_47 : decode cX9_hole 47 = .ok (.goto (-22), 3) := by decide +kernel
theorem dX9_hole_50 : decode cX9_hole 50 = .ok (.aload_n 0, 1) := by decide +kernel
theorem dX9_hole_51 : decode cX9_hole 51 = .ok (.invokevirtual 174, 3) := by decide +kernel
theorem dX9_hole_54 : decode cX9_hole 54 = .ok (.iload_n 2, 1) := by decide +kernel
theorem dX9_hole_55 : decode cX9_hole 55 = .ok (.sipush 200, 3) := by decide +kernel
theorem dX9_hole_58 : decode cX9_hole 58 = .ok (.if_icmp .le 8, 3) := by decide +kernel
theorem dX9_hole_61 : decode cX9_hole 61 = .ok (.ldc 180, 2) := by decide +kernel
theorem dX9_hole_63 : decode cX9_hole 63 = .ok (.goto 4, 3) := by decide +kernel
theorem dX9_hole_66 : decode cX9_hole 66 = .ok (.iload_n 2, 1) := by decide +kernel
theorem dX9_hole_67 : decode cX9_hole 67 = .ok (.ireturn, 1) := by decide +kernel
def f_X9_hole_50 (fu : Nat)  (x2 : Int32) (m : Mem) : Option (Int32 × Mem) := doV (f_X9_putsBack fu  m) (fun m_2 => if x2 ≤ 200 then (some (x2, m_2)) else (some ((-1000000005), m_2)))
set_option maxHeartbeats 4000000 in
set_option maxRecDepth 100000 in
theorem w_X9_hole_50 {X : TX} {p : Program} {l : Launch} {e : Env} {s : State} {mi : MethodId} {args : Array Value} {below : List Frame} {meth : Method} {c : Code} {Q : State → Prop} {r : Int32} {mE : Mem} (C : Cx X p s mi args c RX9 cX9_hole 3) (hq : RetI X p l e (rmD 5) s mi args below meth c cX9_hole .int Q r mE) {fu : Nat} {x2 : Int32} {m : Mem} {H : Heap} {locs : List Loc} {ls : Array Slot} (h : f_X9_hole_50 fu x2 m = some (r, mE))  (hW : Wd X s m H locs) (hl : lv_has ls 3 [(0, .ref (ad X 20 0)), (2, .int x2)]) : W p l e (rmD 5) s mi args below meth c H locs 0 0 Q (F0 mi 50 ls []) := by
  unfold f_X9_hole_50 at h
  refine lv_aload_n C.1 C.2.1 dX9_hole_50 rfl (lv_at hl 0 rfl) ?_
  obtain ⟨m_2, hc_1, h⟩ := doV_E h
  refine zr_cVV C hW (c_X9_putsBack  hc_1 ) k_X9_putsBack (zr_recv C hW id_20 zco_20 rfl) w_1272 ⟨Nat.le_of_ble_eq_true rfl, Nat.le_of_ble_eq_true rfl⟩ ⟨Nat.le_refl 0, Nat.le_refl 0⟩ rfl hl.1 rfl (Nat.le_of_ble_eq_true rfl) dX9_hole_51 (fun H locs hW => ?_)
  refine lv_iload_n C.1 C.2.1 dX9_hole_54 rfl (lv_at hl 1 rfl) ?_
  refine lv_sipush (v := 200) C.1 C.2.1 dX9_hole_55 rfl ?_
  refine lv_icmp_le (tgt := 66) C.1 C.2.1 dX9_hole_58 (by decide) (fun hc_3 => ?_) (fun hc_3 => ?_)
  · have h := ite_t hc_3 h
    refine lv_iload_n C.1 C.2.1 dX9_hole_66 rfl (lv_at hl 1 rfl) ?_
    exact ret_i h hq rfl hW dX9_hole_67
  · have h := ite_f hc_3 h
    refine lv_ldc C.1 C.2.1 C.2.2.2.1 (C.2.2.2.2.1 _ w_1284) dX9_hole_61 ?_
    refine lv_goto (tgt := 67) C.1 C.2.1 dX9_hole_63 (by decide) ?_
    exact ret_i h hq rfl hW dX9_hole_67
def f_X9_hole_25 (fu : Nat)  : Nat → Int32 → Int32 → Mem → Option (Int32 × Mem)
  | 0, _, _, _ => none
  | n + 1, x1, x2, m => if 200 < x2 then (f_X9_hole_50 fu x2 m) else (if x1 ≤ (m 3001) then (f_X9_hole_50 fu x2 m) else (doV (f_X9_tenth fu  m) (fun m_2 => seqM (x2 + 1) (fun x_3 : Int32 => f_X9_hole_25 fu n x1 x_3 m_2))))
set_option maxHeartbeats 4000000 in
set_option maxRecDepth 100000 in
theorem w_X9_hole_25 {X : TX} {p : Program} {l : Launch} {e : Env} {s : State} {mi : MethodId} {args : Array Value} {below : List Frame} {meth : Method} {c : Code} {Q : State → Prop} {r : Int32} {mE : Mem} (C : Cx X p s mi args c RX9 cX9_hole 3) (hq : RetI X p l e (rmD 5) s mi args below meth c cX9_hole .int Q r mE) {fu : Nat} : ∀ (n : Nat) {x1 : Int32} {x2 : Int32} {m : Mem} {H : Heap} {locs : List Loc} {ls : Array Slot}, f_X9_hole_25 fu n x1 x2 m = some (r, mE) → Wd X s m H locs → lv_has ls 3 [(0, .ref (ad X 20 0)), (1, .int x1), (2, .int x2)] → W p l e (rmD 5) s mi args below meth c H locs 0 0 Q (F0 mi 25 ls []) := by
  intro n
  induction n with
  | zero =>
    intro x1 x2 m H locs ls h hW hl
    rw [f_X9_hole_25] at h
    cases h
  | succ n ih =>
    intro x1 x2 m H locs ls h hW hl
    rw [f_X9_hole_25] at h
    refine lv_iload_n C.1 C.2.1 dX9_hole_25 rfl (lv_at hl 2 rfl) ?_
    refine lv_sipush (v := 200) C.1 C.2.1 dX9_hole_26 rfl ?_
    refine lv_icmp_gt (tgt := 50) C.1 C.2.1 dX9_hole_29 (by decide) (fun hc_6 => ?_) (fun hc_6 => ?_)
    · have h := ite_t hc_6 h
      exact w_X9_hole_50 C hq  h  hW (lv_sub hl [0, 2] rfl)
    · have h := ite_f hc_6 h
      refine lv_aload_n C.1 C.2.1 dX9_hole_32 rfl (lv_at hl 0 rfl) ?_
      refine zg_X9_heardSilence C hW id_20 w_1008 dX9_hole_33 ?_
      refine lv_iload_n C.1 C.2.1 dX9_hole_36 rfl (lv_at hl 1 rfl) ?_
      refine lv_icmp_ge (tgt := 50) C.1 C.2.1 dX9_hole_37 (by decide) (fun hc_5 => ?_) (fun hc_5 => ?_)
      · have h := ite_t hc_5 h
        exact w_X9_hole_50 C hq  h  hW (lv_sub hl [0, 2] rfl)
      · have h := ite_f hc_5 h
        refine lv_aload_n C.1 C.2.1 dX9_hole_40 rfl (lv_at hl 0 rfl) ?_
        obtain ⟨m_2, hc_1, h⟩ := doV_E h
        refine zr_cVV C hW (c_X9_tenth  hc_1 ) k_X9_tenth (zr_recv C hW id_20 zco_20 rfl) w_1217 ⟨Nat.le_of_ble_eq_true rfl, Nat.le_of_ble_eq_true rfl⟩ ⟨Nat.le_refl 0, Nat.le_refl 0⟩ rfl hl.1 rfl (Nat.le_of_ble_eq_true rfl) dX9_hole_41 (fun H locs hW => ?_)
        obtain ⟨x_3, e_4, h⟩ := seqM_E h
        refine lv_iinc (v := x_3) (lv' := [(2, .int x_3), (0, .ref (ad X 20 0)), (1, .int x1)]) C.1 C.2.1 dX9_hole_44 hl (k := 2) rfl (by rw [e_4]; rfl) (by decide) rfl (fun ls hl => ?_)
        refine lv_goto (tgt := 25) C.1 C.2.1 dX9_hole_47 (by decide) ?_
        exact ih h  hW (lv_sub hl [1, 2, 0] rfl)
def f_X9_hole (fu : Nat)  (x1 : Int32) (m : Mem) : Option (Int32 × Mem) := doI (f_X9_in fu x1 1 200 m) (fun r_3 m_2 => if r_3 = 0 then (some ((-1000000001), m_2)) else (doV (f_X9_thinks fu  m_2) (fun m_5 => seqM (upd m_5 3001 0) (fun m_6 : Mem => f_X9_hole_25 fu fu x1 0 m_6))))
set_option maxHeartbeats 4000000 in
set_option maxRecDepth 100000 in
theorem w_X9_hole {X : TX} {p : Program} {l : Launch} {e : Env} {s : State} {mi : MethodId} {args : Array Value} {below : List Frame} {meth : Method} {c : Code} {Q : State → Prop} {r : Int32} {mE : Mem} (C : Cx X p s mi args c RX9 cX9_hole 3) (hq : RetI X p l e (rmD 5) s mi args below meth c cX9_hole .int Q r mE) {fu : Nat} {x1 : Int32} {m : Mem} {H : Heap} {locs : List Loc} {ls : Array Slot} (h : f_X9_hole fu x1 m = some (r, mE))  (hW : Wd X s m H locs) (hl : lv_has ls 3 [(0, .ref (ad X 20 0)), (1, .int x1)]) : W p l e (rmD 5) s mi args below meth c H locs 0 0 Q (F0 mi 0 ls []) := by
  unfold f_X9_hole at h
  refine lv_iload_n C.1 C.2.1 dX9_hole_0 rfl (lv_at hl 1 rfl) ?_
  refine lv_iconst (v := 1) C.1 C.2.1 dX9_hole_1 rfl ?_
  refine lv_sipush (v := 200) C.1 C.2.1 dX9_hole_2 rfl ?_
  obtain ⟨r_3, m_2, hc_1, h⟩ := doI_E h
  refine zr_cSI C hW (c_X9_in (x0 := x1) (x1 := 1) (x2 := 200) hc_1 ) k_X9_in w_1117 ⟨Nat.le_of_ble_eq_true rfl, Nat.le_of_ble_eq_true rfl⟩ ⟨Nat.le_refl 0, Nat.le_refl 0⟩ rfl hl.1 rfl (Nat.le_of_ble_eq_true rfl) dX9_hole_5 (fun H locs hW => ?_)
  refine lv_if_ne (tgt := 14) C.1 C.2.1 dX9_hole_8 (by decide) (fun hc_8 => ?_) (fun hc_8 => ?_)
  · have h := ite_f hc_8 h
    refine lv_aload_n C.1 C.2.1 dX9_hole_14 rfl (lv_at hl 0 rfl) ?_
    obtain ⟨m_5, hc_4, h⟩ := doV_E h
    refine zr_cVV C hW (c_X9_thinks  hc_4 ) k_X9_thinks (zr_recv C hW id_20 zco_20 rfl) w_1268 ⟨Nat.le_of_ble_eq_true rfl, Nat.le_of_ble_eq_true rfl⟩ ⟨Nat.le_refl 0, Nat.le_refl 0⟩ rfl hl.1 rfl (Nat.le_of_ble_eq_true rfl) dX9_hole_15 (fun H locs hW => ?_)
    refine lv_iconst (v := 0) C.1 C.2.1 dX9_hole_18 rfl ?_
    refine lv_istore_n (lv' := [(2, .int 0), (0, .ref (ad X 20 0)), (1, .int x1)]) C.1 C.2.1 dX9_hole_19 rfl hl (by decide) rfl (fun ls hl => ?_)
    refine lv_aload_n C.1 C.2.1 dX9_hole_20 rfl (lv_at hl 1 rfl) ?_
    refine lv_iconst (v := 0) C.1 C.2.1 dX9_hole_21 rfl ?_
    obtain ⟨m_6, e_7, h⟩ := seqM_E h
    refine zp_X9_heardSilence C hW id_20 w_1008 e_7 dX9_hole_22 (fun H locs hW => ?_)
    exact w_X9_hole_25 C hq  fu h  hW (lv_sub hl [1, 2, 0] rfl)
  · have h := ite_t hc_8 h
    refine lv_ldc C.1 C.2.1 C.2.2.2.1 (C.2.2.2.2.1 _ w_1123) dX9_hole_11 ?_
    exact ret_i h hq rfl hW dX9_hole_13
theorem c_X9_hole {X : TX} {l : Launch} {fu : Nat} {x1 : Int32} {m mE : Mem} {r : Int32} (h : f_X9_hole fu x1 m = some (r, mE))  : MetI X l yX9_hole cX9_hole 3 .int 5 [.ref (ad X 20 0), .int x1] m r mE :=
  met_I (by decide) (Nat.le_of_ble_eq_true rfl) (fun p e s mi args below meth c ls Q C hq hW hl => w_X9_hole C hq h  hW (lv_sub hl [0, 1] rfl))
theorem k_X9_hole : CalV yX9_hole cX9_hole 3 (some .int) RX9 1 := ⟨w_1286, w_1287, w_70, w_1288, by decide +kernel⟩
theorem dX9_mostBy_0 : decode cX9_mostBy 0 = .ok (.aload_n 0, 1) := by decide +kernel
theorem dX9_mostBy_1 : decode cX9_mostBy 1 = .ok (.invokevirtual 171, 3) := by decide +kernel
theorem dX9_mostBy_4 : decode cX9_mostBy 4 = .ok (.iconst (-1), 1) := by decide +kernel
theorem dX9_mostBy_5 : decode cX9_mostBy 5 = .ok (.istore 7, 2) := by decide +kernel
theorem dX9_mostBy_7 : decode cX9_mostBy 7 = .ok (.iconst 0, 1) := by decide +kernel
theorem dX9_mostBy_8 : decode cX9_mostBy 8 = .ok (.istore 8, 2) := by decide +kernel
theorem dX9_mostBy_10 : decode cX9_mostBy 10 = .ok (.iload_n 2, 1) := by decide +kernel
theorem dX9_mostBy_11 : decode cX9_mostBy 11 = .ok (.istore 9, 2) := by decide +kernel
theorem dX9_mostBy_13 : decode cX9_mostBy 13 = .ok (.iload 9, 2) := by decide +kernel
theorem dX9_mostBy_15 : decode cX9_mostBy 15 = .ok (.iload_n 3, 1) := by decide +kernel
theorem dX9_mostBy_16 : decode cX9_mostBy 16 = .ok (.if_icmp .gt 59, 3) := by decide +kernel
theorem dX9_mostBy_19 : decode cX9_mostBy 19 = .ok (.aload_n 0, 1) := by decide +kernel
theorem dX9_mostBy_20 : decode cX9_mostBy 20 = .ok (.getfield 9, 3) := by decide +kernel
theorem dX9_mostBy_23 : decode cX9_mostBy 23 = .ok (.iload_n 1, 1) := by decide +kernel
theorem dX9_mostBy_24 : decode cX9_mostBy 24 = .ok (.iload 9, 2) := by decide +kernel
theorem dX9_mostBy_26 : decode cX9_mostBy 26 = .ok (.iastore, 1) := by decide +kernel
theorem dX9_mostBy_27 : decode cX9_mostBy 27 = .ok (.aload_n 0, 1) := by decide +kernel
theorem dX9_mostBy_28 : decode cX9_mostBy 28 = .ok (.iload 5, 2) := by decide +kernel
theorem dX9_mostBy_30 : decode cX9_mostBy 30 = .ok (.invokevirtual 168, 3) := by decide +kernel
theorem dX9_mostBy_33 : decode cX9_mostBy 33 = .ok (.aload_n 0, 1) := by decide +kernel
theorem dX9_mostBy_34 : decode cX9_mostBy 34 = .ok (.getfield 9, 3) := by decide +kernel
theorem dX9_mostBy_37 : decode cX9_mostBy 37 = .ok (.iconst 5, 1) := by decide +kernel
theorem dX9_mostBy_38 : decode cX9_mostBy 38 = .ok (.iaload, 1) := by decide +kernel
theorem dX9_mostBy_39 : decode cX9_mostBy 39 = .ok (.istore 10, 2) := by decide +kernel
theorem dX9_mostBy_41 : decode cX9_mostBy 41 = .ok (.aload_n 0, 1) := by decide +kernel
theorem dX9_mostBy_42 : decode cX9_mostBy 42 = .ok (.invokevirtual 174, 3) := by decide +kernel
theorem dX9_mostBy_45 : decode cX9_mostBy 45 = .ok (.iload 7, 2) := by decide +kernel
theorem dX9_mostBy_47 : decode cX9_mostBy 47 = .ok (.ifCond .lt 10, 3) := by decide +kernel
theorem dX9_mostBy_50 : decode cX9_mostBy 50 = .ok (.iload 10, 2) := by decide +kernel
theorem dX9_mostBy_52 : decode cX9_mostBy 52 = .ok (.iload 8, 2) := by decide +kernel
theorem dX9_mostBy_54 : decode cX9_mostBy 54 = .ok (.if_icmp .le 11, 3) := by decide +kernel
theorem dX9_mostBy_57 : decode cX9_mostBy 57 = .ok (.iload 9, 2) := by decide +kernel
theorem dX9_mostBy_59 : decode cX9_mostBy 59 = .ok (.istore 7, 2) := by decide +kernel
theorem dX9_mostBy_61 : decode cX9_mostBy 61 = .ok (.iload 10, 2) := by decide +kernel
theorem dX9_mostBy_63 : decode cX9_mostBy 63 = .ok (.istore 8, 2) := by decide +kernel
theorem dX9_mostBy_65 : decode cX9_mostBy 65 = .ok (.iload 9, 2) := by decide +kernel
theorem dX9_mostBy_67 : decode cX9_mostBy 67 = .ok (.iload 4, 2) := by decide +kernel
theorem dX9_mostBy_69 : decode cX9_mostBy 69 = .ok (.iadd, 1) := by decide +kernel
theorem dX9_mostBy_70 : decode cX9_mostBy 70 = .ok (.istore 9, 2) := by decide +kernel
theorem dX9_mostBy_72 : decode cX9_mostBy 72 = .ok (.goto (-59), 3) := by decide +kernel
theorem dX9_mostBy_75 : decode cX9_mostBy 75 = .ok (.iload 6, 2) := by decide +kernel
theorem dX9_mostBy_77 : decode cX9_mostBy 77 = .ok (.ifCond .ne 8, 3) := by decide +kernel
theorem dX9_mostBy_80 : decode cX9_mostBy 80 = .ok (.iload 7, 2) := by decide +kernel
theorem dX9_mostBy_82 : decode cX9_mostBy 82 = .ok (.goto 5, 3) := by decide +kernel
theorem dX9_mostBy_85 : decode cX9_mostBy 85 = .ok (.iload 8, 2) := by decide +kernel
theorem dX9_mostBy_87 : decode cX9_mostBy 87 = .ok (.ireturn, 1) := by decide +kernel
def f_X9_mostBy_65 (fu : Nat) (k_13 : Int32 → Int32 → Int32 → Int32 → Int32 → Int32 → Int32 → Int32 → Mem → Option (Int32 × Mem)) (x1 : Int32) (x3 : Int32) (x4 : Int32) (x5 : Int32) (x6 : Int32) (x7 : Int32) (x8 : Int32) (x9 : Int32) (m : Mem) : Option (Int32 × Mem) := seqM (x9 + x4) (fun x_1 : Int32 => k_13 x1 x3 x4 x5 x6 x7 x8 x_1 m)
set_option maxHeartbeats 4000000 in
set_option maxRecDepth 100000 in
theorem w_X9_mostBy_65 {X : TX} {p : Program} {l : Launch} {e : Env} {s : State} {mi : MethodId} {args : Array Value} {below : List Frame} {meth : Method} {c : Code} {Q : State → Prop} {r : Int32} {mE : Mem} (C : Cx X p s mi args c RX9 cX9_mostBy 11) (hq : RetI X p l e (rmD 6) s mi args below meth c cX9_mostBy .int Q r mE) {fu : Nat} {k_13 : Int32 → Int32 → Int32 → Int32 → Int32 → Int32 → Int32 → Int32 → Mem → Option (Int32 × Mem)} (hk_13 : ∀ {x1 : Int32} {x3 : Int32} {x4 : Int32} {x5 : Int32} {x6 : Int32} {x7 : Int32} {x8 : Int32} {x9 : Int32} {m : Mem} {H : Heap} {locs : List Loc} {ls : Array Slot}, k_13 x1 x3 x4 x5 x6 x7 x8 x9 m = some (r, mE) → Wd X s m H locs → lv_has ls 11 [(0, .ref (ad X 20 0)), (1, .int x1), (3, .int x3), (4, .int x4), (5, .int x5), (6, .int x6), (7, .int x7), (8, .int x8), (9, .int x9)] → W p l e (rmD 6) s mi args below meth c H locs 0 0 Q (F0 mi 13 ls [])) {x1 : Int32} {x3 : Int32} {x4 : Int32} {x5 : Int32} {x6 : Int32} {x7 : Int32} {x8 : Int32} {x9 : Int32} {m : Mem} {H : Heap} {locs : List Loc} {ls : Array Slot} (h : f_X9_mostBy_65 fu k_13 x1 x3 x4 x5 x6 x7 x8 x9 m = some (r, mE))  (hW : Wd X s m H locs) (hl : lv_has ls 11 [(0, .ref (ad X 20 0)), (1, .int x1), (3, .int x3), (4, .int x4), (5, .int x5), (6, .int x6), (7, .int x7), (8, .int x8), (9, .int x9)]) : W p l e (rmD 6) s mi args below meth c H locs 0 0 Q (F0 mi 65 ls []) := by
  unfold f_X9_mostBy_65 at h
  refine lv_iload C.1 C.2.1 dX9_mostBy_65 (lv_at hl 8 rfl) ?_
  refine lv_iload C.1 C.2.1 dX9_mostBy_67 (lv_at hl 3 rfl) ?_
  refine lv_iadd C.1 C.2.1 dX9_mostBy_69 ?_
  obtain ⟨x_1, e_2, h⟩ := seqM_E h
  refine lv_name e_2 ?_
  refine lv_istore (lv' := [(9, .int x_1), (0, .ref (ad X 20 0)), (1, .int x1), (3, .int x3), (4, .int x4), (5, .int x5), (6, .int x6), (7, .int x7), (8, .int x8)]) C.1 C.2.1 dX9_mostBy_70 hl (by decide) rfl (fun ls hl => ?_)
  refine lv_goto (tgt := 13) C.1 C.2.1 dX9_mostBy_72 (by decide) ?_
  exact hk_13 h  hW (lv_sub hl [1, 2, 3, 4, 5, 6, 7, 8, 0] rfl)
def f_X9_mostBy_57 (fu : Nat) (k_13 : Int32 → Int32 → Int32 → Int32 → Int32 → Int32 → Int32 → Int32 → Mem → Option (Int32 × Mem)) (x1 : Int32) (x3 : Int32) (x4 : Int32) (x5 : Int32) (x6 : Int32) (x9 : Int32) (x10 : Int32) (m : Mem) : Option (Int32 × Mem) := f_X9_mostBy_65 fu k_13 x1 x3 x4 x5 x6 x9 x10 x9 m
set_option maxHeartbeats 4000000 in
set_option maxRecDepth 100000 in
theorem w_X9_mostBy_57 {X : TX} {p : Program} {l : Launch} {e : Env} {s : State} {mi : MethodId} {args : Array Value} {below : List Frame} {meth : Method} {c : Code} {Q : State → Prop} {r : Int32} {mE : Mem} (C : Cx X p s mi args c RX9 cX9_mostBy 11) (hq : RetI X p l e (rmD 6) s mi args below meth c cX9_mostBy .int Q r mE) {fu : Nat} {k_13 : Int32 → Int32 → Int32 → Int32 → Int32 → Int32 → Int32 → Int32 → Mem → Option (Int32 × Mem)} (hk_13 : ∀ {x1 : Int32} {x3 : Int32} {x4 : Int32} {x5 : Int32} {x6 : Int32} {x7 : Int32} {x8 : Int32} {x9 : Int32} {m : Mem} {H : Heap} {locs : List Loc} {ls : Array Slot}, k_13 x1 x3 x4 x5 x6 x7 x8 x9 m = some (r, mE) → Wd X s m H locs → lv_has ls 11 [(0, .ref (ad X 20 0)), (1, .int x1), (3, .int x3), (4, .int x4), (5, .int x5), (6, .int x6), (7, .int x7), (8, .int x8), (9, .int x9)] → W p l e (rmD 6) s mi args below meth c H locs 0 0 Q (F0 mi 13 ls [])) {x1 : Int32} {x3 : Int32} {x4 : Int32} {x5 : Int32} {x6 : Int32} {x9 : Int32} {x10 : Int32} {m : Mem} {H : Heap} {locs : List Loc} {ls : Array Slot} (h : f_X9_mostBy_57 fu k_13 x1 x3 x4 x5 x6 x9 x10 m = some (r, mE))  (hW : Wd X s m H locs) (hl : lv_has ls 11 [(0, .ref (ad X 20 0)), (1, .int x1), (3, .int x3), (4, .int x4), (5, .int x5), (6, .int x6), (9, .int x9), (10, .int x10)]) : W p l e (rmD 6) s mi args below meth c H locs 0 0 Q (F0 mi 57 ls []) := by
  unfold f_X9_mostBy_57 at h
  refine lv_iload C.1 C.2.1 dX9_mostBy_57 (lv_at hl 6 rfl) ?_
  refine lv_istore (lv' := [(7, .int x9), (0, .ref (ad X 20 0)), (1, .int x1), (3, .int x3), (4, .int x4), (5, .int x5), (6, .int x6), (9, .int x9), (10, .int x10)]) C.1 C.2.1 dX9_mostBy_59 hl (by decide) rfl (fun ls hl => ?_)
  refine lv_iload C.1 C.2.1 dX9_mostBy_61 (lv_at hl 8 rfl) ?_
  refine lv_istore (lv' := [(8, .int x10), (7, .int x9), (0, .ref (ad X 20 0)), (1, .int x1), (3, .int x3), (4, .int x4), (5, .int x5), (6, .int x6), (9, .int x9), (10, .int x10)]) C.1 C.2.1 dX9_mostBy_63 hl (by decide) rfl (fun ls hl => ?_)
  exact w_X9_mostBy_65 C hq hk_13 h  hW (lv_sub hl [2, 3, 4, 5, 6, 7, 1, 0, 8] rfl)
def f_X9_mostBy_13 (fu : Nat)  : Nat → Int32 → Int32 → Int32 → Int32 → Int32 → Int32 → Int32 → Int32 → Mem → Option (Int32 × Mem)
  | 0, _, _, _, _, _, _, _, _, _ => none
  | n + 1, x1, x3, x4, x5, x6, x7, x8, x9, m => if x3 < x9 then (if x6 = 0 then (some (x7, m)) else (some (x8, m))) else (chk (inb x1 1423) (seqM (upd m ((4000 + 1500 * 0) + x1.toNatClampNeg) x9) (fun m_3 : Mem => doV (f_X9_goesOn fu x5 m_3) (fun m_6 => seqM (m_6 ((4000 + 1500 * 0) + (5 : Int32).toNatClampNeg)) (fun x_7 : Int32 => doV (f_X9_putsBack fu  m_6) (fun m_10 => if x7 < 0 then (f_X9_mostBy_57 fu (f_X9_mostBy_13 fu n) x1 x3 x4 x5 x6 x9 x_7 m_10) else (if x_7 ≤ x8 then (f_X9_mostBy_65 fu (f_X9_mostBy_13 fu n) x1 x3 x4 x5 x6 x7 x8 x9 m_10) else (f_X9_mostBy_57 fu (f_X9_mostBy_13 fu n) x1 x3 x4 x5 x6 x9 x_7 m_10))))))))
set_option maxHeartbeats 4000000 in
set_option maxRecDepth 100000 in
theorem w_X9_mostBy_13 {X : TX} {p : Program} {l : Launch} {e : Env} {s : State} {mi : MethodId} {args : Array Value} {below : List Frame} {meth : Method} {c : Code} {Q : State → Prop} {r : Int32} {mE : Mem} (C : Cx X p s mi args c RX9 cX9_mostBy 11) (hq : RetI X p l e (rmD 6) s mi args below meth c cX9_mostBy .int Q r mE) {fu : Nat} : ∀ (n : Nat) {x1 : Int32} {x3 : Int32} {x4 : Int32} {x5 : Int32} {x6 : Int32} {x7 : Int32} {x8 : Int32} {x9 : Int32} {m : Mem} {H : Heap} {locs : List Loc} {ls : Array Slot}, f_X9_mostBy_13 fu n x1 x3 x4 x5 x6 x7 x8 x9 m = some (r, mE) → Wd X s m H locs → lv_has ls 11 [(0, .ref (ad X 20 0)), (1, .int x1), (3, .int x3), (4, .int x4), (5, .int x5), (6, .int x6), (7, .int x7), (8, .int x8), (9, .int x9)] → W p l e (rmD 6) s mi args below meth c H locs 0 0 Q (F0 mi 13 ls []) := by
  intro n
  induction n with
  | zero =>
    intro x1 x3 x4 x5 x6 x7 x8 x9 m H locs ls h hW hl
    rw [f_X9_mostBy_13] at h
    cases h
  | succ n ih =>
    intro x1 x3 x4 x5 x6 x7 x8 x9 m H locs ls h hW hl
    rw [f_X9_mostBy_13] at h
    refine lv_iload C.1 C.2.1 dX9_mostBy_13 (lv_at hl 8 rfl) ?_
    refine lv_iload_n C.1 C.2.1 dX9_mostBy_15 rfl (lv_at hl 2 rfl) ?_
    refine lv_icmp_gt (tgt := 75) C.1 C.2.1 dX9_mostBy_16 (by decide) (fun hc_13 => ?_) (fun hc_13 => ?_)
    · have h := ite_t hc_13 h
      refine lv_iload C.1 C.2.1 dX9_mostBy_75 (lv_at hl 5 rfl) ?_
      refine lv_if_ne (tgt := 85) C.1 C.2.1 dX9_mostBy_77 (by decide) (fun hc_1 => ?_) (fun hc_1 => ?_)
      · have h := ite_f hc_1 h
        refine lv_iload C.1 C.2.1 dX9_mostBy_85 (lv_at hl 7 rfl) ?_
        exact ret_i h hq rfl hW dX9_mostBy_87
      · have h := ite_t hc_1 h
        refine lv_iload C.1 C.2.1 dX9_mostBy_80 (lv_at hl 6 rfl) ?_
        refine lv_goto (tgt := 87) C.1 C.2.1 dX9_mostBy_82 (by decide) ?_
        exact ret_i h hq rfl hW dX9_mostBy_87
    · have h := ite_f hc_13 h
      refine lv_aload_n C.1 C.2.1 dX9_mostBy_19 rfl (lv_at hl 0 rfl) ?_
      refine zg_X9_now C hW id_20 w_1004 dX9_mostBy_20 ?_
      refine lv_iload_n C.1 C.2.1 dX9_mostBy_23 rfl (lv_at hl 1 rfl) ?_
      refine lv_iload C.1 C.2.1 dX9_mostBy_24 (lv_at hl 8 rfl) ?_
      obtain ⟨hb_2, h⟩ := chk_E h
      obtain ⟨m_3, e_4, h⟩ := seqM_E h
      refine zas_21 C hW id_21_0 (inb_E hb_2) e_4 dX9_mostBy_26 (fun H locs hW => ?_)
      refine lv_aload_n C.1 C.2.1 dX9_mostBy_27 rfl (lv_at hl 0 rfl) ?_
      refine lv_iload C.1 C.2.1 dX9_mostBy_28 (lv_at hl 4 rfl) ?_
      obtain ⟨m_6, hc_5, h⟩ := doV_E h
      refine zr_cVV C hW (c_X9_goesOn (x1 := x5) hc_5 ) k_X9_goesOn (zr_recv C hW id_20 zco_20 rfl) w_1213 ⟨Nat.le_of_ble_eq_true rfl, Nat.le_of_ble_eq_true rfl⟩ ⟨Nat.le_refl 0, Nat.le_refl 0⟩ rfl hl.1 rfl (Nat.le_of_ble_eq_true rfl) dX9_mostBy_30 (fun H locs hW => ?_)
      refine lv_aload_n C.1 C.2.1 dX9_mostBy_33 rfl (lv_at hl 0 rfl) ?_
      refine zg_X9_now C hW id_20 w_1004 dX9_mostBy_34 ?_
      refine lv_iconst (v := 5) C.1 C.2.1 dX9_mostBy_37 rfl ?_
      refine zal_21 C hW id_21_0 (inb_E (by decide)) dX9_mostBy_38 ?_
      obtain ⟨x_7, e_8, h⟩ := seqM_E h
      refine lv_name e_8 ?_
      refine lv_istore (lv' := [(10, .int x_7), (0, .ref (ad X 20 0)), (1, .int x1), (3, .int x3), (4, .int x4), (5, .int x5), (6, .int x6), (7, .int x7), (8, .int x8), (9, .int x9)]) C.1 C.2.1 dX9_mostBy_39 hl (by decide) rfl (fun ls hl => ?_)
      refine lv_aload_n C.1 C.2.1 dX9_mostBy_41 rfl (lv_at hl 1 rfl) ?_
      obtain ⟨m_10, hc_9, h⟩ := doV_E h
      refine zr_cVV C hW (c_X9_putsBack  hc_9 ) k_X9_putsBack (zr_recv C hW id_20 zco_20 rfl) w_1272 ⟨Nat.le_of_ble_eq_true rfl, Nat.le_of_ble_eq_true rfl⟩ ⟨Nat.le_refl 0, Nat.le_refl 0⟩ rfl hl.1 rfl (Nat.le_of_ble_eq_true rfl) dX9_mostBy_42 (fun H locs hW => ?_)
      refine lv_iload C.1 C.2.1 dX9_mostBy_45 (lv_at hl 7 rfl) ?_
      refine lv_if_lt (tgt := 57) C.1 C.2.1 dX9_mostBy_47 (by decide) (fun hc_12 => ?_) (fun hc_12 => ?_)
      · have h := ite_t hc_12 h
        exact w_X9_mostBy_57 C hq ih h  hW (lv_sub hl [1, 2, 3, 4, 5, 6, 9, 0] rfl)
      · have h := ite_f hc_12 h
        refine lv_iload C.1 C.2.1 dX9_mostBy_50 (lv_at hl 0 rfl) ?_
        refine lv_iload C.1 C.2.1 dX9_mostBy_52 (lv_at hl 8 rfl) ?_
        refine lv_icmp_le (tgt := 65) C.1 C.2.1 dX9_mostBy_54 (by decide) (fun hc_11 => ?_) (fun hc_11 => ?_)
        · have h := ite_t hc_11 h
          exact w_X9_mostBy_65 C hq ih h  hW (lv_sub hl [1, 2, 3, 4, 5, 6, 7, 8, 9] rfl)
        · have h := ite_f hc_11 h
          exact w_X9_mostBy_57 C hq ih h  hW (lv_sub hl [1, 2, 3, 4, 5, 6, 9, 0] rfl)
def f_X9_mostBy (fu : Nat)  (x1 : Int32) (x2 : Int32) (x3 : Int32) (x4 : Int32) (x5 : Int32) (x6 : Int32) (m : Mem) : Option (Int32 × Mem) := doV (f_X9_thinks fu  m) (fun m_2 => f_X9_mostBy_13 fu fu x1 x3 x4 x5 x6 (-1) 0 x2 m_2)
set_option maxHeartbeats 4000000 in
set_option maxRecDepth 100000 in
theorem w_X9_mostBy {X : TX} {p : Program} {l : Launch} {e : Env} {s : State} {mi : MethodId} {args : Array Value} {below : List Frame} {meth : Method} {c : Code} {Q : State → Prop} {r : Int32} {mE : Mem} (C : Cx X p s mi args c RX9 cX9_mostBy 11) (hq : RetI X p l e (rmD 6) s mi args below meth c cX9_mostBy .int Q r mE) {fu : Nat} {x1 : Int32} {x2 : Int32} {x3 : Int32} {x4 : Int32} {x5 : Int32} {x6 : Int32} {m : Mem} {H : Heap} {locs : List Loc} {ls : Array Slot} (h : f_X9_mostBy fu x1 x2 x3 x4 x5 x6 m = some (r, mE))  (hW : Wd X s m H locs) (hl : lv_has ls 11 [(0, .ref (ad X 20 0)), (1, .int x1), (2, .int x2), (3, .int x3), (4, .int x4), (5, .int x5), (6, .int x6)]) : W p l e (rmD 6) s mi args below meth c H locs 0 0 Q (F0 mi 0 ls []) := by
  unfold f_X9_mostBy at h
  refine lv_aload_n C.1 C.2.1 dX9_mostBy_0 rfl (lv_at hl 0 rfl) ?_
  obtain ⟨m_2, hc_1, h⟩ := doV_E h
  refine zr_cVV C hW (c_X9_thinks  hc_1 ) k_X9_thinks (zr_recv C hW id_20 zco_20 rfl) w_1268 ⟨Nat.le_of_ble_eq_true rfl, Nat.le_of_ble_eq_true rfl⟩ ⟨Nat.le_refl 0, Nat.le_refl 0⟩ rfl hl.1 rfl (Nat.le_of_ble_eq_true rfl) dX9_mostBy_1 (fun H locs hW => ?_)
  refine lv_iconst (v := (-1)) C.1 C.2.1 dX9_mostBy_4 rfl ?_
  refine lv_istore (lv' := [(7, .int (-1)), (0, .ref (ad X 20 0)), (1, .int x1), (2, .int x2), (3, .int x3), (4, .int x4), (5, .int x5), (6, .int x6)]) C.1 C.2.1 dX9_mostBy_5 hl (by decide) rfl (fun ls hl => ?_)
  refine lv_iconst (v := 0) C.1 C.2.1 dX9_mostBy_7 rfl ?_
  refine lv_istore (lv' := [(8, .int 0), (7, .int (-1)), (0, .ref (ad X 20 0)), (1, .int x1), (2, .int x2), (3, .int x3), (4, .int x4), (5, .int x5), (6, .int x6)]) C.1 C.2.1 dX9_mostBy_8 hl (by decide) rfl (fun ls hl => ?_)
  refine lv_iload_n C.1 C.2.1 dX9_mostBy_10 rfl (lv_at hl 4 rfl) ?_
  refine lv_istore (lv' := [(9, .int x2), (8, .int 0), (7, .int (-1)), (0, .ref (ad X 20 0)), (1, .int x1), (2, .int x2), (3, .int x3), (4, .int x4), (5, .int x5), (6, .int x6)]) C.1 C.2.1 dX9_mostBy_11 hl (by decide) rfl (fun ls hl => ?_)
  exact w_X9_mostBy_13 C hq  fu h  hW (lv_sub hl [3, 4, 6, 7, 8, 9, 2, 1, 0] rfl)
theorem c_X9_mostBy {X : TX} {l : Launch} {fu : Nat} {x1 : Int32} {x2 : Int32} {x3 : Int32} {x4 : Int32} {x5 : Int32} {x6 : Int32} {m mE : Mem} {r : Int32} (h : f_X9_mostBy fu x1 x2 x3 x4 x5 x6 m = some (r, mE))  : MetI X l yX9_mostBy cX9_mostBy 11 .int 6 [.ref (ad X 20 0), .int x1, .int x2, .int x3, .int x4, .int x5, .int x6] m r mE :=
  met_I (by decide) (Nat.le_of_ble_eq_true rfl) (fun p e s mi args below meth c ls Q C hq hW hl => w_X9_mostBy C hq h  hW (lv_sub hl [0, 1, 2, 3, 4, 5, 6] rfl))
theorem k_X9_mostBy : CalV yX9_mostBy cX9_mostBy 11 (some .int) RX9 6 := ⟨w_1298, w_49, w_70, w_1299, by decide +kernel⟩
theorem dX9_areAsked_0 : decode cX9_areAsked 0 = .ok (.iload_n 0, 1) := by decide +kernel
theorem dX9_areAsked_1 : decode cX9_areAsked 1 = .ok (.iconst 1, 1) := by decide +kernel
theorem dX9_areAsked_2 : decode cX9_areAsked 2 = .ok (.bipush 60, 2) := by decide +kernel
theorem dX9_areAsked_4 : decode cX9_areAsked 4 = .ok (.invokestatic 79, 3) := by decide +kernel
theorem dX9_areAsked_7 : decode cX9_areAsked 7 = .ok (.ifCond .eq 16, 3) := by decide +kernel
theorem dX9_areAsked_10 : decode cX9_areAsked 10 = .ok (.iload_n 1, 1) := by decide +kernel
theorem dX9_areAsked_11 : decode cX9_areAsked 11 = .ok (.iconst 0, 1) := by decide +kernel
theorem dX9_areAsked_12 : decode cX9_areAsked 12 = .ok (.iconst 1, 1) := by decide +kernel
theorem dX9_areAsked_13 : decode cX9_areAsked 13 = .ok (.invokestatic 79, 3) := by decide +kernel
theorem dX9_areAsked_16 : decode cX9_areAsked 16 = .ok (.ifCond .eq 7, 3) := by decide +kernel
theorem dX9_areAsked_19 : decode cX9_areAsked 19 = .ok (.iconst 1, 1) := by decide +kernel
theorem dX9_areAsked_20 : decode cX9_areAsked 20 = .ok (.goto 4, 3) := by decide +kernel
theorem dX9_areAsked_23 : decode cX9_areAsked 23 = .ok (.iconst 0, 1) := by decide +kernel
theorem dX9_areAsked_24 : decode cX9_areAsked 24 = .ok (.ireturn, 1) := by decide +kernel
def f_X9_areAsked (fu : Nat)  (x0 : Int32) (x1 : Int32) (m : Mem) : Option (Int32 × Mem) := doI (f_X9_in fu x0 1 60 m) (fun r_3 m_2 => if r_3 = 0 then (some (0, m_2)) else (doI (f_X9_in fu x1 0 1 m_2) (fun r_6 m_5 => if r_6 = 0 then (some (0, m_5)) else (some (1, m_5)))))
set_option maxHeartbeats 4000000 in
set_option maxRecDepth 100000 in
theorem w_X9_areAsked {X : TX} {p : Program} {l : Launch} {e : Env} {s : State} {mi : MethodId} {args : Array Value} {below : List Frame} {meth : Method} {c : Code} {Q : State → Prop} {r : Int32} {mE : Mem} (C : Cx X p s mi args c RX9 cX9_areAsked 2) (hq : RetI X p l e (rmD 1) s mi args below meth c cX9_areAsked .boolean Q r mE) {fu : Nat} {x0 : Int32} {x1 : Int32} {m : Mem} {H : Heap} {locs : List Loc} {ls : Array Slot} (h : f_X9_areAsked fu x0 x1 m = some (r, mE))  (hW : Wd X s m H locs) (hl : lv_has ls 2 [(0, .int x0), (1, .int x1)]) : W p l e (rmD 1) s mi args below meth c H locs 0 0 Q (F0 mi 0 ls []) := by
  unfold f_X9_areAsked at h
  refine lv_iload_n C.1 C.2.1 dX9_areAsked_0 rfl (lv_at hl 0 rfl) ?_
  refine lv_iconst (v := 1) C.1 C.2.1 dX9_areAsked_1 rfl ?_
  refine lv_bipush (v := 60) C.1 C.2.1 dX9_areAsked_2 rfl ?_
  obtain ⟨r_3, m_2, hc_1, h⟩ := doI_E h
  refine zr_cSI C hW (c_X9_in (x0 := x0) (x1 := 1) (x2 := 60) hc_1 ) k_X9_in w_1117 ⟨Nat.le_of_ble_eq_true rfl, Nat.le_of_ble_eq_true rfl⟩ ⟨Nat.le_refl 0, Nat.le_refl 0⟩ rfl hl.1 rfl (Nat.le_of_ble_eq_true rfl) dX9_areAsked_4 (fun H locs hW => ?_)
  refine lv_if_eq (tgt := 23) C.1 C.2.1 dX9_areAsked_7 (by decide) (fun hc_8 => ?_) (fun hc_8 => ?_)
  · have h := ite_t hc_8 h
    refine lv_iconst (v := 0) C.1 C.2.1 dX9_areAsked_23 rfl ?_
    exact ret_i h hq rfl hW dX9_areAsked_24
  · have h := ite_f hc_8 h
    refine lv_iload_n C.1 C.2.1 dX9_areAsked_10 rfl (lv_at hl 1 rfl) ?_
    refine lv_iconst (v := 0) C.1 C.2.1 dX9_areAsked_11 rfl ?_
    refine lv_iconst (v := 1) C.1 C.2.1 dX9_areAsked_12 rfl ?_
    obtain ⟨r_6, m_5, hc_4, h⟩ := doI_E h
    refine zr_cSI C hW (c_X9_in (x0 := x1) (x1 := 0) (x2 := 1) hc_4 ) k_X9_in w_1117 ⟨Nat.le_of_ble_eq_true rfl, Nat.le_of_ble_eq_true rfl⟩ ⟨Nat.le_refl 0, Nat.le_refl 0⟩ rfl hl.1 rfl (Nat.le_of_ble_eq_true rfl) dX9_areAsked_13 (fun H locs hW => ?_)
    refine lv_if_eq (tgt := 23) C.1 C.2.1 dX9_areAsked_16 (by decide) (fun hc_7 => ?_) (fun hc_7 => ?_)
    · have h := ite_t hc_7 h
      refine lv_iconst (v := 0) C.1 C.2.1 dX9_areAsked_23 rfl ?_
      exact ret_i h hq rfl hW dX9_areAsked_24
    · have h := ite_f hc_7 h
      refine lv_iconst (v := 1) C.1 C.2.1 dX9_areAsked_19 rfl ?_
      refine lv_goto (tgt := 24) C.1 C.2.1 dX9_areAsked_20 (by decide) ?_
      exact ret_i h hq rfl hW dX9_areAsked_24
theorem c_X9_areAsked {X : TX} {l : Launch} {fu : Nat} {x0 : Int32} {x1 : Int32} {m mE : Mem} {r : Int32} (h : f_X9_areAsked fu x0 x1 m = some (r, mE))  : MetI X l yX9_areAsked cX9_areAsked 2 .boolean 1 [.int x0, .int x1] m r mE :=
  met_I (by decide) (Nat.le_of_ble_eq_true rfl) (fun p e s mi args below meth c ls Q C hq hW hl => w_X9_areAsked C hq h  hW (lv_sub hl [0, 1] rfl))
theorem k_X9_areAsked : CalS yX9_areAsked cX9_areAsked 2 (some .boolean) 2 := ⟨w_1294, w_70, w_1295, by decide +kernel⟩
theorem dX9_patience_0 : decode cX9_patience 0 = .ok (.aload_n 0, 1) := by decide +kernel
theorem dX9_patience_1 : decode cX9_patience 1 = .ok (.iload_n 1, 1) := by decide +kernel
theorem dX9_patience_2 : decode cX9_patience 2 = .ok (.invokevirtual 101, 3) := by decide +kernel
theorem dX9_patience_5 : decode cX9_patience 5 = .ok (.ifCond .eq 33, 3) := by decide +kernel
theorem dX9_patience_8 : decode cX9_patience 8 = .ok (.iload_n 2, 1) := by decide +kernel
theorem dX9_patience_9 : decode cX9_patience 9 = .ok (.iload_n 3, 1) := by decide +kernel
theorem dX9_patience_10 : decode cX9_patience 10 = .ok (.invokestatic 181, 3) := by decide +kernel
theorem dX9_patience_13 : decode cX9_patience 13 = .ok (.ifCond .eq 25, 3) := by decide +kernel
theorem dX9_patience_16 : decode cX9_patience 16 = .ok (.aload_n 0, 1) := by decide +kernel
theorem dX9_patience_17 : decode cX9_patience 17 = .ok (.bipush 16, 2) := by decide +kernel
theorem dX9_patience_19 : decode cX9_patience 19 = .ok (.bipush 7, 2) := by decide +kernel
theorem dX9_patience_21 : decode cX9_patience 21 = .ok (.iload_n 1, 1) := by decide +kernel
theorem dX9_patience_22 : decode cX9_patience 22 = .ok (.imul, 1) := by decide +kernel
theorem dX9_patience_23 : decode cX9_patience 23 = .ok (.iadd, 1) := by decide +kernel
theorem dX9_patience_24 : decode cX9_patience 24 = .ok (.iconst 1, 1) := by decide +kernel
theorem dX9_patience_25 : decode cX9_patience 25 = .ok (.iadd, 1) := by decide +kernel
theorem dX9_patience_26 : decode cX9_patience 26 = .ok (.iconst 1, 1) := by decide +kernel
theorem dX9_patience_27 : decode cX9_patience 27 = .ok (.bipush 60, 2) := by decide +kernel
theorem dX9_patience_29 : decode cX9_patience 29 = .ok (.iconst 1, 1) := by decide +kernel
theorem dX9_patience_30 : decode cX9_patience 30 = .ok (.iload_n 2, 1) := by decide +kernel
theorem dX9_patience_31 : decode cX9_patience 31 = .ok (.iload_n 3, 1) := by decide +kernel
theorem dX9_patience_32 : decode cX9_patience 32 = .ok (.invokevirtual 184, 3) := by decide +kernel
theorem dX9_patience_35 : decode cX9_patience 35 = .ok (.goto 5, 3) := by decide +kernel
theorem dX9_patience_38 : decode cX9_patience 38 = .ok (.ldc 91, 2) := by decide +kernel
theorem dX9_patience_40 : decode cX9_patience 40 = .ok (.ireturn, 1) := by decide +kernel
def f_X9_patience (fu : Nat)  (x1 : Int32) (x2 : Int32) (x3 : Int32) (m : Mem) : Option (Int32 × Mem) := doI (f_X9_isVoice fu x1 m) (fun r_3 m_2 => if r_3 = 0 then (some ((-1000000001), m_2)) else (doI (f_X9_areAsked fu x2 x3 m_2) (fun r_6 m_5 => if r_6 = 0 then (some ((-1000000001), m_5)) else (doI (f_X9_mostBy fu ((16 + (7 * x1)) + 1) 1 60 1 x2 x3 m_5) (fun r_9 m_8 => some (r_9, m_8))))))
set_option maxHeartbeats 4000000 in
set_option maxRecDepth 100000 in
theorem w_X9_patience {X : TX} {p : Program} {l : Launch} {e : Env} {s : State} {mi : MethodId} {args : Array Value} {below : List Frame} {meth : Method} {c : Code} {Q : State → Prop} {r : Int32} {mE : Mem} (C : Cx X p s mi args c RX9 cX9_patience 4) (hq : RetI X p l e (rmD 7) s mi args below meth c cX9_patience .int Q r mE) {fu : Nat} {x1 : Int32} {x2 : Int32} {x3 : Int32} {m : Mem} {H : Heap} {locs : List Loc} {ls : Array Slot} (h : f_X9_patience fu x1 x2 x3 m = some (r, mE))  (hW : Wd X s m H locs) (hl : lv_has ls 4 [(0, .ref (ad X 20 0)), (1, .int x1), (2, .int x2), (3, .int x3)]) : W p l e (rmD 7) s mi args below meth c H locs 0 0 Q (F0 mi 0 ls []) := by
  unfold f_X9_patience at h
  refine lv_aload_n C.1 C.2.1 dX9_patience_0 rfl (lv_at hl 0 rfl) ?_
  refine lv_iload_n C.1 C.2.1 dX9_patience_1 rfl (lv_at hl 1 rfl) ?_
  obtain ⟨r_3, m_2, hc_1, h⟩ := doI_E h
  refine zr_cVI C hW (c_X9_isVoice (x1 := x1) hc_1 ) k_X9_isVoice (zr_recv C hW id_20 zco_20 rfl) w_1137 ⟨Nat.le_of_ble_eq_true rfl, Nat.le_of_ble_eq_true rfl⟩ ⟨Nat.le_refl 0, Nat.le_refl 0⟩ rfl hl.1 rfl (Nat.le_of_ble_eq_true rfl) dX9_patience_2 (fun H locs hW => ?_)
  refine lv_if_eq (tgt := 38) C.1 C.2.1 dX9_patience_5 (by decide) (fun hc_11 => ?_) (fun hc_11 => ?_)
  · have h := ite_t hc_11 h
    refine lv_ldc C.1 C.2.1 C.2.2.2.1 (C.2.2.2.2.1 _ w_1123) dX9_patience_38 ?_
    exact ret_i h hq rfl hW dX9_patience_40
  · have h := ite_f hc_11 h
    refine lv_iload_n C.1 C.2.1 dX9_patience_8 rfl (lv_at hl 2 rfl) ?_
    refine lv_iload_n C.1 C.2.1 dX9_patience_9 rfl (lv_at hl 3 rfl) ?_
    obtain ⟨r_6, m_5, hc_4, h⟩ := doI_E h
    refine zr_cSI C hW (c_X9_areAsked (x0 := x2) (x1 := x3) hc_4 ) k_X9_areAsked w_1293 ⟨Nat.le_of_ble_eq_true rfl, Nat.le_of_ble_eq_true rfl⟩ ⟨Nat.le_refl 0, Nat.le_refl 0⟩ rfl hl.1 rfl (Nat.le_of_ble_eq_true rfl) dX9_patience_10 (fun H locs hW => ?_)
    refine lv_if_eq (tgt := 38) C.1 C.2.1 dX9_patience_13 (by decide) (fun hc_10 => ?_) (fun hc_10 => ?_)
    · have h := ite_t hc_10 h
      refine lv_ldc C.1 C.2.1 C.2.2.2.1 (C.2.2.2.2.1 _ w_1123) dX9_patience_38 ?_
      exact ret_i h hq rfl hW dX9_patience_40
    · have h := ite_f hc_10 h
      refine lv_aload_n C.1 C.2.1 dX9_patience_16 rfl (lv_at hl 0 rfl) ?_
      refine lv_bipush (v := 16) C.1 C.2.1 dX9_patience_17 rfl ?_
      refine lv_bipush (v := 7) C.1 C.2.1 dX9_patience_19 rfl ?_
      refine lv_iload_n C.1 C.2.1 dX9_patience_21 rfl (lv_at hl 1 rfl) ?_
      refine lv_imul C.1 C.2.1 dX9_patience_22 ?_
      refine lv_iadd C.1 C.2.1 dX9_patience_23 ?_
      refine lv_iconst (v := 1) C.1 C.2.1 dX9_patience_24 rfl ?_
      refine lv_iadd C.1 C.2.1 dX9_patience_25 ?_
      refine lv_iconst (v := 1) C.1 C.2.1 dX9_patience_26 rfl ?_
      refine lv_bipush (v := 60) C.1 C.2.1 dX9_patience_27 rfl ?_
      refine lv_iconst (v := 1) C.1 C.2.1 dX9_patience_29 rfl ?_
      refine lv_iload_n C.1 C.2.1 dX9_patience_30 rfl (lv_at hl 2 rfl) ?_
      refine lv_iload_n C.1 C.2.1 dX9_patience_31 rfl (lv_at hl 3 rfl) ?_
      obtain ⟨r_9, m_8, hc_7, h⟩ := doI_E h
      refine zr_cVI C hW (c_X9_mostBy (x1 := ((16 + (7 * x1)) + 1)) (x2 := 1) (x3 := 60) (x4 := 1) (x5 := x2) (x6 := x3) hc_7 ) k_X9_mostBy (zr_recv C hW id_20 zco_20 rfl) w_1296 ⟨Nat.le_of_ble_eq_true rfl, Nat.le_of_ble_eq_true rfl⟩ ⟨Nat.le_refl 0, Nat.le_refl 0⟩ rfl hl.1 rfl (Nat.le_of_ble_eq_true rfl) dX9_patience_32 (fun H locs hW => ?_)
      refine lv_goto (tgt := 40) C.1 C.2.1 dX9_patience_35 (by decide) ?_
      exact ret_i h hq rfl hW dX9_patience_40
theorem c_X9_patience {X : TX} {l : Launch} {fu : Nat} {x1 : Int32} {x2 : Int32} {x3 : Int32} {m mE : Mem} {r : Int32} (h : f_X9_patience fu x1 x2 x3 m = some (r, mE))  : MetI X l yX9_patience cX9_patience 4 .int 7 [.ref (ad X 20 0), .int x1, .int x2, .int x3] m r mE :=
  met_I (by decide) (Nat.le_of_ble_eq_true rfl) (fun p e s mi args below meth c ls Q C hq hW hl => w_X9_patience C hq h  hW (lv_sub hl [0, 1, 2, 3] rfl))
theorem k_X9_patience : CalV yX9_patience cX9_patience 4 (some .int) RX9 3 := ⟨w_1290, w_1291, w_70, w_1292, by decide +kernel⟩
theorem dX9_device_0 : decode cX9_device 0 = .ok (.iload_n 1, 1) := by decide +kernel
theorem dX9_device_1 : decode cX9_device 1 = .ok (.iload_n 2, 1) := by decide +kernel
theorem dX9_device_2 : decode cX9_device 2 = .ok (.invokestatic 181, 3) := by decide +kernel
theorem dX9_device_5 : decode cX9_device 5 = .ok (.ifCond .eq 18, 3) := by decide +kernel
theorem dX9_device_8 : decode cX9_device 8 = .ok (.aload_n 0, 1) := by decide +kernel
theorem dX9_device_9 : decode cX9_device 9 = .ok (.iconst 3, 1) := by decide +kernel
theorem dX9_device_10 : decode cX9_device 10 = .ok (.iconst 5, 1) := by decide +kernel
theorem dX9_device_11 : decode cX9_device 11 = .ok (.sipush 200, 3) := by decide +kernel
theorem dX9_device_14 : decode cX9_device 14 = .ok (.iconst 5, 1) := by decide +kernel
theorem dX9_device_15 : decode cX9_device 15 = .ok (.iload_n 1, 1) := by decide +kernel
theorem dX9_device_16 : decode cX9_device 16 = .ok (.iload_n 2, 1) := by decide +kernel
theorem dX9_device_17 : decode cX9_device 17 = .ok (.invokevirtual 184, 3) := by decide +kernel
theorem dX9_device_20 : decode cX9_device 20 = .ok (.goto 5, 3) := by decide +kernel
theorem dX9_device_23 : decode cX9_device 23 = .ok (.ldc 91, 2) := by decide +kernel
theorem dX9_device_25 : decode cX9_device 25 = .ok (.ireturn, 1) := by decide +kernel
def f_X9_device (fu : Nat)  (x1 : Int32) (x2 : Int32) (m : Mem) : Option (Int32 × Mem) := doI (f_X9_areAsked fu x1 x2 m) (fun r_3 m_2 => if r_3 = 0 then (some ((-1000000001), m_2)) else (doI (f_X9_mostBy fu 3 5 200 5 x1 x2 m_2) (fun r_6 m_5 => some (r_6, m_5))))
set_option maxHeartbeats 4000000 in
set_option maxRecDepth 100000 in
theorem w_X9_device {X : TX} {p : Program} {l : Launch} {e : Env} {s : State} {mi : MethodId} {args : Array Value} {below : List Frame} {meth : Method} {c : Code} {Q : State → Prop} {r : Int32} {mE : Mem} (C : Cx X p s mi args c RX9 cX9_device 3) (hq : RetI X p l e (rmD 7) s mi args below meth c cX9_device .int Q r mE) {fu : Nat} {x1 : Int32} {x2 : Int32} {m : Mem} {H : Heap} {locs : List Loc} {ls : Array Slot} (h : f_X9_device fu x1 x2 m = some (r, mE))  (hW : Wd X s m H locs) (hl : lv_has ls 3 [(0, .ref (ad X 20 0)), (1, .int x1), (2, .int x2)]) : W p l e (rmD 7) s mi args below meth c H locs 0 0 Q (F0 mi 0 ls []) := by
  unfold f_X9_device at h
  refine lv_iload_n C.1 C.2.1 dX9_device_0 rfl (lv_at hl 1 rfl) ?_
  refine lv_iload_n C.1 C.2.1 dX9_device_1 rfl (lv_at hl 2 rfl) ?_
  obtain ⟨r_3, m_2, hc_1, h⟩ := doI_E h
  refine zr_cSI C hW (c_X9_areAsked (x0 := x1) (x1 := x2) hc_1 ) k_X9_areAsked w_1293 ⟨Nat.le_of_ble_eq_true rfl, Nat.le_of_ble_eq_true rfl⟩ ⟨Nat.le_refl 0, Nat.le_refl 0⟩ rfl hl.1 rfl (Nat.le_of_ble_eq_true rfl) dX9_device_2 (fun H locs hW => ?_)
  refine lv_if_eq (tgt := 23) C.1 C.2.1 dX9_device_5 (by decide) (fun hc_7 => ?_) (fun hc_7 => ?_)
  · have h := ite_t hc_7 h
    refine lv_ldc C.1 C.2.1 C.2.2.2.1 (C.2.2.2.2.1 _ w_1123) dX9_device_23 ?_
    exact ret_i h hq rfl hW dX9_device_25
  · have h := ite_f hc_7 h
    refine lv_aload_n C.1 C.2.1 dX9_device_8 rfl (lv_at hl 0 rfl) ?_
    refine lv_iconst (v := 3) C.1 C.2.1 dX9_device_9 rfl ?_
    refine lv_iconst (v := 5) C.1 C.2.1 dX9_device_10 rfl ?_
    refine lv_sipush (v := 200) C.1 C.2.1 dX9_device_11 rfl ?_
    refine lv_iconst (v := 5) C.1 C.2.1 dX9_device_14 rfl ?_
    refine lv_iload_n C.1 C.2.1 dX9_device_15 rfl (lv_at hl 1 rfl) ?_
    refine lv_iload_n C.1 C.2.1 dX9_device_16 rfl (lv_at hl 2 rfl) ?_
    obtain ⟨r_6, m_5, hc_4, h⟩ := doI_E h
    refine zr_cVI C hW (c_X9_mostBy (x1 := 3) (x2 := 5) (x3 := 200) (x4 := 5) (x5 := x1) (x6 := x2) hc_4 ) k_X9_mostBy (zr_recv C hW id_20 zco_20 rfl) w_1296 ⟨Nat.le_of_ble_eq_true rfl, Nat.le_of_ble_eq_true rfl⟩ ⟨Nat.le_refl 0, Nat.le_refl 0⟩ rfl hl.1 rfl (Nat.le_of_ble_eq_true rfl) dX9_device_17 (fun H locs hW => ?_)
    refine lv_goto (tgt := 25) C.1 C.2.1 dX9_device_20 (by decide) ?_
    exact ret_i h hq rfl hW dX9_device_25
theorem c_X9_device {X : TX} {l : Launch} {fu : Nat} {x1 : Int32} {x2 : Int32} {m mE : Mem} {r : Int32} (h : f_X9_device fu x1 x2 m = some (r, mE))  : MetI X l yX9_device cX9_device 3 .int 7 [.ref (ad X 20 0), .int x1, .int x2] m r mE :=
  met_I (by decide) (Nat.le_of_ble_eq_true rfl) (fun p e s mi args below meth c ls Q C hq hW hl => w_X9_device C hq h  hW (lv_sub hl [0, 1, 2] rfl))
theorem k_X9_device : CalV yX9_device cX9_device 3 (some .int) RX9 2 := ⟨w_1301, w_1302, w_70, w_1303, by decide +kernel⟩
theorem dX9_filler_0 : decode cX9_filler 0 = .ok (.iload_n 1, 1) := by decide +kernel
theorem dX9_filler_1 : decode cX9_filler 1 = .ok (.iload_n 2, 1) := by decide +kernel
theorem dX9_filler_2 : decode cX9_filler 2 = .ok (.invokestatic 181, 3) := by decide +kernel
theorem dX9_filler_5 : decode cX9_filler 5 = .ok (.ifCond .eq 17, 3) := by decide +kernel
theorem dX9_filler_8 : decode cX9_filler 8 = .ok (.aload_n 0, 1) := by decide +kernel
theorem dX9_filler_9 : decode cX9_filler 9 = .ok (.iconst 4, 1) := by decide +kernel
theorem dX9_filler_10 : decode cX9_filler 10 = .ok (.iconst 0, 1) := by decide +kernel
theorem dX9_filler_11 : decode cX9_filler 11 = .ok (.bipush 60, 2) := by decide +kernel
theorem dX9_filler_13 : decode cX9_filler 13 = .ok (.iconst 1, 1) := by decide +kernel
theorem dX9_filler_14 : decode cX9_filler 14 = .ok (.iload_n 1, 1) := by decide +kernel
theorem dX9_filler_15 : decode cX9_filler 15 = .ok (.iload_n 2, 1) := by decide +kernel
theorem dX9_filler_16 : decode cX9_filler 16 = .ok (.invokevirtual 184, 3) := by decide +kernel
theorem dX9_filler_19 : decode cX9_filler 19 = .ok (.goto 5, 3) := by decide +kernel
theorem dX9_filler_22 : decode cX9_filler 22 = .ok (.ldc 91, 2) := by decide +kernel
theorem dX9_filler_24 : decode cX9_filler 24 = .ok (.ireturn, 1) := by decide +kernel
def f_X9_filler (fu : Nat)  (x1 : Int32) (x2 : Int32) (m : Mem) : Option (Int32 × Mem) := doI (f_X9_areAsked fu x1 x2 m) (fun r_3 m_2 => if r_3 = 0 then (some ((-1000000001), m_2)) else (doI (f_X9_mostBy fu 4 0 60 1 x1 x2 m_2) (fun r_6 m_5 => some (r_6, m_5))))
set_option maxHeartbeats 4000000 in
set_option maxRecDepth 100000 in
theorem w_X9_filler {X : TX} {p : Program} {l : Launch} {e : Env} {s : State} {mi : MethodId} {args : Array Value} {below : List Frame} {meth : Method} {c : Code} {Q : State → Prop} {r : Int32} {mE : Mem} (C : Cx X p s mi args c RX9 cX9_filler 3) (hq : RetI X p l e (rmD 7) s mi args below meth c cX9_filler .int Q r mE) {fu : Nat} {x1 : Int32} {x2 : Int32} {m : Mem} {H : Heap} {locs : List Loc} {ls : Array Slot} (h : f_X9_filler fu x1 x2 m = some (r, mE))  (hW : Wd X s m H locs) (hl : lv_has ls 3 [(0, .ref (ad X 20 0)), (1, .int x1), (2, .int x2)]) : W p l e (rmD 7) s mi args below meth c H locs 0 0 Q (F0 mi 0 ls []) := by
  unfold f_X9_filler at h
  refine lv_iload_n C.1 C.2.1 dX9_filler_0 rfl (lv_at hl 1 rfl) ?_
  refine lv_iload_n C.1 C.2.1 dX9_filler_1 rfl (lv_at hl 2 rfl) ?_
  obtain ⟨r_3, m_2, hc_1, h⟩ := doI_E h
  refine zr_cSI C hW (c_X9_areAsked (x0 := x1) (x1 := x2) hc_1 ) k_X9_areAsked w_1293 ⟨Nat.le_of_ble_eq_true rfl, Nat.le_of_ble_eq_true rfl⟩ ⟨Nat.le_refl 0, Nat.le_refl 0⟩ rfl hl.1 rfl (Nat.le_of_ble_eq_true rfl) dX9_filler_2 (fun H locs hW => ?_)
  refine lv_if_eq (tgt := 22) C.1 C.2.1 dX9_filler_5 (by decide) (fun hc_7 => ?_) (fun hc_7 => ?_)
  · have h := ite_t hc_7 h
    refine lv_ldc C.1 C.2.1 C.2.2.2.1 (C.2.2.2.2.1 _ w_1123) dX9_filler_22 ?_
    exact ret_i h hq rfl hW dX9_filler_24
  · have h := ite_f hc_7 h
    refine lv_aload_n C.1 C.2.1 dX9_filler_8 rfl (lv_at hl 0 rfl) ?_
    refine lv_iconst (v := 4) C.1 C.2.1 dX9_filler_9 rfl ?_
    refine lv_iconst (v := 0) C.1 C.2.1 dX9_filler_10 rfl ?_
    refine lv_bipush (v := 60) C.1 C.2.1 dX9_filler_11 rfl ?_
    refine lv_iconst (v := 1) C.1 C.2.1 dX9_filler_13 rfl ?_
    refine lv_iload_n C.1 C.2.1 dX9_filler_14 rfl (lv_at hl 1 rfl) ?_
    refine lv_iload_n C.1 C.2.1 dX9_filler_15 rfl (lv_at hl 2 rfl) ?_
    obtain ⟨r_6, m_5, hc_4, h⟩ := doI_E h
    refine zr_cVI C hW (c_X9_mostBy (x1 := 4) (x2 := 0) (x3 := 60) (x4 := 1) (x5 := x1) (x6 := x2) hc_4 ) k_X9_mostBy (zr_recv C hW id_20 zco_20 rfl) w_1296 ⟨Nat.le_of_ble_eq_true rfl, Nat.le_of_ble_eq_true rfl⟩ ⟨Nat.le_refl 0, Nat.le_refl 0⟩ rfl hl.1 rfl (Nat.le_of_ble_eq_true rfl) dX9_filler_16 (fun H locs hW => ?_)
    refine lv_goto (tgt := 24) C.1 C.2.1 dX9_filler_19 (by decide) ?_
    exact ret_i h hq rfl hW dX9_filler_24
theorem c_X9_filler {X : TX} {l : Launch} {fu : Nat} {x1 : Int32} {x2 : Int32} {m mE : Mem} {r : Int32} (h : f_X9_filler fu x1 x2 m = some (r, mE))  : MetI X l yX9_filler cX9_filler 3 .int 7 [.ref (ad X 20 0), .int x1, .int x2] m r mE :=
  met_I (by decide) (Nat.le_of_ble_eq_true rfl) (fun p e s mi args below meth c ls Q C hq hW hl => w_X9_filler C hq h  hW (lv_sub hl [0, 1, 2] rfl))
theorem k_X9_filler : CalV yX9_filler cX9_filler 3 (some .int) RX9 2 := ⟨w_1305, w_1306, w_70, w_1307, by decide +kernel⟩
theorem dX9_becomes_0 : decode cX9_becomes 0 = .ok (.aload_n 0, 1) := by decide +kernel
theorem dX9_becomes_1 : decode cX9_becomes 1 = .ok (.iload_n 1, 1) := by decide +kernel
theorem dX9_becomes_2 : decode cX9_becomes 2 = .ok (.invokevirtual 101, 3) := by decide +kernel
theorem dX9_becomes_5 : decode cX9_becomes 5 = .ok (.ifCond .eq 30, 3) := by decide +kernel
theorem dX9_becomes_8 : decode cX9_becomes 8 = .ok (.iload_n 2, 1) := by decide +kernel
theorem dX9_becomes_9 : decode cX9_becomes 9 = .ok (.iload_n 3, 1) := by decide +kernel
theorem dX9_becomes_10 : decode cX9_becomes 10 = .ok (.invokestatic 181, 3) := by decide +kernel
theorem dX9_becomes_13 : decode cX9_becomes 13 = .ok (.ifCond .eq 22, 3) := by decide +kernel
theorem dX9_becomes_16 : decode cX9_becomes 16 = .ok (.aload_n 0, 1) := by decide +kernel
theorem dX9_becomes_17 : decode cX9_becomes 17 = .ok (.bipush 16, 2) := by decide +kernel
theorem dX9_becomes_19 : decode cX9_becomes 19 = .ok (.bipush 7, 2) := by decide +kernel
theorem dX9_becomes_21 : decode cX9_becomes 21 = .ok (.iload_n 1, 1) := by decide +kernel
theorem dX9_becomes_22 : decode cX9_becomes 22 = .ok (.imul, 1) := by decide +kernel
theorem dX9_becomes_23 : decode cX9_becomes 23 = .ok (.iadd, 1) := by decide +kernel
theorem dX9_becomes_24 : decode cX9_becomes 24 = .ok (.iconst 0, 1) := by decide +kernel
theorem dX9_becomes_25 : decode cX9_becomes 25 = .ok (.iconst 5, 1) := by decide +kernel
theorem dX9_becomes_26 : decode cX9_becomes 26 = .ok (.iconst 1, 1) := by decide +kernel
theorem dX9_becomes_27 : decode cX9_becomes 27 = .ok (.iload_n 2, 1) := by decide +kernel
theorem dX9_becomes_28 : decode cX9_becomes 28 = .ok (.iload_n 3, 1) := by decide +kernel
theorem dX9_becomes_29 : decode cX9_becomes 29 = .ok (.invokevirtual 184, 3) := by decide +kernel
theorem dX9_becomes_32 : decode cX9_becomes 32 = .ok (.goto 5, 3) := by decide +kernel
theorem dX9_becomes_35 : decode cX9_becomes 35 = .ok (.ldc 91, 2) := by decide +kernel
theorem dX9_becomes_37 : decode cX9_becomes 37 = .ok (.ireturn, 1) := by decide +kernel
def f_X9_becomes (fu : Nat)  (x1 : Int32) (x2 : Int32) (x3 : Int32) (m : Mem) : Option (Int32 × Mem) := doI (f_X9_isVoice fu x1 m) (fun r_3 m_2 => if r_3 = 0 then (some ((-1000000001), m_2)) else (doI (f_X9_areAsked fu x2 x3 m_2) (fun r_6 m_5 => if r_6 = 0 then (some ((-1000000001), m_5)) else (doI (f_X9_mostBy fu (16 + (7 * x1)) 0 5 1 x2 x3 m_5) (fun r_9 m_8 => some (r_9, m_8))))))
set_option maxHeartbeats 4000000 in
set_option maxRecDepth 100000 in
theorem w_X9_becomes {X : TX} {p : Program} {l : Launch} {e : Env} {s : State} {mi : MethodId} {args : Array Value} {below : List Frame} {meth : Method} {c : Code} {Q : State → Prop} {r : Int32} {mE : Mem} (C : Cx X p s mi args c RX9 cX9_becomes 4) (hq : RetI X p l e (rmD 7) s mi args below meth c cX9_becomes .int Q r mE) {fu : Nat} {x1 : Int32} {x2 : Int32} {x3 : Int32} {m : Mem} {H : Heap} {locs : List Loc} {ls : Array Slot} (h : f_X9_becomes fu x1 x2 x3 m = some (r, mE))  (hW : Wd X s m H locs) (hl : lv_has ls 4 [(0, .ref (ad X 20 0)), (1, .int x1), (2, .int x2), (3, .int x3)]) : W p l e (rmD 7) s mi args below meth c H locs 0 0 Q (F0 mi 0 ls []) := by
  unfold f_X9_becomes at h
  refine lv_aload_n C.1 C.2.1 dX9_becomes_0 rfl (lv_at hl 0 rfl) ?_
  refine lv_iload_n C.1 C.2.1 dX9_becomes_1 rfl (lv_at hl 1 rfl) ?_
  obtain ⟨r_3, m_2, hc_1, h⟩ := doI_E h
  refine zr_cVI C hW (c_X9_isVoice (x1 := x1) hc_1 ) k_X9_isVoice (zr_recv C hW id_20 zco_20 rfl) w_1137 ⟨Nat.le_of_ble_eq_true rfl, Nat.le_of_ble_eq_true rfl⟩ ⟨Nat.le_refl 0, Nat.le_refl 0⟩ rfl hl.1 rfl (Nat.le_of_ble_eq_true rfl) dX9_becomes_2 (fun H locs hW => ?_)
  refine lv_if_eq (tgt := 35) C.1 C.2.1 dX9_becomes_5 (by decide) (fun hc_11 => ?_) (fun hc_11 => ?_)
  · have h := ite_t hc_11 h
    refine lv_ldc C.1 C.2.1 C.2.2.2.1 (C.2.2.2.2.1 _ w_1123) dX9_becomes_35 ?_
    exact ret_i h hq rfl hW dX9_becomes_37
  · have h := ite_f hc_11 h
    refine lv_iload_n C.1 C.2.1 dX9_becomes_8 rfl (lv_at hl 2 rfl) ?_
    refine lv_iload_n C.1 C.2.1 dX9_becomes_9 rfl (lv_at hl 3 rfl) ?_
    obtain ⟨r_6, m_5, hc_4, h⟩ := doI_E h
    refine zr_cSI C hW (c_X9_areAsked (x0 := x2) (x1 := x3) hc_4 ) k_X9_areAsked w_1293 ⟨Nat.le_of_ble_eq_true rfl, Nat.le_of_ble_eq_true rfl⟩ ⟨Nat.le_refl 0, Nat.le_refl 0⟩ rfl hl.1 rfl (Nat.le_of_ble_eq_true rfl) dX9_becomes_10 (fun H locs hW => ?_)
    refine lv_if_eq (tgt := 35) C.1 C.2.1 dX9_becomes_13 (by decide) (fun hc_10 => ?_) (fun hc_10 => ?_)
    · have h := ite_t hc_10 h
      refine lv_ldc C.1 C.2.1 C.2.2.2.1 (C.2.2.2.2.1 _ w_1123) dX9_becomes_35 ?_
      exact ret_i h hq rfl hW dX9_becomes_37
    · have h := ite_f hc_10 h
      refine lv_aload_n C.1 C.2.1 dX9_becomes_16 rfl (lv_at hl 0 rfl) ?_
      refine lv_bipush (v := 16) C.1 C.2.1 dX9_becomes_17 rfl ?_
      refine lv_bipush (v := 7) C.1 C.2.1 dX9_becomes_19 rfl ?_
      refine lv_iload_n C.1 C.2.1 dX9_becomes_21 rfl (lv_at hl 1 rfl) ?_
      refine lv_imul C.1 C.2.1 dX9_becomes_22 ?_
      refine lv_iadd C.1 C.2.1 dX9_becomes_23 ?_
      refine lv_iconst (v := 0) C.1 C.2.1 dX9_becomes_24 rfl ?_
      refine lv_iconst (v := 5) C.1 C.2.1 dX9_becomes_25 rfl ?_
      refine lv_iconst (v := 1) C.1 C.2.1 dX9_becomes_26 rfl ?_
      refine lv_iload_n C.1 C.2.1 dX9_becomes_27 rfl (lv_at hl 2 rfl) ?_
      refine lv_iload_n C.1 C.2.1 dX9_becomes_28 rfl (lv_at hl 3 rfl) ?_
      obtain ⟨r_9, m_8, hc_7, h⟩ := doI_E h
      refine zr_cVI C hW (c_X9_mostBy (x1 := (16 + (7 * x1))) (x2 := 0) (x3 := 5) (x4 := 1) (x5 := x2) (x6 := x3) hc_7 ) k_X9_mostBy (zr_recv C hW id_20 zco_20 rfl) w_1296 ⟨Nat.le_of_ble_eq_true rfl, Nat.le_of_ble_eq_true rfl⟩ ⟨Nat.le_refl 0, Nat.le_refl 0⟩ rfl hl.1 rfl (Nat.le_of_ble_eq_true rfl) dX9_becomes_29 (fun H locs hW => ?_)
      refine lv_goto (tgt := 37) C.1 C.2.1 dX9_becomes_32 (by decide) ?_
      exact ret_i h hq rfl hW dX9_becomes_37
theorem c_X9_becomes {X : TX} {l : Launch} {fu : Nat} {x1 : Int32} {x2 : Int32} {x3 : Int32} {m mE : Mem} {r : Int32} (h : f_X9_becomes fu x1 x2 x3 m = some (r, mE))  : MetI X l yX9_becomes cX9_becomes 4 .int 7 [.ref (ad X 20 0), .int x1, .int x2, .int x3] m r mE :=
  met_I (by decide) (Nat.le_of_ble_eq_true rfl) (fun p e s mi args below meth c ls Q C hq hW hl => w_X9_becomes C hq h  hW (lv_sub hl [0, 1, 2, 3] rfl))
theorem k_X9_becomes : CalV yX9_becomes cX9_becomes 4 (some .int) RX9 3 := ⟨w_1309, w_1310, w_70, w_1311, by decide +kernel⟩
theorem dX9_apart_0 : decode cX9_apart 0 = .ok (.aload_n 0, 1) := by decide +kernel
theorem dX9_apart_1 : decode cX9_apart 1 = .ok (.iload_n 1, 1) := by decide +kernel
theorem dX9_apart_2 : decode cX9_apart 2 = .ok (.invokevirtual 101, 3) := by decide +kernel
theorem dX9_apart_5 : decode cX9_apart 5 = .ok (.ifCond .eq 26, 3) := by decide +kernel
theorem dX9_apart_8 : decode cX9_apart 8 = .ok (.aload_n 0, 1) := by decide +kernel
theorem dX9_apart_9 : decode cX9_apart 9 = .ok (.iload_n 2, 1) := by decide +kernel
theorem dX9_apart_10 : decode cX9_apart 10 = .ok (.invokevirtual 101, 3) := by decide +kernel
theorem dX9_apart_13 : decode cX9_apart 13 = .ok (.ifCond .eq 18, 3) := by decide +kernel
theorem dX9_apart_16 : decode cX9_apart 16 = .ok (.iload_n 1, 1) := by decide +kernel
theorem dX9_apart_17 : decode cX9_apart 17 = .ok (.iload_n 2, 1) := by decide +kernel
theorem dX9_apart_18 : decode cX9_apart 18 = .ok (.if_icmp .eq 13, 3) := by decide +kernel
theorem dX9_apart_21 : decode cX9_apart 21 = .ok (.iload_n 3, 1) := by decide +kernel
theorem dX9_apart_22 : decode cX9_apart 22 = .ok (.iconst 1, 1) := by decide +kernel
theorem dX9_apart_23 : decode cX9_apart 23 = .ok (.bipush 60, 2) := by decide +kernel
theorem dX9_apart_25 : decode cX9_apart 25 = .ok (.invokestatic 79, 3) := by decide +kernel
theorem dX9_apart_28 : decode cX9_apart 28 = .ok (.ifCond .ne 6, 3) := by decide +kernel
theorem dX9_apart_31 : decode cX9_apart 31 = .ok (.ldc 91, 2) := by decide +kernel
theorem dX9_apart_33 : decode cX9_apart 33 = .ok (.ireturn, 1) := by decide +kernel
theorem dX9_apart_34 : decode cX9_apart 34 = .ok (.aload_n 0, 1) := by decide +kernel
theorem dX9_apart_35 : decode cX9_apart 35 = .ok (.invokevirtual 171, 3) := by decide +kernel
theorem dX9_apart_38 : decode cX9_apart 38 = .ok (.iconst 0, 1) := by decide +kernel
theorem dX9_apart_39 : decode cX9_apart 39 = .ok (.istore 4, 2) := by decide +kernel
theorem dX9_apart_41 : decode cX9_apart 41 = .ok (.iload 4, 2) := by decide +kernel
theorem dX9_apart_43 : decode cX9_apart 43 = .ok (.bipush 20, 2) := by decide +kernel
theorem dX9_apart_45 : decode cX9_apart 45 = .ok (.if_icmp .gt 65, 3) := by decide +kernel
theorem dX9_apart_48 : decode cX9_apart 48 = .ok (.aload_n 0, 1) := by decide +kernel
theorem dX9_apart_49 : decode cX9_apart 49 = .ok (.iload_n 2, 1) := by decide +kernel
theorem dX9_apart_50 : decode cX9_apart 50 = .ok (.iconst 1, 1) := by decide +kernel
theorem dX9_apart_51 : decode cX9_apart 51 = .ok (.aload_n 0, 1) := by decide +kernel
theorem dX9_apart_52 : decode cX9_apart 52 = .ok (.iload_n 2, 1) := by decide +kernel
theorem dX9_apart_53 : decode cX9_apart 53 = .ok (.iconst 1, 1) := by decide +kernel
theorem dX9_apart_54 : decode cX9_apart 54 = .ok (.invokevirtual 97, 3) := by decide +kernel
theorem dX9_apart_57 : decode cX9_apart 57 = .ok (.iload 4, 2) := by decide +kernel
theorem dX9_apart_59 : decode cX9_apart 59 = .ok (.iadd, 1) := by decide +kernel
theorem dX9_apart_60 : decode cX9_apart 60 = .ok (.invokevirtual 83, 3) := by decide +kernel
theorem dX9_apart_63 : decode cX9_apart 63 = .ok (.aload_n 0, 1) := by decide +kernel
theorem dX9_apart_64 : decode cX9_apart 64 = .ok (.iload_n 3, 1) := by decide +kernel
theorem dX9_apart_65 : decode cX9_apart 65 = .ok (.invokevirtual 168, 3) := by decide +kernel
theorem dX9_apart_68 : decode cX9_apart 68 = .ok (.aload_n 0, 1) := by decide +kernel
theorem dX9_apart_69 : decode cX9_apart 69 = .ok (.getfield 9, 3) := by decide +kernel
theorem dX9_apart_72 : decode cX9_apart 72 = .ok (.bipush 11, 2) := by decide +kernel
theorem dX9_apart_74 : decode cX9_apart 74 = .ok (.iaload, 1) := by decide +kernel
theorem dX9_apart_75 : decode cX9_apart 75 = .ok (.aload_n 0, 1) := by decide +kernel
theorem dX9_apart_76 : decode cX9_apart 76 = .ok (.getfield 19, 3) := by decide +kernel
theorem dX9_apart_79 : decode cX9_apart 79 = .ok (.bipush 11, 2) := by decide +kernel
theorem dX9_apart_81 : decode cX9_apart 81 = .ok (.iaload, 1) := by decide +kernel
theorem dX9_apart_82 : decode cX9_apart 82 = .ok (.if_icmp .ne 7, 3) := by decide +kernel
theorem dX9_apart_85 : decode cX9_apart 85 = .ok (.iconst 1, 1) := by decide +kernel
theorem dX9_apart_86 : decode cX9_apart 86 = .ok (.goto 4, 3) := by decide +kernel
theorem dX9_apart_89 : decode cX9_apart 89 = .ok (.iconst 0, 1) := by decide +kernel
theorem dX9_apart_90 : decode cX9_apart 90 = .ok (.istore 5, 2) := by decide +kernel
theorem dX9_apart_92 : decode cX9_apart 92 = .ok (.aload_n 0, 1) := by decide +kernel
theorem dX9_apart_93 : decode cX9_apart 93 = .ok (.invokevirtual 174, 3) := by decide +kernel
theorem dX9_apart_96 : decode cX9_apart 96 = .ok (.iload 5, 2) := by decide +kernel
theorem dX9_apart_98 : decode cX9_apart 98 = .ok (.ifCond .eq 6, 3) := by decide +kernel
theorem dX9_apart_101 : decode cX9_apart 101 = .ok (.iload 4, 2) := by decide +kernel
theorem dX9_apart_103 : decode cX9_apart 103 = .ok (.ireturn, 1) := by decide +kernel
theorem dX9_apart_104 : decode cX9_apart 104 = .ok (.iinc 4 1, 3) := by decide +kernel
theorem dX9_apart_107 : decode cX9_apart 107 = .ok (.goto (-66), 3) := by decide +kernel
theorem dX9_apart_110 : decode cX9_apart 110 = .ok (.ldc 180, 2) := by decide +kernel
theorem dX9_apart_112 : decode cX9_apart 112 = .ok (.ireturn, 1) := by decide +kernel
def f_X9_apart_90 (fu : Nat) (k_41 : Int32 → Int32 → Int32 → Mem → Option (Int32 × Mem)) (x2 : Int32) (x3 : Int32) (x4 : Int32) (y0 : Int32) (m : Mem) : Option (Int32 × Mem) := doV (f_X9_putsBack fu  m) (fun m_2 => if y0 = 0 then (seqM (x4 + 1) (fun x_3 : Int32 => k_41 x2 x3 x_3 m_2)) else (some (x4, m_2)))
set_option maxHeartbeats 4000000 in
set_option maxRecDepth 100000 in
theorem w_X9_apart_90 {X : TX} {p : Program} {l : Launch} {e : Env} {s : State} {mi : MethodId} {args : Array Value} {below : List Frame} {meth : Method} {c : Code} {Q : State → Prop} {r : Int32} {mE : Mem} (C : Cx X p s mi args c RX9 cX9_apart 6) (hq : RetI X p l e (rmD 6) s mi args below meth c cX9_apart .int Q r mE) {fu : Nat} {k_41 : Int32 → Int32 → Int32 → Mem → Option (Int32 × Mem)} (hk_41 : ∀ {x2 : Int32} {x3 : Int32} {x4 : Int32} {m : Mem} {H : Heap} {locs : List Loc} {ls : Array Slot}, k_41 x2 x3 x4 m = some (r, mE) → Wd X s m H locs → lv_has ls 6 [(0, .ref (ad X 20 0)), (2, .int x2), (3, .int x3), (4, .int x4)] → W p l e (rmD 6) s mi args below meth c H locs 0 0 Q (F0 mi 41 ls [])) {x2 : Int32} {x3 : Int32} {x4 : Int32} {y0 : Int32} {m : Mem} {H : Heap} {locs : List Loc} {ls : Array Slot} (h : f_X9_apart_90 fu k_41 x2 x3 x4 y0 m = some (r, mE))  (hW : Wd X s m H locs) (hl : lv_has ls 6 [(0, .ref (ad X 20 0)), (2, .int x2), (3, .int x3), (4, .int x4)]) : W p l e (rmD 6) s mi args below meth c H locs 0 0 Q (F0 mi 90 ls [.int y0]) := by
  unfold f_X9_apart_90 at h
  refine lv_istore (lv' := [(5, .int y0), (0, .ref (ad X 20 0)), (2, .int x2), (3, .int x3), (4, .int x4)]) C.1 C.2.1 dX9_apart_90 hl (by decide) rfl (fun ls hl => ?_)
  refine lv_aload_n C.1 C.2.1 dX9_apart_92 rfl (lv_at hl 1 rfl) ?_
  obtain ⟨m_2, hc_1, h⟩ := doV_E h
  refine zr_cVV C hW (c_X9_putsBack  hc_1 ) k_X9_putsBack (zr_recv C hW id_20 zco_20 rfl) w_1272 ⟨Nat.le_of_ble_eq_true rfl, Nat.le_of_ble_eq_true rfl⟩ ⟨Nat.le_refl 0, Nat.le_refl 0⟩ rfl hl.1 rfl (Nat.le_of_ble_eq_true rfl) dX9_apart_93 (fun H locs hW => ?_)
  refine lv_iload C.1 C.2.1 dX9_apart_96 (lv_at hl 0 rfl) ?_
  refine lv_if_eq (tgt := 104) C.1 C.2.1 dX9_apart_98 (by decide) (fun hc_5 => ?_) (fun hc_5 => ?_)
  · have h := ite_t hc_5 h
    obtain ⟨x_3, e_4, h⟩ := seqM_E h
    refine lv_iinc (v := x_3) (lv' := [(4, .int x_3), (5, .int y0), (0, .ref (ad X 20 0)), (2, .int x2), (3, .int x3)]) C.1 C.2.1 dX9_apart_104 hl (k := 4) rfl (by rw [e_4]; rfl) (by decide) rfl (fun ls hl => ?_)
    refine lv_goto (tgt := 41) C.1 C.2.1 dX9_apart_107 (by decide) ?_
    exact hk_41 h  hW (lv_sub hl [2, 3, 4, 0] rfl)
  · have h := ite_f hc_5 h
    refine lv_iload C.1 C.2.1 dX9_apart_101 (lv_at hl 4 rfl) ?_
    exact ret_i h hq rfl hW dX9_apart_103
def f_X9_apart_41 (fu : Nat)  : Nat → Int32 → Int32 → Int32 → Mem → Option (Int32 × Mem)
  | 0, _, _, _, _ => none
  | n + 1, x2, x3, x4, m => if 20 < x4 then (some ((-1000000005), m)) else (doI (f_X9_of fu x2 1 m) (fun r_3 m_2 => doV (f_X9_put fu x2 1 (r_3 + x4) m_2) (fun m_5 => doV (f_X9_goesOn fu x3 m_5) (fun m_7 => if (m_7 ((4000 + 1500 * 0) + (11 : Int32).toNatClampNeg)) = (m_7 (3100 + (11 : Int32).toNatClampNeg)) then (f_X9_apart_90 fu (f_X9_apart_41 fu n) x2 x3 x4 1 m_7) else (f_X9_apart_90 fu (f_X9_apart_41 fu n) x2 x3 x4 0 m_7)))))
set_option maxHeartbeats 4000000 in
set_option maxRecDepth 100000 in
theorem w_X9_apart_41 {X : TX} {p : Program} {l : Launch} {e : Env} {s : State} {mi : MethodId} {args : Array Value} {below : List Frame} {meth : Method} {c : Code} {Q : State → Prop} {r : Int32} {mE : Mem} (C : Cx X p s mi args c RX9 cX9_apart 6) (hq : RetI X p l e (rmD 6) s mi args below meth c cX9_apart .int Q r mE) {fu : Nat} : ∀ (n : Nat) {x2 : Int32} {x3 : Int32} {x4 : Int32} {m : Mem} {H : Heap} {locs : List Loc} {ls : Array Slot}, f_X9_apart_41 fu n x2 x3 x4 m = some (r, mE) → Wd X s m H locs → lv_has ls 6 [(0, .ref (ad X 20 0)), (2, .int x2), (3, .int x3), (4, .int x4)] → W p l e (rmD 6) s mi args below meth c H locs 0 0 Q (F0 mi 41 ls []) := by
  intro n
  induction n with
  | zero =>
    intro x2 x3 x4 m H locs ls h hW hl
    rw [f_X9_apart_41] at h
    cases h
  | succ n ih =>
    intro x2 x3 x4 m H locs ls h hW hl
    rw [f_X9_apart_41] at h
    refine lv_iload C.1 C.2.1 dX9_apart_41 (lv_at hl 3 rfl) ?_
    refine lv_bipush (v := 20) C.1 C.2.1 dX9_apart_43 rfl ?_
    refine lv_icmp_gt (tgt := 110) C.1 C.2.1 dX9_apart_45 (by decide) (fun hc_9 => ?_) (fun hc_9 => ?_)
    · have h := ite_t hc_9 h
      refine lv_ldc C.1 C.2.1 C.2.2.2.1 (C.2.2.2.2.1 _ w_1284) dX9_apart_110 ?_
      exact ret_i h hq rfl hW dX9_apart_112
    · have h := ite_f hc_9 h
      refine lv_aload_n C.1 C.2.1 dX9_apart_48 rfl (lv_at hl 0 rfl) ?_
      refine lv_iload_n C.1 C.2.1 dX9_apart_49 rfl (lv_at hl 1 rfl) ?_
      refine lv_iconst (v := 1) C.1 C.2.1 dX9_apart_50 rfl ?_
      refine lv_aload_n C.1 C.2.1 dX9_apart_51 rfl (lv_at hl 0 rfl) ?_
      refine lv_iload_n C.1 C.2.1 dX9_apart_52 rfl (lv_at hl 1 rfl) ?_
      refine lv_iconst (v := 1) C.1 C.2.1 dX9_apart_53 rfl ?_
      obtain ⟨r_3, m_2, hc_1, h⟩ := doI_E h
      refine zr_cVI C hW (c_X9_of (x1 := x2) (x2 := 1) hc_1 ) k_X9_of (zr_recv C hW id_20 zco_20 rfl) w_1141 ⟨Nat.le_of_ble_eq_true rfl, Nat.le_of_ble_eq_true rfl⟩ ⟨Nat.le_refl 0, Nat.le_refl 0⟩ rfl hl.1 rfl (Nat.le_of_ble_eq_true rfl) dX9_apart_54 (fun H locs hW => ?_)
      refine lv_iload C.1 C.2.1 dX9_apart_57 (lv_at hl 3 rfl) ?_
      refine lv_iadd C.1 C.2.1 dX9_apart_59 ?_
      obtain ⟨m_5, hc_4, h⟩ := doV_E h
      refine zr_cVV C hW (c_X9_put (x1 := x2) (x2 := 1) (x3 := (r_3 + x4)) hc_4 ) k_X9_put (zr_recv C hW id_20 zco_20 rfl) w_1129 ⟨Nat.le_of_ble_eq_true rfl, Nat.le_of_ble_eq_true rfl⟩ ⟨Nat.le_refl 0, Nat.le_refl 0⟩ rfl hl.1 rfl (Nat.le_of_ble_eq_true rfl) dX9_apart_60 (fun H locs hW => ?_)
      refine lv_aload_n C.1 C.2.1 dX9_apart_63 rfl (lv_at hl 0 rfl) ?_
      refine lv_iload_n C.1 C.2.1 dX9_apart_64 rfl (lv_at hl 2 rfl) ?_
      obtain ⟨m_7, hc_6, h⟩ := doV_E h
      refine zr_cVV C hW (c_X9_goesOn (x1 := x3) hc_6 ) k_X9_goesOn (zr_recv C hW id_20 zco_20 rfl) w_1213 ⟨Nat.le_of_ble_eq_true rfl, Nat.le_of_ble_eq_true rfl⟩ ⟨Nat.le_refl 0, Nat.le_refl 0⟩ rfl hl.1 rfl (Nat.le_of_ble_eq_true rfl) dX9_apart_65 (fun H locs hW => ?_)
      refine lv_aload_n C.1 C.2.1 dX9_apart_68 rfl (lv_at hl 0 rfl) ?_
      refine zg_X9_now C hW id_20 w_1004 dX9_apart_69 ?_
      refine lv_bipush (v := 11) C.1 C.2.1 dX9_apart_72 rfl ?_
      refine zal_21 C hW id_21_0 (inb_E (by decide)) dX9_apart_74 ?_
      refine lv_aload_n C.1 C.2.1 dX9_apart_75 rfl (lv_at hl 0 rfl) ?_
      refine zg_X9_before C hW id_20 w_1009 dX9_apart_76 ?_
      refine lv_bipush (v := 11) C.1 C.2.1 dX9_apart_79 rfl ?_
      refine zal_22 C hW id_22 (inb_E (by decide)) dX9_apart_81 ?_
      refine lv_icmp_ne (tgt := 89) C.1 C.2.1 dX9_apart_82 (by decide) (fun hc_8 => ?_) (fun hc_8 => ?_)
      · have h := ite_f hc_8 h
        refine lv_iconst (v := 0) C.1 C.2.1 dX9_apart_89 rfl ?_
        exact w_X9_apart_90 C hq ih h  hW (lv_sub hl [0, 1, 2, 3] rfl)
      · have h := ite_t hc_8 h
        refine lv_iconst (v := 1) C.1 C.2.1 dX9_apart_85 rfl ?_
        refine lv_goto (tgt := 90) C.1 C.2.1 dX9_apart_86 (by decide) ?_
        exact w_X9_apart_90 C hq ih h  hW (lv_sub hl [0, 1, 2, 3] rfl)
def f_X9_apart (fu : Nat)  (x1 : Int32) (x2 : Int32) (x3 : Int32) (m : Mem) : Option (Int32 × Mem) := doI (f_X9_isVoice fu x1 m) (fun r_3 m_2 => if r_3 = 0 then (some ((-1000000001), m_2)) else (doI (f_X9_isVoice fu x2 m_2) (fun r_6 m_5 => if r_6 = 0 then (some ((-1000000001), m_5)) else (if x1 = x2 then (some ((-1000000001), m_5)) else (doI (f_X9_in fu x3 1 60 m_5) (fun r_9 m_8 => if r_9 = 0 then (some ((-1000000001), m_8)) else (doV (f_X9_thinks fu  m_8) (fun m_11 => f_X9_apart_41 fu fu x2 x3 0 m_11))))))))
set_option maxHeartbeats 4000000 in
set_option maxRecDepth 100000 in
theorem w_X9_apart {X : TX} {p : Program} {l : Launch} {e : Env} {s : State} {mi : MethodId} {args : Array Value} {below : List Frame} {meth : Method} {c : Code} {Q : State → Prop} {r : Int32} {mE : Mem} (C : Cx X p s mi args c RX9 cX9_apart 6) (hq : RetI X p l e (rmD 6) s mi args below meth c cX9_apart .int Q r mE) {fu : Nat} {x1 : Int32} {x2 : Int32} {x3 : Int32} {m : Mem} {H : Heap} {locs : List Loc} {ls : Array Slot} (h : f_X9_apart fu x1 x2 x3 m = some (r, mE))  (hW : Wd X s m H locs) (hl : lv_has ls 6 [(0, .ref (ad X 20 0)), (1, .int x1), (2, .int x2), (3, .int x3)]) : W p l e (rmD 6) s mi args below meth c H locs 0 0 Q (F0 mi 0 ls []) := by
  unfold f_X9_apart at h
  refine lv_aload_n C.1 C.2.1 dX9_apart_0 rfl (lv_at hl 0 rfl) ?_
  refine lv_iload_n C.1 C.2.1 dX9_apart_1 rfl (lv_at hl 1 rfl) ?_
  obtain ⟨r_3, m_2, hc_1, h⟩ := doI_E h
  refine zr_cVI C hW (c_X9_isVoice (x1 := x1) hc_1 ) k_X9_isVoice (zr_recv C hW id_20 zco_20 rfl) w_1137 ⟨Nat.le_of_ble_eq_true rfl, Nat.le_of_ble_eq_true rfl⟩ ⟨Nat.le_refl 0, Nat.le_refl 0⟩ rfl hl.1 rfl (Nat.le_of_ble_eq_true rfl) dX9_apart_2 (fun H locs hW => ?_)
  refine lv_if_eq (tgt := 31) C.1 C.2.1 dX9_apart_5 (by decide) (fun hc_15 => ?_) (fun hc_15 => ?_)
  · have h := ite_t hc_15 h
    refine lv_ldc C.1 C.2.1 C.2.2.2.1 (C.2.2.2.2.1 _ w_1123) dX9_apart_31 ?_
    exact ret_i h hq rfl hW dX9_apart_33
  · have h := ite_f hc_15 h
    refine lv_aload_n C.1 C.2.1 dX9_apart_8 rfl (lv_at hl 0 rfl) ?_
    refine lv_iload_n C.1 C.2.1 dX9_apart_9 rfl (lv_at hl 2 rfl) ?_
    obtain ⟨r_6, m_5, hc_4, h⟩ := doI_E h
    refine zr_cVI C hW (c_X9_isVoice (x1 := x2) hc_4 ) k_X9_isVoice (zr_recv C hW id_20 zco_20 rfl) w_1137 ⟨Nat.le_of_ble_eq_true rfl, Nat.le_of_ble_eq_true rfl⟩ ⟨Nat.le_refl 0, Nat.le_refl 0⟩ rfl hl.1 rfl (Nat.le_of_ble_eq_true rfl) dX9_apart_10 (fun H locs hW => ?_)
    refine lv_if_eq (tgt := 31) C.1 C.2.1 dX9_apart_13 (by decide) (fun hc_14 => ?_) (fun hc_14 => ?_)
    · have h := ite_t hc_14 h
      refine lv_ldc C.1 C.2.1 C.2.2.2.1 (C.2.2.2.2.1 _ w_1123) dX9_apart_31 ?_
      exact ret_i h hq rfl hW dX9_apart_33
    · have h := ite_f hc_14 h
      refine lv_iload_n C.1 C.2.1 dX9_apart_16 rfl (lv_at hl 1 rfl) ?_
      refine lv_iload_n C.1 C.2.1 dX9_apart_17 rfl (lv_at hl 2 rfl) ?_
      refine lv_icmp_eq (tgt := 31) C.1 C.2.1 dX9_apart_18 (by decide) (fun hc_13 => ?_) (fun hc_13 => ?_)
      · have h := ite_t hc_13 h
        refine lv_ldc C.1 C.2.1 C.2.2.2.1 (C.2.2.2.2.1 _ w_1123) dX9_apart_31 ?_
        exact ret_i h hq rfl hW dX9_apart_33
      · have h := ite_f hc_13 h
        refine lv_iload_n C.1 C.2.1 dX9_apart_21 rfl (lv_at hl 3 rfl) ?_
        refine lv_iconst (v := 1) C.1 C.2.1 dX9_apart_22 rfl ?_
        refine lv_bipush (v := 60) C.1 C.2.1 dX9_apart_23 rfl ?_
        obtain ⟨r_9, m_8, hc_7, h⟩ := doI_E h
        refine zr_cSI C hW (c_X9_in (x0 := x3) (x1 := 1) (x2 := 60) hc_7 ) k_X9_in w_1117 ⟨Nat.le_of_ble_eq_true rfl, Nat.le_of_ble_eq_true rfl⟩ ⟨Nat.le_refl 0, Nat.le_refl 0⟩ rfl hl.1 rfl (Nat.le_of_ble_eq_true rfl) dX9_apart_25 (fun H locs hW => ?_)
        refine lv_if_ne (tgt := 34) C.1 C.2.1 dX9_apart_28 (by decide) (fun hc_12 => ?_) (fun hc_12 => ?_)
        · have h := ite_f hc_12 h
          refine lv_aload_n C.1 C.2.1 dX9_apart_34 rfl (lv_at hl 0 rfl) ?_
          obtain ⟨m_11, hc_10, h⟩ := doV_E h
          refine zr_cVV C hW (c_X9_thinks  hc_10 ) k_X9_thinks (zr_recv C hW id_20 zco_20 rfl) w_1268 ⟨Nat.le_of_ble_eq_true rfl, Nat.le_of_ble_eq_true rfl⟩ ⟨Nat.le_refl 0, Nat.le_refl 0⟩ rfl hl.1 rfl (Nat.le_of_ble_eq_true rfl) dX9_apart_35 (fun H locs hW => ?_)
          refine lv_iconst (v := 0) C.1 C.2.1 dX9_apart_38 rfl ?_
          refine lv_istore (lv' := [(4, .int 0), (0, .ref (ad X 20 0)), (1, .int x1), (2, .int x2), (3, .int x3)]) C.1 C.2.1 dX9_apart_39 hl (by decide) rfl (fun ls hl => ?_)
          exact w_X9_apart_41 C hq  fu h  hW (lv_sub hl [1, 3, 4, 0] rfl)
        · have h := ite_t hc_12 h
          refine lv_ldc C.1 C.2.1 C.2.2.2.1 (C.2.2.2.2.1 _ w_1123) dX9_apart_31 ?_
          exact ret_i h hq rfl hW dX9_apart_33
theorem c_X9_apart {X : TX} {l : Launch} {fu : Nat} {x1 : Int32} {x2 : Int32} {x3 : Int32} {m mE : Mem} {r : Int32} (h : f_X9_apart fu x1 x2 x3 m = some (r, mE))  : MetI X l yX9_apart cX9_apart 6 .int 6 [.ref (ad X 20 0), .int x1, .int x2, .int x3] m r mE :=
  met_I (by decide) (Nat.le_of_ble_eq_true rfl) (fun p e s mi args below meth c ls Q C hq hW hl => w_X9_apart C hq h  hW (lv_sub hl [0, 1, 2, 3] rfl))
theorem k_X9_apart : CalV yX9_apart cX9_apart 6 (some .int) RX9 3 := ⟨w_1313, w_1314, w_70, w_1315, by decide +kernel⟩
theorem dX9_isSheet_0 : decode cX9_isSheet 0 = .ok (.iload_n 0, 1) := by decide +kernel
theorem dX9_isSheet_1 : decode cX9_isSheet 1 = .ok (.iconst 0, 1) := by decide +kernel
theorem dX9_isSheet_2 : decode cX9_isSheet 2 = .ok (.iconst 3, 1) := by decide +kernel
theorem dX9_isSheet_3 : decode cX9_isSheet 3 = .ok (.invokestatic 79, 3) := by decide +kernel
theorem dX9_isSheet_6 : decode cX9_isSheet 6 = .ok (.ireturn, 1) := by decide +kernel
def f_X9_isSheet (fu : Nat)  (x0 : Int32) (m : Mem) : Option (Int32 × Mem) := doI (f_X9_in fu x0 0 3 m) (fun r_3 m_2 => chk (isB r_3) (some (r_3, m_2)))
set_option maxHeartbeats 4000000 in
set_option maxRecDepth 100000 in
theorem w_X9_isSheet {X : TX} {p : Program} {l : Launch} {e : Env} {s : State} {mi : MethodId} {args : Array Value} {below : List Frame} {meth : Method} {c : Code} {Q : State → Prop} {r : Int32} {mE : Mem} (C : Cx X p s mi args c RX9 cX9_isSheet 1) (hq : RetI X p l e (rmD 1) s mi args below meth c cX9_isSheet .boolean Q r mE) {fu : Nat} {x0 : Int32} {m : Mem} {H : Heap} {locs : List Loc} {ls : Array Slot} (h : f_X9_isSheet fu x0 m = some (r, mE))  (hW : Wd X s m H locs) (hl : lv_has ls 1 [(0, .int x0)]) : W p l e (rmD 1) s mi args below meth c H locs 0 0 Q (F0 mi 0 ls []) := by
  unfold f_X9_isSheet at h
  refine lv_iload_n C.1 C.2.1 dX9_isSheet_0 rfl (lv_at hl 0 rfl) ?_
  refine lv_iconst (v := 0) C.1 C.2.1 dX9_isSheet_1 rfl ?_
  refine lv_iconst (v := 3) C.1 C.2.1 dX9_isSheet_2 rfl ?_
  obtain ⟨r_3, m_2, hc_1, h⟩ := doI_E h
  refine zr_cSI C hW (c_X9_in (x0 := x0) (x1 := 0) (x2 := 3) hc_1 ) k_X9_in w_1117 ⟨Nat.le_of_ble_eq_true rfl, Nat.le_of_ble_eq_true rfl⟩ ⟨Nat.le_refl 0, Nat.le_refl 0⟩ rfl hl.1 rfl (Nat.le_of_ble_eq_true rfl) dX9_isSheet_3 (fun H locs hW => ?_)
  obtain ⟨hb_4, h⟩ := chk_E h
  exact ret_i h hq (nar_B (isB_E hb_4)) hW dX9_isSheet_6
theorem c_X9_isSheet {X : TX} {l : Launch} {fu : Nat} {x0 : Int32} {m mE : Mem} {r : Int32} (h : f_X9_isSheet fu x0 m = some (r, mE))  : MetI X l yX9_isSheet cX9_isSheet 1 .boolean 1 [.int x0] m r mE :=
  met_I (by decide) (Nat.le_of_ble_eq_true rfl) (fun p e s mi args below meth c ls Q C hq hW hl => w_X9_isSheet C hq h  hW (lv_sub hl [0] rfl))
theorem k_X9_isSheet : CalS yX9_isSheet cX9_isSheet 1 (some .boolean) 1 := ⟨w_1321, w_70, w_1322, by decide +kernel⟩
theorem dX9_whose_0 : decode cX9_whose 0 = .ok (.iload_n 1, 1) := by decide +kernel
theorem dX9_whose_1 : decode cX9_whose 1 = .ok (.invokestatic 188, 3) := by decide +kernel
theorem dX9_whose_4 : decode cX9_whose 4 = .ok (.ifCond .eq 12, 3) := by decide +kernel
theorem dX9_whose_7 : decode cX9_whose 7 = .ok (.iload_n 2, 1) := by decide +kernel
theorem dX9_whose_8 : decode cX9_whose 8 = .ok (.iconst 0, 1) := by decide +kernel
theorem dX9_whose_9 : decode cX9_whose 9 = .ok (.iconst 1, 1) := by decide +kernel
theorem dX9_whose_10 : decode cX9_whose 10 = .ok (.invokestatic 79, 3) := by decide +kernel
theorem dX9_whose_13 : decode cX9_whose 13 = .ok (.ifCond .ne 6, 3) := by decide +kernel
theorem dX9_whose_16 : decode cX9_whose 16 = .ok (.ldc 91, 2) := by decide +kernel
theorem dX9_whose_18 : decode cX9_whose 18 = .ok (.ireturn, 1) := by decide +kernel
theorem dX9_whose_19 : decode cX9_whose 19 = .ok (.aload_n 0, 1) := by decide +kernel
theorem dX9_whose_20 : decode cX9_whose 20 = .ok (.getfield 52, 3) := by decide +kernel
theorem dX9_whose_23 : decode cX9_whose 23 = .ok (.iload_n 1, 1) := by decide +kernel
theorem dX9_whose_24 : decode cX9_whose 24 = .ok (.iaload, 1) := by decide +kernel
theorem dX9_whose_25 : decode cX9_whose 25 = .ok (.ifCond .ge 6, 3) := by decide +kernel
theorem dX9_whose_28 : decode cX9_whose 28 = .ok (.ldc 191, 2) := by decide +kernel
theorem dX9_whose_30 : decode cX9_whose 30 = .ok (.ireturn, 1) := by decide +kernel
theorem dX9_whose_31 : decode cX9_whose 31 = .ok (.aload_n 0, 1) := by decide +kernel
theorem dX9_whose_32 : decode cX9_whose 32 = .ok (.invokevirtual 171, 3) := by decide +kernel
theorem dX9_whose_35 : decode cX9_whose 35 = .ok (.aload_n 0, 1) := by decide +kernel
theorem dX9_whose_36 : decode cX9_whose 36 = .ok (.getfield 9, 3) := by decide +kernel
theorem dX9_whose_39 : decode cX9_whose 39 = .ok (.iconst 1, 1) := by decide +kernel
theorem dX9_whose_40 : decode cX9_whose 40 = .ok (.iaload, 1) := by decide +kernel
theorem dX9_whose_41 : decode cX9_whose 41 = .ok (.istore_n 3, 1) := by decide +kernel
theorem dX9_whose_42 : decode cX9_whose 42 = .ok (.iconst 0, 1) := by decide +kernel
theorem dX9_whose_43 : decode cX9_whose 43 = .ok (.istore 4, 2) := by decide +kernel
theorem dX9_whose_45 : decode cX9_whose 45 = .ok (.iload 4, 2) := by decide +kernel
theorem dX9_whose_47 : decode cX9_whose 47 = .ok (.iload_n 3, 1) := by decide +kernel
theorem dX9_whose_48 : decode cX9_whose 48 = .ok (.if_icmp .ge 17, 3) := by decide +kernel
theorem dX9_whose_51 : decode cX9_whose 51 = .ok (.aload_n 0, 1) := by decide +kernel
theorem dX9_whose_52 : decode cX9_whose 52 = .ok (.getfield 22, 3) := by decide +kernel
theorem dX9_whose_55 : decode cX9_whose 55 = .ok (.iload 4, 2) := by decide +kernel
theorem dX9_whose_57 : decode cX9_whose 57 = .ok (.lconst 0, 1) := by decide +kernel
theorem dX9_whose_58 : decode cX9_whose 58 = .ok (.lastore, 1) := by decide +kernel
theorem dX9_whose_59 : decode cX9_whose 59 = .ok (.iinc 4 1, 3) := by decide +kernel
theorem dX9_whose_62 : decode cX9_whose 62 = .ok (.goto (-17), 3) := by decide +kernel
theorem dX9_whose_65 : decode cX9_whose 65 = .ok (.iconst 0, 1) := by decide +kernel
theorem dX9_whose_66 : decode cX9_whose 66 = .ok (.istore 4, 2) := by decide +kernel
theorem dX9_whose_68 : decode cX9_whose 68 = .ok (.iload 4, 2) := by decide +kernel
theorem dX9_whose_70 : decode cX9_whose 70 = .ok (.aload_n 0, 1) := by decide +kernel
theorem dX9_whose_71 : decode cX9_whose 71 = .ok (.getfield 55, 3) := by decide +kernel
theorem dX9_whose_74 : decode cX9_whose 74 = .ok (.iload_n 1, 1) := by decide +kernel
theorem dX9_whose_75 : decode cX9_whose 75 = .ok (.iaload, 1) := by decide +kernel
theorem dX9_whose_76 : decode cX9_whose 76 = .ok (.if_icmp .ge 92, 3) := by decide +kernel
theorem dX9_whose_79 : decode cX9_whose 79 = .ok (.aload_n 0, 1) := by decide +kernel
theorem dX9_whose_80 : decode cX9_whose 80 = .ok (.getfield 58, 3) := by decide +kernel
theorem dX9_whose_83 : decode cX9_whose 83 = .ok (.bipush 24, 2) := by decide +kernel
theorem dX9_whose_85 : decode cX9_whose 85 = .ok (.iload_n 1, 1) := by decide +kernel
theorem dX9_whose_86 : decode cX9_whose 86 = .ok (.imul, 1) := by decide +kernel
theorem dX9_whose_87 : decode cX9_whose 87 = .ok (.iload 4, 2) := by decide +kernel
theorem dX9_whose_89 : decode cX9_whose 89 = .ok (.iadd, 1) := by decide +kernel
theorem dX9_whose_90 : decode cX9_whose 90 = .ok (.iaload, 1) := by decide +kernel
theorem dX9_whose_91 : decode cX9_whose 91 = .ok (.istore 5, 2) := by decide +kernel
theorem dX9_whose_93 : decode cX9_whose 93 = .ok (.iconst 0, 1) := by decide +kernel
theorem dX9_whose_94 : decode cX9_whose 94 = .ok (.istore 6, 2) := by decide +kernel
theorem dX9_whose_96 : decode cX9_whose 96 = .ok (.iload 6, 2) := by decide +kernel
theorem dX9_whose_98 : decode cX9_whose 98 = .ok (.iload_n 3, 1) := by decide +kernel
theorem dX9_whose_99 : decode cX9_whose 99 = .ok (.if_icmp .ge 59, 3) := by decide +kernel
theorem dX9_whose_102 : decode cX9_whose 102 = .ok (.iload 5, 2) := by decide +kernel
theorem dX9_whose_104 : decode cX9_whose 104 = .ok (.i2l, 1) := by decide +kernel
theorem dX9_whose_105 : decode cX9_whose 105 = .ok (.aload_n 0, 1) := by decide +kernel
theorem dX9_whose_106 : decode cX9_whose 106 = .ok (.iload 6, 2) := by decide +kernel
theorem dX9_whose_108 : decode cX9_whose 108 = .ok (.iconst 4, 1) := by decide +kernel
theorem dX9_whose_109 : decode cX9_whose 109 = .ok (.invokevirtual 97, 3) := by decide +kernel
theorem dX9_whose_112 : decode cX9_whose 112 = .ok (.i2l, 1) := by decide +kernel
theorem dX9_whose_113 : decode cX9_whose 113 = .ok (.lsub, 1) := by decide +kernel
theorem dX9_whose_114 : decode cX9_whose 114 = .ok (.lstore 7, 2) := by decide +kernel
theorem dX9_whose_116 : decode cX9_whose 116 = .ok (.aload_n 0, 1) := by decide +kernel
theorem dX9_whose_117 : decode cX9_whose 117 = .ok (.getfield 22, 3) := by decide +kernel
theorem dX9_whose_120 : decode cX9_whose 120 = .ok (.iload 6, 2) := by decide +kernel
theorem dX9_whose_122 : decode cX9_whose 122 = .ok (.dup2, 1) := by decide +kernel
theorem dX9_whose_123 : decode cX9_whose 123 = .ok (.laload, 1) := by decide +kernel
theorem dX9_whose_124 : decode cX9_whose 124 = .ok (.iload 5, 2) := by decide +kernel
theorem dX9_whose_126 : decode cX9_whose 126 = .ok (.ldc 180, 2) := by decide +kernel
theorem dX9_whose_128 : decode cX9_whose 128 = .ok (.if_icmp .ne 7, 3) := by decide +kernel
theorem dX9_whose_131 : decode cX9_whose 131 = .ok (.lconst 0, 1) := by decide +kernel
theorem dX9_whose_132 : decode cX9_whose 132 = .ok (.goto 18, 3) := by decide +kernel
theorem dX9_whose_135 : decode cX9_whose 135 = .ok (.lload 7, 2) := by decide +kernel
theorem dX9_whose_137 : decode cX9_whose 137 = .ok (.lconst 0, 1) := by decide +kernel
theorem dX9_whose_138 : decode cX9_whose 138 = .ok (.lcmp, 1) := by decide +kernel
theorem dX9_whose_139 : decode cX9_whose 139 = .ok (.ifCond .ge 9, 3) := by decide +kernel
theorem dX9_whose_142 : decode cX9_whose 142 = .ok (.lload 7, 2) := by decide +kernel
theorem dX9_whose_144 : decode cX9_whose 144 = .ok (.lneg, 1) := by decide +kernel
theorem dX9_whose_145 : decode cX9_whose 145 = .ok (.goto 5, 3) := by decide +kernel
theorem dX9_whose_148 : decode cX9_whose 148 = .ok (.lload 7, 2) := by decide +kernel
theorem dX9_whose_150 : decode cX9_whose 150 = .ok (.ladd, 1) := by decide +kernel
theorem dX9_whose_151 : decode cX9_whose 151 = .ok (.lastore, 1) := by decide +kernel
theorem dX9_whose_152 : decode cX9_whose 152 = .ok (.iinc 6 1, 3) := by decide +kernel
theorem dX9_whose_155 : decode cX9_whose 155 = .ok (.goto (-59), 3) := by decide +kernel
theorem dX9_whose_158 : decode cX9_whose 158 = .ok (.aload_n 0, 1) := by decide +kernel
theorem dX9_whose_159 : decode cX9_whose 159 = .ok (.invokevirtual 165, 3) := by decide +kernel
theorem dX9_whose_162 : decode cX9_whose 162 = .ok (.iinc 4 1, 3) := by decide +kernel
theorem dX9_whose_165 : decode cX9_whose 165 = .ok (.goto (-97), 3) := by decide +kernel
theorem dX9_whose_168 : decode cX9_whose 168 = .ok (.aload_n 0, 1) := by decide +kernel
theorem dX9_whose_169 : decode cX9_whose 169 = .ok (.invokevirtual 174, 3) := by decide +kernel
theorem dX9_whose_172 : decode cX9_whose 172 = .ok (.iconst 0, 1) := by decide +kernel
theorem dX9_whose_173 : decode cX9_whose 173 = .ok (.istore 4, 2) := by decide +kernel
theorem dX9_whose_175 : decode cX9_whose 175 = .ok (.iconst 1, 1) := by decide +kernel
theorem dX9_whose_176 : decode cX9_whose 176 = .ok (.istore 5, 2) := by decide +kernel
theorem dX9_whose_178 : decode cX9_whose 178 = .ok (.iload 5, 2) := by decide +kernel
theorem dX9_whose_180 : decode cX9_whose 180 = .ok (.iload_n 3, 1) := by decide +kernel
theorem dX9_whose_181 : decode cX9_whose 181 = .ok (.if_icmp .ge 36, 3) := by decide +kernel
theorem dX9_whose_184 : decode cX9_whose 184 = .ok (.aload_n 0, 1) := by decide +kernel
theorem dX9_whose_185 : decode cX9_whose 185 = .ok (.getfield 22, 3) := by decide +kernel
theorem dX9_whose_188 : decode cX9_whose 188 = .ok (.iload 5, 2) := by decide +kernel
theorem dX9_whose_190 : decode cX9_whose 190 = .ok (.laload, 1) := by decide +kernel
theorem dX9_whose_191 : decode cX9_whose 191 = .ok (.aload_n 0, 1) := by decide +kernel
theorem dX9_whose_192 : decode cX9_whose 192 = .ok (.getfield 22, 3) := by decide +kernel
theorem dX9_whose_195 : decode cX9_whose 195 = .ok (.iload 4, 2) := by decide +kernel
theorem dX9_whose_197 : decode cX9_whose 197 = .ok (.laload, 1) := by decide +kernel
theorem dX9_whose_198 : decode cX9_whose 198 = .ok (.lcmp, 1) := by decide +kernel
theorem dX9_whose_199 : decode cX9_whose 199 = .ok (.ifCond .ge 8, 3) := by decide +kernel
theorem dX9_whose_202 : decode cX9_whose 202 = .ok (.iload 5, 2) := by decide +kernel
theorem dX9_whose_204 : decode cX9_whose 204 = .ok (.goto 5, 3) := by decide +kernel
theorem dX9_whose_207 : decode cX9_whose 207 = .ok (.iload 4, 2) := by decide +kernel
theorem dX9_whose_209 : decode cX9_whose 209 = .ok (.istore 4, 2) := by decide +kernel
theorem dX9_whose_211 : decode cX9_whose 211 = .ok (.iinc 5 1, 3) := by decide +kernel
theorem dX9_whose_214 : decode cX9_whose 214 = .ok (.goto (-36), 3) := by decide +kernel
theorem dX9_whose_217 : decode cX9_whose 217 = .ok (.iload_n 3, 1) := by decide +kernel
theorem dX9_whose_218 : decode cX9_whose 218 = .ok (.ifCond .ne 8, 3) := by decide +kernel
theorem dX9_whose_221 : decode cX9_whose 221 = .ok (.ldc 180, 2) := by decide +kernel
theorem dX9_whose_223 : decode cX9_whose 223 = .ok (.goto 20, 3) := by decide +kernel
theorem dX9_whose_226 : decode cX9_whose 226 = .ok (.iload_n 2, 1) := by decide +kernel
theorem dX9_whose_227 : decode cX9_whose 227 = .ok (.ifCond .ne 8, 3) := by decide +kernel
theorem dX9_whose_230 : decode cX9_whose 230 = .ok (.iload 4, 2) := by decide +kernel
theorem dX9_whose_232 : decode cX9_whose 232 = .ok (.goto 11, 3) := by decide +kernel
theorem dX9_whose_235 : decode cX9_whose 235 = .ok (.aload_n 0, 1) := by decide +kernel
theorem dX9_whose_236 : decode cX9_whose 236 = .ok (.getfield 22, 3) := by decide +kernel
theorem dX9_whose_239 : decode cX9_whose 239 = .ok (.iload 4, 2) := by decide +kernel
theorem dX9_whose_241 : decode cX9_whose 241 = .ok (.laload, 1) := by decide +kernel
theorem dX9_whose_242 : decode cX9_whose 242 = .ok (.l2i, 1) := by decide +kernel
theorem dX9_whose_243 : decode cX9_whose 243 = .ok (.ireturn, 1) := by decide +kernel
def f_X9_whose_150 (fu : Nat) (k_68 : Int32 → Int32 → Int32 → Int32 → Mem → Option (Int32 × Mem)) (k_96 : Int32 → Int32 → Int32 → Int32 → Int32 → Int32 → Mem → Option (Int32 × Mem)) (x1 : Int32) (x2 : Int32) (x3 : Int32) (x4 : Int32) (x5 : Int32) (x6 : Int32) (y1 : Int32) (y2 : Int64) (y3 : Int64) (m : Mem) : Option (Int32 × Mem) := chk (inb y1 5) (seqM (updL m (3160 + 2 * y1.toNatClampNeg) (y2 + y3)) (fun m_2 : Mem => seqM (x6 + 1) (fun x_4 : Int32 => k_96 x1 x2 x3 x4 x5 x_4 m_2)))
set_option maxHeartbeats 4000000 in
set_option maxRecDepth 100000 in
theorem w_X9_whose_150 {X : TX} {p : Program} {l : Launch} {e : Env} {s : State} {mi : MethodId} {args : Array Value} {below : List Frame} {meth : Method} {c : Code} {Q : State → Prop} {r : Int32} {mE : Mem} (C : Cx X p s mi args c RX9 cX9_whose 9) (hq : RetI X p l e (rmD 5) s mi args below meth c cX9_whose .int Q r mE) {fu : Nat} {k_68 : Int32 → Int32 → Int32 → Int32 → Mem → Option (Int32 × Mem)} (hk_68 : ∀ {x1 : Int32} {x2 : Int32} {x3 : Int32} {x4 : Int32} {m : Mem} {H : Heap} {locs : List Loc} {ls : Array Slot}, k_68 x1 x2 x3 x4 m = some (r, mE) → Wd X s m H locs → lv_has ls 9 [(0, .ref (ad X 20 0)), (1, .int x1), (2, .int x2), (3, .int x3), (4, .int x4)] → W p l e (rmD 5) s mi args below meth c H locs 0 0 Q (F0 mi 68 ls [])) {k_96 : Int32 → Int32 → Int32 → Int32 → Int32 → Int32 → Mem → Option (Int32 × Mem)} (hk_96 : ∀ {x1 : Int32} {x2 : Int32} {x3 : Int32} {x4 : Int32} {x5 : Int32} {x6 : Int32} {m : Mem} {H : Heap} {locs : List Loc} {ls : Array Slot}, k_96 x1 x2 x3 x4 x5 x6 m = some (r, mE) → Wd X s m H locs → lv_has ls 9 [(0, .ref (ad X 20 0)), (1, .int x1), (2, .int x2), (3, .int x3), (4, .int x4), (5, .int x5), (6, .int x6)] → W p l e (rmD 5) s mi args below meth c H locs 0 0 Q (F0 mi 96 ls [])) {x1 : Int32} {x2 : Int32} {x3 : Int32} {x4 : Int32} {x5 : Int32} {x6 : Int32} {y1 : Int32} {y2 : Int64} {y3 : Int64} {m : Mem} {H : Heap} {locs : List Loc} {ls : Array Slot} (h : f_X9_whose_150 fu k_68 k_96 x1 x2 x3 x4 x5 x6 y1 y2 y3 m = some (r, mE))  (hW : Wd X s m H locs) (hl : lv_has ls 9 [(0, .ref (ad X 20 0)), (1, .int x1), (2, .int x2), (3, .int x3), (4, .int x4), (5, .int x5), (6, .int x6)]) : W p l e (rmD 5) s mi args below meth c H locs 0 0 Q (F0 mi 150 ls [.long y3, .long y2, .int y1, .ref (ad X 23 0)]) := by
  unfold f_X9_whose_150 at h
  refine lv_ladd C.1 C.2.1 dX9_whose_150 ?_
  obtain ⟨hb_1, h⟩ := chk_E h
  obtain ⟨m_2, e_3, h⟩ := seqM_E h
  refine zas_23 C hW id_23 (inb_E hb_1) e_3 dX9_whose_151 (fun H locs hW => ?_)
  obtain ⟨x_4, e_5, h⟩ := seqM_E h
  refine lv_iinc (v := x_4) (lv' := [(6, .int x_4), (0, .ref (ad X 20 0)), (1, .int x1), (2, .int x2), (3, .int x3), (4, .int x4), (5, .int x5)]) C.1 C.2.1 dX9_whose_152 hl (k := 6) rfl (by rw [e_5]; rfl) (by decide) rfl (fun ls hl => ?_)
  refine lv_goto (tgt := 96) C.1 C.2.1 dX9_whose_155 (by decide) ?_
  exact hk_96 h  hW (lv_sub hl [1, 2, 3, 4, 5, 6, 0] rfl)
def f_X9_whose_96 (fu : Nat) (k_68 : Int32 → Int32 → Int32 → Int32 → Mem → Option (Int32 × Mem)) : Nat → Int32 → Int32 → Int32 → Int32 → Int32 → Int32 → Mem → Option (Int32 × Mem)
  | 0, _, _, _, _, _, _, _ => none
  | n + 1, x1, x2, x3, x4, x5, x6, m => if x3 ≤ x6 then (doV (f_X9_tenth fu  m) (fun m_2 => seqM (x4 + 1) (fun x_3 : Int32 => k_68 x1 x2 x3 x_3 m_2))) else (doI (f_X9_of fu x6 4 m) (fun r_7 m_6 => seqM ((x5.toInt64) - (r_7.toInt64)) (fun z_8 : Int64 => chk (inb x6 5) (if x5 = (-1000000005) then (f_X9_whose_150 fu k_68 (f_X9_whose_96 fu k_68 n) x1 x2 x3 x4 x5 x6 x6 (comb (m_6 (3160 + 2 * x6.toNatClampNeg)) (m_6 (3160 + 2 * x6.toNatClampNeg + 1))) 0 m_6) else (if 0 ≤ (lg_cmp z_8 0) then (f_X9_whose_150 fu k_68 (f_X9_whose_96 fu k_68 n) x1 x2 x3 x4 x5 x6 x6 (comb (m_6 (3160 + 2 * x6.toNatClampNeg)) (m_6 (3160 + 2 * x6.toNatClampNeg + 1))) z_8 m_6) else (f_X9_whose_150 fu k_68 (f_X9_whose_96 fu k_68 n) x1 x2 x3 x4 x5 x6 x6 (comb (m_6 (3160 + 2 * x6.toNatClampNeg)) (m_6 (3160 + 2 * x6.toNatClampNeg + 1))) (-z_8) m_6))))))
set_option maxHeartbeats 4000000 in
set_option maxRecDepth 100000 in
theorem w_X9_whose_96 {X : TX} {p : Program} {l : Launch} {e : Env} {s : State} {mi : MethodId} {args : Array Value} {below : List Frame} {meth : Method} {c : Code} {Q : State → Prop} {r : Int32} {mE : Mem} (C : Cx X p s mi args c RX9 cX9_whose 9) (hq : RetI X p l e (rmD 5) s mi args below meth c cX9_whose .int Q r mE) {fu : Nat} {k_68 : Int32 → Int32 → Int32 → Int32 → Mem → Option (Int32 × Mem)} (hk_68 : ∀ {x1 : Int32} {x2 : Int32} {x3 : Int32} {x4 : Int32} {m : Mem} {H : Heap} {locs : List Loc} {ls : Array Slot}, k_68 x1 x2 x3 x4 m = some (r, mE) → Wd X s m H locs → lv_has ls 9 [(0, .ref (ad X 20 0)), (1, .int x1), (2, .int x2), (3, .int x3), (4, .int x4)] → W p l e (rmD 5) s mi args below meth c H locs 0 0 Q (F0 mi 68 ls [])) : ∀ (n : Nat) {x1 : Int32} {x2 : Int32} {x3 : Int32} {x4 : Int32} {x5 : Int32} {x6 : Int32} {m : Mem} {H : Heap} {locs : List Loc} {ls : Array Slot}, f_X9_whose_96 fu k_68 n x1 x2 x3 x4 x5 x6 m = some (r, mE) → Wd X s m H locs → lv_has ls 9 [(0, .ref (ad X 20 0)), (1, .int x1), (2, .int x2), (3, .int x3), (4, .int x4), (5, .int x5), (6, .int x6)] → W p l e (rmD 5) s mi args below meth c H locs 0 0 Q (F0 mi 96 ls []) := by
  intro n
  induction n with
  | zero =>
    intro x1 x2 x3 x4 x5 x6 m H locs ls h hW hl
    rw [f_X9_whose_96] at h
    cases h
  | succ n ih =>
    intro x1 x2 x3 x4 x5 x6 m H locs ls h hW hl
    rw [f_X9_whose_96] at h
    refine lv_iload C.1 C.2.1 dX9_whose_96 (lv_at hl 6 rfl) ?_
    refine lv_iload_n C.1 C.2.1 dX9_whose_98 rfl (lv_at hl 3 rfl) ?_
    refine lv_icmp_ge (tgt := 158) C.1 C.2.1 dX9_whose_99 (by decide) (fun hc_13 => ?_) (fun hc_13 => ?_)
    · have h := ite_t hc_13 h
      refine lv_aload_n C.1 C.2.1 dX9_whose_158 rfl (lv_at hl 0 rfl) ?_
      obtain ⟨m_2, hc_1, h⟩ := doV_E h
      refine zr_cVV C hW (c_X9_tenth  hc_1 ) k_X9_tenth (zr_recv C hW id_20 zco_20 rfl) w_1217 ⟨Nat.le_of_ble_eq_true rfl, Nat.le_of_ble_eq_true rfl⟩ ⟨Nat.le_refl 0, Nat.le_refl 0⟩ rfl hl.1 rfl (Nat.le_of_ble_eq_true rfl) dX9_whose_159 (fun H locs hW => ?_)
      obtain ⟨x_3, e_4, h⟩ := seqM_E h
      refine lv_iinc (v := x_3) (lv' := [(4, .int x_3), (0, .ref (ad X 20 0)), (1, .int x1), (2, .int x2), (3, .int x3), (5, .int x5), (6, .int x6)]) C.1 C.2.1 dX9_whose_162 hl (k := 4) rfl (by rw [e_4]; rfl) (by decide) rfl (fun ls hl => ?_)
      refine lv_goto (tgt := 68) C.1 C.2.1 dX9_whose_165 (by decide) ?_
      exact hk_68 h  hW (lv_sub hl [1, 2, 3, 4, 0] rfl)
    · have h := ite_f hc_13 h
      refine lv_iload C.1 C.2.1 dX9_whose_102 (lv_at hl 5 rfl) ?_
      refine lv_i2l (v := (x5.toInt64)) C.1 C.2.1 dX9_whose_104 rfl ?_
      refine lv_aload_n C.1 C.2.1 dX9_whose_105 rfl (lv_at hl 0 rfl) ?_
      refine lv_iload C.1 C.2.1 dX9_whose_106 (lv_at hl 6 rfl) ?_
      refine lv_iconst (v := 4) C.1 C.2.1 dX9_whose_108 rfl ?_
      obtain ⟨r_7, m_6, hc_5, h⟩ := doI_E h
      refine zr_cVI C hW (c_X9_of (x1 := x6) (x2 := 4) hc_5 ) k_X9_of (zr_recv C hW id_20 zco_20 rfl) w_1141 ⟨Nat.le_of_ble_eq_true rfl, Nat.le_of_ble_eq_true rfl⟩ ⟨Nat.le_refl 0, Nat.le_refl 0⟩ rfl hl.1 rfl (Nat.le_of_ble_eq_true rfl) dX9_whose_109 (fun H locs hW => ?_)
      refine lv_i2l (v := (r_7.toInt64)) C.1 C.2.1 dX9_whose_112 rfl ?_
      refine lv_lsub C.1 C.2.1 dX9_whose_113 ?_
      obtain ⟨z_8, e_9, h⟩ := seqM_E h
      refine lv_nameJ e_9 ?_
      refine lv_lstore (lv' := [(7, .long z_8), (0, .ref (ad X 20 0)), (1, .int x1), (2, .int x2), (3, .int x3), (4, .int x4), (5, .int x5), (6, .int x6)]) C.1 C.2.1 dX9_whose_114 hl (by decide) rfl (fun ls hl => ?_)
      refine lv_aload_n C.1 C.2.1 dX9_whose_116 rfl (lv_at hl 1 rfl) ?_
      refine zg_X9_differ C hW id_20 w_1010 dX9_whose_117 ?_
      refine lv_iload C.1 C.2.1 dX9_whose_120 (lv_at hl 7 rfl) ?_
      refine lv_dup2_11 C.1 C.2.1 dX9_whose_122 rfl rfl ?_
      obtain ⟨hb_10, h⟩ := chk_E h
      refine zal_23 C hW id_23 (inb_E hb_10) dX9_whose_123 ?_
      refine lv_iload C.1 C.2.1 dX9_whose_124 (lv_at hl 6 rfl) ?_
      refine lv_ldc C.1 C.2.1 C.2.2.2.1 (C.2.2.2.2.1 _ w_1284) dX9_whose_126 ?_
      refine lv_icmp_ne (tgt := 135) C.1 C.2.1 dX9_whose_128 (by decide) (fun hc_12 => ?_) (fun hc_12 => ?_)
      · have h := ite_f hc_12 h
        refine lv_lload C.1 C.2.1 dX9_whose_135 (lv_at hl 0 rfl) ?_
        refine lv_lconst (v := 0) C.1 C.2.1 dX9_whose_137 rfl ?_
        refine W.lcmp C.1 C.2.1 dX9_whose_138 ?_
        refine lv_if_ge (tgt := 148) C.1 C.2.1 dX9_whose_139 (by decide) (fun hc_11 => ?_) (fun hc_11 => ?_)
        · have h := ite_t hc_11 h
          refine lv_lload C.1 C.2.1 dX9_whose_148 (lv_at hl 0 rfl) ?_
          exact w_X9_whose_150 C hq hk_68 ih h  hW (lv_sub hl [1, 2, 3, 4, 5, 6, 7] rfl)
        · have h := ite_f hc_11 h
          refine lv_lload C.1 C.2.1 dX9_whose_142 (lv_at hl 0 rfl) ?_
          refine lv_lneg C.1 C.2.1 dX9_whose_144 ?_
          refine lv_goto (tgt := 150) C.1 C.2.1 dX9_whose_145 (by decide) ?_
          exact w_X9_whose_150 C hq hk_68 ih h  hW (lv_sub hl [1, 2, 3, 4, 5, 6, 7] rfl)
      · have h := ite_t hc_12 h
        refine lv_lconst (v := 0) C.1 C.2.1 dX9_whose_131 rfl ?_
        refine lv_goto (tgt := 150) C.1 C.2.1 dX9_whose_132 (by decide) ?_
        exact w_X9_whose_150 C hq hk_68 ih h  hW (lv_sub hl [1, 2, 3, 4, 5, 6, 7] rfl)
def f_X9_whose_209 (fu : Nat) (k_178 : Int32 → Int32 → Int32 → Int32 → Mem → Option (Int32 × Mem)) (x2 : Int32) (x3 : Int32) (x5 : Int32) (y0 : Int32) (m : Mem) : Option (Int32 × Mem) := seqM (x5 + 1) (fun x_1 : Int32 => k_178 x2 x3 y0 x_1 m)
set_option maxHeartbeats 4000000 in
set_option maxRecDepth 100000 in
theorem w_X9_whose_209 {X : TX} {p : Program} {l : Launch} {e : Env} {s : State} {mi : MethodId} {args : Array Value} {below : List Frame} {meth : Method} {c : Code} {Q : State → Prop} {r : Int32} {mE : Mem} (C : Cx X p s mi args c RX9 cX9_whose 9) (hq : RetI X p l e (rmD 5) s mi args below meth c cX9_whose .int Q r mE) {fu : Nat} {k_178 : Int32 → Int32 → Int32 → Int32 → Mem → Option (Int32 × Mem)} (hk_178 : ∀ {x2 : Int32} {x3 : Int32} {x4 : Int32} {x5 : Int32} {m : Mem} {H : Heap} {locs : List Loc} {ls : Array Slot}, k_178 x2 x3 x4 x5 m = some (r, mE) → Wd X s m H locs → lv_has ls 9 [(0, .ref (ad X 20 0)), (2, .int x2), (3, .int x3), (4, .int x4), (5, .int x5)] → W p l e (rmD 5) s mi args below meth c H locs 0 0 Q (F0 mi 178 ls [])) {x2 : Int32} {x3 : Int32} {x5 : Int32} {y0 : Int32} {m : Mem} {H : Heap} {locs : List Loc} {ls : Array Slot} (h : f_X9_whose_209 fu k_178 x2 x3 x5 y0 m = some (r, mE))  (hW : Wd X s m H locs) (hl : lv_has ls 9 [(0, .ref (ad X 20 0)), (2, .int x2), (3, .int x3), (5, .int x5)]) : W p l e (rmD 5) s mi args below meth c H locs 0 0 Q (F0 mi 209 ls [.int y0]) := by
  unfold f_X9_whose_209 at h
  refine lv_istore (lv' := [(4, .int y0), (0, .ref (ad X 20 0)), (2, .int x2), (3, .int x3), (5, .int x5)]) C.1 C.2.1 dX9_whose_209 hl (by decide) rfl (fun ls hl => ?_)
  obtain ⟨x_1, e_2, h⟩ := seqM_E h
  refine lv_iinc (v := x_1) (lv' := [(5, .int x_1), (4, .int y0), (0, .ref (ad X 20 0)), (2, .int x2), (3, .int x3)]) C.1 C.2.1 dX9_whose_211 hl (k := 4) rfl (by rw [e_2]; rfl) (by decide) rfl (fun ls hl => ?_)
  refine lv_goto (tgt := 178) C.1 C.2.1 dX9_whose_214 (by decide) ?_
  exact hk_178 h  hW (lv_sub hl [2, 3, 4, 1, 0] rfl)
def f_X9_whose_178 (fu : Nat)  : Nat → Int32 → Int32 → Int32 → Int32 → Mem → Option (Int32 × Mem)
  | 0, _, _, _, _, _ => none
  | n + 1, x2, x3, x4, x5, m => if x3 ≤ x5 then (if x3 = 0 then (some ((-1000000005), m)) else (if x2 = 0 then (some (x4, m)) else (chk (inb x4 5) (some (((comb (m (3160 + 2 * x4.toNatClampNeg)) (m (3160 + 2 * x4.toNatClampNeg + 1))).toInt32), m))))) else (chk (inb x5 5) (chk (inb x4 5) (if 0 ≤ (lg_cmp (comb (m (3160 + 2 * x5.toNatClampNeg)) (m (3160 + 2 * x5.toNatClampNeg + 1))) (comb (m (3160 + 2 * x4.toNatClampNeg)) (m (3160 + 2 * x4.toNatClampNeg + 1)))) then (f_X9_whose_209 fu (f_X9_whose_178 fu n) x2 x3 x5 x4 m) else (f_X9_whose_209 fu (f_X9_whose_178 fu n) x2 x3 x5 x5 m))))
set_option maxHeartbeats 4000000 in
set_option maxRecDepth 100000 in
theorem w_X9_whose_178 {X : TX} {p : Program} {l : Launch} {e : Env} {s : State} {mi : MethodId} {args : Array Value} {below : List Frame} {meth : Method} {c : Code} {Q : State → Prop} {r : Int32} {mE : Mem} (C : Cx X p s mi args c RX9 cX9_whose 9) (hq : RetI X p l e (rmD 5) s mi args below meth c cX9_whose .int Q r mE) {fu : Nat} : ∀ (n : Nat) {x2 : Int32} {x3 : Int32} {x4 : Int32} {x5 : Int32} {m : Mem} {H : Heap} {locs : List Loc} {ls : Array Slot}, f_X9_whose_178 fu n x2 x3 x4 x5 m = some (r, mE) → Wd X s m H locs → lv_has ls 9 [(0, .ref (ad X 20 0)), (2, .int x2), (3, .int x3), (4, .int x4), (5, .int x5)] → W p l e (rmD 5) s mi args below meth c H locs 0 0 Q (F0 mi 178 ls []) := by
  intro n
  induction n with
  | zero =>
    intro x2 x3 x4 x5 m H locs ls h hW hl
    rw [f_X9_whose_178] at h
    cases h
  | succ n ih =>
    intro x2 x3 x4 x5 m H locs ls h hW hl
    rw [f_X9_whose_178] at h
    refine lv_iload C.1 C.2.1 dX9_whose_178 (lv_at hl 4 rfl) ?_
    refine lv_iload_n C.1 C.2.1 dX9_whose_180 rfl (lv_at hl 2 rfl) ?_
    refine lv_icmp_ge (tgt := 217) C.1 C.2.1 dX9_whose_181 (by decide) (fun hc_7 => ?_) (fun hc_7 => ?_)
    · have h := ite_t hc_7 h
      refine lv_iload_n C.1 C.2.1 dX9_whose_217 rfl (lv_at hl 2 rfl) ?_
      refine lv_if_ne (tgt := 226) C.1 C.2.1 dX9_whose_218 (by decide) (fun hc_3 => ?_) (fun hc_3 => ?_)
      · have h := ite_f hc_3 h
        refine lv_iload_n C.1 C.2.1 dX9_whose_226 rfl (lv_at hl 1 rfl) ?_
        refine lv_if_ne (tgt := 235) C.1 C.2.1 dX9_whose_227 (by decide) (fun hc_2 => ?_) (fun hc_2 => ?_)
        · have h := ite_f hc_2 h
          refine lv_aload_n C.1 C.2.1 dX9_whose_235 rfl (lv_at hl 0 rfl) ?_
          refine zg_X9_differ C hW id_20 w_1010 dX9_whose_236 ?_
          refine lv_iload C.1 C.2.1 dX9_whose_239 (lv_at hl 3 rfl) ?_
          obtain ⟨hb_1, h⟩ := chk_E h
          refine zal_23 C hW id_23 (inb_E hb_1) dX9_whose_241 ?_
          refine lv_l2i (v := ((comb (m (3160 + 2 * x4.toNatClampNeg)) (m (3160 + 2 * x4.toNatClampNeg + 1))).toInt32)) C.1 C.2.1 dX9_whose_242 rfl ?_
          exact ret_i h hq rfl hW dX9_whose_243
        · have h := ite_t hc_2 h
          refine lv_iload C.1 C.2.1 dX9_whose_230 (lv_at hl 3 rfl) ?_
          refine lv_goto (tgt := 243) C.1 C.2.1 dX9_whose_232 (by decide) ?_
          exact ret_i h hq rfl hW dX9_whose_243
      · have h := ite_t hc_3 h
        refine lv_ldc C.1 C.2.1 C.2.2.2.1 (C.2.2.2.2.1 _ w_1284) dX9_whose_221 ?_
        refine lv_goto (tgt := 243) C.1 C.2.1 dX9_whose_223 (by decide) ?_
        exact ret_i h hq rfl hW dX9_whose_243
    · have h := ite_f hc_7 h
      refine lv_aload_n C.1 C.2.1 dX9_whose_184 rfl (lv_at hl 0 rfl) ?_
      refine zg_X9_differ C hW id_20 w_1010 dX9_whose_185 ?_
      refine lv_iload C.1 C.2.1 dX9_whose_188 (lv_at hl 4 rfl) ?_
      obtain ⟨hb_4, h⟩ := chk_E h
      refine zal_23 C hW id_23 (inb_E hb_4) dX9_whose_190 ?_
      refine lv_aload_n C.1 C.2.1 dX9_whose_191 rfl (lv_at hl 0 rfl) ?_
      refine zg_X9_differ C hW id_20 w_1010 dX9_whose_192 ?_
      refine lv_iload C.1 C.2.1 dX9_whose_195 (lv_at hl 3 rfl) ?_
      obtain ⟨hb_5, h⟩ := chk_E h
      refine zal_23 C hW id_23 (inb_E hb_5) dX9_whose_197 ?_
      refine W.lcmp C.1 C.2.1 dX9_whose_198 ?_
      refine lv_if_ge (tgt := 207) C.1 C.2.1 dX9_whose_199 (by decide) (fun hc_6 => ?_) (fun hc_6 => ?_)
      · have h := ite_t hc_6 h
        refine lv_iload C.1 C.2.1 dX9_whose_207 (lv_at hl 3 rfl) ?_
        exact w_X9_whose_209 C hq ih h  hW (lv_sub hl [0, 1, 2, 4] rfl)
      · have h := ite_f hc_6 h
        refine lv_iload C.1 C.2.1 dX9_whose_202 (lv_at hl 4 rfl) ?_
        refine lv_goto (tgt := 209) C.1 C.2.1 dX9_whose_204 (by decide) ?_
        exact w_X9_whose_209 C hq ih h  hW (lv_sub hl [0, 1, 2, 4] rfl)
def f_X9_whose_68 (fu : Nat)  : Nat → Int32 → Int32 → Int32 → Int32 → Mem → Option (Int32 × Mem)
  | 0, _, _, _, _, _ => none
  | n + 1, x1, x2, x3, x4, m => chk (inb x1 4) (if (m (3820 + x1.toNatClampNeg)) ≤ x4 then (doV (f_X9_putsBack fu  m) (fun m_3 => f_X9_whose_178 fu fu x2 x3 0 1 m_3)) else (chk (inb ((24 * x1) + x4) 96) (seqM (m (3830 + ((24 * x1) + x4).toNatClampNeg)) (fun x_5 : Int32 => f_X9_whose_96 fu (f_X9_whose_68 fu n) fu x1 x2 x3 x4 x_5 0 m))))
set_option maxHeartbeats 4000000 in
set_option maxRecDepth 100000 in
theorem w_X9_whose_68 {X : TX} {p : Program} {l : Launch} {e : Env} {s : State} {mi : MethodId} {args : Array Value} {below : List Frame} {meth : Method} {c : Code} {Q : State → Prop} {r : Int32} {mE : Mem} (C : Cx X p s mi args c RX9 cX9_whose 9) (hq : RetI X p l e (rmD 5) s mi args below meth c cX9_whose .int Q r mE) {fu : Nat} : ∀ (n : Nat) {x1 : Int32} {x2 : Int32} {x3 : Int32} {x4 : Int32} {m : Mem} {H : Heap} {locs : List Loc} {ls : Array Slot}, f_X9_whose_68 fu n x1 x2 x3 x4 m = some (r, mE) → Wd X s m H locs → lv_has ls 9 [(0, .ref (ad X 20 0)), (1, .int x1), (2, .int x2), (3, .int x3), (4, .int x4)] → W p l e (rmD 5) s mi args below meth c H locs 0 0 Q (F0 mi 68 ls []) := by
  intro n
  induction n with
  | zero =>
    intro x1 x2 x3 x4 m H locs ls h hW hl
    rw [f_X9_whose_68] at h
    cases h
  | succ n ih =>
    intro x1 x2 x3 x4 m H locs ls h hW hl
    rw [f_X9_whose_68] at h
    refine lv_iload C.1 C.2.1 dX9_whose_68 (lv_at hl 4 rfl) ?_
    refine lv_aload_n C.1 C.2.1 dX9_whose_70 rfl (lv_at hl 0 rfl) ?_
    refine zg_X9_sizes C hW id_20 w_1030 dX9_whose_71 ?_
    refine lv_iload_n C.1 C.2.1 dX9_whose_74 rfl (lv_at hl 1 rfl) ?_
    obtain ⟨hb_1, h⟩ := chk_E h
    refine zal_33 C hW id_33 (inb_E hb_1) dX9_whose_75 ?_
    refine lv_icmp_ge (tgt := 168) C.1 C.2.1 dX9_whose_76 (by decide) (fun hc_7 => ?_) (fun hc_7 => ?_)
    · have h := ite_t hc_7 h
      refine lv_aload_n C.1 C.2.1 dX9_whose_168 rfl (lv_at hl 0 rfl) ?_
      obtain ⟨m_3, hc_2, h⟩ := doV_E h
      refine zr_cVV C hW (c_X9_putsBack  hc_2 ) k_X9_putsBack (zr_recv C hW id_20 zco_20 rfl) w_1272 ⟨Nat.le_of_ble_eq_true rfl, Nat.le_of_ble_eq_true rfl⟩ ⟨Nat.le_refl 0, Nat.le_refl 0⟩ rfl hl.1 rfl (Nat.le_of_ble_eq_true rfl) dX9_whose_169 (fun H locs hW => ?_)
      refine lv_iconst (v := 0) C.1 C.2.1 dX9_whose_172 rfl ?_
      refine lv_istore (lv' := [(4, .int 0), (0, .ref (ad X 20 0)), (1, .int x1), (2, .int x2), (3, .int x3)]) C.1 C.2.1 dX9_whose_173 hl (by decide) rfl (fun ls hl => ?_)
      refine lv_iconst (v := 1) C.1 C.2.1 dX9_whose_175 rfl ?_
      refine lv_istore (lv' := [(5, .int 1), (4, .int 0), (0, .ref (ad X 20 0)), (1, .int x1), (2, .int x2), (3, .int x3)]) C.1 C.2.1 dX9_whose_176 hl (by decide) rfl (fun ls hl => ?_)
      exact w_X9_whose_178 C hq  fu h  hW (lv_sub hl [2, 4, 5, 1, 0] rfl)
    · have h := ite_f hc_7 h
      refine lv_aload_n C.1 C.2.1 dX9_whose_79 rfl (lv_at hl 0 rfl) ?_
      refine zg_X9_cells C hW id_20 w_1031 dX9_whose_80 ?_
      refine lv_bipush (v := 24) C.1 C.2.1 dX9_whose_83 rfl ?_
      refine lv_iload_n C.1 C.2.1 dX9_whose_85 rfl (lv_at hl 1 rfl) ?_
      refine lv_imul C.1 C.2.1 dX9_whose_86 ?_
      refine lv_iload C.1 C.2.1 dX9_whose_87 (lv_at hl 4 rfl) ?_
      refine lv_iadd C.1 C.2.1 dX9_whose_89 ?_
      obtain ⟨hb_4, h⟩ := chk_E h
      refine zal_34 C hW id_34 (inb_E hb_4) dX9_whose_90 ?_
      obtain ⟨x_5, e_6, h⟩ := seqM_E h
      refine lv_name e_6 ?_
      refine lv_istore (lv' := [(5, .int x_5), (0, .ref (ad X 20 0)), (1, .int x1), (2, .int x2), (3, .int x3), (4, .int x4)]) C.1 C.2.1 dX9_whose_91 hl (by decide) rfl (fun ls hl => ?_)
      refine lv_iconst (v := 0) C.1 C.2.1 dX9_whose_93 rfl ?_
      refine lv_istore (lv' := [(6, .int 0), (5, .int x_5), (0, .ref (ad X 20 0)), (1, .int x1), (2, .int x2), (3, .int x3), (4, .int x4)]) C.1 C.2.1 dX9_whose_94 hl (by decide) rfl (fun ls hl => ?_)
      exact w_X9_whose_96 C hq ih fu h  hW (lv_sub hl [2, 3, 4, 5, 6, 1, 0] rfl)
def f_X9_whose_45 (fu : Nat)  : Nat → Int32 → Int32 → Int32 → Int32 → Mem → Option (Int32 × Mem)
  | 0, _, _, _, _, _ => none
  | n + 1, x1, x2, x3, x4, m => if x3 ≤ x4 then (f_X9_whose_68 fu fu x1 x2 x3 0 m) else (chk (inb x4 5) (seqM (updL m (3160 + 2 * x4.toNatClampNeg) 0) (fun m_2 : Mem => seqM (x4 + 1) (fun x_4 : Int32 => f_X9_whose_45 fu n x1 x2 x3 x_4 m_2))))
set_option maxHeartbeats 4000000 in
set_option maxRecDepth 100000 in
theorem w_X9_whose_45 {X : TX} {p : Program} {l : Launch} {e : Env} {s : State} {mi : MethodId} {args : Array Value} {below : List Frame} {meth : Method} {c : Code} {Q : State → Prop} {r : Int32} {mE : Mem} (C : Cx X p s mi args c RX9 cX9_whose 9) (hq : RetI X p l e (rmD 5) s mi args below meth c cX9_whose .int Q r mE) {fu : Nat} : ∀ (n : Nat) {x1 : Int32} {x2 : Int32} {x3 : Int32} {x4 : Int32} {m : Mem} {H : Heap} {locs : List Loc} {ls : Array Slot}, f_X9_whose_45 fu n x1 x2 x3 x4 m = some (r, mE) → Wd X s m H locs → lv_has ls 9 [(0, .ref (ad X 20 0)), (1, .int x1), (2, .int x2), (3, .int x3), (4, .int x4)] → W p l e (rmD 5) s mi args below meth c H locs 0 0 Q (F0 mi 45 ls []) := by
  intro n
  induction n with
  | zero =>
    intro x1 x2 x3 x4 m H locs ls h hW hl
    rw [f_X9_whose_45] at h
    cases h
  | succ n ih =>
    intro x1 x2 x3 x4 m H locs ls h hW hl
    rw [f_X9_whose_45] at h
    refine lv_iload C.1 C.2.1 dX9_whose_45 (lv_at hl 4 rfl) ?_
    refine lv_iload_n C.1 C.2.1 dX9_whose_47 rfl (lv_at hl 3 rfl) ?_
    refine lv_icmp_ge (tgt := 65) C.1 C.2.1 dX9_whose_48 (by decide) (fun hc_6 => ?_) (fun hc_6 => ?_)
    · have h := ite_t hc_6 h
      refine lv_iconst (v := 0) C.1 C.2.1 dX9_whose_65 rfl ?_
      refine lv_istore (lv' := [(4, .int 0), (0, .ref (ad X 20 0)), (1, .int x1), (2, .int x2), (3, .int x3)]) C.1 C.2.1 dX9_whose_66 hl (by decide) rfl (fun ls hl => ?_)
      exact w_X9_whose_68 C hq  fu h  hW (lv_sub hl [1, 2, 3, 4, 0] rfl)
    · have h := ite_f hc_6 h
      refine lv_aload_n C.1 C.2.1 dX9_whose_51 rfl (lv_at hl 0 rfl) ?_
      refine zg_X9_differ C hW id_20 w_1010 dX9_whose_52 ?_
      refine lv_iload C.1 C.2.1 dX9_whose_55 (lv_at hl 4 rfl) ?_
      refine lv_lconst (v := 0) C.1 C.2.1 dX9_whose_57 rfl ?_
      obtain ⟨hb_1, h⟩ := chk_E h
      obtain ⟨m_2, e_3, h⟩ := seqM_E h
      refine zas_23 C hW id_23 (inb_E hb_1) e_3 dX9_whose_58 (fun H locs hW => ?_)
      obtain ⟨x_4, e_5, h⟩ := seqM_E h
      refine lv_iinc (v := x_4) (lv' := [(4, .int x_4), (0, .ref (ad X 20 0)), (1, .int x1), (2, .int x2), (3, .int x3)]) C.1 C.2.1 dX9_whose_59 hl (k := 4) rfl (by rw [e_5]; rfl) (by decide) rfl (fun ls hl => ?_)
      refine lv_goto (tgt := 45) C.1 C.2.1 dX9_whose_62 (by decide) ?_
      exact ih h  hW (lv_sub hl [1, 2, 3, 4, 0] rfl)
def f_X9_whose (fu : Nat)  (x1 : Int32) (x2 : Int32) (m : Mem) : Option (Int32 × Mem) := doI (f_X9_isSheet fu x1 m) (fun r_3 m_2 => if r_3 = 0 then (some ((-1000000001), m_2)) else (doI (f_X9_in fu x2 0 1 m_2) (fun r_6 m_5 => if r_6 = 0 then (some ((-1000000001), m_5)) else (chk (inb x1 4) (if 0 ≤ (m_5 (3810 + x1.toNatClampNeg)) then (doV (f_X9_thinks fu  m_5) (fun m_9 => seqM (m_9 ((4000 + 1500 * 0) + (1 : Int32).toNatClampNeg)) (fun x_10 : Int32 => f_X9_whose_45 fu fu x1 x2 x_10 0 m_9))) else (some ((-1000000011), m_5)))))))
set_option maxHeartbeats 4000000 in
set_option maxRecDepth 100000 in
theorem w_X9_whose {X : TX} {p : Program} {l : Launch} {e : Env} {s : State} {mi : MethodId} {args : Array Value} {below : List Frame} {meth : Method} {c : Code} {Q : State → Prop} {r : Int32} {mE : Mem} (C : Cx X p s mi args c RX9 cX9_whose 9) (hq : RetI X p l e (rmD 5) s mi args below meth c cX9_whose .int Q r mE) {fu : Nat} {x1 : Int32} {x2 : Int32} {m : Mem} {H : Heap} {locs : List Loc} {ls : Array Slot} (h : f_X9_whose fu x1 x2 m = some (r, mE))  (hW : Wd X s m H locs) (hl : lv_has ls 9 [(0, .ref (ad X 20 0)), (1, .int x1), (2, .int x2)]) : W p l e (rmD 5) s mi args below meth c H locs 0 0 Q (F0 mi 0 ls []) := by
  unfold f_X9_whose at h
  refine lv_iload_n C.1 C.2.1 dX9_whose_0 rfl (lv_at hl 1 rfl) ?_
  obtain ⟨r_3, m_2, hc_1, h⟩ := doI_E h
  refine zr_cSI C hW (c_X9_isSheet (x0 := x1) hc_1 ) k_X9_isSheet w_1320 ⟨Nat.le_of_ble_eq_true rfl, Nat.le_of_ble_eq_true rfl⟩ ⟨Nat.le_refl 0, Nat.le_refl 0⟩ rfl hl.1 rfl (Nat.le_of_ble_eq_true rfl) dX9_whose_1 (fun H locs hW => ?_)
  refine lv_if_eq (tgt := 16) C.1 C.2.1 dX9_whose_4 (by decide) (fun hc_14 => ?_) (fun hc_14 => ?_)
  · have h := ite_t hc_14 h
    refine lv_ldc C.1 C.2.1 C.2.2.2.1 (C.2.2.2.2.1 _ w_1123) dX9_whose_16 ?_
    exact ret_i h hq rfl hW dX9_whose_18
  · have h := ite_f hc_14 h
    refine lv_iload_n C.1 C.2.1 dX9_whose_7 rfl (lv_at hl 2 rfl) ?_
    refine lv_iconst (v := 0) C.1 C.2.1 dX9_whose_8 rfl ?_
    refine lv_iconst (v := 1) C.1 C.2.1 dX9_whose_9 rfl ?_
    obtain ⟨r_6, m_5, hc_4, h⟩ := doI_E h
    refine zr_cSI C hW (c_X9_in (x0 := x2) (x1 := 0) (x2 := 1) hc_4 ) k_X9_in w_1117 ⟨Nat.le_of_ble_eq_true rfl, Nat.le_of_ble_eq_true rfl⟩ ⟨Nat.le_refl 0, Nat.le_refl 0⟩ rfl hl.1 rfl (Nat.le_of_ble_eq_true rfl) dX9_whose_10 (fun H locs hW => ?_)
    refine lv_if_ne (tgt := 19) C.1 C.2.1 dX9_whose_13 (by decide) (fun hc_13 => ?_) (fun hc_13 => ?_)
    · have h := ite_f hc_13 h
      refine lv_aload_n C.1 C.2.1 dX9_whose_19 rfl (lv_at hl 0 rfl) ?_
      refine zg_X9_sorts C hW id_20 w_1029 dX9_whose_20 ?_
      refine lv_iload_n C.1 C.2.1 dX9_whose_23 rfl (lv_at hl 1 rfl) ?_
      obtain ⟨hb_7, h⟩ := chk_E h
      refine zal_32 C hW id_32 (inb_E hb_7) dX9_whose_24 ?_
      refine lv_if_ge (tgt := 31) C.1 C.2.1 dX9_whose_25 (by decide) (fun hc_12 => ?_) (fun hc_12 => ?_)
      · have h := ite_t hc_12 h
        refine lv_aload_n C.1 C.2.1 dX9_whose_31 rfl (lv_at hl 0 rfl) ?_
        obtain ⟨m_9, hc_8, h⟩ := doV_E h
        refine zr_cVV C hW (c_X9_thinks  hc_8 ) k_X9_thinks (zr_recv C hW id_20 zco_20 rfl) w_1268 ⟨Nat.le_of_ble_eq_true rfl, Nat.le_of_ble_eq_true rfl⟩ ⟨Nat.le_refl 0, Nat.le_refl 0⟩ rfl hl.1 rfl (Nat.le_of_ble_eq_true rfl) dX9_whose_32 (fun H locs hW => ?_)
        refine lv_aload_n C.1 C.2.1 dX9_whose_35 rfl (lv_at hl 0 rfl) ?_
        refine zg_X9_now C hW id_20 w_1004 dX9_whose_36 ?_
        refine lv_iconst (v := 1) C.1 C.2.1 dX9_whose_39 rfl ?_
        refine zal_21 C hW id_21_0 (inb_E (by decide)) dX9_whose_40 ?_
        obtain ⟨x_10, e_11, h⟩ := seqM_E h
        refine lv_name e_11 ?_
        refine lv_istore_n (lv' := [(3, .int x_10), (0, .ref (ad X 20 0)), (1, .int x1), (2, .int x2)]) C.1 C.2.1 dX9_whose_41 rfl hl (by decide) rfl (fun ls hl => ?_)
        refine lv_iconst (v := 0) C.1 C.2.1 dX9_whose_42 rfl ?_
        refine lv_istore (lv' := [(4, .int 0), (3, .int x_10), (0, .ref (ad X 20 0)), (1, .int x1), (2, .int x2)]) C.1 C.2.1 dX9_whose_43 hl (by decide) rfl (fun ls hl => ?_)
        exact w_X9_whose_45 C hq  fu h  hW (lv_sub hl [2, 3, 4, 1, 0] rfl)
      · have h := ite_f hc_12 h
        refine lv_ldc C.1 C.2.1 C.2.2.2.1 (C.2.2.2.2.1 _ w_1323) dX9_whose_28 ?_
        exact ret_i h hq rfl hW dX9_whose_30
    · have h := ite_t hc_13 h
      refine lv_ldc C.1 C.2.1 C.2.2.2.1 (C.2.2.2.2.1 _ w_1123) dX9_whose_16 ?_
      exact ret_i h hq rfl hW dX9_whose_18
theorem c_X9_whose {X : TX} {l : Launch} {fu : Nat} {x1 : Int32} {x2 : Int32} {m mE : Mem} {r : Int32} (h : f_X9_whose fu x1 x2 m = some (r, mE))  : MetI X l yX9_whose cX9_whose 9 .int 5 [.ref (ad X 20 0), .int x1, .int x2] m r mE :=
  met_I (by decide) (Nat.le_of_ble_eq_true rfl) (fun p e s mi args below meth c ls Q C hq hW hl => w_X9_whose C hq h  hW (lv_sub hl [0, 1, 2] rfl))
theorem k_X9_whose : CalV yX9_whose cX9_whose 9 (some .int) RX9 2 := ⟨w_1317, w_1318, w_70, w_1319, by decide +kernel⟩
theorem dX9_fee_0 : decode cX9_fee 0 = .ok (.aload_n 0, 1) := by decide +kernel
theorem dX9_fee_1 : decode cX9_fee 1 = .ok (.iconst 1, 1) := by decide +kernel
theorem dX9_fee_2 : decode cX9_fee 2 = .ok (.invokevirtual 137, 3) := by decide +kernel
theorem dX9_fee_5 : decode cX9_fee 5 = .ok (.istore_n 1, 1) := by decide +kernel
theorem dX9_fee_6 : decode cX9_fee 6 = .ok (.aload_n 0, 1) := by decide +kernel
theorem dX9_fee_7 : decode cX9_fee 7 = .ok (.getfield 49, 3) := by decide +kernel
theorem dX9_fee_10 : decode cX9_fee 10 = .ok (.iconst 0, 1) := by decide +kernel
theorem dX9_fee_11 : decode cX9_fee 11 = .ok (.aload_n 0, 1) := by decide +kernel
theorem dX9_fee_12 : decode cX9_fee 12 = .ok (.getfield 9, 3) := by decide +kernel
theorem dX9_fee_15 : decode cX9_fee 15 = .ok (.bipush 7, 2) := by decide +kernel
theorem dX9_fee_17 : decode cX9_fee 17 = .ok (.iaload, 1) := by decide +kernel
theorem dX9_fee_18 : decode cX9_fee 18 = .ok (.iastore, 1) := by decide +kernel
theorem dX9_fee_19 : decode cX9_fee 19 = .ok (.aload_n 0, 1) := by decide +kernel
theorem dX9_fee_20 : decode cX9_fee 20 = .ok (.getfield 49, 3) := by decide +kernel
theorem dX9_fee_23 : decode cX9_fee 23 = .ok (.iconst 1, 1) := by decide +kernel
theorem dX9_fee_24 : decode cX9_fee 24 = .ok (.aload_n 0, 1) := by decide +kernel
theorem dX9_fee_25 : decode cX9_fee 25 = .ok (.getfield 9, 3) := by decide +kernel
theorem dX9_fee_28 : decode cX9_fee 28 = .ok (.bipush 11, 2) := by decide +kernel
theorem dX9_fee_30 : decode cX9_fee 30 = .ok (.iaload, 1) := by decide +kernel
theorem dX9_fee_31 : decode cX9_fee 31 = .ok (.iastore, 1) := by decide +kernel
theorem dX9_fee_32 : decode cX9_fee 32 = .ok (.iload_n 1, 1) := by decide +kernel
theorem dX9_fee_33 : decode cX9_fee 33 = .ok (.ifCond .ge 13, 3) := by decide +kernel
theorem dX9_fee_36 : decode cX9_fee 36 = .ok (.aload_n 0, 1) := by decide +kernel
theorem dX9_fee_37 : decode cX9_fee 37 = .ok (.getfield 9, 3) := by decide +kernel
theorem dX9_fee_40 : decode cX9_fee 40 = .ok (.bipush 7, 2) := by decide +kernel
theorem dX9_fee_42 : decode cX9_fee 42 = .ok (.iaload, 1) := by decide +kernel
theorem dX9_fee_43 : decode cX9_fee 43 = .ok (.goto 8, 3) := by decide +kernel
theorem dX9_fee_46 : decode cX9_fee 46 = .ok (.aload_n 0, 1) := by decide +kernel
theorem dX9_fee_47 : decode cX9_fee 47 = .ok (.iload_n 1, 1) := by decide +kernel
theorem dX9_fee_48 : decode cX9_fee 48 = .ok (.invokevirtual 140, 3) := by decide +kernel
theorem dX9_fee_51 : decode cX9_fee 51 = .ok (.ireturn, 1) := by decide +kernel
def f_X9_fee (fu : Nat)   (m : Mem) : Option (Int32 × Mem) := doI (f_X9_counts fu 1 m) (fun r_3 m_2 => seqM (upd m_2 (3800 + (0 : Int32).toNatClampNeg) (m_2 ((4000 + 1500 * 0) + (7 : Int32).toNatClampNeg))) (fun m_4 : Mem => seqM (upd m_4 (3800 + (1 : Int32).toNatClampNeg) (m_4 ((4000 + 1500 * 0) + (11 : Int32).toNatClampNeg))) (fun m_6 : Mem => if 0 ≤ r_3 then (doI (f_X9_worksOut fu r_3 m_6) (fun r_10 m_9 => some (r_10, m_9))) else (some ((m_6 ((4000 + 1500 * 0) + (7 : Int32).toNatClampNeg)), m_6)))))
set_option maxHeartbeats 4000000 in
set_option maxRecDepth 100000 in
theorem w_X9_fee {X : TX} {p : Program} {l : Launch} {e : Env} {s : State} {mi : MethodId} {args : Array Value} {below : List Frame} {meth : Method} {c : Code} {Q : State → Prop} {r : Int32} {mE : Mem} (C : Cx X p s mi args c RX9 cX9_fee 2) (hq : RetI X p l e (rmD 2) s mi args below meth c cX9_fee .int Q r mE) {fu : Nat}  {m : Mem} {H : Heap} {locs : List Loc} {ls : Array Slot} (h : f_X9_fee fu  m = some (r, mE))  (hW : Wd X s m H locs) (hl : lv_has ls 2 [(0, .ref (ad X 20 0))]) : W p l e (rmD 2) s mi args below meth c H locs 0 0 Q (F0 mi 0 ls []) := by
  unfold f_X9_fee at h
  refine lv_aload_n C.1 C.2.1 dX9_fee_0 rfl (lv_at hl 0 rfl) ?_
  refine lv_iconst (v := 1) C.1 C.2.1 dX9_fee_1 rfl ?_
  obtain ⟨r_3, m_2, hc_1, h⟩ := doI_E h
  refine zr_cVI C hW (c_X9_counts (x1 := 1) hc_1 ) k_X9_counts (zr_recv C hW id_20 zco_20 rfl) w_1249 ⟨Nat.le_of_ble_eq_true rfl, Nat.le_of_ble_eq_true rfl⟩ ⟨Nat.le_refl 0, Nat.le_refl 0⟩ rfl hl.1 rfl (Nat.le_of_ble_eq_true rfl) dX9_fee_2 (fun H locs hW => ?_)
  refine lv_istore_n (lv' := [(1, .int r_3), (0, .ref (ad X 20 0))]) C.1 C.2.1 dX9_fee_5 rfl hl (by decide) rfl (fun ls hl => ?_)
  refine lv_aload_n C.1 C.2.1 dX9_fee_6 rfl (lv_at hl 1 rfl) ?_
  refine zg_X9_facts C hW id_20 w_1028 dX9_fee_7 ?_
  refine lv_iconst (v := 0) C.1 C.2.1 dX9_fee_10 rfl ?_
  refine lv_aload_n C.1 C.2.1 dX9_fee_11 rfl (lv_at hl 1 rfl) ?_
  refine zg_X9_now C hW id_20 w_1004 dX9_fee_12 ?_
  refine lv_bipush (v := 7) C.1 C.2.1 dX9_fee_15 rfl ?_
  refine zal_21 C hW id_21_0 (inb_E (by decide)) dX9_fee_17 ?_
  obtain ⟨m_4, e_5, h⟩ := seqM_E h
  refine zas_31 C hW id_31 (inb_E (by decide)) e_5 dX9_fee_18 (fun H locs hW => ?_)
  refine lv_aload_n C.1 C.2.1 dX9_fee_19 rfl (lv_at hl 1 rfl) ?_
  refine zg_X9_facts C hW id_20 w_1028 dX9_fee_20 ?_
  refine lv_iconst (v := 1) C.1 C.2.1 dX9_fee_23 rfl ?_
  refine lv_aload_n C.1 C.2.1 dX9_fee_24 rfl (lv_at hl 1 rfl) ?_
  refine zg_X9_now C hW id_20 w_1004 dX9_fee_25 ?_
  refine lv_bipush (v := 11) C.1 C.2.1 dX9_fee_28 rfl ?_
  refine zal_21 C hW id_21_0 (inb_E (by decide)) dX9_fee_30 ?_
  obtain ⟨m_6, e_7, h⟩ := seqM_E h
  refine zas_31 C hW id_31 (inb_E (by decide)) e_7 dX9_fee_31 (fun H locs hW => ?_)
  refine lv_iload_n C.1 C.2.1 dX9_fee_32 rfl (lv_at hl 0 rfl) ?_
  refine lv_if_ge (tgt := 46) C.1 C.2.1 dX9_fee_33 (by decide) (fun hc_11 => ?_) (fun hc_11 => ?_)
  · have h := ite_t hc_11 h
    refine lv_aload_n C.1 C.2.1 dX9_fee_46 rfl (lv_at hl 1 rfl) ?_
    refine lv_iload_n C.1 C.2.1 dX9_fee_47 rfl (lv_at hl 0 rfl) ?_
    obtain ⟨r_10, m_9, hc_8, h⟩ := doI_E h
    refine zr_cVI C hW (c_X9_worksOut (x1 := r_3) hc_8 ) k_X9_worksOut (zr_recv C hW id_20 zco_20 rfl) w_1253 ⟨Nat.le_of_ble_eq_true rfl, Nat.le_of_ble_eq_true rfl⟩ ⟨Nat.le_refl 0, Nat.le_refl 0⟩ rfl hl.1 rfl (Nat.le_of_ble_eq_true rfl) dX9_fee_48 (fun H locs hW => ?_)
    exact ret_i h hq rfl hW dX9_fee_51
  · have h := ite_f hc_11 h
    refine lv_aload_n C.1 C.2.1 dX9_fee_36 rfl (lv_at hl 1 rfl) ?_
    refine zg_X9_now C hW id_20 w_1004 dX9_fee_37 ?_
    refine lv_bipush (v := 7) C.1 C.2.1 dX9_fee_40 rfl ?_
    refine zal_21 C hW id_21_0 (inb_E (by decide)) dX9_fee_42 ?_
    refine lv_goto (tgt := 51) C.1 C.2.1 dX9_fee_43 (by decide) ?_
    exact ret_i h hq rfl hW dX9_fee_51
theorem c_X9_fee {X : TX} {l : Launch} {fu : Nat}  {m mE : Mem} {r : Int32} (h : f_X9_fee fu  m = some (r, mE))  : MetI X l yX9_fee cX9_fee 2 .int 2 [.ref (ad X 20 0)] m r mE :=
  met_I (by decide) (Nat.le_of_ble_eq_true rfl) (fun p e s mi args below meth c ls Q C hq hW hl => w_X9_fee C hq h  hW (lv_sub hl [0] rfl))
theorem k_X9_fee : CalV yX9_fee cX9_fee 2 (some .int) RX9 0 := ⟨w_1325, w_1326, w_70, w_1327, by decide +kernel⟩
theorem dX9_fine_0 : decode cX9_fine 0 = .ok (.aload_n 0, 1) := by decide +kernel
theorem dX9_fine_1 : decode cX9_fine 1 = .ok (.iload_n 1, 1) := by decide +kernel
theorem dX9_fine_2 : decode cX9_fine 2 = .ok (.invokevirtual 101, 3) := by decide +kernel
theorem dX9_fine_5 : decode cX9_fine 5 = .ok (.ifCond .ne 6, 3) := by decide +kernel
theorem dX9_fine_8 : decode cX9_fine 8 = .ok (.ldc 91, 2) := by decide +kernel
theorem dX9_fine_10 : decode cX9_fine 10 = .ok (.ireturn, 1) := by decide +kernel
theorem dX9_fine_11 : decode cX9_fine 11 = .ok (.aload_n 0, 1) := by decide +kernel
theorem dX9_fine_12 : decode cX9_fine 12 = .ok (.iconst 2, 1) := by decide +kernel
theorem dX9_fine_13 : decode cX9_fine 13 = .ok (.invokevirtual 137, 3) := by decide +kernel
theorem dX9_fine_16 : decode cX9_fine 16 = .ok (.istore_n 2, 1) := by decide +kernel
theorem dX9_fine_17 : decode cX9_fine 17 = .ok (.aload_n 0, 1) := by decide +kernel
theorem dX9_fine_18 : decode cX9_fine 18 = .ok (.getfield 49, 3) := by decide +kernel
theorem dX9_fine_21 : decode cX9_fine 21 = .ok (.iconst 0, 1) := by decide +kernel
theorem dX9_fine_22 : decode cX9_fine 22 = .ok (.aload_n 0, 1) := by decide +kernel
theorem dX9_fine_23 : decode cX9_fine 23 = .ok (.iload_n 1, 1) := by decide +kernel
theorem dX9_fine_24 : decode cX9_fine 24 = .ok (.bipush 6, 2) := by decide +kernel
theorem dX9_fine_26 : decode cX9_fine 26 = .ok (.invokevirtual 97, 3) := by decide +kernel
theorem dX9_fine_29 : decode cX9_fine 29 = .ok (.iastore, 1) := by decide +kernel
theorem dX9_fine_30 : decode cX9_fine 30 = .ok (.aload_n 0, 1) := by decide +kernel
theorem dX9_fine_31 : decode cX9_fine 31 = .ok (.getfield 49, 3) := by decide +kernel
theorem dX9_fine_34 : decode cX9_fine 34 = .ok (.iconst 1, 1) := by decide +kernel
theorem dX9_fine_35 : decode cX9_fine 35 = .ok (.aload_n 0, 1) := by decide +kernel
theorem dX9_fine_36 : decode cX9_fine 36 = .ok (.iload_n 1, 1) := by decide +kernel
theorem dX9_fine_37 : decode cX9_fine 37 = .ok (.iconst 4, 1) := by decide +kernel
theorem dX9_fine_38 : decode cX9_fine 38 = .ok (.invokevirtual 97, 3) := by decide +kernel
theorem dX9_fine_41 : decode cX9_fine 41 = .ok (.iastore, 1) := by decide +kernel
theorem dX9_fine_42 : decode cX9_fine 42 = .ok (.iload_n 2, 1) := by decide +kernel
theorem dX9_fine_43 : decode cX9_fine 43 = .ok (.ifCond .ge 13, 3) := by decide +kernel
theorem dX9_fine_46 : decode cX9_fine 46 = .ok (.aload_n 0, 1) := by decide +kernel
theorem dX9_fine_47 : decode cX9_fine 47 = .ok (.iload_n 1, 1) := by decide +kernel
theorem dX9_fine_48 : decode cX9_fine 48 = .ok (.bipush 6, 2) := by decide +kernel
theorem dX9_fine_50 : decode cX9_fine 50 = .ok (.invokevirtual 97, 3) := by decide +kernel
theorem dX9_fine_53 : decode cX9_fine 53 = .ok (.goto 8, 3) := by decide +kernel
theorem dX9_fine_56 : decode cX9_fine 56 = .ok (.aload_n 0, 1) := by decide +kernel
theorem dX9_fine_57 : decode cX9_fine 57 = .ok (.iload_n 2, 1) := by decide +kernel
theorem dX9_fine_58 : decode cX9_fine 58 = .ok (.invokevirtual 140, 3) := by decide +kernel
theorem dX9_fine_61 : decode cX9_fine 61 = .ok (.ireturn, 1) := by decide +kernel
def f_X9_fine (fu : Nat)  (x1 : Int32) (m : Mem) : Option (Int32 × Mem) := doI (f_X9_isVoice fu x1 m) (fun r_3 m_2 => if r_3 = 0 then (some ((-1000000001), m_2)) else (doI (f_X9_counts fu 2 m_2) (fun r_6 m_5 => doI (f_X9_of fu x1 6 m_5) (fun r_9 m_8 => seqM (upd m_8 (3800 + (0 : Int32).toNatClampNeg) r_9) (fun m_10 : Mem => doI (f_X9_of fu x1 4 m_10) (fun r_14 m_13 => seqM (upd m_13 (3800 + (1 : Int32).toNatClampNeg) r_14) (fun m_15 : Mem => if 0 ≤ r_6 then (doI (f_X9_worksOut fu r_6 m_15) (fun r_19 m_18 => some (r_19, m_18))) else (doI (f_X9_of fu x1 6 m_15) (fun r_22 m_21 => some (r_22, m_21))))))))))
set_option maxHeartbeats 4000000 in
set_option maxRecDepth 100000 in
theorem w_X9_fine {X : TX} {p : Program} {l : Launch} {e : Env} {s : State} {mi : MethodId} {args : Array Value} {below : List Frame} {meth : Method} {c : Code} {Q : State → Prop} {r : Int32} {mE : Mem} (C : Cx X p s mi args c RX9 cX9_fine 3) (hq : RetI X p l e (rmD 2) s mi args below meth c cX9_fine .int Q r mE) {fu : Nat} {x1 : Int32} {m : Mem} {H : Heap} {locs : List Loc} {ls : Array Slot} (h : f_X9_fine fu x1 m = some (r, mE))  (hW : Wd X s m H locs) (hl : lv_has ls 3 [(0, .ref (ad X 20 0)), (1, .int x1)]) : W p l e (rmD 2) s mi args below meth c H locs 0 0 Q (F0 mi 0 ls []) := by
  unfold f_X9_fine at h
  refine lv_aload_n C.1 C.2.1 dX9_fine_0 rfl (lv_at hl 0 rfl) ?_
  refine lv_iload_n C.1 C.2.1 dX9_fine_1 rfl (lv_at hl 1 rfl) ?_
  obtain ⟨r_3, m_2, hc_1, h⟩ := doI_E h
  refine zr_cVI C hW (c_X9_isVoice (x1 := x1) hc_1 ) k_X9_isVoice (zr_recv C hW id_20 zco_20 rfl) w_1137 ⟨Nat.le_of_ble_eq_true rfl, Nat.le_of_ble_eq_true rfl⟩ ⟨Nat.le_refl 0, Nat.le_refl 0⟩ rfl hl.1 rfl (Nat.le_of_ble_eq_true rfl) dX9_fine_2 (fun H locs hW => ?_)
  refine lv_if_ne (tgt := 11) C.1 C.2.1 dX9_fine_5 (by decide) (fun hc_24 => ?_) (fun hc_24 => ?_)
  · have h := ite_f hc_24 h
    refine lv_aload_n C.1 C.2.1 dX9_fine_11 rfl (lv_at hl 0 rfl) ?_
    refine lv_iconst (v := 2) C.1 C.2.1 dX9_fine_12 rfl ?_
    obtain ⟨r_6, m_5, hc_4, h⟩ := doI_E h
    refine zr_cVI C hW (c_X9_counts (x1 := 2) hc_4 ) k_X9_counts (zr_recv C hW id_20 zco_20 rfl) w_1249 ⟨Nat.le_of_ble_eq_true rfl, Nat.le_of_ble_eq_true rfl⟩ ⟨Nat.le_refl 0, Nat.le_refl 0⟩ rfl hl.1 rfl (Nat.le_of_ble_eq_true rfl) dX9_fine_13 (fun H locs hW => ?_)
    refine lv_istore_n (lv' := [(2, .int r_6), (0, .ref (ad X 20 0)), (1, .int x1)]) C.1 C.2.1 dX9_fine_16 rfl hl (by decide) rfl (fun ls hl => ?_)
    refine lv_aload_n C.1 C.2.1 dX9_fine_17 rfl (lv_at hl 1 rfl) ?_
    refine zg_X9_facts C hW id_20 w_1028 dX9_fine_18 ?_
    refine lv_iconst (v := 0) C.1 C.2.1 dX9_fine_21 rfl ?_
    refine lv_aload_n C.1 C.2.1 dX9_fine_22 rfl (lv_at hl 1 rfl) ?_
    refine lv_iload_n C.1 C.2.1 dX9_fine_23 rfl (lv_at hl 2 rfl) ?_
    refine lv_bipush (v := 6) C.1 C.2.1 dX9_fine_24 rfl ?_
    obtain ⟨r_9, m_8, hc_7, h⟩ := doI_E h
    refine zr_cVI C hW (c_X9_of (x1 := x1) (x2 := 6) hc_7 ) k_X9_of (zr_recv C hW id_20 zco_20 rfl) w_1141 ⟨Nat.le_of_ble_eq_true rfl, Nat.le_of_ble_eq_true rfl⟩ ⟨Nat.le_refl 0, Nat.le_refl 0⟩ rfl hl.1 rfl (Nat.le_of_ble_eq_true rfl) dX9_fine_26 (fun H locs hW => ?_)
    obtain ⟨m_10, e_11, h⟩ := seqM_E h
    refine zas_31 C hW id_31 (inb_E (by decide)) e_11 dX9_fine_29 (fun H locs hW => ?_)
    refine lv_aload_n C.1 C.2.1 dX9_fine_30 rfl (lv_at hl 1 rfl) ?_
    refine zg_X9_facts C hW id_20 w_1028 dX9_fine_31 ?_
    refine lv_iconst (v := 1) C.1 C.2.1 dX9_fine_34 rfl ?_
    refine lv_aload_n C.1 C.2.1 dX9_fine_35 rfl (lv_at hl 1 rfl) ?_
    refine lv_iload_n C.1 C.2.1 dX9_fine_36 rfl (lv_at hl 2 rfl) ?_
    refine lv_iconst (v := 4) C.1 C.2.1 dX9_fine_37 rfl ?_
    obtain ⟨r_14, m_13, hc_12, h⟩ := doI_E h
    refine zr_cVI C hW (c_X9_of (x1 := x1) (x2 := 4) hc_12 ) k_X9_of (zr_recv C hW id_20 zco_20 rfl) w_1141 ⟨Nat.le_of_ble_eq_true rfl, Nat.le_of_ble_eq_true rfl⟩ ⟨Nat.le_refl 0, Nat.le_refl 0⟩ rfl hl.1 rfl (Nat.le_of_ble_eq_true rfl) dX9_fine_38 (fun H locs hW => ?_)
    obtain ⟨m_15, e_16, h⟩ := seqM_E h
    refine zas_31 C hW id_31 (inb_E (by decide)) e_16 dX9_fine_41 (fun H locs hW => ?_)
    refine lv_iload_n C.1 C.2.1 dX9_fine_42 rfl (lv_at hl 0 rfl) ?_
    refine lv_if_ge (tgt := 56) C.1 C.2.1 dX9_fine_43 (by decide) (fun hc_23 => ?_) (fun hc_23 => ?_)
    · have h := ite_t hc_23 h
      refine lv_aload_n C.1 C.2.1 dX9_fine_56 rfl (lv_at hl 1 rfl) ?_
      refine lv_iload_n C.1 C.2.1 dX9_fine_57 rfl (lv_at hl 0 rfl) ?_
      obtain ⟨r_19, m_18, hc_17, h⟩ := doI_E h
      refine zr_cVI C hW (c_X9_worksOut (x1 := r_6) hc_17 ) k_X9_worksOut (zr_recv C hW id_20 zco_20 rfl) w_1253 ⟨Nat.le_of_ble_eq_true rfl, Nat.le_of_ble_eq_true rfl⟩ ⟨Nat.le_refl 0, Nat.le_refl 0⟩ rfl hl.1 rfl (Nat.le_of_ble_eq_true rfl) dX9_fine_58 (fun H locs hW => ?_)
      exact ret_i h hq rfl hW dX9_fine_61
    · have h := ite_f hc_23 h
      refine lv_aload_n C.1 C.2.1 dX9_fine_46 rfl (lv_at hl 1 rfl) ?_
      refine lv_iload_n C.1 C.2.1 dX9_fine_47 rfl (lv_at hl 2 rfl) ?_
      refine lv_bipush (v := 6) C.1 C.2.1 dX9_fine_48 rfl ?_
      obtain ⟨r_22, m_21, hc_20, h⟩ := doI_E h
      refine zr_cVI C hW (c_X9_of (x1 := x1) (x2 := 6) hc_20 ) k_X9_of (zr_recv C hW id_20 zco_20 rfl) w_1141 ⟨Nat.le_of_ble_eq_true rfl, Nat.le_of_ble_eq_true rfl⟩ ⟨Nat.le_refl 0, Nat.le_refl 0⟩ rfl hl.1 rfl (Nat.le_of_ble_eq_true rfl) dX9_fine_50 (fun H locs hW => ?_)
      refine lv_goto (tgt := 61) C.1 C.2.1 dX9_fine_53 (by decide) ?_
      exact ret_i h hq rfl hW dX9_fine_61
  · have h := ite_t hc_24 h
    refine lv_ldc C.1 C.2.1 C.2.2.2.1 (C.2.2.2.2.1 _ w_1123) dX9_fine_8 ?_
    exact ret_i h hq rfl hW dX9_fine_10
theorem c_X9_fine {X : TX} {l : Launch} {fu : Nat} {x1 : Int32} {m mE : Mem} {r : Int32} (h : f_X9_fine fu x1 m = some (r, mE))  : MetI X l yX9_fine cX9_fine 3 .int 2 [.ref (ad X 20 0), .int x1] m r mE :=
  met_I (by decide) (Nat.le_of_ble_eq_true rfl) (fun p e s mi args below meth c ls Q C hq hW hl => w_X9_fine C hq h  hW (lv_sub hl [0, 1] rfl))
theorem k_X9_fine : CalV yX9_fine cX9_fine 3 (some .int) RX9 1 := ⟨w_1329, w_1330, w_70, w_1331, by decide +kernel⟩
theorem dX9_feed_0 : decode cX9_feed 0 = .ok (.aload_n 0, 1) := by decide +kernel
theorem dX9_feed_1 : decode cX9_feed 1 = .ok (.getfield 192, 3) := by decide +kernel
theorem dX9_feed_4 : decode cX9_feed 4 = .ok (.bipush 12, 2) := by decide +kernel
theorem dX9_feed_6 : decode cX9_feed 6 = .ok (.iadd, 1) := by decide +kernel
theorem dX9_feed_7 : decode cX9_feed 7 = .ok (.bipush 96, 2) := by decide +kernel
theorem dX9_feed_9 : decode cX9_feed 9 = .ok (.if_icmp .le 6, 3) := by decide +kernel
theorem dX9_feed_12 : decode cX9_feed 12 = .ok (.ldc 92, 2) := by decide +kernel
theorem dX9_feed_14 : decode cX9_feed 14 = .ok (.ireturn, 1) := by decide +kernel
theorem dX9_feed_15 : decode cX9_feed 15 = .ok (.iconst 0, 1) := by decide +kernel
theorem dX9_feed_16 : decode cX9_feed 16 = .ok (.istore 4, 2) := by decide +kernel
theorem dX9_feed_18 : decode cX9_feed 18 = .ok (.iload 4, 2) := by decide +kernel
theorem dX9_feed_20 : decode cX9_feed 20 = .ok (.bipush 12, 2) := by decide +kernel
theorem dX9_feed_22 : decode cX9_feed 22 = .ok (.if_icmp .ge 62, 3) := by decide +kernel
theorem dX9_feed_25 : decode cX9_feed 25 = .ok (.iload 4, 2) := by decide +kernel
theorem dX9_feed_27 : decode cX9_feed 27 = .ok (.iconst 4, 1) := by decide +kernel
theorem dX9_feed_28 : decode cX9_feed 28 = .ok (.if_icmp .ge 7, 3) := by decide +kernel
theorem dX9_feed_31 : decode cX9_feed 31 = .ok (.iload_n 1, 1) := by decide +kernel
theorem dX9_feed_32 : decode cX9_feed 32 = .ok (.goto 15, 3) := by decide +kernel
theorem dX9_feed_35 : decode cX9_feed 35 = .ok (.iload 4, 2) := by decide +kernel
theorem dX9_feed_37 : decode cX9_feed 37 = .ok (.bipush 8, 2) := by decide +kernel
theorem dX9_feed_39 : decode cX9_feed 39 = .ok (.if_icmp .ge 7, 3) := by decide +kernel
theorem dX9_feed_42 : decode cX9_feed 42 = .ok (.iload_n 2, 1) := by decide +kernel
theorem dX9_feed_43 : decode cX9_feed 43 = .ok (.goto 4, 3) := by decide +kernel
theorem dX9_feed_46 : decode cX9_feed 46 = .ok (.iload_n 3, 1) := by decide +kernel
theorem dX9_feed_47 : decode cX9_feed 47 = .ok (.istore 5, 2) := by decide +kernel
theorem dX9_feed_49 : decode cX9_feed 49 = .ok (.aload_n 0, 1) := by decide +kernel
theorem dX9_feed_50 : decode cX9_feed 50 = .ok (.getfield 26, 3) := by decide +kernel
theorem dX9_feed_53 : decode cX9_feed 53 = .ok (.aload_n 0, 1) := by decide +kernel
theorem dX9_feed_54 : decode cX9_feed 54 = .ok (.getfield 192, 3) := by decide +kernel
theorem dX9_feed_57 : decode cX9_feed 57 = .ok (.iload 4, 2) := by decide +kernel
theorem dX9_feed_59 : decode cX9_feed 59 = .ok (.iadd, 1) := by decide +kernel
theorem dX9_feed_60 : decode cX9_feed 60 = .ok (.iload 5, 2) := by decide +kernel
theorem dX9_feed_62 : decode cX9_feed 62 = .ok (.bipush 24, 2) := by decide +kernel
theorem dX9_feed_64 : decode cX9_feed 64 = .ok (.bipush 8, 2) := by decide +kernel
theorem dX9_feed_66 : decode cX9_feed 66 = .ok (.iload 4, 2) := by decide +kernel
theorem dX9_feed_68 : decode cX9_feed 68 = .ok (.iconst 4, 1) := by decide +kernel
theorem dX9_feed_69 : decode cX9_feed 69 = .ok (.irem, 1) := by decide +kernel
theorem dX9_feed_70 : decode cX9_feed 70 = .ok (.imul, 1) := by decide +kernel
theorem dX9_feed_71 : decode cX9_feed 71 = .ok (.isub, 1) := by decide +kernel
theorem dX9_feed_72 : decode cX9_feed 72 = .ok (.ishr, 1) := by decide +kernel
theorem dX9_feed_73 : decode cX9_feed 73 = .ok (.sipush 255, 3) := by decide +kernel
theorem dX9_feed_76 : decode cX9_feed 76 = .ok (.iand, 1) := by decide +kernel
theorem dX9_feed_77 : decode cX9_feed 77 = .ok (.iastore, 1) := by decide +kernel
theorem dX9_feed_78 : decode cX9_feed 78 = .ok (.iinc 4 1, 3) := by decide +kernel
theorem dX9_feed_81 : decode cX9_feed 81 = .ok (.goto (-63), 3) := by decide +kernel
theorem dX9_feed_84 : decode cX9_feed 84 = .ok (.aload_n 0, 1) := by decide +kernel
theorem dX9_feed_85 : decode cX9_feed 85 = .ok (.dup, 1) := by decide +kernel
theorem dX9_feed_86 : decode cX9_feed 86 = .ok (.getfield 192, 3) := by decide +kernel
theorem dX9_feed_89 : decode cX9_feed 89 = .ok (.bipush 12, 2) := by decide +kernel
theorem dX9_feed_91 : decode cX9_feed 91 = .ok (.iadd, 1) := by decide +kernel
theorem dX9_feed_92 : decode cX9_feed 92 = .ok (.putfield 192, 3) := by decide +kernel
theorem dX9_feed_95 : decode cX9_feed 95 = .ok (.aload_n 0, 1) := by decide +kernel
theorem dX9_feed_96 : decode cX9_feed 96 = .ok (.getfield 192, 3) := by decide +kernel
theorem dX9_feed_99 : decode cX9_feed 99 = .ok (.ireturn, 1) := by decide +kernel
def f_X9_feed_47 (fu : Nat) (k_18 : Int32 → Int32 → Int32 → Int32 → Mem → Option (Int32 × Mem)) (x1 : Int32) (x2 : Int32) (x3 : Int32) (x4 : Int32) (y0 : Int32) (m : Mem) : Option (Int32 × Mem) := chk (inb ((m 3002) + x4) 96) (seqM (upd m (3200 + ((m 3002) + x4).toNatClampNeg) ((y0 >>> ((24 - (8 * (irem x4 4))) &&& 31)) &&& 255)) (fun m_2 : Mem => seqM (x4 + 1) (fun x_4 : Int32 => k_18 x1 x2 x3 x_4 m_2)))
set_option maxHeartbeats 4000000 in
set_option maxRecDepth 100000 in
theorem w_X9_feed_47 {X : TX} {p : Program} {l : Launch} {e : Env} {s : State} {mi : MethodId} {args : Array Value} {below : List Frame} {meth : Method} {c : Code} {Q : State → Prop} {r : Int32} {mE : Mem} (C : Cx X p s mi args c RX9 cX9_feed 6) (hq : RetI X p l e (rmD 0) s mi args below meth c cX9_feed .int Q r mE) {fu : Nat} {k_18 : Int32 → Int32 → Int32 → Int32 → Mem → Option (Int32 × Mem)} (hk_18 : ∀ {x1 : Int32} {x2 : Int32} {x3 : Int32} {x4 : Int32} {m : Mem} {H : Heap} {locs : List Loc} {ls : Array Slot}, k_18 x1 x2 x3 x4 m = some (r, mE) → Wd X s m H locs → lv_has ls 6 [(0, .ref (ad X 20 0)), (1, .int x1), (2, .int x2), (3, .int x3), (4, .int x4)] → W p l e (rmD 0) s mi args below meth c H locs 0 0 Q (F0 mi 18 ls [])) {x1 : Int32} {x2 : Int32} {x3 : Int32} {x4 : Int32} {y0 : Int32} {m : Mem} {H : Heap} {locs : List Loc} {ls : Array Slot} (h : f_X9_feed_47 fu k_18 x1 x2 x3 x4 y0 m = some (r, mE))  (hW : Wd X s m H locs) (hl : lv_has ls 6 [(0, .ref (ad X 20 0)), (1, .int x1), (2, .int x2), (3, .int x3), (4, .int x4)]) : W p l e (rmD 0) s mi args below meth c H locs 0 0 Q (F0 mi 47 ls [.int y0]) := by
  unfold f_X9_feed_47 at h
  refine lv_istore (lv' := [(5, .int y0), (0, .ref (ad X 20 0)), (1, .int x1), (2, .int x2), (3, .int x3), (4, .int x4)]) C.1 C.2.1 dX9_feed_47 hl (by decide) rfl (fun ls hl => ?_)
  refine lv_aload_n C.1 C.2.1 dX9_feed_49 rfl (lv_at hl 1 rfl) ?_
  refine zg_X9_tape C hW id_20 w_1011 dX9_feed_50 ?_
  refine lv_aload_n C.1 C.2.1 dX9_feed_53 rfl (lv_at hl 1 rfl) ?_
  refine zg_X9_taped C hW id_20 w_1012 dX9_feed_54 ?_
  refine lv_iload C.1 C.2.1 dX9_feed_57 (lv_at hl 5 rfl) ?_
  refine lv_iadd C.1 C.2.1 dX9_feed_59 ?_
  refine lv_iload C.1 C.2.1 dX9_feed_60 (lv_at hl 0 rfl) ?_
  refine lv_bipush (v := 24) C.1 C.2.1 dX9_feed_62 rfl ?_
  refine lv_bipush (v := 8) C.1 C.2.1 dX9_feed_64 rfl ?_
  refine lv_iload C.1 C.2.1 dX9_feed_66 (lv_at hl 5 rfl) ?_
  refine lv_iconst (v := 4) C.1 C.2.1 dX9_feed_68 rfl ?_
  refine zr_irem C.1 C.2.1 dX9_feed_69 (by decide) ?_
  refine lv_imul C.1 C.2.1 dX9_feed_70 ?_
  refine lv_isub C.1 C.2.1 dX9_feed_71 ?_
  refine lv_ishr C.1 C.2.1 dX9_feed_72 ?_
  refine lv_sipush (v := 255) C.1 C.2.1 dX9_feed_73 rfl ?_
  refine lv_iand C.1 C.2.1 dX9_feed_76 ?_
  obtain ⟨hb_1, h⟩ := chk_E h
  obtain ⟨m_2, e_3, h⟩ := seqM_E h
  refine zas_24 C hW id_24 (inb_E hb_1) e_3 dX9_feed_77 (fun H locs hW => ?_)
  obtain ⟨x_4, e_5, h⟩ := seqM_E h
  refine lv_iinc (v := x_4) (lv' := [(4, .int x_4), (5, .int y0), (0, .ref (ad X 20 0)), (1, .int x1), (2, .int x2), (3, .int x3)]) C.1 C.2.1 dX9_feed_78 hl (k := 5) rfl (by rw [e_5]; rfl) (by decide) rfl (fun ls hl => ?_)
  refine lv_goto (tgt := 18) C.1 C.2.1 dX9_feed_81 (by decide) ?_
  exact hk_18 h  hW (lv_sub hl [2, 3, 4, 5, 0] rfl)
def f_X9_feed_18 (fu : Nat)  : Nat → Int32 → Int32 → Int32 → Int32 → Mem → Option (Int32 × Mem)
  | 0, _, _, _, _, _ => none
  | n + 1, x1, x2, x3, x4, m => if 12 ≤ x4 then (seqM (upd m 3002 ((m 3002) + 12)) (fun m_1 : Mem => some ((m_1 3002), m_1))) else (if 4 ≤ x4 then (if 8 ≤ x4 then (f_X9_feed_47 fu (f_X9_feed_18 fu n) x1 x2 x3 x4 x3 m) else (f_X9_feed_47 fu (f_X9_feed_18 fu n) x1 x2 x3 x4 x2 m)) else (f_X9_feed_47 fu (f_X9_feed_18 fu n) x1 x2 x3 x4 x1 m))
set_option maxHeartbeats 4000000 in
set_option maxRecDepth 100000 in
theorem w_X9_feed_18 {X : TX} {p : Program} {l : Launch} {e : Env} {s : State} {mi : MethodId} {args : Array Value} {below : List Frame} {meth : Method} {c : Code} {Q : State → Prop} {r : Int32} {mE : Mem} (C : Cx X p s mi args c RX9 cX9_feed 6) (hq : RetI X p l e (rmD 0) s mi args below meth c cX9_feed .int Q r mE) {fu : Nat} : ∀ (n : Nat) {x1 : Int32} {x2 : Int32} {x3 : Int32} {x4 : Int32} {m : Mem} {H : Heap} {locs : List Loc} {ls : Array Slot}, f_X9_feed_18 fu n x1 x2 x3 x4 m = some (r, mE) → Wd X s m H locs → lv_has ls 6 [(0, .ref (ad X 20 0)), (1, .int x1), (2, .int x2), (3, .int x3), (4, .int x4)] → W p l e (rmD 0) s mi args below meth c H locs 0 0 Q (F0 mi 18 ls []) := by
  intro n
  induction n with
  | zero =>
    intro x1 x2 x3 x4 m H locs ls h hW hl
    rw [f_X9_feed_18] at h
    cases h
  | succ n ih =>
    intro x1 x2 x3 x4 m H locs ls h hW hl
    rw [f_X9_feed_18] at h
    refine lv_iload C.1 C.2.1 dX9_feed_18 (lv_at hl 4 rfl) ?_
    refine lv_bipush (v := 12) C.1 C.2.1 dX9_feed_20 rfl ?_
    refine lv_icmp_ge (tgt := 84) C.1 C.2.1 dX9_feed_22 (by decide) (fun hc_5 => ?_) (fun hc_5 => ?_)
    · have h := ite_t hc_5 h
      refine lv_aload_n C.1 C.2.1 dX9_feed_84 rfl (lv_at hl 0 rfl) ?_
      refine lv_dup C.1 C.2.1 dX9_feed_85 rfl ?_
      refine zg_X9_taped C hW id_20 w_1012 dX9_feed_86 ?_
      refine lv_bipush (v := 12) C.1 C.2.1 dX9_feed_89 rfl ?_
      refine lv_iadd C.1 C.2.1 dX9_feed_91 ?_
      obtain ⟨m_1, e_2, h⟩ := seqM_E h
      refine zp_X9_taped C hW id_20 w_1012 e_2 dX9_feed_92 (fun H locs hW => ?_)
      refine lv_aload_n C.1 C.2.1 dX9_feed_95 rfl (lv_at hl 0 rfl) ?_
      refine zg_X9_taped C hW id_20 w_1012 dX9_feed_96 ?_
      exact ret_i h hq rfl hW dX9_feed_99
    · have h := ite_f hc_5 h
      refine lv_iload C.1 C.2.1 dX9_feed_25 (lv_at hl 4 rfl) ?_
      refine lv_iconst (v := 4) C.1 C.2.1 dX9_feed_27 rfl ?_
      refine lv_icmp_ge (tgt := 35) C.1 C.2.1 dX9_feed_28 (by decide) (fun hc_4 => ?_) (fun hc_4 => ?_)
      · have h := ite_t hc_4 h
        refine lv_iload C.1 C.2.1 dX9_feed_35 (lv_at hl 4 rfl) ?_
        refine lv_bipush (v := 8) C.1 C.2.1 dX9_feed_37 rfl ?_
        refine lv_icmp_ge (tgt := 46) C.1 C.2.1 dX9_feed_39 (by decide) (fun hc_3 => ?_) (fun hc_3 => ?_)
        · have h := ite_t hc_3 h
          refine lv_iload_n C.1 C.2.1 dX9_feed_46 rfl (lv_at hl 3 rfl) ?_
          exact w_X9_feed_47 C hq ih h  hW (lv_sub hl [0, 1, 2, 3, 4] rfl)
        · have h := ite_f hc_3 h
          refine lv_iload_n C.1 C.2.1 dX9_feed_42 rfl (lv_at hl 2 rfl) ?_
          refine lv_goto (tgt := 47) C.1 C.2.1 dX9_feed_43 (by decide) ?_
          exact w_X9_feed_47 C hq ih h  hW (lv_sub hl [0, 1, 2, 3, 4] rfl)
      · have h := ite_f hc_4 h
        refine lv_iload_n C.1 C.2.1 dX9_feed_31 rfl (lv_at hl 1 rfl) ?_
        refine lv_goto (tgt := 47) C.1 C.2.1 dX9_feed_32 (by decide) ?_
        exact w_X9_feed_47 C hq ih h  hW (lv_sub hl [0, 1, 2, 3, 4] rfl)
def f_X9_feed (fu : Nat)  (x1 : Int32) (x2 : Int32) (x3 : Int32) (m : Mem) : Option (Int32 × Mem) := if ((m 3002) + 12) ≤ 96 then (f_X9_feed_18 fu fu x1 x2 x3 0 m) else (some ((-1000000003), m))
set_option maxHeartbeats 4000000 in
set_option maxRecDepth 100000 in
theorem w_X9_feed {X : TX} {p : Program} {l : Launch} {e : Env} {s : State} {mi : MethodId} {args : Array Value} {below : List Frame} {meth : Method} {c : Code} {Q : State → Prop} {r : Int32} {mE : Mem} (C : Cx X p s mi args c RX9 cX9_feed 6) (hq : RetI X p l e (rmD 0) s mi args below meth c cX9_feed .int Q r mE) {fu : Nat} {x1 : Int32} {x2 : Int32} {x3 : Int32} {m : Mem} {H : Heap} {locs : List Loc} {ls : Array Slot} (h : f_X9_feed fu x1 x2 x3 m = some (r, mE))  (hW : Wd X s m H locs) (hl : lv_has ls 6 [(0, .ref (ad X 20 0)), (1, .int x1), (2, .int x2), (3, .int x3)]) : W p l e (rmD 0) s mi args below meth c H locs 0 0 Q (F0 mi 0 ls []) := by
  unfold f_X9_feed at h
  refine lv_aload_n C.1 C.2.1 dX9_feed_0 rfl (lv_at hl 0 rfl) ?_
  refine zg_X9_taped C hW id_20 w_1012 dX9_feed_1 ?_
  refine lv_bipush (v := 12) C.1 C.2.1 dX9_feed_4 rfl ?_
  refine lv_iadd C.1 C.2.1 dX9_feed_6 ?_
  refine lv_bipush (v := 96) C.1 C.2.1 dX9_feed_7 rfl ?_
  refine lv_icmp_le (tgt := 15) C.1 C.2.1 dX9_feed_9 (by decide) (fun hc_1 => ?_) (fun hc_1 => ?_)
  · have h := ite_t hc_1 h
    refine lv_iconst (v := 0) C.1 C.2.1 dX9_feed_15 rfl ?_
    refine lv_istore (lv' := [(4, .int 0), (0, .ref (ad X 20 0)), (1, .int x1), (2, .int x2), (3, .int x3)]) C.1 C.2.1 dX9_feed_16 hl (by decide) rfl (fun ls hl => ?_)
    exact w_X9_feed_18 C hq  fu h  hW (lv_sub hl [1, 2, 3, 4, 0] rfl)
  · have h := ite_f hc_1 h
    refine lv_ldc C.1 C.2.1 C.2.2.2.1 (C.2.2.2.2.1 _ w_1124) dX9_feed_12 ?_
    exact ret_i h hq rfl hW dX9_feed_14
theorem c_X9_feed {X : TX} {l : Launch} {fu : Nat} {x1 : Int32} {x2 : Int32} {x3 : Int32} {m mE : Mem} {r : Int32} (h : f_X9_feed fu x1 x2 x3 m = some (r, mE))  : MetI X l yX9_feed cX9_feed 6 .int 0 [.ref (ad X 20 0), .int x1, .int x2, .int x3] m r mE :=
  met_I (by decide) (Nat.le_of_ble_eq_true rfl) (fun p e s mi args below meth c ls Q C hq hW hl => w_X9_feed C hq h  hW (lv_sub hl [0, 1, 2, 3] rfl))
theorem k_X9_feed : CalV yX9_feed cX9_feed 6 (some .int) RX9 3 := ⟨w_1333, w_1334, w_70, w_1335, by decide +kernel⟩
theorem dX9_trim_0 : decode cX9_trim 0 = .ok (.iload_n 1, 1) := by decide +kernel
theorem dX9_trim_1 : decode cX9_trim 1 = .ok (.iconst 0, 1) := by decide +kernel
theorem dX9_trim_2 : decode cX9_trim 2 = .ok (.aload_n 0, 1) := by decide +kernel
theorem dX9_trim_3 : decode cX9_trim 3 = .ok (.getfield 192, 3) := by decide +kernel
theorem dX9_trim_6 : decode cX9_trim 6 = .ok (.invokestatic 79, 3) := by decide +kernel
theorem dX9_trim_9 : decode cX9_trim 9 = .ok (.ifCond .ne 6, 3) := by decide +kernel
theorem dX9_trim_12 : decode cX9_trim 12 = .ok (.ldc 91, 2) := by decide +kernel
theorem dX9_trim_14 : decode cX9_trim 14 = .ok (.ireturn, 1) := by decide +kernel
theorem dX9_trim_15 : decode cX9_trim 15 = .ok (.aload_n 0, 1) := by decide +kernel
theorem dX9_trim_16 : decode cX9_trim 16 = .ok (.iload_n 1, 1) := by decide +kernel
theorem dX9_trim_17 : decode cX9_trim 17 = .ok (.putfield 192, 3) := by decide +kernel
theorem dX9_trim_20 : decode cX9_trim 20 = .ok (.iload_n 1, 1) := by decide +kernel
theorem dX9_trim_21 : decode cX9_trim 21 = .ok (.ireturn, 1) := by decide +kernel
def f_X9_trim (fu : Nat)  (x1 : Int32) (m : Mem) : Option (Int32 × Mem) := doI (f_X9_in fu x1 0 (m 3002) m) (fun r_3 m_2 => if r_3 = 0 then (some ((-1000000001), m_2)) else (seqM (upd m_2 3002 x1) (fun m_4 : Mem => some (x1, m_4))))
set_option maxHeartbeats 4000000 in
set_option maxRecDepth 100000 in
theorem w_X9_trim {X : TX} {p : Program} {l : Launch} {e : Env} {s : State} {mi : MethodId} {args : Array Value} {below : List Frame} {meth : Method} {c : Code} {Q : State → Prop} {r : Int32} {mE : Mem} (C : Cx X p s mi args c RX9 cX9_trim 2) (hq : RetI X p l e (rmD 1) s mi args below meth c cX9_trim .int Q r mE) {fu : Nat} {x1 : Int32} {m : Mem} {H : Heap} {locs : List Loc} {ls : Array Slot} (h : f_X9_trim fu x1 m = some (r, mE))  (hW : Wd X s m H locs) (hl : lv_has ls 2 [(0, .ref (ad X 20 0)), (1, .int x1)]) : W p l e (rmD 1) s mi args below meth c H locs 0 0 Q (F0 mi 0 ls []) := by
  unfold f_X9_trim at h
  refine lv_iload_n C.1 C.2.1 dX9_trim_0 rfl (lv_at hl 1 rfl) ?_
  refine lv_iconst (v := 0) C.1 C.2.1 dX9_trim_1 rfl ?_
  refine lv_aload_n C.1 C.2.1 dX9_trim_2 rfl (lv_at hl 0 rfl) ?_
  refine zg_X9_taped C hW id_20 w_1012 dX9_trim_3 ?_
  obtain ⟨r_3, m_2, hc_1, h⟩ := doI_E h
  refine zr_cSI C hW (c_X9_in (x0 := x1) (x1 := 0) (x2 := (m 3002)) hc_1 ) k_X9_in w_1117 ⟨Nat.le_of_ble_eq_true rfl, Nat.le_of_ble_eq_true rfl⟩ ⟨Nat.le_refl 0, Nat.le_refl 0⟩ rfl hl.1 rfl (Nat.le_of_ble_eq_true rfl) dX9_trim_6 (fun H locs hW => ?_)
  refine lv_if_ne (tgt := 15) C.1 C.2.1 dX9_trim_9 (by decide) (fun hc_6 => ?_) (fun hc_6 => ?_)
  · have h := ite_f hc_6 h
    refine lv_aload_n C.1 C.2.1 dX9_trim_15 rfl (lv_at hl 0 rfl) ?_
    refine lv_iload_n C.1 C.2.1 dX9_trim_16 rfl (lv_at hl 1 rfl) ?_
    obtain ⟨m_4, e_5, h⟩ := seqM_E h
    refine zp_X9_taped C hW id_20 w_1012 e_5 dX9_trim_17 (fun H locs hW => ?_)
    refine lv_iload_n C.1 C.2.1 dX9_trim_20 rfl (lv_at hl 1 rfl) ?_
    exact ret_i h hq rfl hW dX9_trim_21
  · have h := ite_t hc_6 h
    refine lv_ldc C.1 C.2.1 C.2.2.2.1 (C.2.2.2.2.1 _ w_1123) dX9_trim_12 ?_
    exact ret_i h hq rfl hW dX9_trim_14
theorem c_X9_trim {X : TX} {l : Launch} {fu : Nat} {x1 : Int32} {m mE : Mem} {r : Int32} (h : f_X9_trim fu x1 m = some (r, mE))  : MetI X l yX9_trim cX9_trim 2 .int 1 [.ref (ad X 20 0), .int x1] m r mE :=
  met_I (by decide) (Nat.le_of_ble_eq_true rfl) (fun p e s mi args below meth c ls Q C hq hW hl => w_X9_trim C hq h  hW (lv_sub hl [0, 1] rfl))
theorem k_X9_trim : CalV yX9_trim cX9_trim 2 (some .int) RX9 1 := ⟨w_1337, w_1338, w_70, w_1339, by decide +kernel⟩
