theorem dX8_becomes_0 : decode cX8_becomes 0 = .ok (.aload_n 0, 1) := by decide +kernel
theorem dX8_becomes_1 : decode cX8_becomes 1 = .ok (.getfield 28, 3) := by decide +kernel
theorem dX8_becomes_4 : decode cX8_becomes 4 = .ok (.iload_n 1, 1) := by decide +kernel
theorem dX8_becomes_5 : decode cX8_becomes 5 = .ok (.invokevirtual 83, 3) := by decide +kernel
theorem dX8_becomes_8 : decode cX8_becomes 8 = .ok (.ifCond .eq 11, 3) := by decide +kernel
theorem dX8_becomes_11 : decode cX8_becomes 11 = .ok (.iload_n 2, 1) := by decide +kernel
theorem dX8_becomes_12 : decode cX8_becomes 12 = .ok (.iload_n 3, 1) := by decide +kernel
theorem dX8_becomes_13 : decode cX8_becomes 13 = .ok (.invokestatic 209, 3) := by decide +kernel
theorem dX8_becomes_16 : decode cX8_becomes 16 = .ok (.ifCond .ne 6, 3) := by decide +kernel
theorem dX8_becomes_19 : decode cX8_becomes 19 = .ok (.ldc 73, 2) := by decide +kernel
theorem dX8_becomes_21 : decode cX8_becomes 21 = .ok (.ireturn, 1) := by decide +kernel
theorem dX8_becomes_22 : decode cX8_becomes 22 = .ok (.aload_n 0, 1) := by decide +kernel
theorem dX8_becomes_23 : decode cX8_becomes 23 = .ok (.getfield 41, 3) := by decide +kernel
theorem dX8_becomes_26 : decode cX8_becomes 26 = .ok (.invokevirtual 212, 3) := by decide +kernel
theorem dX8_becomes_29 : decode cX8_becomes 29 = .ok (.iconst 0, 1) := by decide +kernel
theorem dX8_becomes_30 : decode cX8_becomes 30 = .ok (.istore 4, 2) := by decide +kernel
theorem dX8_becomes_32 : decode cX8_becomes 32 = .ok (.iload 4, 2) := by decide +kernel
theorem dX8_becomes_34 : decode cX8_becomes 34 = .ok (.iconst 5, 1) := by decide +kernel
theorem dX8_becomes_35 : decode cX8_becomes 35 = .ok (.if_icmp .gt 58, 3) := by decide +kernel
theorem dX8_becomes_38 : decode cX8_becomes 38 = .ok (.aload_n 0, 1) := by decide +kernel
theorem dX8_becomes_39 : decode cX8_becomes 39 = .ok (.getfield 32, 3) := by decide +kernel
theorem dX8_becomes_42 : decode cX8_becomes 42 = .ok (.aload_n 0, 1) := by decide +kernel
theorem dX8_becomes_43 : decode cX8_becomes 43 = .ok (.getfield 28, 3) := by decide +kernel
theorem dX8_becomes_46 : decode cX8_becomes 46 = .ok (.invokevirtual 194, 3) := by decide +kernel
theorem dX8_becomes_49 : decode cX8_becomes 49 = .ok (.aload_n 0, 1) := by decide +kernel
theorem dX8_becomes_50 : decode cX8_becomes 50 = .ok (.getfield 32, 3) := by decide +kernel
theorem dX8_becomes_53 : decode cX8_becomes 53 = .ok (.getfield 86, 3) := by decide +kernel
theorem dX8_becomes_56 : decode cX8_becomes 56 = .ok (.iload_n 1, 1) := by decide +kernel
theorem dX8_becomes_57 : decode cX8_becomes 57 = .ok (.aaload, 1) := by decide +kernel
theorem dX8_becomes_58 : decode cX8_becomes 58 = .ok (.iload 4, 2) := by decide +kernel
theorem dX8_becomes_60 : decode cX8_becomes 60 = .ok (.putfield 90, 3) := by decide +kernel
theorem dX8_becomes_63 : decode cX8_becomes 63 = .ok (.aload_n 0, 1) := by decide +kernel
theorem dX8_becomes_64 : decode cX8_becomes 64 = .ok (.getfield 32, 3) := by decide +kernel
theorem dX8_becomes_67 : decode cX8_becomes 67 = .ok (.iload_n 2, 1) := by decide +kernel
theorem dX8_becomes_68 : decode cX8_becomes 68 = .ok (.invokevirtual 160, 3) := by decide +kernel
theorem dX8_becomes_71 : decode cX8_becomes 71 = .ok (.aload_n 0, 1) := by decide +kernel
theorem dX8_becomes_72 : decode cX8_becomes 72 = .ok (.getfield 41, 3) := by decide +kernel
theorem dX8_becomes_75 : decode cX8_becomes 75 = .ok (.iload 4, 2) := by decide +kernel
theorem dX8_becomes_77 : decode cX8_becomes 77 = .ok (.aload_n 0, 1) := by decide +kernel
theorem dX8_becomes_78 : decode cX8_becomes 78 = .ok (.getfield 32, 3) := by decide +kernel
theorem dX8_becomes_81 : decode cX8_becomes 81 = .ok (.getfield 164, 3) := by decide +kernel
theorem dX8_becomes_84 : decode cX8_becomes 84 = .ok (.invokevirtual 215, 3) := by decide +kernel
theorem dX8_becomes_87 : decode cX8_becomes 87 = .ok (.iinc 4 1, 3) := by decide +kernel
theorem dX8_becomes_90 : decode cX8_becomes 90 = .ok (.goto (-58), 3) := by decide +kernel
theorem dX8_becomes_93 : decode cX8_becomes 93 = .ok (.aload_n 0, 1) := by decide +kernel
theorem dX8_becomes_94 : decode cX8_becomes 94 = .ok (.getfield 41, 3) := by decide +kernel
theorem dX8_becomes_97 : decode cX8_becomes 97 = .ok (.iload_n 3, 1) := by decide +kernel
theorem dX8_becomes_98 : decode cX8_becomes 98 = .ok (.invokevirtual 219, 3) := by decide +kernel
theorem dX8_becomes_101 : decode cX8_becomes 101 = .ok (.ireturn, 1) := by decide +kernel
def f_X8_becomes_32 (fu : Nat)  : Nat → Int32 → Int32 → Int32 → Int32 → Mem → Option (Int32 × Mem)
  | 0, _, _, _, _, _ => none
  | n + 1, x1, x2, x3, x4, m => if 5 < x4 then (doI (f_X0_answer fu x3 m) (fun r_3 m_2 => some (r_3, m_2))) else (doV (f_X4_become fu 1 0 m) (fun m_5 => chk (inb x1 5) (seqM (upd m_5 (vf (10 * 1 + x1.toNatClampNeg) 0) x4) (fun m_7 : Mem => doV (f_X4_run fu 1 x2 m_7) (fun m_10 => doV (f_X0_weigh fu x4 (m_10 (sf 1 5)) m_10) (fun m_12 => seqM (x4 + 1) (fun x_13 : Int32 => f_X8_becomes_32 fu n x1 x2 x3 x_13 m_12)))))))
set_option maxHeartbeats 4000000 in
set_option maxRecDepth 100000 in
theorem w_X8_becomes_32 {X : TX} {p : Program} {l : Launch} {e : Env} {s : State} {mi : MethodId} {args : Array Value} {below : List Frame} {meth : Method} {c : Code} {Q : State → Prop} {r : Int32} {mE : Mem} (C : Cx X p s mi args c RX8 cX8_becomes 5) (hq : RetI X p l e (rmD 6) s mi args below meth c cX8_becomes .int Q r mE) {fu : Nat} : ∀ (n : Nat) {x1 : Int32} {x2 : Int32} {x3 : Int32} {x4 : Int32} {m : Mem} {H : Heap} {locs : List Loc} {ls : Array Slot}, f_X8_becomes_32 fu n x1 x2 x3 x4 m = some (r, mE) → Wd X s m H locs → lv_has ls 5 [(0, .ref (ad X 0 0)), (1, .int x1), (2, .int x2), (3, .int x3), (4, .int x4)] → W p l e (rmD 6) s mi args below meth c H locs 0 0 Q (F0 mi 32 ls []) := by
  intro n
  induction n with
  | zero =>
    intro x1 x2 x3 x4 m H locs ls h hW hl
    rw [f_X8_becomes_32] at h
    cases h
  | succ n ih =>
    intro x1 x2 x3 x4 m H locs ls h hW hl
    rw [f_X8_becomes_32] at h
    refine lv_iload C.1 C.2.1 dX8_becomes_32 (lv_at hl 4 rfl) ?_
    refine lv_iconst (v := 5) C.1 C.2.1 dX8_becomes_34 rfl ?_
    refine lv_icmp_gt (tgt := 93) C.1 C.2.1 dX8_becomes_35 (by decide) (fun hc_15 => ?_) (fun hc_15 => ?_)
    · have h := ite_t hc_15 h
      refine lv_aload_n C.1 C.2.1 dX8_becomes_93 rfl (lv_at hl 0 rfl) ?_
      refine zg_X8_best C hW id_0 w_366 dX8_becomes_94 ?_
      refine lv_iload_n C.1 C.2.1 dX8_becomes_97 rfl (lv_at hl 3 rfl) ?_
      obtain ⟨r_3, m_2, hc_1, h⟩ := doI_E h
      refine zr_cVI C hW (c_X0_answer (x1 := x3) hc_1 ) k_X0_answer (zr_recv C hW id_13 zco_13 rfl) w_627 ⟨Nat.le_of_ble_eq_true rfl, Nat.le_of_ble_eq_true rfl⟩ ⟨Nat.le_refl 0, Nat.le_refl 0⟩ rfl hl.1 rfl (Nat.le_of_ble_eq_true rfl) dX8_becomes_98 (fun H locs hW => ?_)
      exact ret_i h hq rfl hW dX8_becomes_101
    · have h := ite_f hc_15 h
      refine lv_aload_n C.1 C.2.1 dX8_becomes_38 rfl (lv_at hl 0 rfl) ?_
      refine zg_X8_thought C hW id_0 w_363 dX8_becomes_39 ?_
      refine lv_aload_n C.1 C.2.1 dX8_becomes_42 rfl (lv_at hl 0 rfl) ?_
      refine zg_X8_now C hW id_0 w_362 dX8_becomes_43 ?_
      obtain ⟨m_5, hc_4, h⟩ := doV_E h
      refine zr_cVV C hW (c_X4_become (i0 := 1) (i1 := 0) hc_4 id_9_1 id_9_0) k_X4_become (zr_recv C hW id_9_1 zco_9 rfl) w_589 ⟨Nat.le_of_ble_eq_true rfl, Nat.le_of_ble_eq_true rfl⟩ ⟨Nat.le_refl 0, Nat.le_refl 0⟩ rfl hl.1 rfl (Nat.le_of_ble_eq_true rfl) dX8_becomes_46 (fun H locs hW => ?_)
      refine lv_aload_n C.1 C.2.1 dX8_becomes_49 rfl (lv_at hl 0 rfl) ?_
      refine zg_X8_thought C hW id_0 w_363 dX8_becomes_50 ?_
      refine zg_X4_voices C hW id_9_1 w_225 dX8_becomes_53 ?_
      refine lv_iload_n C.1 C.2.1 dX8_becomes_56 rfl (lv_at hl 1 rfl) ?_
      obtain ⟨hb_6, h⟩ := chk_E h
      refine zaa_10 C hW (im_9_10 id_9_1) (inb_E hb_6) dX8_becomes_57 ?_
      refine lv_iload C.1 C.2.1 dX8_becomes_58 (lv_at hl 4 rfl) ?_
      obtain ⟨m_7, e_8, h⟩ := seqM_E h
      refine zp_X7_kind C hW (ia_10 (im_9_10 id_9_1) (inb_E hb_6)) w_188 e_8 dX8_becomes_60 (fun H locs hW => ?_)
      refine lv_aload_n C.1 C.2.1 dX8_becomes_63 rfl (lv_at hl 0 rfl) ?_
      refine zg_X8_thought C hW id_0 w_363 dX8_becomes_64 ?_
      refine lv_iload_n C.1 C.2.1 dX8_becomes_67 rfl (lv_at hl 2 rfl) ?_
      obtain ⟨m_10, hc_9, h⟩ := doV_E h
      refine zr_cVV C hW (c_X4_run (i0 := 1) (x1 := x2) hc_9 id_9_1) k_X4_run (zr_recv C hW id_9_1 zco_9 rfl) w_515 ⟨Nat.le_of_ble_eq_true rfl, Nat.le_of_ble_eq_true rfl⟩ ⟨Nat.le_refl 0, Nat.le_refl 0⟩ rfl hl.1 rfl (Nat.le_of_ble_eq_true rfl) dX8_becomes_68 (fun H locs hW => ?_)
      refine lv_aload_n C.1 C.2.1 dX8_becomes_71 rfl (lv_at hl 0 rfl) ?_
      refine zg_X8_best C hW id_0 w_366 dX8_becomes_72 ?_
      refine lv_iload C.1 C.2.1 dX8_becomes_75 (lv_at hl 4 rfl) ?_
      refine lv_aload_n C.1 C.2.1 dX8_becomes_77 rfl (lv_at hl 0 rfl) ?_
      refine zg_X8_thought C hW id_0 w_363 dX8_becomes_78 ?_
      refine zg_X4_listeners C hW id_9_1 w_229 dX8_becomes_81 ?_
      obtain ⟨m_12, hc_11, h⟩ := doV_E h
      refine zr_cVV C hW (c_X0_weigh (x1 := x4) (x2 := (m_10 (sf 1 5))) hc_11 ) k_X0_weigh (zr_recv C hW id_13 zco_13 rfl) w_623 ⟨Nat.le_of_ble_eq_true rfl, Nat.le_of_ble_eq_true rfl⟩ ⟨Nat.le_refl 0, Nat.le_refl 0⟩ rfl hl.1 rfl (Nat.le_of_ble_eq_true rfl) dX8_becomes_84 (fun H locs hW => ?_)
      obtain ⟨x_13, e_14, h⟩ := seqM_E h
      refine lv_iinc (v := x_13) (lv' := [(4, .int x_13), (0, .ref (ad X 0 0)), (1, .int x1), (2, .int x2), (3, .int x3)]) C.1 C.2.1 dX8_becomes_87 hl (k := 4) rfl (by rw [e_14]; rfl) (by decide) rfl (fun ls hl => ?_)
      refine lv_goto (tgt := 32) C.1 C.2.1 dX8_becomes_90 (by decide) ?_
      exact ih h  hW (lv_sub hl [1, 2, 3, 4, 0] rfl)
def f_X8_becomes (fu : Nat)  (x1 : Int32) (x2 : Int32) (x3 : Int32) (m : Mem) : Option (Int32 × Mem) := doI (f_X4_has fu 0 x1 m) (fun r_3 m_2 => if r_3 = 0 then (some ((-1000000001), m_2)) else (doI (f_X8_isBestAsked fu x2 x3 m_2) (fun r_6 m_5 => if r_6 = 0 then (some ((-1000000001), m_5)) else (doV (f_X0_clear fu  m_5) (fun m_8 => f_X8_becomes_32 fu fu x1 x2 x3 0 m_8)))))
set_option maxHeartbeats 4000000 in
set_option maxRecDepth 100000 in
theorem w_X8_becomes {X : TX} {p : Program} {l : Launch} {e : Env} {s : State} {mi : MethodId} {args : Array Value} {below : List Frame} {meth : Method} {c : Code} {Q : State → Prop} {r : Int32} {mE : Mem} (C : Cx X p s mi args c RX8 cX8_becomes 5) (hq : RetI X p l e (rmD 6) s mi args below meth c cX8_becomes .int Q r mE) {fu : Nat} {x1 : Int32} {x2 : Int32} {x3 : Int32} {m : Mem} {H : Heap} {locs : List Loc} {ls : Array Slot} (h : f_X8_becomes fu x1 x2 x3 m = some (r, mE))  (hW : Wd X s m H locs) (hl : lv_has ls 5 [(0, .ref (ad X 0 0)), (1, .int x1), (2, .int x2), (3, .int x3)]) : W p l e (rmD 6) s mi args below meth c H locs 0 0 Q (F0 mi 0 ls []) := by
  unfold f_X8_becomes at h
  refine lv_aload_n C.1 C.2.1 dX8_becomes_0 rfl (lv_at hl 0 rfl) ?_
  refine zg_X8_now C hW id_0 w_362 dX8_becomes_1 ?_
  refine lv_iload_n C.1 C.2.1 dX8_becomes_4 rfl (lv_at hl 1 rfl) ?_
  obtain ⟨r_3, m_2, hc_1, h⟩ := doI_E h
  refine zr_cVI C hW (c_X4_has (i0 := 0) (x1 := x1) hc_1 id_9_0) k_X4_has (zr_recv C hW id_9_0 zco_9 rfl) w_422 ⟨Nat.le_of_ble_eq_true rfl, Nat.le_of_ble_eq_true rfl⟩ ⟨Nat.le_refl 0, Nat.le_refl 0⟩ rfl hl.1 rfl (Nat.le_of_ble_eq_true rfl) dX8_becomes_5 (fun H locs hW => ?_)
  refine lv_if_eq (tgt := 19) C.1 C.2.1 dX8_becomes_8 (by decide) (fun hc_10 => ?_) (fun hc_10 => ?_)
  · have h := ite_t hc_10 h
    refine lv_ldc C.1 C.2.1 C.2.2.2.1 (C.2.2.2.2.1 _ w_408) dX8_becomes_19 ?_
    exact ret_i h hq rfl hW dX8_becomes_21
  · have h := ite_f hc_10 h
    refine lv_iload_n C.1 C.2.1 dX8_becomes_11 rfl (lv_at hl 2 rfl) ?_
    refine lv_iload_n C.1 C.2.1 dX8_becomes_12 rfl (lv_at hl 3 rfl) ?_
    obtain ⟨r_6, m_5, hc_4, h⟩ := doI_E h
    refine zr_cSI C hW (c_X8_isBestAsked (x0 := x2) (x1 := x3) hc_4 ) k_X8_isBestAsked w_616 ⟨Nat.le_of_ble_eq_true rfl, Nat.le_of_ble_eq_true rfl⟩ ⟨Nat.le_refl 0, Nat.le_refl 0⟩ rfl hl.1 rfl (Nat.le_of_ble_eq_true rfl) dX8_becomes_13 (fun H locs hW => ?_)
    refine lv_if_ne (tgt := 22) C.1 C.2.1 dX8_becomes_16 (by decide) (fun hc_9 => ?_) (fun hc_9 => ?_)
    · have h := ite_f hc_9 h
      refine lv_aload_n C.1 C.2.1 dX8_becomes_22 rfl (lv_at hl 0 rfl) ?_
      refine zg_X8_best C hW id_0 w_366 dX8_becomes_23 ?_
      obtain ⟨m_8, hc_7, h⟩ := doV_E h
      refine zr_cVV C hW (c_X0_clear  hc_7 ) k_X0_clear (zr_recv C hW id_13 zco_13 rfl) w_619 ⟨Nat.le_of_ble_eq_true rfl, Nat.le_of_ble_eq_true rfl⟩ ⟨Nat.le_refl 0, Nat.le_refl 0⟩ rfl hl.1 rfl (Nat.le_of_ble_eq_true rfl) dX8_becomes_26 (fun H locs hW => ?_)
      refine lv_iconst (v := 0) C.1 C.2.1 dX8_becomes_29 rfl ?_
      refine lv_istore (lv' := [(4, .int 0), (0, .ref (ad X 0 0)), (1, .int x1), (2, .int x2), (3, .int x3)]) C.1 C.2.1 dX8_becomes_30 hl (by decide) rfl (fun ls hl => ?_)
      exact w_X8_becomes_32 C hq  fu h  hW (lv_sub hl [1, 2, 3, 4, 0] rfl)
    · have h := ite_t hc_9 h
      refine lv_ldc C.1 C.2.1 C.2.2.2.1 (C.2.2.2.2.1 _ w_408) dX8_becomes_19 ?_
      exact ret_i h hq rfl hW dX8_becomes_21
theorem c_X8_becomes {X : TX} {l : Launch} {fu : Nat} {x1 : Int32} {x2 : Int32} {x3 : Int32} {m mE : Mem} {r : Int32} (h : f_X8_becomes fu x1 x2 x3 m = some (r, mE))  : MetI X l yX8_becomes cX8_becomes 5 .int 6 [.ref (ad X 0 0), .int x1, .int x2, .int x3] m r mE :=
  met_I (by decide) (Nat.le_of_ble_eq_true rfl) (fun p e s mi args below meth c ls Q C hq hW hl => w_X8_becomes C hq h  hW (lv_sub hl [0, 1, 2, 3] rfl))
theorem k_X8_becomes : CalV yX8_becomes cX8_becomes 5 (some .int) RX8 3 := ⟨w_640, w_641, w_61, w_642, by decide +kernel⟩
theorem dX8_apart_0 : decode cX8_apart 0 = .ok (.aload_n 0, 1) := by decide +kernel
theorem dX8_apart_1 : decode cX8_apart 1 = .ok (.getfield 28, 3) := by decide +kernel
theorem dX8_apart_4 : decode cX8_apart 4 = .ok (.iload_n 1, 1) := by decide +kernel
theorem dX8_apart_5 : decode cX8_apart 5 = .ok (.invokevirtual 83, 3) := by decide +kernel
theorem dX8_apart_8 : decode cX8_apart 8 = .ok (.ifCond .eq 29, 3) := by decide +kernel
theorem dX8_apart_11 : decode cX8_apart 11 = .ok (.aload_n 0, 1) := by decide +kernel
theorem dX8_apart_12 : decode cX8_apart 12 = .ok (.getfield 28, 3) := by decide +kernel
theorem dX8_apart_15 : decode cX8_apart 15 = .ok (.iload_n 2, 1) := by decide +kernel
theorem dX8_apart_16 : decode cX8_apart 16 = .ok (.invokevirtual 83, 3) := by decide +kernel
theorem dX8_apart_19 : decode cX8_apart 19 = .ok (.ifCond .eq 18, 3) := by decide +kernel
theorem dX8_apart_22 : decode cX8_apart 22 = .ok (.iload_n 1, 1) := by decide +kernel
theorem dX8_apart_23 : decode cX8_apart 23 = .ok (.iload_n 2, 1) := by decide +kernel
theorem dX8_apart_24 : decode cX8_apart 24 = .ok (.if_icmp .eq 13, 3) := by decide +kernel
theorem dX8_apart_27 : decode cX8_apart 27 = .ok (.iload_n 3, 1) := by decide +kernel
theorem dX8_apart_28 : decode cX8_apart 28 = .ok (.iconst 1, 1) := by decide +kernel
theorem dX8_apart_29 : decode cX8_apart 29 = .ok (.bipush 60, 2) := by decide +kernel
theorem dX8_apart_31 : decode cX8_apart 31 = .ok (.invokestatic 137, 3) := by decide +kernel
theorem dX8_apart_34 : decode cX8_apart 34 = .ok (.ifCond .ne 6, 3) := by decide +kernel
theorem dX8_apart_37 : decode cX8_apart 37 = .ok (.ldc 73, 2) := by decide +kernel
theorem dX8_apart_39 : decode cX8_apart 39 = .ok (.ireturn, 1) := by decide +kernel
theorem dX8_apart_40 : decode cX8_apart 40 = .ok (.iconst 0, 1) := by decide +kernel
theorem dX8_apart_41 : decode cX8_apart 41 = .ok (.istore 4, 2) := by decide +kernel
theorem dX8_apart_43 : decode cX8_apart 43 = .ok (.iload 4, 2) := by decide +kernel
theorem dX8_apart_45 : decode cX8_apart 45 = .ok (.bipush 20, 2) := by decide +kernel
theorem dX8_apart_47 : decode cX8_apart 47 = .ok (.if_icmp .gt 67, 3) := by decide +kernel
theorem dX8_apart_50 : decode cX8_apart 50 = .ok (.aload_n 0, 1) := by decide +kernel
theorem dX8_apart_51 : decode cX8_apart 51 = .ok (.getfield 32, 3) := by decide +kernel
theorem dX8_apart_54 : decode cX8_apart 54 = .ok (.aload_n 0, 1) := by decide +kernel
theorem dX8_apart_55 : decode cX8_apart 55 = .ok (.getfield 28, 3) := by decide +kernel
theorem dX8_apart_58 : decode cX8_apart 58 = .ok (.invokevirtual 194, 3) := by decide +kernel
theorem dX8_apart_61 : decode cX8_apart 61 = .ok (.aload_n 0, 1) := by decide +kernel
theorem dX8_apart_62 : decode cX8_apart 62 = .ok (.getfield 32, 3) := by decide +kernel
theorem dX8_apart_65 : decode cX8_apart 65 = .ok (.getfield 86, 3) := by decide +kernel
theorem dX8_apart_68 : decode cX8_apart 68 = .ok (.iload_n 2, 1) := by decide +kernel
theorem dX8_apart_69 : decode cX8_apart 69 = .ok (.aaload, 1) := by decide +kernel
theorem dX8_apart_70 : decode cX8_apart 70 = .ok (.dup, 1) := by decide +kernel
theorem dX8_apart_71 : decode cX8_apart 71 = .ok (.getfield 94, 3) := by decide +kernel
theorem dX8_apart_74 : decode cX8_apart 74 = .ok (.iload 4, 2) := by decide +kernel
theorem dX8_apart_76 : decode cX8_apart 76 = .ok (.iadd, 1) := by decide +kernel
theorem dX8_apart_77 : decode cX8_apart 77 = .ok (.putfield 94, 3) := by decide +kernel
theorem dX8_apart_80 : decode cX8_apart 80 = .ok (.aload_n 0, 1) := by decide +kernel
theorem dX8_apart_81 : decode cX8_apart 81 = .ok (.getfield 32, 3) := by decide +kernel
theorem dX8_apart_84 : decode cX8_apart 84 = .ok (.iload_n 3, 1) := by decide +kernel
theorem dX8_apart_85 : decode cX8_apart 85 = .ok (.invokevirtual 160, 3) := by decide +kernel
theorem dX8_apart_88 : decode cX8_apart 88 = .ok (.aload_n 0, 1) := by decide +kernel
theorem dX8_apart_89 : decode cX8_apart 89 = .ok (.getfield 32, 3) := by decide +kernel
theorem dX8_apart_92 : decode cX8_apart 92 = .ok (.getfield 179, 3) := by decide +kernel
theorem dX8_apart_95 : decode cX8_apart 95 = .ok (.aload_n 0, 1) := by decide +kernel
theorem dX8_apart_96 : decode cX8_apart 96 = .ok (.getfield 28, 3) := by decide +kernel
theorem dX8_apart_99 : decode cX8_apart 99 = .ok (.getfield 179, 3) := by decide +kernel
theorem dX8_apart_102 : decode cX8_apart 102 = .ok (.if_icmp .ne 6, 3) := by decide +kernel
theorem dX8_apart_105 : decode cX8_apart 105 = .ok (.iload 4, 2) := by decide +kernel
theorem dX8_apart_107 : decode cX8_apart 107 = .ok (.ireturn, 1) := by decide +kernel
theorem dX8_apart_108 : decode cX8_apart 108 = .ok (.iinc 4 1, 3) := by decide +kernel
theorem dX8_apart_111 : decode cX8_apart 111 = .ok (.goto (-68), 3) := by decide +kernel
theorem dX8_apart_114 : decode cX8_apart 114 = .ok (.ldc 202, 2) := by decide +kernel
theorem dX8_apart_116 : decode cX8_apart 116 = .ok (.ireturn, 1) := by decide +kernel
def f_X8_apart_43 (fu : Nat)  : Nat → Int32 → Int32 → Int32 → Mem → Option (Int32 × Mem)
  | 0, _, _, _, _ => none
  | n + 1, x2, x3, x4, m => if 20 < x4 then (some ((-1000000005), m)) else (doV (f_X4_become fu 1 0 m) (fun m_2 => chk (inb x2 5) (seqM (upd m_2 (vf (10 * 1 + x2.toNatClampNeg) 1) ((m_2 (vf (10 * 1 + x2.toNatClampNeg) 1)) + x4)) (fun m_4 : Mem => doV (f_X4_run fu 1 x3 m_4) (fun m_7 => if (m_7 (sf 1 11)) = (m_7 (sf 0 11)) then (some (x4, m_7)) else (seqM (x4 + 1) (fun x_8 : Int32 => f_X8_apart_43 fu n x2 x3 x_8 m_7)))))))
set_option maxHeartbeats 4000000 in
set_option maxRecDepth 100000 in
theorem w_X8_apart_43 {X : TX} {p : Program} {l : Launch} {e : Env} {s : State} {mi : MethodId} {args : Array Value} {below : List Frame} {meth : Method} {c : Code} {Q : State → Prop} {r : Int32} {mE : Mem} (C : Cx X p s mi args c RX8 cX8_apart 5) (hq : RetI X p l e (rmD 6) s mi args below meth c cX8_apart .int Q r mE) {fu : Nat} : ∀ (n : Nat) {x2 : Int32} {x3 : Int32} {x4 : Int32} {m : Mem} {H : Heap} {locs : List Loc} {ls : Array Slot}, f_X8_apart_43 fu n x2 x3 x4 m = some (r, mE) → Wd X s m H locs → lv_has ls 5 [(0, .ref (ad X 0 0)), (2, .int x2), (3, .int x3), (4, .int x4)] → W p l e (rmD 6) s mi args below meth c H locs 0 0 Q (F0 mi 43 ls []) := by
  intro n
  induction n with
  | zero =>
    intro x2 x3 x4 m H locs ls h hW hl
    rw [f_X8_apart_43] at h
    cases h
  | succ n ih =>
    intro x2 x3 x4 m H locs ls h hW hl
    rw [f_X8_apart_43] at h
    refine lv_iload C.1 C.2.1 dX8_apart_43 (lv_at hl 3 rfl) ?_
    refine lv_bipush (v := 20) C.1 C.2.1 dX8_apart_45 rfl ?_
    refine lv_icmp_gt (tgt := 114) C.1 C.2.1 dX8_apart_47 (by decide) (fun hc_11 => ?_) (fun hc_11 => ?_)
    · have h := ite_t hc_11 h
      refine lv_ldc C.1 C.2.1 C.2.2.2.1 (C.2.2.2.2.1 _ w_605) dX8_apart_114 ?_
      exact ret_i h hq rfl hW dX8_apart_116
    · have h := ite_f hc_11 h
      refine lv_aload_n C.1 C.2.1 dX8_apart_50 rfl (lv_at hl 0 rfl) ?_
      refine zg_X8_thought C hW id_0 w_363 dX8_apart_51 ?_
      refine lv_aload_n C.1 C.2.1 dX8_apart_54 rfl (lv_at hl 0 rfl) ?_
      refine zg_X8_now C hW id_0 w_362 dX8_apart_55 ?_
      obtain ⟨m_2, hc_1, h⟩ := doV_E h
      refine zr_cVV C hW (c_X4_become (i0 := 1) (i1 := 0) hc_1 id_9_1 id_9_0) k_X4_become (zr_recv C hW id_9_1 zco_9 rfl) w_589 ⟨Nat.le_of_ble_eq_true rfl, Nat.le_of_ble_eq_true rfl⟩ ⟨Nat.le_refl 0, Nat.le_refl 0⟩ rfl hl.1 rfl (Nat.le_of_ble_eq_true rfl) dX8_apart_58 (fun H locs hW => ?_)
      refine lv_aload_n C.1 C.2.1 dX8_apart_61 rfl (lv_at hl 0 rfl) ?_
      refine zg_X8_thought C hW id_0 w_363 dX8_apart_62 ?_
      refine zg_X4_voices C hW id_9_1 w_225 dX8_apart_65 ?_
      refine lv_iload_n C.1 C.2.1 dX8_apart_68 rfl (lv_at hl 1 rfl) ?_
      obtain ⟨hb_3, h⟩ := chk_E h
      refine zaa_10 C hW (im_9_10 id_9_1) (inb_E hb_3) dX8_apart_69 ?_
      refine lv_dup C.1 C.2.1 dX8_apart_70 rfl ?_
      refine zg_X7_wait C hW (ia_10 (im_9_10 id_9_1) (inb_E hb_3)) w_192 dX8_apart_71 ?_
      refine lv_iload C.1 C.2.1 dX8_apart_74 (lv_at hl 3 rfl) ?_
      refine lv_iadd C.1 C.2.1 dX8_apart_76 ?_
      obtain ⟨m_4, e_5, h⟩ := seqM_E h
      refine zp_X7_wait C hW (ia_10 (im_9_10 id_9_1) (inb_E hb_3)) w_192 e_5 dX8_apart_77 (fun H locs hW => ?_)
      refine lv_aload_n C.1 C.2.1 dX8_apart_80 rfl (lv_at hl 0 rfl) ?_
      refine zg_X8_thought C hW id_0 w_363 dX8_apart_81 ?_
      refine lv_iload_n C.1 C.2.1 dX8_apart_84 rfl (lv_at hl 2 rfl) ?_
      obtain ⟨m_7, hc_6, h⟩ := doV_E h
      refine zr_cVV C hW (c_X4_run (i0 := 1) (x1 := x3) hc_6 id_9_1) k_X4_run (zr_recv C hW id_9_1 zco_9 rfl) w_515 ⟨Nat.le_of_ble_eq_true rfl, Nat.le_of_ble_eq_true rfl⟩ ⟨Nat.le_refl 0, Nat.le_refl 0⟩ rfl hl.1 rfl (Nat.le_of_ble_eq_true rfl) dX8_apart_85 (fun H locs hW => ?_)
      refine lv_aload_n C.1 C.2.1 dX8_apart_88 rfl (lv_at hl 0 rfl) ?_
      refine zg_X8_thought C hW id_0 w_363 dX8_apart_89 ?_
      refine zg_X4_crossed C hW id_9_1 w_245 dX8_apart_92 ?_
      refine lv_aload_n C.1 C.2.1 dX8_apart_95 rfl (lv_at hl 0 rfl) ?_
      refine zg_X8_now C hW id_0 w_362 dX8_apart_96 ?_
      refine zg_X4_crossed C hW id_9_0 w_245 dX8_apart_99 ?_
      refine lv_icmp_ne (tgt := 108) C.1 C.2.1 dX8_apart_102 (by decide) (fun hc_10 => ?_) (fun hc_10 => ?_)
      · have h := ite_f hc_10 h
        obtain ⟨x_8, e_9, h⟩ := seqM_E h
        refine lv_iinc (v := x_8) (lv' := [(4, .int x_8), (0, .ref (ad X 0 0)), (2, .int x2), (3, .int x3)]) C.1 C.2.1 dX8_apart_108 hl (k := 3) rfl (by rw [e_9]; rfl) (by decide) rfl (fun ls hl => ?_)
        refine lv_goto (tgt := 43) C.1 C.2.1 dX8_apart_111 (by decide) ?_
        exact ih h  hW (lv_sub hl [1, 2, 3, 0] rfl)
      · have h := ite_t hc_10 h
        refine lv_iload C.1 C.2.1 dX8_apart_105 (lv_at hl 3 rfl) ?_
        exact ret_i h hq rfl hW dX8_apart_107
def f_X8_apart (fu : Nat)  (x1 : Int32) (x2 : Int32) (x3 : Int32) (m : Mem) : Option (Int32 × Mem) := doI (f_X4_has fu 0 x1 m) (fun r_3 m_2 => if r_3 = 0 then (some ((-1000000001), m_2)) else (doI (f_X4_has fu 0 x2 m_2) (fun r_6 m_5 => if r_6 = 0 then (some ((-1000000001), m_5)) else (if x1 = x2 then (some ((-1000000001), m_5)) else (doI (f_X8_within fu x3 1 60 m_5) (fun r_9 m_8 => if r_9 = 0 then (some ((-1000000001), m_8)) else (f_X8_apart_43 fu fu x2 x3 0 m_8)))))))
set_option maxHeartbeats 4000000 in
set_option maxRecDepth 100000 in
theorem w_X8_apart {X : TX} {p : Program} {l : Launch} {e : Env} {s : State} {mi : MethodId} {args : Array Value} {below : List Frame} {meth : Method} {c : Code} {Q : State → Prop} {r : Int32} {mE : Mem} (C : Cx X p s mi args c RX8 cX8_apart 5) (hq : RetI X p l e (rmD 6) s mi args below meth c cX8_apart .int Q r mE) {fu : Nat} {x1 : Int32} {x2 : Int32} {x3 : Int32} {m : Mem} {H : Heap} {locs : List Loc} {ls : Array Slot} (h : f_X8_apart fu x1 x2 x3 m = some (r, mE))  (hW : Wd X s m H locs) (hl : lv_has ls 5 [(0, .ref (ad X 0 0)), (1, .int x1), (2, .int x2), (3, .int x3)]) : W p l e (rmD 6) s mi args below meth c H locs 0 0 Q (F0 mi 0 ls []) := by
  unfold f_X8_apart at h
  refine lv_aload_n C.1 C.2.1 dX8_apart_0 rfl (lv_at hl 0 rfl) ?_
  refine zg_X8_now C hW id_0 w_362 dX8_apart_1 ?_
  refine lv_iload_n C.1 C.2.1 dX8_apart_4 rfl (lv_at hl 1 rfl) ?_
  obtain ⟨r_3, m_2, hc_1, h⟩ := doI_E h
  refine zr_cVI C hW (c_X4_has (i0 := 0) (x1 := x1) hc_1 id_9_0) k_X4_has (zr_recv C hW id_9_0 zco_9 rfl) w_422 ⟨Nat.le_of_ble_eq_true rfl, Nat.le_of_ble_eq_true rfl⟩ ⟨Nat.le_refl 0, Nat.le_refl 0⟩ rfl hl.1 rfl (Nat.le_of_ble_eq_true rfl) dX8_apart_5 (fun H locs hW => ?_)
  refine lv_if_eq (tgt := 37) C.1 C.2.1 dX8_apart_8 (by decide) (fun hc_13 => ?_) (fun hc_13 => ?_)
  · have h := ite_t hc_13 h
    refine lv_ldc C.1 C.2.1 C.2.2.2.1 (C.2.2.2.2.1 _ w_408) dX8_apart_37 ?_
    exact ret_i h hq rfl hW dX8_apart_39
  · have h := ite_f hc_13 h
    refine lv_aload_n C.1 C.2.1 dX8_apart_11 rfl (lv_at hl 0 rfl) ?_
    refine zg_X8_now C hW id_0 w_362 dX8_apart_12 ?_
    refine lv_iload_n C.1 C.2.1 dX8_apart_15 rfl (lv_at hl 2 rfl) ?_
    obtain ⟨r_6, m_5, hc_4, h⟩ := doI_E h
    refine zr_cVI C hW (c_X4_has (i0 := 0) (x1 := x2) hc_4 id_9_0) k_X4_has (zr_recv C hW id_9_0 zco_9 rfl) w_422 ⟨Nat.le_of_ble_eq_true rfl, Nat.le_of_ble_eq_true rfl⟩ ⟨Nat.le_refl 0, Nat.le_refl 0⟩ rfl hl.1 rfl (Nat.le_of_ble_eq_true rfl) dX8_apart_16 (fun H locs hW => ?_)
    refine lv_if_eq (tgt := 37) C.1 C.2.1 dX8_apart_19 (by decide) (fun hc_12 => ?_) (fun hc_12 => ?_)
    · have h := ite_t hc_12 h
      refine lv_ldc C.1 C.2.1 C.2.2.2.1 (C.2.2.2.2.1 _ w_408) dX8_apart_37 ?_
      exact ret_i h hq rfl hW dX8_apart_39
    · have h := ite_f hc_12 h
      refine lv_iload_n C.1 C.2.1 dX8_apart_22 rfl (lv_at hl 1 rfl) ?_
      refine lv_iload_n C.1 C.2.1 dX8_apart_23 rfl (lv_at hl 2 rfl) ?_
      refine lv_icmp_eq (tgt := 37) C.1 C.2.1 dX8_apart_24 (by decide) (fun hc_11 => ?_) (fun hc_11 => ?_)
      · have h := ite_t hc_11 h
        refine lv_ldc C.1 C.2.1 C.2.2.2.1 (C.2.2.2.2.1 _ w_408) dX8_apart_37 ?_
        exact ret_i h hq rfl hW dX8_apart_39
      · have h := ite_f hc_11 h
        refine lv_iload_n C.1 C.2.1 dX8_apart_27 rfl (lv_at hl 3 rfl) ?_
        refine lv_iconst (v := 1) C.1 C.2.1 dX8_apart_28 rfl ?_
        refine lv_bipush (v := 60) C.1 C.2.1 dX8_apart_29 rfl ?_
        obtain ⟨r_9, m_8, hc_7, h⟩ := doI_E h
        refine zr_cSI C hW (c_X8_within (x0 := x3) (x1 := 1) (x2 := 60) hc_7 ) k_X8_within w_401 ⟨Nat.le_of_ble_eq_true rfl, Nat.le_of_ble_eq_true rfl⟩ ⟨Nat.le_refl 0, Nat.le_refl 0⟩ rfl hl.1 rfl (Nat.le_of_ble_eq_true rfl) dX8_apart_31 (fun H locs hW => ?_)
        refine lv_if_ne (tgt := 40) C.1 C.2.1 dX8_apart_34 (by decide) (fun hc_10 => ?_) (fun hc_10 => ?_)
        · have h := ite_f hc_10 h
          refine lv_iconst (v := 0) C.1 C.2.1 dX8_apart_40 rfl ?_
          refine lv_istore (lv' := [(4, .int 0), (0, .ref (ad X 0 0)), (1, .int x1), (2, .int x2), (3, .int x3)]) C.1 C.2.1 dX8_apart_41 hl (by decide) rfl (fun ls hl => ?_)
          exact w_X8_apart_43 C hq  fu h  hW (lv_sub hl [1, 3, 4, 0] rfl)
        · have h := ite_t hc_10 h
          refine lv_ldc C.1 C.2.1 C.2.2.2.1 (C.2.2.2.2.1 _ w_408) dX8_apart_37 ?_
          exact ret_i h hq rfl hW dX8_apart_39
theorem c_X8_apart {X : TX} {l : Launch} {fu : Nat} {x1 : Int32} {x2 : Int32} {x3 : Int32} {m mE : Mem} {r : Int32} (h : f_X8_apart fu x1 x2 x3 m = some (r, mE))  : MetI X l yX8_apart cX8_apart 5 .int 6 [.ref (ad X 0 0), .int x1, .int x2, .int x3] m r mE :=
  met_I (by decide) (Nat.le_of_ble_eq_true rfl) (fun p e s mi args below meth c ls Q C hq hW hl => w_X8_apart C hq h  hW (lv_sub hl [0, 1, 2, 3] rfl))
theorem k_X8_apart : CalV yX8_apart cX8_apart 5 (some .int) RX8 3 := ⟨w_644, w_645, w_61, w_646, by decide +kernel⟩
theorem dX8_isSheet_0 : decode cX8_isSheet 0 = .ok (.iload_n 0, 1) := by decide +kernel
theorem dX8_isSheet_1 : decode cX8_isSheet 1 = .ok (.iconst 0, 1) := by decide +kernel
theorem dX8_isSheet_2 : decode cX8_isSheet 2 = .ok (.iconst 3, 1) := by decide +kernel
theorem dX8_isSheet_3 : decode cX8_isSheet 3 = .ok (.invokestatic 137, 3) := by decide +kernel
theorem dX8_isSheet_6 : decode cX8_isSheet 6 = .ok (.ireturn, 1) := by decide +kernel
def f_X8_isSheet (fu : Nat)  (x0 : Int32) (m : Mem) : Option (Int32 × Mem) := doI (f_X8_within fu x0 0 3 m) (fun r_3 m_2 => chk (isB r_3) (some (r_3, m_2)))
set_option maxHeartbeats 4000000 in
set_option maxRecDepth 100000 in
theorem w_X8_isSheet {X : TX} {p : Program} {l : Launch} {e : Env} {s : State} {mi : MethodId} {args : Array Value} {below : List Frame} {meth : Method} {c : Code} {Q : State → Prop} {r : Int32} {mE : Mem} (C : Cx X p s mi args c RX8 cX8_isSheet 1) (hq : RetI X p l e (rmD 1) s mi args below meth c cX8_isSheet .boolean Q r mE) {fu : Nat} {x0 : Int32} {m : Mem} {H : Heap} {locs : List Loc} {ls : Array Slot} (h : f_X8_isSheet fu x0 m = some (r, mE))  (hW : Wd X s m H locs) (hl : lv_has ls 1 [(0, .int x0)]) : W p l e (rmD 1) s mi args below meth c H locs 0 0 Q (F0 mi 0 ls []) := by
  unfold f_X8_isSheet at h
  refine lv_iload_n C.1 C.2.1 dX8_isSheet_0 rfl (lv_at hl 0 rfl) ?_
  refine lv_iconst (v := 0) C.1 C.2.1 dX8_isSheet_1 rfl ?_
  refine lv_iconst (v := 3) C.1 C.2.1 dX8_isSheet_2 rfl ?_
  obtain ⟨r_3, m_2, hc_1, h⟩ := doI_E h
  refine zr_cSI C hW (c_X8_within (x0 := x0) (x1 := 0) (x2 := 3) hc_1 ) k_X8_within w_401 ⟨Nat.le_of_ble_eq_true rfl, Nat.le_of_ble_eq_true rfl⟩ ⟨Nat.le_refl 0, Nat.le_refl 0⟩ rfl hl.1 rfl (Nat.le_of_ble_eq_true rfl) dX8_isSheet_3 (fun H locs hW => ?_)
  obtain ⟨hb_4, h⟩ := chk_E h
  exact ret_i h hq (nar_B (isB_E hb_4)) hW dX8_isSheet_6
theorem c_X8_isSheet {X : TX} {l : Launch} {fu : Nat} {x0 : Int32} {m mE : Mem} {r : Int32} (h : f_X8_isSheet fu x0 m = some (r, mE))  : MetI X l yX8_isSheet cX8_isSheet 1 .boolean 1 [.int x0] m r mE :=
  met_I (by decide) (Nat.le_of_ble_eq_true rfl) (fun p e s mi args below meth c ls Q C hq hW hl => w_X8_isSheet C hq h  hW (lv_sub hl [0] rfl))
theorem k_X8_isSheet : CalS yX8_isSheet cX8_isSheet 1 (some .boolean) 1 := ⟨w_652, w_61, w_653, by decide +kernel⟩
theorem dX8_differences_0 : decode cX8_differences 0 = .ok (.iconst 0, 1) := by decide +kernel
theorem dX8_differences_1 : decode cX8_differences 1 = .ok (.istore_n 3, 1) := by decide +kernel
theorem dX8_differences_2 : decode cX8_differences 2 = .ok (.aload_n 0, 1) := by decide +kernel
theorem dX8_differences_3 : decode cX8_differences 3 = .ok (.getfield 32, 3) := by decide +kernel
theorem dX8_differences_6 : decode cX8_differences 6 = .ok (.aload_n 0, 1) := by decide +kernel
theorem dX8_differences_7 : decode cX8_differences 7 = .ok (.getfield 28, 3) := by decide +kernel
theorem dX8_differences_10 : decode cX8_differences 10 = .ok (.invokevirtual 194, 3) := by decide +kernel
theorem dX8_differences_13 : decode cX8_differences 13 = .ok (.iconst 0, 1) := by decide +kernel
theorem dX8_differences_14 : decode cX8_differences 14 = .ok (.istore 4, 2) := by decide +kernel
theorem dX8_differences_16 : decode cX8_differences 16 = .ok (.iload 4, 2) := by decide +kernel
theorem dX8_differences_18 : decode cX8_differences 18 = .ok (.aload_n 2, 1) := by decide +kernel
theorem dX8_differences_19 : decode cX8_differences 19 = .ok (.getfield 302, 3) := by decide +kernel
theorem dX8_differences_22 : decode cX8_differences 22 = .ok (.if_icmp .ge 52, 3) := by decide +kernel
theorem dX8_differences_25 : decode cX8_differences 25 = .ok (.aload_n 2, 1) := by decide +kernel
theorem dX8_differences_26 : decode cX8_differences 26 = .ok (.iload 4, 2) := by decide +kernel
theorem dX8_differences_28 : decode cX8_differences 28 = .ok (.invokevirtual 296, 3) := by decide +kernel
theorem dX8_differences_31 : decode cX8_differences 31 = .ok (.ifCond .eq 29, 3) := by decide +kernel
theorem dX8_differences_34 : decode cX8_differences 34 = .ok (.iload_n 3, 1) := by decide +kernel
theorem dX8_differences_35 : decode cX8_differences 35 = .ok (.aload_n 0, 1) := by decide +kernel
theorem dX8_differences_36 : decode cX8_differences 36 = .ok (.getfield 32, 3) := by decide +kernel
theorem dX8_differences_39 : decode cX8_differences 39 = .ok (.getfield 86, 3) := by decide +kernel
theorem dX8_differences_42 : decode cX8_differences 42 = .ok (.iload_n 1, 1) := by decide +kernel
theorem dX8_differences_43 : decode cX8_differences 43 = .ok (.aaload, 1) := by decide +kernel
theorem dX8_differences_44 : decode cX8_differences 44 = .ok (.getfield 103, 3) := by decide +kernel
theorem dX8_differences_47 : decode cX8_differences 47 = .ok (.aload_n 2, 1) := by decide +kernel
theorem dX8_differences_48 : decode cX8_differences 48 = .ok (.getfield 291, 3) := by decide +kernel
theorem dX8_differences_51 : decode cX8_differences 51 = .ok (.iload 4, 2) := by decide +kernel
theorem dX8_differences_53 : decode cX8_differences 53 = .ok (.iaload, 1) := by decide +kernel
theorem dX8_differences_54 : decode cX8_differences 54 = .ok (.isub, 1) := by decide +kernel
theorem dX8_differences_55 : decode cX8_differences 55 = .ok (.invokestatic 351, 3) := by decide +kernel
theorem dX8_differences_58 : decode cX8_differences 58 = .ok (.iadd, 1) := by decide +kernel
theorem dX8_differences_59 : decode cX8_differences 59 = .ok (.istore_n 3, 1) := by decide +kernel
theorem dX8_differences_60 : decode cX8_differences 60 = .ok (.aload_n 0, 1) := by decide +kernel
theorem dX8_differences_61 : decode cX8_differences 61 = .ok (.getfield 32, 3) := by decide +kernel
theorem dX8_differences_64 : decode cX8_differences 64 = .ok (.iconst 1, 1) := by decide +kernel
theorem dX8_differences_65 : decode cX8_differences 65 = .ok (.invokevirtual 160, 3) := by decide +kernel
theorem dX8_differences_68 : decode cX8_differences 68 = .ok (.iinc 4 1, 3) := by decide +kernel
theorem dX8_differences_71 : decode cX8_differences 71 = .ok (.goto (-55), 3) := by decide +kernel
theorem dX8_differences_74 : decode cX8_differences 74 = .ok (.iload_n 3, 1) := by decide +kernel
theorem dX8_differences_75 : decode cX8_differences 75 = .ok (.ireturn, 1) := by decide +kernel
def f_X8_differences_60 (fu : Nat) (k_16 : Int32 → Nat → Int32 → Int32 → Mem → Option (Int32 × Mem)) (x1 : Int32) (i2 : Nat) (x3 : Int32) (x4 : Int32) (m : Mem) : Option (Int32 × Mem) := doV (f_X4_run fu 1 1 m) (fun m_2 => seqM (x4 + 1) (fun x_3 : Int32 => k_16 x1 i2 x3 x_3 m_2))
set_option maxHeartbeats 4000000 in
set_option maxRecDepth 100000 in
theorem w_X8_differences_60 {X : TX} {p : Program} {l : Launch} {e : Env} {s : State} {mi : MethodId} {args : Array Value} {below : List Frame} {meth : Method} {c : Code} {Q : State → Prop} {r : Int32} {mE : Mem} (C : Cx X p s mi args c RX8 cX8_differences 5) (hq : RetI X p l e (rmD 6) s mi args below meth c cX8_differences .int Q r mE) {fu : Nat} {k_16 : Int32 → Nat → Int32 → Int32 → Mem → Option (Int32 × Mem)} (hk_16 : ∀ {x1 : Int32} {i2 : Nat} {x3 : Int32} {x4 : Int32} {m : Mem} {H : Heap} {locs : List Loc} {ls : Array Slot}, k_16 x1 i2 x3 x4 m = some (r, mE) → (15, i2) ∈ ids → Wd X s m H locs → lv_has ls 5 [(0, .ref (ad X 0 0)), (1, .int x1), (2, .ref (ad X 15 i2)), (3, .int x3), (4, .int x4)] → W p l e (rmD 6) s mi args below meth c H locs 0 0 Q (F0 mi 16 ls [])) {x1 : Int32} {i2 : Nat} {x3 : Int32} {x4 : Int32} {m : Mem} {H : Heap} {locs : List Loc} {ls : Array Slot} (h : f_X8_differences_60 fu k_16 x1 i2 x3 x4 m = some (r, mE)) (g_i2 : (15, i2) ∈ ids) (hW : Wd X s m H locs) (hl : lv_has ls 5 [(0, .ref (ad X 0 0)), (1, .int x1), (2, .ref (ad X 15 i2)), (3, .int x3), (4, .int x4)]) : W p l e (rmD 6) s mi args below meth c H locs 0 0 Q (F0 mi 60 ls []) := by
  unfold f_X8_differences_60 at h
  refine lv_aload_n C.1 C.2.1 dX8_differences_60 rfl (lv_at hl 0 rfl) ?_
  refine zg_X8_thought C hW id_0 w_363 dX8_differences_61 ?_
  refine lv_iconst (v := 1) C.1 C.2.1 dX8_differences_64 rfl ?_
  obtain ⟨m_2, hc_1, h⟩ := doV_E h
  refine zr_cVV C hW (c_X4_run (i0 := 1) (x1 := 1) hc_1 id_9_1) k_X4_run (zr_recv C hW id_9_1 zco_9 rfl) w_515 ⟨Nat.le_of_ble_eq_true rfl, Nat.le_of_ble_eq_true rfl⟩ ⟨Nat.le_refl 0, Nat.le_refl 0⟩ rfl hl.1 rfl (Nat.le_of_ble_eq_true rfl) dX8_differences_65 (fun H locs hW => ?_)
  obtain ⟨x_3, e_4, h⟩ := seqM_E h
  refine lv_iinc (v := x_3) (lv' := [(4, .int x_3), (0, .ref (ad X 0 0)), (1, .int x1), (2, .ref (ad X 15 i2)), (3, .int x3)]) C.1 C.2.1 dX8_differences_68 hl (k := 4) rfl (by rw [e_4]; rfl) (by decide) rfl (fun ls hl => ?_)
  refine lv_goto (tgt := 16) C.1 C.2.1 dX8_differences_71 (by decide) ?_
  exact hk_16 h g_i2 hW (lv_sub hl [1, 2, 3, 4, 0] rfl)
def f_X8_differences_16 (fu : Nat)  : Nat → Int32 → Nat → Int32 → Int32 → Mem → Option (Int32 × Mem)
  | 0, _, _, _, _, _ => none
  | n + 1, x1, i2, x3, x4, m => if (m (hf i2 1)) ≤ x4 then (some (x3, m)) else (doI (f_X2_isNumber fu i2 x4 m) (fun r_3 m_2 => if r_3 = 0 then (f_X8_differences_60 fu (f_X8_differences_16 fu n) x1 i2 x3 x4 m_2) else (chk (inb x1 5) (chk (inb x4 24) (seqM (x3 + (if 0 ≤ ((m_2 (vf (10 * 1 + x1.toNatClampNeg) 4)) - (m_2 ((500 + 24 * i2) + x4.toNatClampNeg))) then ((m_2 (vf (10 * 1 + x1.toNatClampNeg) 4)) - (m_2 ((500 + 24 * i2) + x4.toNatClampNeg))) else 0 - ((m_2 (vf (10 * 1 + x1.toNatClampNeg) 4)) - (m_2 ((500 + 24 * i2) + x4.toNatClampNeg))))) (fun x_6 : Int32 => f_X8_differences_60 fu (f_X8_differences_16 fu n) x1 i2 x_6 x4 m_2))))))
set_option maxHeartbeats 4000000 in
set_option maxRecDepth 100000 in
theorem w_X8_differences_16 {X : TX} {p : Program} {l : Launch} {e : Env} {s : State} {mi : MethodId} {args : Array Value} {below : List Frame} {meth : Method} {c : Code} {Q : State → Prop} {r : Int32} {mE : Mem} (C : Cx X p s mi args c RX8 cX8_differences 5) (hq : RetI X p l e (rmD 6) s mi args below meth c cX8_differences .int Q r mE) {fu : Nat} : ∀ (n : Nat) {x1 : Int32} {i2 : Nat} {x3 : Int32} {x4 : Int32} {m : Mem} {H : Heap} {locs : List Loc} {ls : Array Slot}, f_X8_differences_16 fu n x1 i2 x3 x4 m = some (r, mE) → (15, i2) ∈ ids → Wd X s m H locs → lv_has ls 5 [(0, .ref (ad X 0 0)), (1, .int x1), (2, .ref (ad X 15 i2)), (3, .int x3), (4, .int x4)] → W p l e (rmD 6) s mi args below meth c H locs 0 0 Q (F0 mi 16 ls []) := by
  intro n
  induction n with
  | zero =>
    intro x1 i2 x3 x4 m H locs ls h g_i2 hW hl
    rw [f_X8_differences_16] at h
    cases h
  | succ n ih =>
    intro x1 i2 x3 x4 m H locs ls h g_i2 hW hl
    rw [f_X8_differences_16] at h
    refine lv_iload C.1 C.2.1 dX8_differences_16 (lv_at hl 4 rfl) ?_
    refine lv_aload_n C.1 C.2.1 dX8_differences_18 rfl (lv_at hl 2 rfl) ?_
    refine zg_X2_size C hW g_i2 w_323 dX8_differences_19 ?_
    refine lv_icmp_ge (tgt := 74) C.1 C.2.1 dX8_differences_22 (by decide) (fun hc_9 => ?_) (fun hc_9 => ?_)
    · have h := ite_t hc_9 h
      refine lv_iload_n C.1 C.2.1 dX8_differences_74 rfl (lv_at hl 3 rfl) ?_
      exact ret_i h hq rfl hW dX8_differences_75
    · have h := ite_f hc_9 h
      refine lv_aload_n C.1 C.2.1 dX8_differences_25 rfl (lv_at hl 2 rfl) ?_
      refine lv_iload C.1 C.2.1 dX8_differences_26 (lv_at hl 4 rfl) ?_
      obtain ⟨r_3, m_2, hc_1, h⟩ := doI_E h
      refine zr_cVI C hW (c_X2_isNumber (i0 := i2) (x1 := x4) hc_1 g_i2) k_X2_isNumber (zr_recv C hW g_i2 zco_15 rfl) w_663 ⟨Nat.le_of_ble_eq_true rfl, Nat.le_of_ble_eq_true rfl⟩ ⟨Nat.le_refl 0, Nat.le_refl 0⟩ rfl hl.1 rfl (Nat.le_of_ble_eq_true rfl) dX8_differences_28 (fun H locs hW => ?_)
      refine lv_if_eq (tgt := 60) C.1 C.2.1 dX8_differences_31 (by decide) (fun hc_8 => ?_) (fun hc_8 => ?_)
      · have h := ite_t hc_8 h
        exact w_X8_differences_60 C hq ih h g_i2 hW (lv_sub hl [0, 1, 2, 3, 4] rfl)
      · have h := ite_f hc_8 h
        refine lv_iload_n C.1 C.2.1 dX8_differences_34 rfl (lv_at hl 3 rfl) ?_
        refine lv_aload_n C.1 C.2.1 dX8_differences_35 rfl (lv_at hl 0 rfl) ?_
        refine zg_X8_thought C hW id_0 w_363 dX8_differences_36 ?_
        refine zg_X4_voices C hW id_9_1 w_225 dX8_differences_39 ?_
        refine lv_iload_n C.1 C.2.1 dX8_differences_42 rfl (lv_at hl 1 rfl) ?_
        obtain ⟨hb_4, h⟩ := chk_E h
        refine zaa_10 C hW (im_9_10 id_9_1) (inb_E hb_4) dX8_differences_43 ?_
        refine zg_X7_left C hW (ia_10 (im_9_10 id_9_1) (inb_E hb_4)) w_200 dX8_differences_44 ?_
        refine lv_aload_n C.1 C.2.1 dX8_differences_47 rfl (lv_at hl 2 rfl) ?_
        refine zg_X2_places C hW g_i2 w_325 dX8_differences_48 ?_
        refine lv_iload C.1 C.2.1 dX8_differences_51 (lv_at hl 4 rfl) ?_
        obtain ⟨hb_5, h⟩ := chk_E h
        refine zal_16 C hW (im_15_16 g_i2) (inb_E hb_5) dX8_differences_53 ?_
        refine lv_isub C.1 C.2.1 dX8_differences_54 ?_
        refine va_mabs C.1 C.2.1 (C.2.2.1.trans hl.1.symm) C.2.2.2.1 (C.2.2.2.2.1 _ w_672) (C.2.2.2.2.1 _ w_673) (C.2.2.2.2.1 _ w_71) (C.2.2.2.2.1 _ w_674) (Nat.le_of_ble_eq_true rfl) (Nat.le_of_ble_eq_true rfl) (Nat.le_refl 0) (Nat.le_refl 0) dX8_differences_55 ?_
        refine lv_iadd C.1 C.2.1 dX8_differences_58 ?_
        obtain ⟨x_6, e_7, h⟩ := seqM_E h
        refine lv_name e_7 ?_
        refine lv_istore_n (lv' := [(3, .int x_6), (0, .ref (ad X 0 0)), (1, .int x1), (2, .ref (ad X 15 i2)), (4, .int x4)]) C.1 C.2.1 dX8_differences_59 rfl hl (by decide) rfl (fun ls hl => ?_)
        exact w_X8_differences_60 C hq ih h g_i2 hW (lv_sub hl [1, 2, 3, 0, 4] rfl)
def f_X8_differences (fu : Nat)  (x1 : Int32) (i2 : Nat) (m : Mem) : Option (Int32 × Mem) := doV (f_X4_become fu 1 0 m) (fun m_2 => f_X8_differences_16 fu fu x1 i2 0 0 m_2)
set_option maxHeartbeats 4000000 in
set_option maxRecDepth 100000 in
theorem w_X8_differences {X : TX} {p : Program} {l : Launch} {e : Env} {s : State} {mi : MethodId} {args : Array Value} {below : List Frame} {meth : Method} {c : Code} {Q : State → Prop} {r : Int32} {mE : Mem} (C : Cx X p s mi args c RX8 cX8_differences 5) (hq : RetI X p l e (rmD 6) s mi args below meth c cX8_differences .int Q r mE) {fu : Nat} {x1 : Int32} {i2 : Nat} {m : Mem} {H : Heap} {locs : List Loc} {ls : Array Slot} (h : f_X8_differences fu x1 i2 m = some (r, mE)) (g_i2 : (15, i2) ∈ ids) (hW : Wd X s m H locs) (hl : lv_has ls 5 [(0, .ref (ad X 0 0)), (1, .int x1), (2, .ref (ad X 15 i2))]) : W p l e (rmD 6) s mi args below meth c H locs 0 0 Q (F0 mi 0 ls []) := by
  unfold f_X8_differences at h
  refine lv_iconst (v := 0) C.1 C.2.1 dX8_differences_0 rfl ?_
  refine lv_istore_n (lv' := [(3, .int 0), (0, .ref (ad X 0 0)), (1, .int x1), (2, .ref (ad X 15 i2))]) C.1 C.2.1 dX8_differences_1 rfl hl (by decide) rfl (fun ls hl => ?_)
  refine lv_aload_n C.1 C.2.1 dX8_differences_2 rfl (lv_at hl 1 rfl) ?_
  refine zg_X8_thought C hW id_0 w_363 dX8_differences_3 ?_
  refine lv_aload_n C.1 C.2.1 dX8_differences_6 rfl (lv_at hl 1 rfl) ?_
  refine zg_X8_now C hW id_0 w_362 dX8_differences_7 ?_
  obtain ⟨m_2, hc_1, h⟩ := doV_E h
  refine zr_cVV C hW (c_X4_become (i0 := 1) (i1 := 0) hc_1 id_9_1 id_9_0) k_X4_become (zr_recv C hW id_9_1 zco_9 rfl) w_589 ⟨Nat.le_of_ble_eq_true rfl, Nat.le_of_ble_eq_true rfl⟩ ⟨Nat.le_refl 0, Nat.le_refl 0⟩ rfl hl.1 rfl (Nat.le_of_ble_eq_true rfl) dX8_differences_10 (fun H locs hW => ?_)
  refine lv_iconst (v := 0) C.1 C.2.1 dX8_differences_13 rfl ?_
  refine lv_istore (lv' := [(4, .int 0), (3, .int 0), (0, .ref (ad X 0 0)), (1, .int x1), (2, .ref (ad X 15 i2))]) C.1 C.2.1 dX8_differences_14 hl (by decide) rfl (fun ls hl => ?_)
  exact w_X8_differences_16 C hq  fu h g_i2 hW (lv_sub hl [2, 3, 4, 1, 0] rfl)
theorem c_X8_differences {X : TX} {l : Launch} {fu : Nat} {x1 : Int32} {i2 : Nat} {m mE : Mem} {r : Int32} (h : f_X8_differences fu x1 i2 m = some (r, mE)) (g_i2 : (15, i2) ∈ ids) : MetI X l yX8_differences cX8_differences 5 .int 6 [.ref (ad X 0 0), .int x1, .ref (ad X 15 i2)] m r mE :=
  met_I (by decide) (Nat.le_of_ble_eq_true rfl) (fun p e s mi args below meth c ls Q C hq hW hl => w_X8_differences C hq h g_i2 hW (lv_sub hl [0, 1, 2] rfl))
theorem k_X8_differences : CalV yX8_differences cX8_differences 5 (some .int) RX8 2 := ⟨w_661, w_9, w_61, w_662, by decide +kernel⟩
theorem dX8_whose_0 : decode cX8_whose 0 = .ok (.iload_n 1, 1) := by decide +kernel
theorem dX8_whose_1 : decode cX8_whose 1 = .ok (.invokestatic 229, 3) := by decide +kernel
theorem dX8_whose_4 : decode cX8_whose 4 = .ok (.ifCond .eq 12, 3) := by decide +kernel
theorem dX8_whose_7 : decode cX8_whose 7 = .ok (.iload_n 2, 1) := by decide +kernel
theorem dX8_whose_8 : decode cX8_whose 8 = .ok (.iconst 0, 1) := by decide +kernel
theorem dX8_whose_9 : decode cX8_whose 9 = .ok (.iconst 1, 1) := by decide +kernel
theorem dX8_whose_10 : decode cX8_whose 10 = .ok (.invokestatic 137, 3) := by decide +kernel
theorem dX8_whose_13 : decode cX8_whose 13 = .ok (.ifCond .ne 6, 3) := by decide +kernel
theorem dX8_whose_16 : decode cX8_whose 16 = .ok (.ldc 73, 2) := by decide +kernel
theorem dX8_whose_18 : decode cX8_whose 18 = .ok (.ireturn, 1) := by decide +kernel
theorem dX8_whose_19 : decode cX8_whose 19 = .ok (.aload_n 0, 1) := by decide +kernel
theorem dX8_whose_20 : decode cX8_whose 20 = .ok (.getfield 47, 3) := by decide +kernel
theorem dX8_whose_23 : decode cX8_whose 23 = .ok (.iload_n 1, 1) := by decide +kernel
theorem dX8_whose_24 : decode cX8_whose 24 = .ok (.aaload, 1) := by decide +kernel
theorem dX8_whose_25 : decode cX8_whose 25 = .ok (.astore_n 3, 1) := by decide +kernel
theorem dX8_whose_26 : decode cX8_whose 26 = .ok (.aload_n 3, 1) := by decide +kernel
theorem dX8_whose_27 : decode cX8_whose 27 = .ok (.invokevirtual 232, 3) := by decide +kernel
theorem dX8_whose_30 : decode cX8_whose 30 = .ok (.ifCond .eq 6, 3) := by decide +kernel
theorem dX8_whose_33 : decode cX8_whose 33 = .ok (.ldc 235, 2) := by decide +kernel
theorem dX8_whose_35 : decode cX8_whose 35 = .ok (.ireturn, 1) := by decide +kernel
theorem dX8_whose_36 : decode cX8_whose 36 = .ok (.aload_n 0, 1) := by decide +kernel
theorem dX8_whose_37 : decode cX8_whose 37 = .ok (.getfield 28, 3) := by decide +kernel
theorem dX8_whose_40 : decode cX8_whose 40 = .ok (.getfield 191, 3) := by decide +kernel
theorem dX8_whose_43 : decode cX8_whose 43 = .ok (.ifCond .ne 6, 3) := by decide +kernel
theorem dX8_whose_46 : decode cX8_whose 46 = .ok (.ldc 202, 2) := by decide +kernel
theorem dX8_whose_48 : decode cX8_whose 48 = .ok (.ireturn, 1) := by decide +kernel
theorem dX8_whose_49 : decode cX8_whose 49 = .ok (.iconst 0, 1) := by decide +kernel
theorem dX8_whose_50 : decode cX8_whose 50 = .ok (.istore 4, 2) := by decide +kernel
theorem dX8_whose_52 : decode cX8_whose 52 = .ok (.aload_n 0, 1) := by decide +kernel
theorem dX8_whose_53 : decode cX8_whose 53 = .ok (.iconst 0, 1) := by decide +kernel
theorem dX8_whose_54 : decode cX8_whose 54 = .ok (.aload_n 3, 1) := by decide +kernel
theorem dX8_whose_55 : decode cX8_whose 55 = .ok (.invokevirtual 236, 3) := by decide +kernel
theorem dX8_whose_58 : decode cX8_whose 58 = .ok (.istore 5, 2) := by decide +kernel
theorem dX8_whose_60 : decode cX8_whose 60 = .ok (.iconst 1, 1) := by decide +kernel
theorem dX8_whose_61 : decode cX8_whose 61 = .ok (.istore 6, 2) := by decide +kernel
theorem dX8_whose_63 : decode cX8_whose 63 = .ok (.iload 6, 2) := by decide +kernel
theorem dX8_whose_65 : decode cX8_whose 65 = .ok (.aload_n 0, 1) := by decide +kernel
theorem dX8_whose_66 : decode cX8_whose 66 = .ok (.getfield 28, 3) := by decide +kernel
theorem dX8_whose_69 : decode cX8_whose 69 = .ok (.getfield 191, 3) := by decide +kernel
theorem dX8_whose_72 : decode cX8_whose 72 = .ok (.if_icmp .ge 33, 3) := by decide +kernel
theorem dX8_whose_75 : decode cX8_whose 75 = .ok (.aload_n 0, 1) := by decide +kernel
theorem dX8_whose_76 : decode cX8_whose 76 = .ok (.iload 6, 2) := by decide +kernel
theorem dX8_whose_78 : decode cX8_whose 78 = .ok (.aload_n 3, 1) := by decide +kernel
theorem dX8_whose_79 : decode cX8_whose 79 = .ok (.invokevirtual 236, 3) := by decide +kernel
theorem dX8_whose_82 : decode cX8_whose 82 = .ok (.istore 7, 2) := by decide +kernel
theorem dX8_whose_84 : decode cX8_whose 84 = .ok (.iload 7, 2) := by decide +kernel
theorem dX8_whose_86 : decode cX8_whose 86 = .ok (.iload 5, 2) := by decide +kernel
theorem dX8_whose_88 : decode cX8_whose 88 = .ok (.if_icmp .ge 11, 3) := by decide +kernel
theorem dX8_whose_91 : decode cX8_whose 91 = .ok (.iload 6, 2) := by decide +kernel
theorem dX8_whose_93 : decode cX8_whose 93 = .ok (.istore 4, 2) := by decide +kernel
theorem dX8_whose_95 : decode cX8_whose 95 = .ok (.iload 7, 2) := by decide +kernel
theorem dX8_whose_97 : decode cX8_whose 97 = .ok (.istore 5, 2) := by decide +kernel
theorem dX8_whose_99 : decode cX8_whose 99 = .ok (.iinc 6 1, 3) := by decide +kernel
theorem dX8_whose_102 : decode cX8_whose 102 = .ok (.goto (-39), 3) := by decide +kernel
theorem dX8_whose_105 : decode cX8_whose 105 = .ok (.iload_n 2, 1) := by decide +kernel
theorem dX8_whose_106 : decode cX8_whose 106 = .ok (.ifCond .ne 8, 3) := by decide +kernel
theorem dX8_whose_109 : decode cX8_whose 109 = .ok (.iload 4, 2) := by decide +kernel
theorem dX8_whose_111 : decode cX8_whose 111 = .ok (.goto 5, 3) := by decide +kernel
theorem dX8_whose_114 : decode cX8_whose 114 = .ok (.iload 5, 2) := by decide +kernel
theorem dX8_whose_116 : decode cX8_whose 116 = .ok (.ireturn, 1) := by decide +kernel
def f_X8_whose_99 (fu : Nat) (k_63 : Int32 → Nat → Int32 → Int32 → Int32 → Mem → Option (Int32 × Mem)) (x2 : Int32) (i3 : Nat) (x4 : Int32) (x5 : Int32) (x6 : Int32) (m : Mem) : Option (Int32 × Mem) := seqM (x6 + 1) (fun x_1 : Int32 => k_63 x2 i3 x4 x5 x_1 m)
set_option maxHeartbeats 4000000 in
set_option maxRecDepth 100000 in
theorem w_X8_whose_99 {X : TX} {p : Program} {l : Launch} {e : Env} {s : State} {mi : MethodId} {args : Array Value} {below : List Frame} {meth : Method} {c : Code} {Q : State → Prop} {r : Int32} {mE : Mem} (C : Cx X p s mi args c RX8 cX8_whose 8) (hq : RetI X p l e (rmD 7) s mi args below meth c cX8_whose .int Q r mE) {fu : Nat} {k_63 : Int32 → Nat → Int32 → Int32 → Int32 → Mem → Option (Int32 × Mem)} (hk_63 : ∀ {x2 : Int32} {i3 : Nat} {x4 : Int32} {x5 : Int32} {x6 : Int32} {m : Mem} {H : Heap} {locs : List Loc} {ls : Array Slot}, k_63 x2 i3 x4 x5 x6 m = some (r, mE) → (15, i3) ∈ ids → Wd X s m H locs → lv_has ls 8 [(0, .ref (ad X 0 0)), (2, .int x2), (3, .ref (ad X 15 i3)), (4, .int x4), (5, .int x5), (6, .int x6)] → W p l e (rmD 7) s mi args below meth c H locs 0 0 Q (F0 mi 63 ls [])) {x2 : Int32} {i3 : Nat} {x4 : Int32} {x5 : Int32} {x6 : Int32} {m : Mem} {H : Heap} {locs : List Loc} {ls : Array Slot} (h : f_X8_whose_99 fu k_63 x2 i3 x4 x5 x6 m = some (r, mE)) (g_i3 : (15, i3) ∈ ids) (hW : Wd X s m H locs) (hl : lv_has ls 8 [(0, .ref (ad X 0 0)), (2, .int x2), (3, .ref (ad X 15 i3)), (4, .int x4), (5, .int x5), (6, .int x6)]) : W p l e (rmD 7) s mi args below meth c H locs 0 0 Q (F0 mi 99 ls []) := by
  unfold f_X8_whose_99 at h
  obtain ⟨x_1, e_2, h⟩ := seqM_E h
  refine lv_iinc (v := x_1) (lv' := [(6, .int x_1), (0, .ref (ad X 0 0)), (2, .int x2), (3, .ref (ad X 15 i3)), (4, .int x4), (5, .int x5)]) C.1 C.2.1 dX8_whose_99 hl (k := 5) rfl (by rw [e_2]; rfl) (by decide) rfl (fun ls hl => ?_)
  refine lv_goto (tgt := 63) C.1 C.2.1 dX8_whose_102 (by decide) ?_
  exact hk_63 h g_i3 hW (lv_sub hl [1, 2, 3, 4, 5, 0] rfl)
def f_X8_whose_63 (fu : Nat)  : Nat → Int32 → Nat → Int32 → Int32 → Int32 → Mem → Option (Int32 × Mem)
  | 0, _, _, _, _, _, _ => none
  | n + 1, x2, i3, x4, x5, x6, m => if (m (sf 0 1)) ≤ x6 then (if x2 = 0 then (some (x4, m)) else (some (x5, m))) else (doI (f_X8_differences fu x6 i3 m) (fun r_4 m_3 => if x5 ≤ r_4 then (f_X8_whose_99 fu (f_X8_whose_63 fu n) x2 i3 x4 x5 x6 m_3) else (f_X8_whose_99 fu (f_X8_whose_63 fu n) x2 i3 x6 r_4 x6 m_3)))
set_option maxHeartbeats 4000000 in
set_option maxRecDepth 100000 in
theorem w_X8_whose_63 {X : TX} {p : Program} {l : Launch} {e : Env} {s : State} {mi : MethodId} {args : Array Value} {below : List Frame} {meth : Method} {c : Code} {Q : State → Prop} {r : Int32} {mE : Mem} (C : Cx X p s mi args c RX8 cX8_whose 8) (hq : RetI X p l e (rmD 7) s mi args below meth c cX8_whose .int Q r mE) {fu : Nat} : ∀ (n : Nat) {x2 : Int32} {i3 : Nat} {x4 : Int32} {x5 : Int32} {x6 : Int32} {m : Mem} {H : Heap} {locs : List Loc} {ls : Array Slot}, f_X8_whose_63 fu n x2 i3 x4 x5 x6 m = some (r, mE) → (15, i3) ∈ ids → Wd X s m H locs → lv_has ls 8 [(0, .ref (ad X 0 0)), (2, .int x2), (3, .ref (ad X 15 i3)), (4, .int x4), (5, .int x5), (6, .int x6)] → W p l e (rmD 7) s mi args below meth c H locs 0 0 Q (F0 mi 63 ls []) := by
  intro n
  induction n with
  | zero =>
    intro x2 i3 x4 x5 x6 m H locs ls h g_i3 hW hl
    rw [f_X8_whose_63] at h
    cases h
  | succ n ih =>
    intro x2 i3 x4 x5 x6 m H locs ls h g_i3 hW hl
    rw [f_X8_whose_63] at h
    refine lv_iload C.1 C.2.1 dX8_whose_63 (lv_at hl 5 rfl) ?_
    refine lv_aload_n C.1 C.2.1 dX8_whose_65 rfl (lv_at hl 0 rfl) ?_
    refine zg_X8_now C hW id_0 w_362 dX8_whose_66 ?_
    refine zg_X4_many C hW id_9_0 w_227 dX8_whose_69 ?_
    refine lv_icmp_ge (tgt := 105) C.1 C.2.1 dX8_whose_72 (by decide) (fun hc_6 => ?_) (fun hc_6 => ?_)
    · have h := ite_t hc_6 h
      refine lv_iload_n C.1 C.2.1 dX8_whose_105 rfl (lv_at hl 1 rfl) ?_
      refine lv_if_ne (tgt := 114) C.1 C.2.1 dX8_whose_106 (by decide) (fun hc_1 => ?_) (fun hc_1 => ?_)
      · have h := ite_f hc_1 h
        refine lv_iload C.1 C.2.1 dX8_whose_114 (lv_at hl 4 rfl) ?_
        exact ret_i h hq rfl hW dX8_whose_116
      · have h := ite_t hc_1 h
        refine lv_iload C.1 C.2.1 dX8_whose_109 (lv_at hl 3 rfl) ?_
        refine lv_goto (tgt := 116) C.1 C.2.1 dX8_whose_111 (by decide) ?_
        exact ret_i h hq rfl hW dX8_whose_116
    · have h := ite_f hc_6 h
      refine lv_aload_n C.1 C.2.1 dX8_whose_75 rfl (lv_at hl 0 rfl) ?_
      refine lv_iload C.1 C.2.1 dX8_whose_76 (lv_at hl 5 rfl) ?_
      refine lv_aload_n C.1 C.2.1 dX8_whose_78 rfl (lv_at hl 2 rfl) ?_
      obtain ⟨r_4, m_3, hc_2, h⟩ := doI_E h
      refine zr_cVI C hW (c_X8_differences (x1 := x6) (i2 := i3) hc_2 g_i3) k_X8_differences (zr_recv C hW id_0 zco_0 rfl) w_659 ⟨Nat.le_of_ble_eq_true rfl, Nat.le_of_ble_eq_true rfl⟩ ⟨Nat.le_refl 0, Nat.le_refl 0⟩ rfl hl.1 rfl (Nat.le_of_ble_eq_true rfl) dX8_whose_79 (fun H locs hW => ?_)
      refine lv_istore (lv' := [(7, .int r_4), (0, .ref (ad X 0 0)), (2, .int x2), (3, .ref (ad X 15 i3)), (4, .int x4), (5, .int x5), (6, .int x6)]) C.1 C.2.1 dX8_whose_82 hl (by decide) rfl (fun ls hl => ?_)
      refine lv_iload C.1 C.2.1 dX8_whose_84 (lv_at hl 0 rfl) ?_
      refine lv_iload C.1 C.2.1 dX8_whose_86 (lv_at hl 5 rfl) ?_
      refine lv_icmp_ge (tgt := 99) C.1 C.2.1 dX8_whose_88 (by decide) (fun hc_5 => ?_) (fun hc_5 => ?_)
      · have h := ite_t hc_5 h
        exact w_X8_whose_99 C hq ih h g_i3 hW (lv_sub hl [1, 2, 3, 4, 5, 6] rfl)
      · have h := ite_f hc_5 h
        refine lv_iload C.1 C.2.1 dX8_whose_91 (lv_at hl 6 rfl) ?_
        refine lv_istore (lv' := [(4, .int x6), (7, .int r_4), (0, .ref (ad X 0 0)), (2, .int x2), (3, .ref (ad X 15 i3)), (5, .int x5), (6, .int x6)]) C.1 C.2.1 dX8_whose_93 hl (by decide) rfl (fun ls hl => ?_)
        refine lv_iload C.1 C.2.1 dX8_whose_95 (lv_at hl 1 rfl) ?_
        refine lv_istore (lv' := [(5, .int r_4), (4, .int x6), (7, .int r_4), (0, .ref (ad X 0 0)), (2, .int x2), (3, .ref (ad X 15 i3)), (6, .int x6)]) C.1 C.2.1 dX8_whose_97 hl (by decide) rfl (fun ls hl => ?_)
        exact w_X8_whose_99 C hq ih h g_i3 hW (lv_sub hl [3, 4, 5, 1, 0, 6] rfl)
def f_X8_whose (fu : Nat)  (x1 : Int32) (x2 : Int32) (m : Mem) : Option (Int32 × Mem) := doI (f_X8_isSheet fu x1 m) (fun r_3 m_2 => if r_3 = 0 then (some ((-1000000001), m_2)) else (doI (f_X8_within fu x2 0 1 m_2) (fun r_6 m_5 => if r_6 = 0 then (some ((-1000000001), m_5)) else (chk (inb x1 4) (doI (f_X2_isMissing fu x1.toNatClampNeg m_5) (fun r_10 m_9 => if r_10 = 0 then (if (m_9 (sf 0 1)) = 0 then (some ((-1000000005), m_9)) else (doI (f_X8_differences fu 0 x1.toNatClampNeg m_9) (fun r_13 m_12 => f_X8_whose_63 fu fu x2 x1.toNatClampNeg 0 r_13 1 m_12))) else (some ((-1000000011), m_9))))))))
set_option maxHeartbeats 4000000 in
set_option maxRecDepth 100000 in
theorem w_X8_whose {X : TX} {p : Program} {l : Launch} {e : Env} {s : State} {mi : MethodId} {args : Array Value} {below : List Frame} {meth : Method} {c : Code} {Q : State → Prop} {r : Int32} {mE : Mem} (C : Cx X p s mi args c RX8 cX8_whose 8) (hq : RetI X p l e (rmD 7) s mi args below meth c cX8_whose .int Q r mE) {fu : Nat} {x1 : Int32} {x2 : Int32} {m : Mem} {H : Heap} {locs : List Loc} {ls : Array Slot} (h : f_X8_whose fu x1 x2 m = some (r, mE))  (hW : Wd X s m H locs) (hl : lv_has ls 8 [(0, .ref (ad X 0 0)), (1, .int x1), (2, .int x2)]) : W p l e (rmD 7) s mi args below meth c H locs 0 0 Q (F0 mi 0 ls []) := by
  unfold f_X8_whose at h
  refine lv_iload_n C.1 C.2.1 dX8_whose_0 rfl (lv_at hl 1 rfl) ?_
  obtain ⟨r_3, m_2, hc_1, h⟩ := doI_E h
  refine zr_cSI C hW (c_X8_isSheet (x0 := x1) hc_1 ) k_X8_isSheet w_651 ⟨Nat.le_of_ble_eq_true rfl, Nat.le_of_ble_eq_true rfl⟩ ⟨Nat.le_refl 0, Nat.le_refl 0⟩ rfl hl.1 rfl (Nat.le_of_ble_eq_true rfl) dX8_whose_1 (fun H locs hW => ?_)
  refine lv_if_eq (tgt := 16) C.1 C.2.1 dX8_whose_4 (by decide) (fun hc_17 => ?_) (fun hc_17 => ?_)
  · have h := ite_t hc_17 h
    refine lv_ldc C.1 C.2.1 C.2.2.2.1 (C.2.2.2.2.1 _ w_408) dX8_whose_16 ?_
    exact ret_i h hq rfl hW dX8_whose_18
  · have h := ite_f hc_17 h
    refine lv_iload_n C.1 C.2.1 dX8_whose_7 rfl (lv_at hl 2 rfl) ?_
    refine lv_iconst (v := 0) C.1 C.2.1 dX8_whose_8 rfl ?_
    refine lv_iconst (v := 1) C.1 C.2.1 dX8_whose_9 rfl ?_
    obtain ⟨r_6, m_5, hc_4, h⟩ := doI_E h
    refine zr_cSI C hW (c_X8_within (x0 := x2) (x1 := 0) (x2 := 1) hc_4 ) k_X8_within w_401 ⟨Nat.le_of_ble_eq_true rfl, Nat.le_of_ble_eq_true rfl⟩ ⟨Nat.le_refl 0, Nat.le_refl 0⟩ rfl hl.1 rfl (Nat.le_of_ble_eq_true rfl) dX8_whose_10 (fun H locs hW => ?_)
    refine lv_if_ne (tgt := 19) C.1 C.2.1 dX8_whose_13 (by decide) (fun hc_16 => ?_) (fun hc_16 => ?_)
    · have h := ite_f hc_16 h
      refine lv_aload_n C.1 C.2.1 dX8_whose_19 rfl (lv_at hl 0 rfl) ?_
      refine zg_X8_sheets C hW id_0 w_367 dX8_whose_20 ?_
      refine lv_iload_n C.1 C.2.1 dX8_whose_23 rfl (lv_at hl 1 rfl) ?_
      obtain ⟨hb_7, h⟩ := chk_E h
      refine zaa_14 C hW id_14 (inb_E hb_7) dX8_whose_24 ?_
      refine lv_astore_n (lv' := [(3, .ref (ad X 15 x1.toNatClampNeg)), (0, .ref (ad X 0 0)), (1, .int x1), (2, .int x2)]) C.1 C.2.1 dX8_whose_25 rfl hl (by decide) rfl (fun ls hl => ?_)
      refine lv_aload_n C.1 C.2.1 dX8_whose_26 rfl (lv_at hl 0 rfl) ?_
      obtain ⟨r_10, m_9, hc_8, h⟩ := doI_E h
      refine zr_cVI C hW (c_X2_isMissing (i0 := x1.toNatClampNeg) hc_8 (ia_14 (inb_E hb_7))) k_X2_isMissing (zr_recv C hW (ia_14 (inb_E hb_7)) zco_15 rfl) w_654 ⟨Nat.le_of_ble_eq_true rfl, Nat.le_of_ble_eq_true rfl⟩ ⟨Nat.le_refl 0, Nat.le_refl 0⟩ rfl hl.1 rfl (Nat.le_of_ble_eq_true rfl) dX8_whose_27 (fun H locs hW => ?_)
      refine lv_if_eq (tgt := 36) C.1 C.2.1 dX8_whose_30 (by decide) (fun hc_15 => ?_) (fun hc_15 => ?_)
      · have h := ite_t hc_15 h
        refine lv_aload_n C.1 C.2.1 dX8_whose_36 rfl (lv_at hl 1 rfl) ?_
        refine zg_X8_now C hW id_0 w_362 dX8_whose_37 ?_
        refine zg_X4_many C hW id_9_0 w_227 dX8_whose_40 ?_
        refine lv_if_ne (tgt := 49) C.1 C.2.1 dX8_whose_43 (by decide) (fun hc_14 => ?_) (fun hc_14 => ?_)
        · have h := ite_f hc_14 h
          refine lv_iconst (v := 0) C.1 C.2.1 dX8_whose_49 rfl ?_
          refine lv_istore (lv' := [(4, .int 0), (3, .ref (ad X 15 x1.toNatClampNeg)), (0, .ref (ad X 0 0)), (1, .int x1), (2, .int x2)]) C.1 C.2.1 dX8_whose_50 hl (by decide) rfl (fun ls hl => ?_)
          refine lv_aload_n C.1 C.2.1 dX8_whose_52 rfl (lv_at hl 2 rfl) ?_
          refine lv_iconst (v := 0) C.1 C.2.1 dX8_whose_53 rfl ?_
          refine lv_aload_n C.1 C.2.1 dX8_whose_54 rfl (lv_at hl 1 rfl) ?_
          obtain ⟨r_13, m_12, hc_11, h⟩ := doI_E h
          refine zr_cVI C hW (c_X8_differences (x1 := 0) (i2 := x1.toNatClampNeg) hc_11 (ia_14 (inb_E hb_7))) k_X8_differences (zr_recv C hW id_0 zco_0 rfl) w_659 ⟨Nat.le_of_ble_eq_true rfl, Nat.le_of_ble_eq_true rfl⟩ ⟨Nat.le_refl 0, Nat.le_refl 0⟩ rfl hl.1 rfl (Nat.le_of_ble_eq_true rfl) dX8_whose_55 (fun H locs hW => ?_)
          refine lv_istore (lv' := [(5, .int r_13), (4, .int 0), (3, .ref (ad X 15 x1.toNatClampNeg)), (0, .ref (ad X 0 0)), (1, .int x1), (2, .int x2)]) C.1 C.2.1 dX8_whose_58 hl (by decide) rfl (fun ls hl => ?_)
          refine lv_iconst (v := 1) C.1 C.2.1 dX8_whose_60 rfl ?_
          refine lv_istore (lv' := [(6, .int 1), (5, .int r_13), (4, .int 0), (3, .ref (ad X 15 x1.toNatClampNeg)), (0, .ref (ad X 0 0)), (1, .int x1), (2, .int x2)]) C.1 C.2.1 dX8_whose_61 hl (by decide) rfl (fun ls hl => ?_)
          exact w_X8_whose_63 C hq  fu h (ia_14 (inb_E hb_7)) hW (lv_sub hl [4, 6, 3, 2, 1, 0] rfl)
        · have h := ite_t hc_14 h
          refine lv_ldc C.1 C.2.1 C.2.2.2.1 (C.2.2.2.2.1 _ w_605) dX8_whose_46 ?_
          exact ret_i h hq rfl hW dX8_whose_48
      · have h := ite_f hc_15 h
        refine lv_ldc C.1 C.2.1 C.2.2.2.1 (C.2.2.2.2.1 _ w_658) dX8_whose_33 ?_
        exact ret_i h hq rfl hW dX8_whose_35
    · have h := ite_t hc_16 h
      refine lv_ldc C.1 C.2.1 C.2.2.2.1 (C.2.2.2.2.1 _ w_408) dX8_whose_16 ?_
      exact ret_i h hq rfl hW dX8_whose_18
theorem c_X8_whose {X : TX} {l : Launch} {fu : Nat} {x1 : Int32} {x2 : Int32} {m mE : Mem} {r : Int32} (h : f_X8_whose fu x1 x2 m = some (r, mE))  : MetI X l yX8_whose cX8_whose 8 .int 7 [.ref (ad X 0 0), .int x1, .int x2] m r mE :=
  met_I (by decide) (Nat.le_of_ble_eq_true rfl) (fun p e s mi args below meth c ls Q C hq hW hl => w_X8_whose C hq h  hW (lv_sub hl [0, 1, 2] rfl))
theorem k_X8_whose : CalV yX8_whose cX8_whose 8 (some .int) RX8 2 := ⟨w_648, w_649, w_61, w_650, by decide +kernel⟩
theorem dX8_fee_0 : decode cX8_fee 0 = .ok (.aload_n 0, 1) := by decide +kernel
theorem dX8_fee_1 : decode cX8_fee 1 = .ok (.getfield 28, 3) := by decide +kernel
theorem dX8_fee_4 : decode cX8_fee 4 = .ok (.getfield 240, 3) := by decide +kernel
theorem dX8_fee_7 : decode cX8_fee 7 = .ok (.iconst 1, 1) := by decide +kernel
theorem dX8_fee_8 : decode cX8_fee 8 = .ok (.iaload, 1) := by decide +kernel
theorem dX8_fee_9 : decode cX8_fee 9 = .ok (.istore_n 1, 1) := by decide +kernel
theorem dX8_fee_10 : decode cX8_fee 10 = .ok (.iload_n 1, 1) := by decide +kernel
theorem dX8_fee_11 : decode cX8_fee 11 = .ok (.ifCond .ge 13, 3) := by decide +kernel
theorem dX8_fee_14 : decode cX8_fee 14 = .ok (.aload_n 0, 1) := by decide +kernel
theorem dX8_fee_15 : decode cX8_fee 15 = .ok (.getfield 28, 3) := by decide +kernel
theorem dX8_fee_18 : decode cX8_fee 18 = .ok (.getfield 149, 3) := by decide +kernel
theorem dX8_fee_21 : decode cX8_fee 21 = .ok (.goto 26, 3) := by decide +kernel
theorem dX8_fee_24 : decode cX8_fee 24 = .ok (.aload_n 0, 1) := by decide +kernel
theorem dX8_fee_25 : decode cX8_fee 25 = .ok (.getfield 10, 3) := by decide +kernel
theorem dX8_fee_28 : decode cX8_fee 28 = .ok (.iload_n 1, 1) := by decide +kernel
theorem dX8_fee_29 : decode cX8_fee 29 = .ok (.aload_n 0, 1) := by decide +kernel
theorem dX8_fee_30 : decode cX8_fee 30 = .ok (.getfield 28, 3) := by decide +kernel
theorem dX8_fee_33 : decode cX8_fee 33 = .ok (.getfield 149, 3) := by decide +kernel
theorem dX8_fee_36 : decode cX8_fee 36 = .ok (.aload_n 0, 1) := by decide +kernel
theorem dX8_fee_37 : decode cX8_fee 37 = .ok (.getfield 28, 3) := by decide +kernel
theorem dX8_fee_40 : decode cX8_fee 40 = .ok (.getfield 179, 3) := by decide +kernel
theorem dX8_fee_43 : decode cX8_fee 43 = .ok (.iconst 0, 1) := by decide +kernel
theorem dX8_fee_44 : decode cX8_fee 44 = .ok (.invokevirtual 243, 3) := by decide +kernel
theorem dX8_fee_47 : decode cX8_fee 47 = .ok (.ireturn, 1) := by decide +kernel
def f_X8_fee (fu : Nat)   (m : Mem) : Option (Int32 × Mem) := seqM (m ((51 + 70 * 0) + (1 : Int32).toNatClampNeg)) (fun x_1 : Int32 => if 0 ≤ x_1 then (doI (f_X6_give fu x_1 (m (sf 0 7)) (m (sf 0 11)) 0 m) (fun r_5 m_4 => some (r_5, m_4))) else (some ((m (sf 0 7)), m)))
set_option maxHeartbeats 4000000 in
set_option maxRecDepth 100000 in
theorem w_X8_fee {X : TX} {p : Program} {l : Launch} {e : Env} {s : State} {mi : MethodId} {args : Array Value} {below : List Frame} {meth : Method} {c : Code} {Q : State → Prop} {r : Int32} {mE : Mem} (C : Cx X p s mi args c RX8 cX8_fee 2) (hq : RetI X p l e (rmD 2) s mi args below meth c cX8_fee .int Q r mE) {fu : Nat}  {m : Mem} {H : Heap} {locs : List Loc} {ls : Array Slot} (h : f_X8_fee fu  m = some (r, mE))  (hW : Wd X s m H locs) (hl : lv_has ls 2 [(0, .ref (ad X 0 0))]) : W p l e (rmD 2) s mi args below meth c H locs 0 0 Q (F0 mi 0 ls []) := by
  unfold f_X8_fee at h
  refine lv_aload_n C.1 C.2.1 dX8_fee_0 rfl (lv_at hl 0 rfl) ?_
  refine zg_X8_now C hW id_0 w_362 dX8_fee_1 ?_
  refine zg_X4_counting C hW id_9_0 w_259 dX8_fee_4 ?_
  refine lv_iconst (v := 1) C.1 C.2.1 dX8_fee_7 rfl ?_
  refine zal_12 C hW (im_9_12 id_9_0) (inb_E (by decide)) dX8_fee_8 ?_
  obtain ⟨x_1, e_2, h⟩ := seqM_E h
  refine lv_name e_2 ?_
  refine lv_istore_n (lv' := [(1, .int x_1), (0, .ref (ad X 0 0))]) C.1 C.2.1 dX8_fee_9 rfl hl (by decide) rfl (fun ls hl => ?_)
  refine lv_iload_n C.1 C.2.1 dX8_fee_10 rfl (lv_at hl 0 rfl) ?_
  refine lv_if_ge (tgt := 24) C.1 C.2.1 dX8_fee_11 (by decide) (fun hc_6 => ?_) (fun hc_6 => ?_)
  · have h := ite_t hc_6 h
    refine lv_aload_n C.1 C.2.1 dX8_fee_24 rfl (lv_at hl 1 rfl) ?_
    refine zg_X8_texts C hW id_0 w_360 dX8_fee_25 ?_
    refine lv_iload_n C.1 C.2.1 dX8_fee_28 rfl (lv_at hl 0 rfl) ?_
    refine lv_aload_n C.1 C.2.1 dX8_fee_29 rfl (lv_at hl 1 rfl) ?_
    refine zg_X8_now C hW id_0 w_362 dX8_fee_30 ?_
    refine zg_X4_silent C hW id_9_0 w_237 dX8_fee_33 ?_
    refine lv_aload_n C.1 C.2.1 dX8_fee_36 rfl (lv_at hl 1 rfl) ?_
    refine zg_X8_now C hW id_0 w_362 dX8_fee_37 ?_
    refine zg_X4_crossed C hW id_9_0 w_245 dX8_fee_40 ?_
    refine lv_iconst (v := 0) C.1 C.2.1 dX8_fee_43 rfl ?_
    obtain ⟨r_5, m_4, hc_3, h⟩ := doI_E h
    refine zr_cVI C hW (c_X6_give (x1 := x_1) (x2 := (m (sf 0 7))) (x3 := (m (sf 0 11))) (x4 := 0) hc_3 ) k_X6_give (zr_recv C hW id_1 zco_1 rfl) w_679 ⟨Nat.le_of_ble_eq_true rfl, Nat.le_of_ble_eq_true rfl⟩ ⟨Nat.le_refl 0, Nat.le_refl 0⟩ rfl hl.1 rfl (Nat.le_of_ble_eq_true rfl) dX8_fee_44 (fun H locs hW => ?_)
    exact ret_i h hq rfl hW dX8_fee_47
  · have h := ite_f hc_6 h
    refine lv_aload_n C.1 C.2.1 dX8_fee_14 rfl (lv_at hl 1 rfl) ?_
    refine zg_X8_now C hW id_0 w_362 dX8_fee_15 ?_
    refine zg_X4_silent C hW id_9_0 w_237 dX8_fee_18 ?_
    refine lv_goto (tgt := 47) C.1 C.2.1 dX8_fee_21 (by decide) ?_
    exact ret_i h hq rfl hW dX8_fee_47
theorem c_X8_fee {X : TX} {l : Launch} {fu : Nat}  {m mE : Mem} {r : Int32} (h : f_X8_fee fu  m = some (r, mE))  : MetI X l yX8_fee cX8_fee 2 .int 2 [.ref (ad X 0 0)] m r mE :=
  met_I (by decide) (Nat.le_of_ble_eq_true rfl) (fun p e s mi args below meth c ls Q C hq hW hl => w_X8_fee C hq h  hW (lv_sub hl [0] rfl))
theorem k_X8_fee : CalV yX8_fee cX8_fee 2 (some .int) RX8 0 := ⟨w_676, w_677, w_61, w_678, by decide +kernel⟩
theorem dX8_fine_0 : decode cX8_fine 0 = .ok (.aload_n 0, 1) := by decide +kernel
theorem dX8_fine_1 : decode cX8_fine 1 = .ok (.getfield 28, 3) := by decide +kernel
theorem dX8_fine_4 : decode cX8_fine 4 = .ok (.iload_n 1, 1) := by decide +kernel
theorem dX8_fine_5 : decode cX8_fine 5 = .ok (.invokevirtual 83, 3) := by decide +kernel
theorem dX8_fine_8 : decode cX8_fine 8 = .ok (.ifCond .ne 6, 3) := by decide +kernel
theorem dX8_fine_11 : decode cX8_fine 11 = .ok (.ldc 73, 2) := by decide +kernel
theorem dX8_fine_13 : decode cX8_fine 13 = .ok (.ireturn, 1) := by decide +kernel
theorem dX8_fine_14 : decode cX8_fine 14 = .ok (.aload_n 0, 1) := by decide +kernel
theorem dX8_fine_15 : decode cX8_fine 15 = .ok (.getfield 28, 3) := by decide +kernel
theorem dX8_fine_18 : decode cX8_fine 18 = .ok (.getfield 86, 3) := by decide +kernel
theorem dX8_fine_21 : decode cX8_fine 21 = .ok (.iload_n 1, 1) := by decide +kernel
theorem dX8_fine_22 : decode cX8_fine 22 = .ok (.aaload, 1) := by decide +kernel
theorem dX8_fine_23 : decode cX8_fine 23 = .ok (.astore_n 2, 1) := by decide +kernel
theorem dX8_fine_24 : decode cX8_fine 24 = .ok (.aload_n 0, 1) := by decide +kernel
theorem dX8_fine_25 : decode cX8_fine 25 = .ok (.getfield 28, 3) := by decide +kernel
theorem dX8_fine_28 : decode cX8_fine 28 = .ok (.getfield 240, 3) := by decide +kernel
theorem dX8_fine_31 : decode cX8_fine 31 = .ok (.iconst 2, 1) := by decide +kernel
theorem dX8_fine_32 : decode cX8_fine 32 = .ok (.iaload, 1) := by decide +kernel
theorem dX8_fine_33 : decode cX8_fine 33 = .ok (.istore_n 3, 1) := by decide +kernel
theorem dX8_fine_34 : decode cX8_fine 34 = .ok (.iload_n 3, 1) := by decide +kernel
theorem dX8_fine_35 : decode cX8_fine 35 = .ok (.ifCond .ge 10, 3) := by decide +kernel
theorem dX8_fine_38 : decode cX8_fine 38 = .ok (.aload_n 2, 1) := by decide +kernel
theorem dX8_fine_39 : decode cX8_fine 39 = .ok (.getfield 109, 3) := by decide +kernel
theorem dX8_fine_42 : decode cX8_fine 42 = .ok (.goto 20, 3) := by decide +kernel
theorem dX8_fine_45 : decode cX8_fine 45 = .ok (.aload_n 0, 1) := by decide +kernel
theorem dX8_fine_46 : decode cX8_fine 46 = .ok (.getfield 10, 3) := by decide +kernel
theorem dX8_fine_49 : decode cX8_fine 49 = .ok (.iload_n 3, 1) := by decide +kernel
theorem dX8_fine_50 : decode cX8_fine 50 = .ok (.aload_n 2, 1) := by decide +kernel
theorem dX8_fine_51 : decode cX8_fine 51 = .ok (.getfield 109, 3) := by decide +kernel
theorem dX8_fine_54 : decode cX8_fine 54 = .ok (.aload_n 2, 1) := by decide +kernel
theorem dX8_fine_55 : decode cX8_fine 55 = .ok (.getfield 103, 3) := by decide +kernel
theorem dX8_fine_58 : decode cX8_fine 58 = .ok (.iconst 0, 1) := by decide +kernel
theorem dX8_fine_59 : decode cX8_fine 59 = .ok (.invokevirtual 243, 3) := by decide +kernel
theorem dX8_fine_62 : decode cX8_fine 62 = .ok (.ireturn, 1) := by decide +kernel
def f_X8_fine (fu : Nat)  (x1 : Int32) (m : Mem) : Option (Int32 × Mem) := doI (f_X4_has fu 0 x1 m) (fun r_3 m_2 => if r_3 = 0 then (some ((-1000000001), m_2)) else (chk (inb x1 5) (seqM (m_2 ((51 + 70 * 0) + (2 : Int32).toNatClampNeg)) (fun x_5 : Int32 => if 0 ≤ x_5 then (doI (f_X6_give fu x_5 (m_2 (vf (10 * 0 + x1.toNatClampNeg) 6)) (m_2 (vf (10 * 0 + x1.toNatClampNeg) 4)) 0 m_2) (fun r_9 m_8 => some (r_9, m_8))) else (some ((m_2 (vf (10 * 0 + x1.toNatClampNeg) 6)), m_2))))))
set_option maxHeartbeats 4000000 in
set_option maxRecDepth 100000 in
theorem w_X8_fine {X : TX} {p : Program} {l : Launch} {e : Env} {s : State} {mi : MethodId} {args : Array Value} {below : List Frame} {meth : Method} {c : Code} {Q : State → Prop} {r : Int32} {mE : Mem} (C : Cx X p s mi args c RX8 cX8_fine 4) (hq : RetI X p l e (rmD 2) s mi args below meth c cX8_fine .int Q r mE) {fu : Nat} {x1 : Int32} {m : Mem} {H : Heap} {locs : List Loc} {ls : Array Slot} (h : f_X8_fine fu x1 m = some (r, mE))  (hW : Wd X s m H locs) (hl : lv_has ls 4 [(0, .ref (ad X 0 0)), (1, .int x1)]) : W p l e (rmD 2) s mi args below meth c H locs 0 0 Q (F0 mi 0 ls []) := by
  unfold f_X8_fine at h
  refine lv_aload_n C.1 C.2.1 dX8_fine_0 rfl (lv_at hl 0 rfl) ?_
  refine zg_X8_now C hW id_0 w_362 dX8_fine_1 ?_
  refine lv_iload_n C.1 C.2.1 dX8_fine_4 rfl (lv_at hl 1 rfl) ?_
  obtain ⟨r_3, m_2, hc_1, h⟩ := doI_E h
  refine zr_cVI C hW (c_X4_has (i0 := 0) (x1 := x1) hc_1 id_9_0) k_X4_has (zr_recv C hW id_9_0 zco_9 rfl) w_422 ⟨Nat.le_of_ble_eq_true rfl, Nat.le_of_ble_eq_true rfl⟩ ⟨Nat.le_refl 0, Nat.le_refl 0⟩ rfl hl.1 rfl (Nat.le_of_ble_eq_true rfl) dX8_fine_5 (fun H locs hW => ?_)
  refine lv_if_ne (tgt := 14) C.1 C.2.1 dX8_fine_8 (by decide) (fun hc_11 => ?_) (fun hc_11 => ?_)
  · have h := ite_f hc_11 h
    refine lv_aload_n C.1 C.2.1 dX8_fine_14 rfl (lv_at hl 0 rfl) ?_
    refine zg_X8_now C hW id_0 w_362 dX8_fine_15 ?_
    refine zg_X4_voices C hW id_9_0 w_225 dX8_fine_18 ?_
    refine lv_iload_n C.1 C.2.1 dX8_fine_21 rfl (lv_at hl 1 rfl) ?_
    obtain ⟨hb_4, h⟩ := chk_E h
    refine zaa_10 C hW (im_9_10 id_9_0) (inb_E hb_4) dX8_fine_22 ?_
    refine lv_astore_n (lv' := [(2, .ref (ad X 11 (10 * 0 + x1.toNatClampNeg))), (0, .ref (ad X 0 0)), (1, .int x1)]) C.1 C.2.1 dX8_fine_23 rfl hl (by decide) rfl (fun ls hl => ?_)
    refine lv_aload_n C.1 C.2.1 dX8_fine_24 rfl (lv_at hl 1 rfl) ?_
    refine zg_X8_now C hW id_0 w_362 dX8_fine_25 ?_
    refine zg_X4_counting C hW id_9_0 w_259 dX8_fine_28 ?_
    refine lv_iconst (v := 2) C.1 C.2.1 dX8_fine_31 rfl ?_
    refine zal_12 C hW (im_9_12 id_9_0) (inb_E (by decide)) dX8_fine_32 ?_
    obtain ⟨x_5, e_6, h⟩ := seqM_E h
    refine lv_name e_6 ?_
    refine lv_istore_n (lv' := [(3, .int x_5), (2, .ref (ad X 11 (10 * 0 + x1.toNatClampNeg))), (0, .ref (ad X 0 0)), (1, .int x1)]) C.1 C.2.1 dX8_fine_33 rfl hl (by decide) rfl (fun ls hl => ?_)
    refine lv_iload_n C.1 C.2.1 dX8_fine_34 rfl (lv_at hl 0 rfl) ?_
    refine lv_if_ge (tgt := 45) C.1 C.2.1 dX8_fine_35 (by decide) (fun hc_10 => ?_) (fun hc_10 => ?_)
    · have h := ite_t hc_10 h
      refine lv_aload_n C.1 C.2.1 dX8_fine_45 rfl (lv_at hl 2 rfl) ?_
      refine zg_X8_texts C hW id_0 w_360 dX8_fine_46 ?_
      refine lv_iload_n C.1 C.2.1 dX8_fine_49 rfl (lv_at hl 0 rfl) ?_
      refine lv_aload_n C.1 C.2.1 dX8_fine_50 rfl (lv_at hl 1 rfl) ?_
      refine zg_X7_said C hW (ia_10 (im_9_10 id_9_0) (inb_E hb_4)) w_206 dX8_fine_51 ?_
      refine lv_aload_n C.1 C.2.1 dX8_fine_54 rfl (lv_at hl 1 rfl) ?_
      refine zg_X7_left C hW (ia_10 (im_9_10 id_9_0) (inb_E hb_4)) w_200 dX8_fine_55 ?_
      refine lv_iconst (v := 0) C.1 C.2.1 dX8_fine_58 rfl ?_
      obtain ⟨r_9, m_8, hc_7, h⟩ := doI_E h
      refine zr_cVI C hW (c_X6_give (x1 := x_5) (x2 := (m_2 (vf (10 * 0 + x1.toNatClampNeg) 6))) (x3 := (m_2 (vf (10 * 0 + x1.toNatClampNeg) 4))) (x4 := 0) hc_7 ) k_X6_give (zr_recv C hW id_1 zco_1 rfl) w_679 ⟨Nat.le_of_ble_eq_true rfl, Nat.le_of_ble_eq_true rfl⟩ ⟨Nat.le_refl 0, Nat.le_refl 0⟩ rfl hl.1 rfl (Nat.le_of_ble_eq_true rfl) dX8_fine_59 (fun H locs hW => ?_)
      exact ret_i h hq rfl hW dX8_fine_62
    · have h := ite_f hc_10 h
      refine lv_aload_n C.1 C.2.1 dX8_fine_38 rfl (lv_at hl 1 rfl) ?_
      refine zg_X7_said C hW (ia_10 (im_9_10 id_9_0) (inb_E hb_4)) w_206 dX8_fine_39 ?_
      refine lv_goto (tgt := 62) C.1 C.2.1 dX8_fine_42 (by decide) ?_
      exact ret_i h hq rfl hW dX8_fine_62
  · have h := ite_t hc_11 h
    refine lv_ldc C.1 C.2.1 C.2.2.2.1 (C.2.2.2.2.1 _ w_408) dX8_fine_11 ?_
    exact ret_i h hq rfl hW dX8_fine_13
theorem c_X8_fine {X : TX} {l : Launch} {fu : Nat} {x1 : Int32} {m mE : Mem} {r : Int32} (h : f_X8_fine fu x1 m = some (r, mE))  : MetI X l yX8_fine cX8_fine 4 .int 2 [.ref (ad X 0 0), .int x1] m r mE :=
  met_I (by decide) (Nat.le_of_ble_eq_true rfl) (fun p e s mi args below meth c ls Q C hq hW hl => w_X8_fine C hq h  hW (lv_sub hl [0, 1] rfl))
theorem k_X8_fine : CalV yX8_fine cX8_fine 4 (some .int) RX8 1 := ⟨w_681, w_682, w_61, w_683, by decide +kernel⟩
theorem dX8_feed_0 : decode cX8_feed 0 = .ok (.aload_n 0, 1) := by decide +kernel
theorem dX8_feed_1 : decode cX8_feed 1 = .ok (.getfield 19, 3) := by decide +kernel
theorem dX8_feed_4 : decode cX8_feed 4 = .ok (.getfield 247, 3) := by decide +kernel
theorem dX8_feed_7 : decode cX8_feed 7 = .ok (.bipush 12, 2) := by decide +kernel
theorem dX8_feed_9 : decode cX8_feed 9 = .ok (.iadd, 1) := by decide +kernel
theorem dX8_feed_10 : decode cX8_feed 10 = .ok (.bipush 96, 2) := by decide +kernel
theorem dX8_feed_12 : decode cX8_feed 12 = .ok (.if_icmp .le 6, 3) := by decide +kernel
theorem dX8_feed_15 : decode cX8_feed 15 = .ok (.ldc 78, 2) := by decide +kernel
theorem dX8_feed_17 : decode cX8_feed 17 = .ok (.ireturn, 1) := by decide +kernel
theorem dX8_feed_18 : decode cX8_feed 18 = .ok (.aload_n 0, 1) := by decide +kernel
theorem dX8_feed_19 : decode cX8_feed 19 = .ok (.getfield 19, 3) := by decide +kernel
theorem dX8_feed_22 : decode cX8_feed 22 = .ok (.iload_n 1, 1) := by decide +kernel
theorem dX8_feed_23 : decode cX8_feed 23 = .ok (.invokevirtual 250, 3) := by decide +kernel
theorem dX8_feed_26 : decode cX8_feed 26 = .ok (.aload_n 0, 1) := by decide +kernel
theorem dX8_feed_27 : decode cX8_feed 27 = .ok (.getfield 19, 3) := by decide +kernel
theorem dX8_feed_30 : decode cX8_feed 30 = .ok (.iload_n 2, 1) := by decide +kernel
theorem dX8_feed_31 : decode cX8_feed 31 = .ok (.invokevirtual 250, 3) := by decide +kernel
theorem dX8_feed_34 : decode cX8_feed 34 = .ok (.aload_n 0, 1) := by decide +kernel
theorem dX8_feed_35 : decode cX8_feed 35 = .ok (.getfield 19, 3) := by decide +kernel
theorem dX8_feed_38 : decode cX8_feed 38 = .ok (.iload_n 3, 1) := by decide +kernel
theorem dX8_feed_39 : decode cX8_feed 39 = .ok (.invokevirtual 250, 3) := by decide +kernel
theorem dX8_feed_42 : decode cX8_feed 42 = .ok (.aload_n 0, 1) := by decide +kernel
theorem dX8_feed_43 : decode cX8_feed 43 = .ok (.getfield 19, 3) := by decide +kernel
theorem dX8_feed_46 : decode cX8_feed 46 = .ok (.getfield 247, 3) := by decide +kernel
theorem dX8_feed_49 : decode cX8_feed 49 = .ok (.ireturn, 1) := by decide +kernel
def f_X8_feed (fu : Nat)  (x1 : Int32) (x2 : Int32) (x3 : Int32) (m : Mem) : Option (Int32 × Mem) := if ((m 280) + 12) ≤ 96 then (doV (f_X1_append fu x1 m) (fun m_2 => doV (f_X1_append fu x2 m_2) (fun m_4 => doV (f_X1_append fu x3 m_4) (fun m_6 => some ((m_6 280), m_6))))) else (some ((-1000000003), m))
set_option maxHeartbeats 4000000 in
set_option maxRecDepth 100000 in
theorem w_X8_feed {X : TX} {p : Program} {l : Launch} {e : Env} {s : State} {mi : MethodId} {args : Array Value} {below : List Frame} {meth : Method} {c : Code} {Q : State → Prop} {r : Int32} {mE : Mem} (C : Cx X p s mi args c RX8 cX8_feed 4) (hq : RetI X p l e (rmD 1) s mi args below meth c cX8_feed .int Q r mE) {fu : Nat} {x1 : Int32} {x2 : Int32} {x3 : Int32} {m : Mem} {H : Heap} {locs : List Loc} {ls : Array Slot} (h : f_X8_feed fu x1 x2 x3 m = some (r, mE))  (hW : Wd X s m H locs) (hl : lv_has ls 4 [(0, .ref (ad X 0 0)), (1, .int x1), (2, .int x2), (3, .int x3)]) : W p l e (rmD 1) s mi args below meth c H locs 0 0 Q (F0 mi 0 ls []) := by
  unfold f_X8_feed at h
  refine lv_aload_n C.1 C.2.1 dX8_feed_0 rfl (lv_at hl 0 rfl) ?_
  refine zg_X8_reader C hW id_0 w_361 dX8_feed_1 ?_
  refine zg_X1_length C hW id_6 w_138 dX8_feed_4 ?_
  refine lv_bipush (v := 12) C.1 C.2.1 dX8_feed_7 rfl ?_
  refine lv_iadd C.1 C.2.1 dX8_feed_9 ?_
  refine lv_bipush (v := 96) C.1 C.2.1 dX8_feed_10 rfl ?_
  refine lv_icmp_le (tgt := 18) C.1 C.2.1 dX8_feed_12 (by decide) (fun hc_7 => ?_) (fun hc_7 => ?_)
  · have h := ite_t hc_7 h
    refine lv_aload_n C.1 C.2.1 dX8_feed_18 rfl (lv_at hl 0 rfl) ?_
    refine zg_X8_reader C hW id_0 w_361 dX8_feed_19 ?_
    refine lv_iload_n C.1 C.2.1 dX8_feed_22 rfl (lv_at hl 1 rfl) ?_
    obtain ⟨m_2, hc_1, h⟩ := doV_E h
    refine zr_cVV C hW (c_X1_append (x1 := x1) hc_1 ) k_X1_append (zr_recv C hW id_6 zco_6 rfl) w_688 ⟨Nat.le_of_ble_eq_true rfl, Nat.le_of_ble_eq_true rfl⟩ ⟨Nat.le_refl 0, Nat.le_refl 0⟩ rfl hl.1 rfl (Nat.le_of_ble_eq_true rfl) dX8_feed_23 (fun H locs hW => ?_)
    refine lv_aload_n C.1 C.2.1 dX8_feed_26 rfl (lv_at hl 0 rfl) ?_
    refine zg_X8_reader C hW id_0 w_361 dX8_feed_27 ?_
    refine lv_iload_n C.1 C.2.1 dX8_feed_30 rfl (lv_at hl 2 rfl) ?_
    obtain ⟨m_4, hc_3, h⟩ := doV_E h
    refine zr_cVV C hW (c_X1_append (x1 := x2) hc_3 ) k_X1_append (zr_recv C hW id_6 zco_6 rfl) w_688 ⟨Nat.le_of_ble_eq_true rfl, Nat.le_of_ble_eq_true rfl⟩ ⟨Nat.le_refl 0, Nat.le_refl 0⟩ rfl hl.1 rfl (Nat.le_of_ble_eq_true rfl) dX8_feed_31 (fun H locs hW => ?_)
    refine lv_aload_n C.1 C.2.1 dX8_feed_34 rfl (lv_at hl 0 rfl) ?_
    refine zg_X8_reader C hW id_0 w_361 dX8_feed_35 ?_
    refine lv_iload_n C.1 C.2.1 dX8_feed_38 rfl (lv_at hl 3 rfl) ?_
    obtain ⟨m_6, hc_5, h⟩ := doV_E h
    refine zr_cVV C hW (c_X1_append (x1 := x3) hc_5 ) k_X1_append (zr_recv C hW id_6 zco_6 rfl) w_688 ⟨Nat.le_of_ble_eq_true rfl, Nat.le_of_ble_eq_true rfl⟩ ⟨Nat.le_refl 0, Nat.le_refl 0⟩ rfl hl.1 rfl (Nat.le_of_ble_eq_true rfl) dX8_feed_39 (fun H locs hW => ?_)
    refine lv_aload_n C.1 C.2.1 dX8_feed_42 rfl (lv_at hl 0 rfl) ?_
    refine zg_X8_reader C hW id_0 w_361 dX8_feed_43 ?_
    refine zg_X1_length C hW id_6 w_138 dX8_feed_46 ?_
    exact ret_i h hq rfl hW dX8_feed_49
  · have h := ite_f hc_7 h
    refine lv_ldc C.1 C.2.1 C.2.2.2.1 (C.2.2.2.2.1 _ w_413) dX8_feed_15 ?_
    exact ret_i h hq rfl hW dX8_feed_17
theorem c_X8_feed {X : TX} {l : Launch} {fu : Nat} {x1 : Int32} {x2 : Int32} {x3 : Int32} {m mE : Mem} {r : Int32} (h : f_X8_feed fu x1 x2 x3 m = some (r, mE))  : MetI X l yX8_feed cX8_feed 4 .int 1 [.ref (ad X 0 0), .int x1, .int x2, .int x3] m r mE :=
  met_I (by decide) (Nat.le_of_ble_eq_true rfl) (fun p e s mi args below meth c ls Q C hq hW hl => w_X8_feed C hq h  hW (lv_sub hl [0, 1, 2, 3] rfl))
theorem k_X8_feed : CalV yX8_feed cX8_feed 4 (some .int) RX8 3 := ⟨w_685, w_686, w_61, w_687, by decide +kernel⟩
theorem dX8_trim_0 : decode cX8_trim 0 = .ok (.iload_n 1, 1) := by decide +kernel
theorem dX8_trim_1 : decode cX8_trim 1 = .ok (.iconst 0, 1) := by decide +kernel
theorem dX8_trim_2 : decode cX8_trim 2 = .ok (.aload_n 0, 1) := by decide +kernel
theorem dX8_trim_3 : decode cX8_trim 3 = .ok (.getfield 19, 3) := by decide +kernel
theorem dX8_trim_6 : decode cX8_trim 6 = .ok (.getfield 247, 3) := by decide +kernel
theorem dX8_trim_9 : decode cX8_trim 9 = .ok (.invokestatic 137, 3) := by decide +kernel
theorem dX8_trim_12 : decode cX8_trim 12 = .ok (.ifCond .ne 6, 3) := by decide +kernel
theorem dX8_trim_15 : decode cX8_trim 15 = .ok (.ldc 73, 2) := by decide +kernel
theorem dX8_trim_17 : decode cX8_trim 17 = .ok (.ireturn, 1) := by decide +kernel
theorem dX8_trim_18 : decode cX8_trim 18 = .ok (.aload_n 0, 1) := by decide +kernel
theorem dX8_trim_19 : decode cX8_trim 19 = .ok (.getfield 19, 3) := by decide +kernel
theorem dX8_trim_22 : decode cX8_trim 22 = .ok (.iload_n 1, 1) := by decide +kernel
theorem dX8_trim_23 : decode cX8_trim 23 = .ok (.putfield 247, 3) := by decide +kernel
theorem dX8_trim_26 : decode cX8_trim 26 = .ok (.iload_n 1, 1) := by decide +kernel
theorem dX8_trim_27 : decode cX8_trim 27 = .ok (.ireturn, 1) := by decide +kernel
def f_X8_trim (fu : Nat)  (x1 : Int32) (m : Mem) : Option (Int32 × Mem) := doI (f_X8_within fu x1 0 (m 280) m) (fun r_3 m_2 => if r_3 = 0 then (some ((-1000000001), m_2)) else (seqM (upd m_2 280 x1) (fun m_4 : Mem => some (x1, m_4))))
set_option maxHeartbeats 4000000 in
set_option maxRecDepth 100000 in
theorem w_X8_trim {X : TX} {p : Program} {l : Launch} {e : Env} {s : State} {mi : MethodId} {args : Array Value} {below : List Frame} {meth : Method} {c : Code} {Q : State → Prop} {r : Int32} {mE : Mem} (C : Cx X p s mi args c RX8 cX8_trim 2) (hq : RetI X p l e (rmD 1) s mi args below meth c cX8_trim .int Q r mE) {fu : Nat} {x1 : Int32} {m : Mem} {H : Heap} {locs : List Loc} {ls : Array Slot} (h : f_X8_trim fu x1 m = some (r, mE))  (hW : Wd X s m H locs) (hl : lv_has ls 2 [(0, .ref (ad X 0 0)), (1, .int x1)]) : W p l e (rmD 1) s mi args below meth c H locs 0 0 Q (F0 mi 0 ls []) := by
  unfold f_X8_trim at h
  refine lv_iload_n C.1 C.2.1 dX8_trim_0 rfl (lv_at hl 1 rfl) ?_
  refine lv_iconst (v := 0) C.1 C.2.1 dX8_trim_1 rfl ?_
  refine lv_aload_n C.1 C.2.1 dX8_trim_2 rfl (lv_at hl 0 rfl) ?_
  refine zg_X8_reader C hW id_0 w_361 dX8_trim_3 ?_
  refine zg_X1_length C hW id_6 w_138 dX8_trim_6 ?_
  obtain ⟨r_3, m_2, hc_1, h⟩ := doI_E h
  refine zr_cSI C hW (c_X8_within (x0 := x1) (x1 := 0) (x2 := (m 280)) hc_1 ) k_X8_within w_401 ⟨Nat.le_of_ble_eq_true rfl, Nat.le_of_ble_eq_true rfl⟩ ⟨Nat.le_refl 0, Nat.le_refl 0⟩ rfl hl.1 rfl (Nat.le_of_ble_eq_true rfl) dX8_trim_9 (fun H locs hW => ?_)
  refine lv_if_ne (tgt := 18) C.1 C.2.1 dX8_trim_12 (by decide) (fun hc_6 => ?_) (fun hc_6 => ?_)
  · have h := ite_f hc_6 h
    refine lv_aload_n C.1 C.2.1 dX8_trim_18 rfl (lv_at hl 0 rfl) ?_
    refine zg_X8_reader C hW id_0 w_361 dX8_trim_19 ?_
    refine lv_iload_n C.1 C.2.1 dX8_trim_22 rfl (lv_at hl 1 rfl) ?_
    obtain ⟨m_4, e_5, h⟩ := seqM_E h
    refine zp_X1_length C hW id_6 w_138 e_5 dX8_trim_23 (fun H locs hW => ?_)
    refine lv_iload_n C.1 C.2.1 dX8_trim_26 rfl (lv_at hl 1 rfl) ?_
    exact ret_i h hq rfl hW dX8_trim_27
  · have h := ite_t hc_6 h
    refine lv_ldc C.1 C.2.1 C.2.2.2.1 (C.2.2.2.2.1 _ w_408) dX8_trim_15 ?_
    exact ret_i h hq rfl hW dX8_trim_17
theorem c_X8_trim {X : TX} {l : Launch} {fu : Nat} {x1 : Int32} {m mE : Mem} {r : Int32} (h : f_X8_trim fu x1 m = some (r, mE))  : MetI X l yX8_trim cX8_trim 2 .int 1 [.ref (ad X 0 0), .int x1] m r mE :=
  met_I (by decide) (Nat.le_of_ble_eq_true rfl) (fun p e s mi args below meth c ls Q C hq hW hl => w_X8_trim C hq h  hW (lv_sub hl [0, 1] rfl))
theorem k_X8_trim : CalV yX8_trim cX8_trim 2 (some .int) RX8 1 := ⟨w_693, w_694, w_61, w_695, by decide +kernel⟩
theorem dX8_text_0 : decode cX8_text 0 = .ok (.aload_n 0, 1) := by decide +kernel
theorem dX8_text_1 : decode cX8_text 1 = .ok (.getfield 19, 3) := by decide +kernel
theorem dX8_text_4 : decode cX8_text 4 = .ok (.invokevirtual 253, 3) := by decide +kernel
theorem dX8_text_7 : decode cX8_text 7 = .ok (.istore_n 1, 1) := by decide +kernel
theorem dX8_text_8 : decode cX8_text 8 = .ok (.aload_n 0, 1) := by decide +kernel
theorem dX8_text_9 : decode cX8_text 9 = .ok (.getfield 19, 3) := by decide +kernel
theorem dX8_text_12 : decode cX8_text 12 = .ok (.iconst 0, 1) := by decide +kernel
theorem dX8_text_13 : decode cX8_text 13 = .ok (.putfield 247, 3) := by decide +kernel
theorem dX8_text_16 : decode cX8_text 16 = .ok (.iload_n 1, 1) := by decide +kernel
theorem dX8_text_17 : decode cX8_text 17 = .ok (.ifCond .lt 8, 3) := by decide +kernel
theorem dX8_text_20 : decode cX8_text 20 = .ok (.bipush (-100), 2) := by decide +kernel
theorem dX8_text_22 : decode cX8_text 22 = .ok (.iload_n 1, 1) := by decide +kernel
theorem dX8_text_23 : decode cX8_text 23 = .ok (.isub, 1) := by decide +kernel
theorem dX8_text_24 : decode cX8_text 24 = .ok (.ireturn, 1) := by decide +kernel
theorem dX8_text_25 : decode cX8_text 25 = .ok (.aload_n 0, 1) := by decide +kernel
theorem dX8_text_26 : decode cX8_text 26 = .ok (.getfield 28, 3) := by decide +kernel
theorem dX8_text_29 : decode cX8_text 29 = .ok (.getfield 256, 3) := by decide +kernel
theorem dX8_text_32 : decode cX8_text 32 = .ok (.bipush 14, 2) := by decide +kernel
theorem dX8_text_34 : decode cX8_text 34 = .ok (.if_icmp .lt 6, 3) := by decide +kernel
theorem dX8_text_37 : decode cX8_text 37 = .ok (.ldc 78, 2) := by decide +kernel
theorem dX8_text_39 : decode cX8_text 39 = .ok (.ireturn, 1) := by decide +kernel
theorem dX8_text_40 : decode cX8_text 40 = .ok (.aload_n 0, 1) := by decide +kernel
theorem dX8_text_41 : decode cX8_text 41 = .ok (.getfield 28, 3) := by decide +kernel
theorem dX8_text_44 : decode cX8_text 44 = .ok (.getfield 256, 3) := by decide +kernel
theorem dX8_text_47 : decode cX8_text 47 = .ok (.istore_n 2, 1) := by decide +kernel
theorem dX8_text_48 : decode cX8_text 48 = .ok (.aload_n 0, 1) := by decide +kernel
theorem dX8_text_49 : decode cX8_text 49 = .ok (.getfield 10, 3) := by decide +kernel
theorem dX8_text_52 : decode cX8_text 52 = .ok (.getfield 259, 3) := by decide +kernel
theorem dX8_text_55 : decode cX8_text 55 = .ok (.iload_n 2, 1) := by decide +kernel
theorem dX8_text_56 : decode cX8_text 56 = .ok (.aaload, 1) := by decide +kernel
theorem dX8_text_57 : decode cX8_text 57 = .ok (.aload_n 0, 1) := by decide +kernel
theorem dX8_text_58 : decode cX8_text 58 = .ok (.getfield 19, 3) := by decide +kernel
theorem dX8_text_61 : decode cX8_text 61 = .ok (.getfield 263, 3) := by decide +kernel
theorem dX8_text_64 : decode cX8_text 64 = .ok (.invokevirtual 267, 3) := by decide +kernel
theorem dX8_text_67 : decode cX8_text 67 = .ok (.aload_n 0, 1) := by decide +kernel
theorem dX8_text_68 : decode cX8_text 68 = .ok (.getfield 28, 3) := by decide +kernel
theorem dX8_text_71 : decode cX8_text 71 = .ok (.aload_n 0, 1) := by decide +kernel
theorem dX8_text_72 : decode cX8_text 72 = .ok (.getfield 19, 3) := by decide +kernel
theorem dX8_text_75 : decode cX8_text 75 = .ok (.getfield 263, 3) := by decide +kernel
theorem dX8_text_78 : decode cX8_text 78 = .ok (.getfield 272, 3) := by decide +kernel
theorem dX8_text_81 : decode cX8_text 81 = .ok (.invokevirtual 275, 3) := by decide +kernel
theorem dX8_text_84 : decode cX8_text 84 = .ok (.iload_n 2, 1) := by decide +kernel
theorem dX8_text_85 : decode cX8_text 85 = .ok (.ireturn, 1) := by decide +kernel
def f_X8_text (fu : Nat)   (m : Mem) : Option (Int32 × Mem) := doI (f_X1_fault fu  m) (fun r_3 m_2 => seqM (upd m_2 280 0) (fun m_4 : Mem => if r_3 < 0 then (if (m_4 (sf 0 15)) < 14 then (seqM (m_4 (sf 0 15)) (fun x_6 : Int32 => chk (inb x_6 14) (doV (f_X5_become fu x_6.toNatClampNeg 14 m_4) (fun m_10 => doV (f_X4_addText fu 0 (m_10 (tf 14 0)) m_10) (fun m_12 => some (x_6, m_12)))))) else (some ((-1000000003), m_4))) else (some (((-100) - r_3), m_4))))
set_option maxHeartbeats 4000000 in
set_option maxRecDepth 100000 in
theorem w_X8_text {X : TX} {p : Program} {l : Launch} {e : Env} {s : State} {mi : MethodId} {args : Array Value} {below : List Frame} {meth : Method} {c : Code} {Q : State → Prop} {r : Int32} {mE : Mem} (C : Cx X p s mi args c RX8 cX8_text 3) (hq : RetI X p l e (rmD 8) s mi args below meth c cX8_text .int Q r mE) {fu : Nat}  {m : Mem} {H : Heap} {locs : List Loc} {ls : Array Slot} (h : f_X8_text fu  m = some (r, mE))  (hW : Wd X s m H locs) (hl : lv_has ls 3 [(0, .ref (ad X 0 0))]) : W p l e (rmD 8) s mi args below meth c H locs 0 0 Q (F0 mi 0 ls []) := by
  unfold f_X8_text at h
  refine lv_aload_n C.1 C.2.1 dX8_text_0 rfl (lv_at hl 0 rfl) ?_
  refine zg_X8_reader C hW id_0 w_361 dX8_text_1 ?_
  obtain ⟨r_3, m_2, hc_1, h⟩ := doI_E h
  refine zr_cVI C hW (c_X1_fault  hc_1 ) k_X1_fault (zr_recv C hW id_6 zco_6 rfl) w_700 ⟨Nat.le_of_ble_eq_true rfl, Nat.le_of_ble_eq_true rfl⟩ ⟨Nat.le_refl 0, Nat.le_refl 0⟩ rfl hl.1 rfl (Nat.le_of_ble_eq_true rfl) dX8_text_4 (fun H locs hW => ?_)
  refine lv_istore_n (lv' := [(1, .int r_3), (0, .ref (ad X 0 0))]) C.1 C.2.1 dX8_text_7 rfl hl (by decide) rfl (fun ls hl => ?_)
  refine lv_aload_n C.1 C.2.1 dX8_text_8 rfl (lv_at hl 1 rfl) ?_
  refine zg_X8_reader C hW id_0 w_361 dX8_text_9 ?_
  refine lv_iconst (v := 0) C.1 C.2.1 dX8_text_12 rfl ?_
  obtain ⟨m_4, e_5, h⟩ := seqM_E h
  refine zp_X1_length C hW id_6 w_138 e_5 dX8_text_13 (fun H locs hW => ?_)
  refine lv_iload_n C.1 C.2.1 dX8_text_16 rfl (lv_at hl 0 rfl) ?_
  refine lv_if_lt (tgt := 25) C.1 C.2.1 dX8_text_17 (by decide) (fun hc_14 => ?_) (fun hc_14 => ?_)
  · have h := ite_t hc_14 h
    refine lv_aload_n C.1 C.2.1 dX8_text_25 rfl (lv_at hl 1 rfl) ?_
    refine zg_X8_now C hW id_0 w_362 dX8_text_26 ?_
    refine zg_X4_textsMany C hW id_9_0 w_257 dX8_text_29 ?_
    refine lv_bipush (v := 14) C.1 C.2.1 dX8_text_32 rfl ?_
    refine lv_icmp_lt (tgt := 40) C.1 C.2.1 dX8_text_34 (by decide) (fun hc_13 => ?_) (fun hc_13 => ?_)
    · have h := ite_t hc_13 h
      refine lv_aload_n C.1 C.2.1 dX8_text_40 rfl (lv_at hl 1 rfl) ?_
      refine zg_X8_now C hW id_0 w_362 dX8_text_41 ?_
      refine zg_X4_textsMany C hW id_9_0 w_257 dX8_text_44 ?_
      obtain ⟨x_6, e_7, h⟩ := seqM_E h
      refine lv_name e_7 ?_
      refine lv_istore_n (lv' := [(2, .int x_6), (1, .int r_3), (0, .ref (ad X 0 0))]) C.1 C.2.1 dX8_text_47 rfl hl (by decide) rfl (fun ls hl => ?_)
      refine lv_aload_n C.1 C.2.1 dX8_text_48 rfl (lv_at hl 2 rfl) ?_
      refine zg_X8_texts C hW id_0 w_360 dX8_text_49 ?_
      refine zg_X6_list C hW id_1 w_121 dX8_text_52 ?_
      refine lv_iload_n C.1 C.2.1 dX8_text_55 rfl (lv_at hl 0 rfl) ?_
      obtain ⟨hb_8, h⟩ := chk_E h
      refine zaa_2 C hW id_2 (inb_E hb_8) dX8_text_56 ?_
      refine lv_aload_n C.1 C.2.1 dX8_text_57 rfl (lv_at hl 2 rfl) ?_
      refine zg_X8_reader C hW id_0 w_361 dX8_text_58 ?_
      refine zg_X1_draft C hW id_6 w_140 dX8_text_61 ?_
      obtain ⟨m_10, hc_9, h⟩ := doV_E h
      refine zr_cVV C hW (c_X5_become (i0 := x_6.toNatClampNeg) (i1 := 14) hc_9 (ia_2 (inb_E hb_8)) id_3_14) k_X5_become (zr_recv C hW (ia_2 (inb_E hb_8)) zco_3 rfl) w_887 ⟨Nat.le_of_ble_eq_true rfl, Nat.le_of_ble_eq_true rfl⟩ ⟨Nat.le_refl 0, Nat.le_refl 0⟩ rfl hl.1 rfl (Nat.le_of_ble_eq_true rfl) dX8_text_64 (fun H locs hW => ?_)
      refine lv_aload_n C.1 C.2.1 dX8_text_67 rfl (lv_at hl 2 rfl) ?_
      refine zg_X8_now C hW id_0 w_362 dX8_text_68 ?_
      refine lv_aload_n C.1 C.2.1 dX8_text_71 rfl (lv_at hl 2 rfl) ?_
      refine zg_X8_reader C hW id_0 w_361 dX8_text_72 ?_
      refine zg_X1_draft C hW id_6 w_140 dX8_text_75 ?_
      refine zg_X5_key C hW id_3_14 w_102 dX8_text_78 ?_
      obtain ⟨m_12, hc_11, h⟩ := doV_E h
      refine zr_cVV C hW (c_X4_addText (i0 := 0) (x1 := (m_10 (tf 14 0))) hc_11 id_9_0) k_X4_addText (zr_recv C hW id_9_0 zco_9 rfl) w_894 ⟨Nat.le_of_ble_eq_true rfl, Nat.le_of_ble_eq_true rfl⟩ ⟨Nat.le_refl 0, Nat.le_refl 0⟩ rfl hl.1 rfl (Nat.le_of_ble_eq_true rfl) dX8_text_81 (fun H locs hW => ?_)
      refine lv_iload_n C.1 C.2.1 dX8_text_84 rfl (lv_at hl 0 rfl) ?_
      exact ret_i h hq rfl hW dX8_text_85
    · have h := ite_f hc_13 h
      refine lv_ldc C.1 C.2.1 C.2.2.2.1 (C.2.2.2.2.1 _ w_413) dX8_text_37 ?_
      exact ret_i h hq rfl hW dX8_text_39
  · have h := ite_f hc_14 h
    refine lv_bipush (v := (-100)) C.1 C.2.1 dX8_text_20 rfl ?_
    refine lv_iload_n C.1 C.2.1 dX8_text_22 rfl (lv_at hl 0 rfl) ?_
    refine lv_isub C.1 C.2.1 dX8_text_23 ?_
    exact ret_i h hq rfl hW dX8_text_24
theorem c_X8_text {X : TX} {l : Launch} {fu : Nat}  {m mE : Mem} {r : Int32} (h : f_X8_text fu  m = some (r, mE))  : MetI X l yX8_text cX8_text 3 .int 8 [.ref (ad X 0 0)] m r mE :=
  met_I (by decide) (Nat.le_of_ble_eq_true rfl) (fun p e s mi args below meth c ls Q C hq hW hl => w_X8_text C hq h  hW (lv_sub hl [0] rfl))
theorem k_X8_text : CalV yX8_text cX8_text 3 (some .int) RX8 0 := ⟨w_697, w_698, w_61, w_699, by decide +kernel⟩
theorem dX8_textTold_0 : decode cX8_textTold 0 = .ok (.iload_n 1, 1) := by decide +kernel
theorem dX8_textTold_1 : decode cX8_textTold 1 = .ok (.iconst 0, 1) := by decide +kernel
theorem dX8_textTold_2 : decode cX8_textTold 2 = .ok (.aload_n 0, 1) := by decide +kernel
theorem dX8_textTold_3 : decode cX8_textTold 3 = .ok (.getfield 28, 3) := by decide +kernel
theorem dX8_textTold_6 : decode cX8_textTold 6 = .ok (.getfield 256, 3) := by decide +kernel
theorem dX8_textTold_9 : decode cX8_textTold 9 = .ok (.iconst 1, 1) := by decide +kernel
theorem dX8_textTold_10 : decode cX8_textTold 10 = .ok (.isub, 1) := by decide +kernel
theorem dX8_textTold_11 : decode cX8_textTold 11 = .ok (.invokestatic 137, 3) := by decide +kernel
theorem dX8_textTold_14 : decode cX8_textTold 14 = .ok (.ifCond .eq 12, 3) := by decide +kernel
theorem dX8_textTold_17 : decode cX8_textTold 17 = .ok (.iload_n 2, 1) := by decide +kernel
theorem dX8_textTold_18 : decode cX8_textTold 18 = .ok (.iconst 0, 1) := by decide +kernel
theorem dX8_textTold_19 : decode cX8_textTold 19 = .ok (.iconst 1, 1) := by decide +kernel
theorem dX8_textTold_20 : decode cX8_textTold 20 = .ok (.invokestatic 137, 3) := by decide +kernel
theorem dX8_textTold_23 : decode cX8_textTold 23 = .ok (.ifCond .ne 6, 3) := by decide +kernel
theorem dX8_textTold_26 : decode cX8_textTold 26 = .ok (.ldc 73, 2) := by decide +kernel
theorem dX8_textTold_28 : decode cX8_textTold 28 = .ok (.ireturn, 1) := by decide +kernel
theorem dX8_textTold_29 : decode cX8_textTold 29 = .ok (.iload_n 2, 1) := by decide +kernel
theorem dX8_textTold_30 : decode cX8_textTold 30 = .ok (.ifCond .ne 18, 3) := by decide +kernel
theorem dX8_textTold_33 : decode cX8_textTold 33 = .ok (.aload_n 0, 1) := by decide +kernel
theorem dX8_textTold_34 : decode cX8_textTold 34 = .ok (.getfield 10, 3) := by decide +kernel
theorem dX8_textTold_37 : decode cX8_textTold 37 = .ok (.getfield 259, 3) := by decide +kernel
theorem dX8_textTold_40 : decode cX8_textTold 40 = .ok (.iload_n 1, 1) := by decide +kernel
theorem dX8_textTold_41 : decode cX8_textTold 41 = .ok (.aaload, 1) := by decide +kernel
theorem dX8_textTold_42 : decode cX8_textTold 42 = .ok (.getfield 272, 3) := by decide +kernel
theorem dX8_textTold_45 : decode cX8_textTold 45 = .ok (.goto 15, 3) := by decide +kernel
theorem dX8_textTold_48 : decode cX8_textTold 48 = .ok (.aload_n 0, 1) := by decide +kernel
theorem dX8_textTold_49 : decode cX8_textTold 49 = .ok (.getfield 10, 3) := by decide +kernel
theorem dX8_textTold_52 : decode cX8_textTold 52 = .ok (.getfield 259, 3) := by decide +kernel
theorem dX8_textTold_55 : decode cX8_textTold 55 = .ok (.iload_n 1, 1) := by decide +kernel
theorem dX8_textTold_56 : decode cX8_textTold 56 = .ok (.aaload, 1) := by decide +kernel
theorem dX8_textTold_57 : decode cX8_textTold 57 = .ok (.getfield 278, 3) := by decide +kernel
theorem dX8_textTold_60 : decode cX8_textTold 60 = .ok (.ireturn, 1) := by decide +kernel
def f_X8_textTold (fu : Nat)  (x1 : Int32) (x2 : Int32) (m : Mem) : Option (Int32 × Mem) := doI (f_X8_within fu x1 0 ((m (sf 0 15)) - 1) m) (fun r_3 m_2 => if r_3 = 0 then (some ((-1000000001), m_2)) else (doI (f_X8_within fu x2 0 1 m_2) (fun r_6 m_5 => if r_6 = 0 then (some ((-1000000001), m_5)) else (if x2 = 0 then (chk (inb x1 14) (some ((m_5 (tf x1.toNatClampNeg 0)), m_5))) else (chk (inb x1 14) (some ((m_5 (tf x1.toNatClampNeg 1)), m_5)))))))
set_option maxHeartbeats 4000000 in
set_option maxRecDepth 100000 in
theorem w_X8_textTold {X : TX} {p : Program} {l : Launch} {e : Env} {s : State} {mi : MethodId} {args : Array Value} {below : List Frame} {meth : Method} {c : Code} {Q : State → Prop} {r : Int32} {mE : Mem} (C : Cx X p s mi args c RX8 cX8_textTold 3) (hq : RetI X p l e (rmD 1) s mi args below meth c cX8_textTold .int Q r mE) {fu : Nat} {x1 : Int32} {x2 : Int32} {m : Mem} {H : Heap} {locs : List Loc} {ls : Array Slot} (h : f_X8_textTold fu x1 x2 m = some (r, mE))  (hW : Wd X s m H locs) (hl : lv_has ls 3 [(0, .ref (ad X 0 0)), (1, .int x1), (2, .int x2)]) : W p l e (rmD 1) s mi args below meth c H locs 0 0 Q (F0 mi 0 ls []) := by
  unfold f_X8_textTold at h
  refine lv_iload_n C.1 C.2.1 dX8_textTold_0 rfl (lv_at hl 1 rfl) ?_
  refine lv_iconst (v := 0) C.1 C.2.1 dX8_textTold_1 rfl ?_
  refine lv_aload_n C.1 C.2.1 dX8_textTold_2 rfl (lv_at hl 0 rfl) ?_
  refine zg_X8_now C hW id_0 w_362 dX8_textTold_3 ?_
  refine zg_X4_textsMany C hW id_9_0 w_257 dX8_textTold_6 ?_
  refine lv_iconst (v := 1) C.1 C.2.1 dX8_textTold_9 rfl ?_
  refine lv_isub C.1 C.2.1 dX8_textTold_10 ?_
  obtain ⟨r_3, m_2, hc_1, h⟩ := doI_E h
  refine zr_cSI C hW (c_X8_within (x0 := x1) (x1 := 0) (x2 := ((m (sf 0 15)) - 1)) hc_1 ) k_X8_within w_401 ⟨Nat.le_of_ble_eq_true rfl, Nat.le_of_ble_eq_true rfl⟩ ⟨Nat.le_refl 0, Nat.le_refl 0⟩ rfl hl.1 rfl (Nat.le_of_ble_eq_true rfl) dX8_textTold_11 (fun H locs hW => ?_)
  refine lv_if_eq (tgt := 26) C.1 C.2.1 dX8_textTold_14 (by decide) (fun hc_11 => ?_) (fun hc_11 => ?_)
  · have h := ite_t hc_11 h
    refine lv_ldc C.1 C.2.1 C.2.2.2.1 (C.2.2.2.2.1 _ w_408) dX8_textTold_26 ?_
    exact ret_i h hq rfl hW dX8_textTold_28
  · have h := ite_f hc_11 h
    refine lv_iload_n C.1 C.2.1 dX8_textTold_17 rfl (lv_at hl 2 rfl) ?_
    refine lv_iconst (v := 0) C.1 C.2.1 dX8_textTold_18 rfl ?_
    refine lv_iconst (v := 1) C.1 C.2.1 dX8_textTold_19 rfl ?_
    obtain ⟨r_6, m_5, hc_4, h⟩ := doI_E h
    refine zr_cSI C hW (c_X8_within (x0 := x2) (x1 := 0) (x2 := 1) hc_4 ) k_X8_within w_401 ⟨Nat.le_of_ble_eq_true rfl, Nat.le_of_ble_eq_true rfl⟩ ⟨Nat.le_refl 0, Nat.le_refl 0⟩ rfl hl.1 rfl (Nat.le_of_ble_eq_true rfl) dX8_textTold_20 (fun H locs hW => ?_)
    refine lv_if_ne (tgt := 29) C.1 C.2.1 dX8_textTold_23 (by decide) (fun hc_10 => ?_) (fun hc_10 => ?_)
    · have h := ite_f hc_10 h
      refine lv_iload_n C.1 C.2.1 dX8_textTold_29 rfl (lv_at hl 2 rfl) ?_
      refine lv_if_ne (tgt := 48) C.1 C.2.1 dX8_textTold_30 (by decide) (fun hc_9 => ?_) (fun hc_9 => ?_)
      · have h := ite_f hc_9 h
        refine lv_aload_n C.1 C.2.1 dX8_textTold_48 rfl (lv_at hl 0 rfl) ?_
        refine zg_X8_texts C hW id_0 w_360 dX8_textTold_49 ?_
        refine zg_X6_list C hW id_1 w_121 dX8_textTold_52 ?_
        refine lv_iload_n C.1 C.2.1 dX8_textTold_55 rfl (lv_at hl 1 rfl) ?_
        obtain ⟨hb_7, h⟩ := chk_E h
        refine zaa_2 C hW id_2 (inb_E hb_7) dX8_textTold_56 ?_
        refine zg_X5_atoms C hW (ia_2 (inb_E hb_7)) w_105 dX8_textTold_57 ?_
        exact ret_i h hq rfl hW dX8_textTold_60
      · have h := ite_t hc_9 h
        refine lv_aload_n C.1 C.2.1 dX8_textTold_33 rfl (lv_at hl 0 rfl) ?_
        refine zg_X8_texts C hW id_0 w_360 dX8_textTold_34 ?_
        refine zg_X6_list C hW id_1 w_121 dX8_textTold_37 ?_
        refine lv_iload_n C.1 C.2.1 dX8_textTold_40 rfl (lv_at hl 1 rfl) ?_
        obtain ⟨hb_8, h⟩ := chk_E h
        refine zaa_2 C hW id_2 (inb_E hb_8) dX8_textTold_41 ?_
        refine zg_X5_key C hW (ia_2 (inb_E hb_8)) w_102 dX8_textTold_42 ?_
        refine lv_goto (tgt := 60) C.1 C.2.1 dX8_textTold_45 (by decide) ?_
        exact ret_i h hq rfl hW dX8_textTold_60
    · have h := ite_t hc_10 h
      refine lv_ldc C.1 C.2.1 C.2.2.2.1 (C.2.2.2.2.1 _ w_408) dX8_textTold_26 ?_
      exact ret_i h hq rfl hW dX8_textTold_28
theorem c_X8_textTold {X : TX} {l : Launch} {fu : Nat} {x1 : Int32} {x2 : Int32} {m mE : Mem} {r : Int32} (h : f_X8_textTold fu x1 x2 m = some (r, mE))  : MetI X l yX8_textTold cX8_textTold 3 .int 1 [.ref (ad X 0 0), .int x1, .int x2] m r mE :=
  met_I (by decide) (Nat.le_of_ble_eq_true rfl) (fun p e s mi args below meth c ls Q C hq hW hl => w_X8_textTold C hq h  hW (lv_sub hl [0, 1, 2] rfl))
theorem k_X8_textTold : CalV yX8_textTold cX8_textTold 3 (some .int) RX8 2 := ⟨w_900, w_901, w_61, w_902, by decide +kernel⟩
theorem dX8_why_0 : decode cX8_why 0 = .ok (.iload_n 1, 1) := by decide +kernel
theorem dX8_why_1 : decode cX8_why 1 = .ok (.iconst 0, 1) := by decide +kernel
theorem dX8_why_2 : decode cX8_why 2 = .ok (.iconst 2, 1) := by decide +kernel
theorem dX8_why_3 : decode cX8_why 3 = .ok (.invokestatic 137, 3) := by decide +kernel
theorem dX8_why_6 : decode cX8_why 6 = .ok (.ifCond .ne 6, 3) := by decide +kernel
theorem dX8_why_9 : decode cX8_why 9 = .ok (.ldc 73, 2) := by decide +kernel
theorem dX8_why_11 : decode cX8_why 11 = .ok (.ireturn, 1) := by decide +kernel
theorem dX8_why_12 : decode cX8_why 12 = .ok (.aload_n 0, 1) := by decide +kernel
theorem dX8_why_13 : decode cX8_why 13 = .ok (.getfield 28, 3) := by decide +kernel
theorem dX8_why_16 : decode cX8_why 16 = .ok (.getfield 240, 3) := by decide +kernel
theorem dX8_why_19 : decode cX8_why 19 = .ok (.iload_n 1, 1) := by decide +kernel
theorem dX8_why_20 : decode cX8_why 20 = .ok (.iaload, 1) := by decide +kernel
theorem dX8_why_21 : decode cX8_why 21 = .ok (.ifCond .ge 8, 3) := by decide +kernel
theorem dX8_why_24 : decode cX8_why 24 = .ok (.ldc 202, 2) := by decide +kernel
theorem dX8_why_26 : decode cX8_why 26 = .ok (.goto 12, 3) := by decide +kernel
theorem dX8_why_29 : decode cX8_why 29 = .ok (.aload_n 0, 1) := by decide +kernel
theorem dX8_why_30 : decode cX8_why 30 = .ok (.getfield 28, 3) := by decide +kernel
theorem dX8_why_33 : decode cX8_why 33 = .ok (.getfield 240, 3) := by decide +kernel
theorem dX8_why_36 : decode cX8_why 36 = .ok (.iload_n 1, 1) := by decide +kernel
theorem dX8_why_37 : decode cX8_why 37 = .ok (.iaload, 1) := by decide +kernel
theorem dX8_why_38 : decode cX8_why 38 = .ok (.ireturn, 1) := by decide +kernel
def f_X8_why (fu : Nat)  (x1 : Int32) (m : Mem) : Option (Int32 × Mem) := doI (f_X8_within fu x1 0 2 m) (fun r_3 m_2 => if r_3 = 0 then (some ((-1000000001), m_2)) else (chk (inb x1 3) (if 0 ≤ (m_2 ((51 + 70 * 0) + x1.toNatClampNeg)) then (chk (inb x1 3) (some ((m_2 ((51 + 70 * 0) + x1.toNatClampNeg)), m_2))) else (some ((-1000000005), m_2)))))
set_option maxHeartbeats 4000000 in
set_option maxRecDepth 100000 in
theorem w_X8_why {X : TX} {p : Program} {l : Launch} {e : Env} {s : State} {mi : MethodId} {args : Array Value} {below : List Frame} {meth : Method} {c : Code} {Q : State → Prop} {r : Int32} {mE : Mem} (C : Cx X p s mi args c RX8 cX8_why 2) (hq : RetI X p l e (rmD 1) s mi args below meth c cX8_why .int Q r mE) {fu : Nat} {x1 : Int32} {m : Mem} {H : Heap} {locs : List Loc} {ls : Array Slot} (h : f_X8_why fu x1 m = some (r, mE))  (hW : Wd X s m H locs) (hl : lv_has ls 2 [(0, .ref (ad X 0 0)), (1, .int x1)]) : W p l e (rmD 1) s mi args below meth c H locs 0 0 Q (F0 mi 0 ls []) := by
  unfold f_X8_why at h
  refine lv_iload_n C.1 C.2.1 dX8_why_0 rfl (lv_at hl 1 rfl) ?_
  refine lv_iconst (v := 0) C.1 C.2.1 dX8_why_1 rfl ?_
  refine lv_iconst (v := 2) C.1 C.2.1 dX8_why_2 rfl ?_
  obtain ⟨r_3, m_2, hc_1, h⟩ := doI_E h
  refine zr_cSI C hW (c_X8_within (x0 := x1) (x1 := 0) (x2 := 2) hc_1 ) k_X8_within w_401 ⟨Nat.le_of_ble_eq_true rfl, Nat.le_of_ble_eq_true rfl⟩ ⟨Nat.le_refl 0, Nat.le_refl 0⟩ rfl hl.1 rfl (Nat.le_of_ble_eq_true rfl) dX8_why_3 (fun H locs hW => ?_)
  refine lv_if_ne (tgt := 12) C.1 C.2.1 dX8_why_6 (by decide) (fun hc_7 => ?_) (fun hc_7 => ?_)
  · have h := ite_f hc_7 h
    refine lv_aload_n C.1 C.2.1 dX8_why_12 rfl (lv_at hl 0 rfl) ?_
    refine zg_X8_now C hW id_0 w_362 dX8_why_13 ?_
    refine zg_X4_counting C hW id_9_0 w_259 dX8_why_16 ?_
    refine lv_iload_n C.1 C.2.1 dX8_why_19 rfl (lv_at hl 1 rfl) ?_
    obtain ⟨hb_4, h⟩ := chk_E h
    refine zal_12 C hW (im_9_12 id_9_0) (inb_E hb_4) dX8_why_20 ?_
    refine lv_if_ge (tgt := 29) C.1 C.2.1 dX8_why_21 (by decide) (fun hc_6 => ?_) (fun hc_6 => ?_)
    · have h := ite_t hc_6 h
      refine lv_aload_n C.1 C.2.1 dX8_why_29 rfl (lv_at hl 0 rfl) ?_
      refine zg_X8_now C hW id_0 w_362 dX8_why_30 ?_
      refine zg_X4_counting C hW id_9_0 w_259 dX8_why_33 ?_
      refine lv_iload_n C.1 C.2.1 dX8_why_36 rfl (lv_at hl 1 rfl) ?_
      obtain ⟨hb_5, h⟩ := chk_E h
      refine zal_12 C hW (im_9_12 id_9_0) (inb_E hb_5) dX8_why_37 ?_
      exact ret_i h hq rfl hW dX8_why_38
    · have h := ite_f hc_6 h
      refine lv_ldc C.1 C.2.1 C.2.2.2.1 (C.2.2.2.2.1 _ w_605) dX8_why_24 ?_
      refine lv_goto (tgt := 38) C.1 C.2.1 dX8_why_26 (by decide) ?_
      exact ret_i h hq rfl hW dX8_why_38
  · have h := ite_t hc_7 h
    refine lv_ldc C.1 C.2.1 C.2.2.2.1 (C.2.2.2.2.1 _ w_408) dX8_why_9 ?_
    exact ret_i h hq rfl hW dX8_why_11
theorem c_X8_why {X : TX} {l : Launch} {fu : Nat} {x1 : Int32} {m mE : Mem} {r : Int32} (h : f_X8_why fu x1 m = some (r, mE))  : MetI X l yX8_why cX8_why 2 .int 1 [.ref (ad X 0 0), .int x1] m r mE :=
  met_I (by decide) (Nat.le_of_ble_eq_true rfl) (fun p e s mi args below meth c ls Q C hq hW hl => w_X8_why C hq h  hW (lv_sub hl [0, 1] rfl))
theorem k_X8_why : CalV yX8_why cX8_why 2 (some .int) RX8 1 := ⟨w_904, w_905, w_61, w_906, by decide +kernel⟩
theorem dX8_sheet_0 : decode cX8_sheet 0 = .ok (.iload_n 1, 1) := by decide +kernel
theorem dX8_sheet_1 : decode cX8_sheet 1 = .ok (.invokestatic 229, 3) := by decide +kernel
theorem dX8_sheet_4 : decode cX8_sheet 4 = .ok (.ifCond .eq 12, 3) := by decide +kernel
theorem dX8_sheet_7 : decode cX8_sheet 7 = .ok (.iload_n 2, 1) := by decide +kernel
theorem dX8_sheet_8 : decode cX8_sheet 8 = .ok (.iconst (-1), 1) := by decide +kernel
theorem dX8_sheet_9 : decode cX8_sheet 9 = .ok (.iconst 1, 1) := by decide +kernel
theorem dX8_sheet_10 : decode cX8_sheet 10 = .ok (.invokestatic 137, 3) := by decide +kernel
theorem dX8_sheet_13 : decode cX8_sheet 13 = .ok (.ifCond .ne 6, 3) := by decide +kernel
theorem dX8_sheet_16 : decode cX8_sheet 16 = .ok (.ldc 73, 2) := by decide +kernel
theorem dX8_sheet_18 : decode cX8_sheet 18 = .ok (.ireturn, 1) := by decide +kernel
theorem dX8_sheet_19 : decode cX8_sheet 19 = .ok (.iload_n 2, 1) := by decide +kernel
theorem dX8_sheet_20 : decode cX8_sheet 20 = .ok (.iconst (-1), 1) := by decide +kernel
theorem dX8_sheet_21 : decode cX8_sheet 21 = .ok (.if_icmp .ne 16, 3) := by decide +kernel
theorem dX8_sheet_24 : decode cX8_sheet 24 = .ok (.aload_n 0, 1) := by decide +kernel
theorem dX8_sheet_25 : decode cX8_sheet 25 = .ok (.getfield 47, 3) := by decide +kernel
theorem dX8_sheet_28 : decode cX8_sheet 28 = .ok (.iload_n 1, 1) := by decide +kernel
theorem dX8_sheet_29 : decode cX8_sheet 29 = .ok (.aaload, 1) := by decide +kernel
theorem dX8_sheet_30 : decode cX8_sheet 30 = .ok (.iconst (-1), 1) := by decide +kernel
theorem dX8_sheet_31 : decode cX8_sheet 31 = .ok (.iconst 0, 1) := by decide +kernel
theorem dX8_sheet_32 : decode cX8_sheet 32 = .ok (.invokevirtual 281, 3) := by decide +kernel
theorem dX8_sheet_35 : decode cX8_sheet 35 = .ok (.iconst 0, 1) := by decide +kernel
theorem dX8_sheet_36 : decode cX8_sheet 36 = .ok (.ireturn, 1) := by decide +kernel
theorem dX8_sheet_37 : decode cX8_sheet 37 = .ok (.iload_n 3, 1) := by decide +kernel
theorem dX8_sheet_38 : decode cX8_sheet 38 = .ok (.bipush 24, 2) := by decide +kernel
theorem dX8_sheet_40 : decode cX8_sheet 40 = .ok (.if_icmp .le 6, 3) := by decide +kernel
theorem dX8_sheet_43 : decode cX8_sheet 43 = .ok (.ldc 73, 2) := by decide +kernel
theorem dX8_sheet_45 : decode cX8_sheet 45 = .ok (.ireturn, 1) := by decide +kernel
theorem dX8_sheet_46 : decode cX8_sheet 46 = .ok (.iload_n 3, 1) := by decide +kernel
theorem dX8_sheet_47 : decode cX8_sheet 47 = .ok (.ifCond .ge 7, 3) := by decide +kernel
theorem dX8_sheet_50 : decode cX8_sheet 50 = .ok (.ldc_w 283, 3) := by decide +kernel
theorem dX8_sheet_53 : decode cX8_sheet 53 = .ok (.ireturn, 1) := by decide +kernel
theorem dX8_sheet_54 : decode cX8_sheet 54 = .ok (.aload_n 0, 1) := by decide +kernel
theorem dX8_sheet_55 : decode cX8_sheet 55 = .ok (.getfield 47, 3) := by decide +kernel
theorem dX8_sheet_58 : decode cX8_sheet 58 = .ok (.iload_n 1, 1) := by decide +kernel
theorem dX8_sheet_59 : decode cX8_sheet 59 = .ok (.aaload, 1) := by decide +kernel
theorem dX8_sheet_60 : decode cX8_sheet 60 = .ok (.iload_n 2, 1) := by decide +kernel
theorem dX8_sheet_61 : decode cX8_sheet 61 = .ok (.iload_n 3, 1) := by decide +kernel
theorem dX8_sheet_62 : decode cX8_sheet 62 = .ok (.invokevirtual 281, 3) := by decide +kernel
theorem dX8_sheet_65 : decode cX8_sheet 65 = .ok (.iload_n 3, 1) := by decide +kernel
theorem dX8_sheet_66 : decode cX8_sheet 66 = .ok (.ireturn, 1) := by decide +kernel
def f_X8_sheet (fu : Nat)  (x1 : Int32) (x2 : Int32) (x3 : Int32) (m : Mem) : Option (Int32 × Mem) := doI (f_X8_isSheet fu x1 m) (fun r_3 m_2 => if r_3 = 0 then (some ((-1000000001), m_2)) else (doI (f_X8_within fu x2 (-1) 1 m_2) (fun r_6 m_5 => if r_6 = 0 then (some ((-1000000001), m_5)) else (if x2 = (-1) then (chk (inb x1 4) (doV (f_X2_clear fu x1.toNatClampNeg (-1) 0 m_5) (fun m_14 => some (0, m_14)))) else (if x3 ≤ 24 then (if 0 ≤ x3 then (chk (inb x1 4) (doV (f_X2_clear fu x1.toNatClampNeg x2 x3 m_5) (fun m_9 => some (x3, m_9)))) else (some ((-1000000014), m_5))) else (some ((-1000000001), m_5)))))))
set_option maxHeartbeats 4000000 in
set_option maxRecDepth 100000 in
theorem w_X8_sheet {X : TX} {p : Program} {l : Launch} {e : Env} {s : State} {mi : MethodId} {args : Array Value} {below : List Frame} {meth : Method} {c : Code} {Q : State → Prop} {r : Int32} {mE : Mem} (C : Cx X p s mi args c RX8 cX8_sheet 4) (hq : RetI X p l e (rmD 2) s mi args below meth c cX8_sheet .int Q r mE) {fu : Nat} {x1 : Int32} {x2 : Int32} {x3 : Int32} {m : Mem} {H : Heap} {locs : List Loc} {ls : Array Slot} (h : f_X8_sheet fu x1 x2 x3 m = some (r, mE))  (hW : Wd X s m H locs) (hl : lv_has ls 4 [(0, .ref (ad X 0 0)), (1, .int x1), (2, .int x2), (3, .int x3)]) : W p l e (rmD 2) s mi args below meth c H locs 0 0 Q (F0 mi 0 ls []) := by
  unfold f_X8_sheet at h
  refine lv_iload_n C.1 C.2.1 dX8_sheet_0 rfl (lv_at hl 1 rfl) ?_
  obtain ⟨r_3, m_2, hc_1, h⟩ := doI_E h
  refine zr_cSI C hW (c_X8_isSheet (x0 := x1) hc_1 ) k_X8_isSheet w_651 ⟨Nat.le_of_ble_eq_true rfl, Nat.le_of_ble_eq_true rfl⟩ ⟨Nat.le_refl 0, Nat.le_refl 0⟩ rfl hl.1 rfl (Nat.le_of_ble_eq_true rfl) dX8_sheet_1 (fun H locs hW => ?_)
  refine lv_if_eq (tgt := 16) C.1 C.2.1 dX8_sheet_4 (by decide) (fun hc_17 => ?_) (fun hc_17 => ?_)
  · have h := ite_t hc_17 h
    refine lv_ldc C.1 C.2.1 C.2.2.2.1 (C.2.2.2.2.1 _ w_408) dX8_sheet_16 ?_
    exact ret_i h hq rfl hW dX8_sheet_18
  · have h := ite_f hc_17 h
    refine lv_iload_n C.1 C.2.1 dX8_sheet_7 rfl (lv_at hl 2 rfl) ?_
    refine lv_iconst (v := (-1)) C.1 C.2.1 dX8_sheet_8 rfl ?_
    refine lv_iconst (v := 1) C.1 C.2.1 dX8_sheet_9 rfl ?_
    obtain ⟨r_6, m_5, hc_4, h⟩ := doI_E h
    refine zr_cSI C hW (c_X8_within (x0 := x2) (x1 := (-1)) (x2 := 1) hc_4 ) k_X8_within w_401 ⟨Nat.le_of_ble_eq_true rfl, Nat.le_of_ble_eq_true rfl⟩ ⟨Nat.le_refl 0, Nat.le_refl 0⟩ rfl hl.1 rfl (Nat.le_of_ble_eq_true rfl) dX8_sheet_10 (fun H locs hW => ?_)
    refine lv_if_ne (tgt := 19) C.1 C.2.1 dX8_sheet_13 (by decide) (fun hc_16 => ?_) (fun hc_16 => ?_)
    · have h := ite_f hc_16 h
      refine lv_iload_n C.1 C.2.1 dX8_sheet_19 rfl (lv_at hl 2 rfl) ?_
      refine lv_iconst (v := (-1)) C.1 C.2.1 dX8_sheet_20 rfl ?_
      refine lv_icmp_ne (tgt := 37) C.1 C.2.1 dX8_sheet_21 (by decide) (fun hc_15 => ?_) (fun hc_15 => ?_)
      · have h := ite_f hc_15 h
        refine lv_iload_n C.1 C.2.1 dX8_sheet_37 rfl (lv_at hl 3 rfl) ?_
        refine lv_bipush (v := 24) C.1 C.2.1 dX8_sheet_38 rfl ?_
        refine lv_icmp_le (tgt := 46) C.1 C.2.1 dX8_sheet_40 (by decide) (fun hc_11 => ?_) (fun hc_11 => ?_)
        · have h := ite_t hc_11 h
          refine lv_iload_n C.1 C.2.1 dX8_sheet_46 rfl (lv_at hl 3 rfl) ?_
          refine lv_if_ge (tgt := 54) C.1 C.2.1 dX8_sheet_47 (by decide) (fun hc_10 => ?_) (fun hc_10 => ?_)
          · have h := ite_t hc_10 h
            refine lv_aload_n C.1 C.2.1 dX8_sheet_54 rfl (lv_at hl 0 rfl) ?_
            refine zg_X8_sheets C hW id_0 w_367 dX8_sheet_55 ?_
            refine lv_iload_n C.1 C.2.1 dX8_sheet_58 rfl (lv_at hl 1 rfl) ?_
            obtain ⟨hb_7, h⟩ := chk_E h
            refine zaa_14 C hW id_14 (inb_E hb_7) dX8_sheet_59 ?_
            refine lv_iload_n C.1 C.2.1 dX8_sheet_60 rfl (lv_at hl 2 rfl) ?_
            refine lv_iload_n C.1 C.2.1 dX8_sheet_61 rfl (lv_at hl 3 rfl) ?_
            obtain ⟨m_9, hc_8, h⟩ := doV_E h
            refine zr_cVV C hW (c_X2_clear (i0 := x1.toNatClampNeg) (x1 := x2) (x2 := x3) hc_8 (ia_14 (inb_E hb_7))) k_X2_clear (zr_recv C hW (ia_14 (inb_E hb_7)) zco_15 rfl) w_911 ⟨Nat.le_of_ble_eq_true rfl, Nat.le_of_ble_eq_true rfl⟩ ⟨Nat.le_refl 0, Nat.le_refl 0⟩ rfl hl.1 rfl (Nat.le_of_ble_eq_true rfl) dX8_sheet_62 (fun H locs hW => ?_)
            refine lv_iload_n C.1 C.2.1 dX8_sheet_65 rfl (lv_at hl 3 rfl) ?_
            exact ret_i h hq rfl hW dX8_sheet_66
          · have h := ite_f hc_10 h
            refine lv_ldcw C.1 C.2.1 C.2.2.2.1 (C.2.2.2.2.1 _ w_915) dX8_sheet_50 ?_
            exact ret_i h hq rfl hW dX8_sheet_53
        · have h := ite_f hc_11 h
          refine lv_ldc C.1 C.2.1 C.2.2.2.1 (C.2.2.2.2.1 _ w_408) dX8_sheet_43 ?_
          exact ret_i h hq rfl hW dX8_sheet_45
      · have h := ite_t hc_15 h
        refine lv_aload_n C.1 C.2.1 dX8_sheet_24 rfl (lv_at hl 0 rfl) ?_
        refine zg_X8_sheets C hW id_0 w_367 dX8_sheet_25 ?_
        refine lv_iload_n C.1 C.2.1 dX8_sheet_28 rfl (lv_at hl 1 rfl) ?_
        obtain ⟨hb_12, h⟩ := chk_E h
        refine zaa_14 C hW id_14 (inb_E hb_12) dX8_sheet_29 ?_
        refine lv_iconst (v := (-1)) C.1 C.2.1 dX8_sheet_30 rfl ?_
        refine lv_iconst (v := 0) C.1 C.2.1 dX8_sheet_31 rfl ?_
        obtain ⟨m_14, hc_13, h⟩ := doV_E h
        refine zr_cVV C hW (c_X2_clear (i0 := x1.toNatClampNeg) (x1 := (-1)) (x2 := 0) hc_13 (ia_14 (inb_E hb_12))) k_X2_clear (zr_recv C hW (ia_14 (inb_E hb_12)) zco_15 rfl) w_911 ⟨Nat.le_of_ble_eq_true rfl, Nat.le_of_ble_eq_true rfl⟩ ⟨Nat.le_refl 0, Nat.le_refl 0⟩ rfl hl.1 rfl (Nat.le_of_ble_eq_true rfl) dX8_sheet_32 (fun H locs hW => ?_)
        refine lv_iconst (v := 0) C.1 C.2.1 dX8_sheet_35 rfl ?_
        exact ret_i h hq rfl hW dX8_sheet_36
    · have h := ite_t hc_16 h
      refine lv_ldc C.1 C.2.1 C.2.2.2.1 (C.2.2.2.2.1 _ w_408) dX8_sheet_16 ?_
      exact ret_i h hq rfl hW dX8_sheet_18
theorem c_X8_sheet {X : TX} {l : Launch} {fu : Nat} {x1 : Int32} {x2 : Int32} {x3 : Int32} {m mE : Mem} {r : Int32} (h : f_X8_sheet fu x1 x2 x3 m = some (r, mE))  : MetI X l yX8_sheet cX8_sheet 4 .int 2 [.ref (ad X 0 0), .int x1, .int x2, .int x3] m r mE :=
  met_I (by decide) (Nat.le_of_ble_eq_true rfl) (fun p e s mi args below meth c ls Q C hq hW hl => w_X8_sheet C hq h  hW (lv_sub hl [0, 1, 2, 3] rfl))
theorem k_X8_sheet : CalV yX8_sheet cX8_sheet 4 (some .int) RX8 3 := ⟨w_908, w_909, w_61, w_910, by decide +kernel⟩
theorem dX8_mark_0 : decode cX8_mark 0 = .ok (.iload_n 1, 1) := by decide +kernel
theorem dX8_mark_1 : decode cX8_mark 1 = .ok (.invokestatic 229, 3) := by decide +kernel
theorem dX8_mark_4 : decode cX8_mark 4 = .ok (.ifCond .ne 6, 3) := by decide +kernel
theorem dX8_mark_7 : decode cX8_mark 7 = .ok (.ldc 73, 2) := by decide +kernel
theorem dX8_mark_9 : decode cX8_mark 9 = .ok (.ireturn, 1) := by decide +kernel
theorem dX8_mark_10 : decode cX8_mark 10 = .ok (.aload_n 0, 1) := by decide +kernel
theorem dX8_mark_11 : decode cX8_mark 11 = .ok (.getfield 47, 3) := by decide +kernel
theorem dX8_mark_14 : decode cX8_mark 14 = .ok (.iload_n 1, 1) := by decide +kernel
theorem dX8_mark_15 : decode cX8_mark 15 = .ok (.aaload, 1) := by decide +kernel
theorem dX8_mark_16 : decode cX8_mark 16 = .ok (.astore 4, 2) := by decide +kernel
theorem dX8_mark_18 : decode cX8_mark 18 = .ok (.aload 4, 2) := by decide +kernel
theorem dX8_mark_20 : decode cX8_mark 20 = .ok (.invokevirtual 232, 3) := by decide +kernel
theorem dX8_mark_23 : decode cX8_mark 23 = .ok (.ifCond .eq 6, 3) := by decide +kernel
theorem dX8_mark_26 : decode cX8_mark 26 = .ok (.ldc 235, 2) := by decide +kernel
theorem dX8_mark_28 : decode cX8_mark 28 = .ok (.ireturn, 1) := by decide +kernel
theorem dX8_mark_29 : decode cX8_mark 29 = .ok (.aload 4, 2) := by decide +kernel
theorem dX8_mark_31 : decode cX8_mark 31 = .ok (.iload_n 2, 1) := by decide +kernel
theorem dX8_mark_32 : decode cX8_mark 32 = .ok (.invokevirtual 284, 3) := by decide +kernel
theorem dX8_mark_35 : decode cX8_mark 35 = .ok (.ifCond .ne 7, 3) := by decide +kernel
theorem dX8_mark_38 : decode cX8_mark 38 = .ok (.ldc_w 287, 3) := by decide +kernel
theorem dX8_mark_41 : decode cX8_mark 41 = .ok (.ireturn, 1) := by decide +kernel
theorem dX8_mark_42 : decode cX8_mark 42 = .ok (.aload 4, 2) := by decide +kernel
theorem dX8_mark_44 : decode cX8_mark 44 = .ok (.getfield 288, 3) := by decide +kernel
theorem dX8_mark_47 : decode cX8_mark 47 = .ok (.ifCond .ne 23, 3) := by decide +kernel
theorem dX8_mark_50 : decode cX8_mark 50 = .ok (.iload_n 3, 1) := by decide +kernel
theorem dX8_mark_51 : decode cX8_mark 51 = .ok (.ldc 202, 2) := by decide +kernel
theorem dX8_mark_53 : decode cX8_mark 53 = .ok (.if_icmp .ne 6, 3) := by decide +kernel
theorem dX8_mark_56 : decode cX8_mark 56 = .ok (.ldc 132, 2) := by decide +kernel
theorem dX8_mark_58 : decode cX8_mark 58 = .ok (.ireturn, 1) := by decide +kernel
theorem dX8_mark_59 : decode cX8_mark 59 = .ok (.aload 4, 2) := by decide +kernel
theorem dX8_mark_61 : decode cX8_mark 61 = .ok (.getfield 291, 3) := by decide +kernel
theorem dX8_mark_64 : decode cX8_mark 64 = .ok (.iload_n 2, 1) := by decide +kernel
theorem dX8_mark_65 : decode cX8_mark 65 = .ok (.iload_n 3, 1) := by decide +kernel
theorem dX8_mark_66 : decode cX8_mark 66 = .ok (.i2s, 1) := by decide +kernel
theorem dX8_mark_67 : decode cX8_mark 67 = .ok (.iastore, 1) := by decide +kernel
theorem dX8_mark_68 : decode cX8_mark 68 = .ok (.iconst 1, 1) := by decide +kernel
theorem dX8_mark_69 : decode cX8_mark 69 = .ok (.ireturn, 1) := by decide +kernel
theorem dX8_mark_70 : decode cX8_mark 70 = .ok (.iload_n 3, 1) := by decide +kernel
theorem dX8_mark_71 : decode cX8_mark 71 = .ok (.ldc 202, 2) := by decide +kernel
theorem dX8_mark_73 : decode cX8_mark 73 = .ok (.if_icmp .eq 19, 3) := by decide +kernel
theorem dX8_mark_76 : decode cX8_mark 76 = .ok (.iload_n 3, 1) := by decide +kernel
theorem dX8_mark_77 : decode cX8_mark 77 = .ok (.ldc_w 294, 3) := by decide +kernel
theorem dX8_mark_80 : decode cX8_mark 80 = .ok (.ldc_w 295, 3) := by decide +kernel
theorem dX8_mark_83 : decode cX8_mark 83 = .ok (.invokestatic 137, 3) := by decide +kernel
theorem dX8_mark_86 : decode cX8_mark 86 = .ok (.ifCond .ne 6, 3) := by decide +kernel
theorem dX8_mark_89 : decode cX8_mark 89 = .ok (.ldc 73, 2) := by decide +kernel
theorem dX8_mark_91 : decode cX8_mark 91 = .ok (.ireturn, 1) := by decide +kernel
theorem dX8_mark_92 : decode cX8_mark 92 = .ok (.aload 4, 2) := by decide +kernel
theorem dX8_mark_94 : decode cX8_mark 94 = .ok (.getfield 291, 3) := by decide +kernel
theorem dX8_mark_97 : decode cX8_mark 97 = .ok (.iload_n 2, 1) := by decide +kernel
theorem dX8_mark_98 : decode cX8_mark 98 = .ok (.iload_n 3, 1) := by decide +kernel
theorem dX8_mark_99 : decode cX8_mark 99 = .ok (.iastore, 1) := by decide +kernel
theorem dX8_mark_100 : decode cX8_mark 100 = .ok (.iconst 1, 1) := by decide +kernel
theorem dX8_mark_101 : decode cX8_mark 101 = .ok (.ireturn, 1) := by decide +kernel
def f_X8_mark_92 (fu : Nat)  (x2 : Int32) (x3 : Int32) (i4 : Nat) (m : Mem) : Option (Int32 × Mem) := chk (inb x2 24) (seqM (upd m ((500 + 24 * i4) + x2.toNatClampNeg) x3) (fun m_2 : Mem => some (1, m_2)))
set_option maxHeartbeats 4000000 in
set_option maxRecDepth 100000 in
theorem w_X8_mark_92 {X : TX} {p : Program} {l : Launch} {e : Env} {s : State} {mi : MethodId} {args : Array Value} {below : List Frame} {meth : Method} {c : Code} {Q : State → Prop} {r : Int32} {mE : Mem} (C : Cx X p s mi args c RX8 cX8_mark 5) (hq : RetI X p l e (rmD 2) s mi args below meth c cX8_mark .int Q r mE) {fu : Nat} {x2 : Int32} {x3 : Int32} {i4 : Nat} {m : Mem} {H : Heap} {locs : List Loc} {ls : Array Slot} (h : f_X8_mark_92 fu x2 x3 i4 m = some (r, mE)) (g_i4 : (15, i4) ∈ ids) (hW : Wd X s m H locs) (hl : lv_has ls 5 [(2, .int x2), (3, .int x3), (4, .ref (ad X 15 i4))]) : W p l e (rmD 2) s mi args below meth c H locs 0 0 Q (F0 mi 92 ls []) := by
  unfold f_X8_mark_92 at h
  refine lv_aload C.1 C.2.1 dX8_mark_92 (lv_at hl 2 rfl) ?_
  refine zg_X2_places C hW g_i4 w_325 dX8_mark_94 ?_
  refine lv_iload_n C.1 C.2.1 dX8_mark_97 rfl (lv_at hl 0 rfl) ?_
  refine lv_iload_n C.1 C.2.1 dX8_mark_98 rfl (lv_at hl 1 rfl) ?_
  obtain ⟨hb_1, h⟩ := chk_E h
  obtain ⟨m_2, e_3, h⟩ := seqM_E h
  refine zas_16 C hW (im_15_16 g_i4) (inb_E hb_1) e_3 dX8_mark_99 (fun H locs hW => ?_)
  refine lv_iconst (v := 1) C.1 C.2.1 dX8_mark_100 rfl ?_
  exact ret_i h hq rfl hW dX8_mark_101
def f_X8_mark (fu : Nat)  (x1 : Int32) (x2 : Int32) (x3 : Int32) (m : Mem) : Option (Int32 × Mem) := doI (f_X8_isSheet fu x1 m) (fun r_3 m_2 => if r_3 = 0 then (some ((-1000000001), m_2)) else (chk (inb x1 4) (doI (f_X2_isMissing fu x1.toNatClampNeg m_2) (fun r_7 m_6 => if r_7 = 0 then (doI (f_X2_hasPlace fu x1.toNatClampNeg x2 m_6) (fun r_10 m_9 => if r_10 = 0 then (some ((-1000000013), m_9)) else (if (m_9 (hf x1.toNatClampNeg 0)) = 0 then (if x3 = (-1000000005) then (some ((-1000000012), m_9)) else (chk (inb x2 24) (seqM (upd m_9 ((500 + 24 * x1.toNatClampNeg) + x2.toNatClampNeg) (x3.toInt16.toInt32)) (fun m_17 : Mem => some (1, m_17))))) else (if x3 = (-1000000005) then (f_X8_mark_92 fu x2 x3 x1.toNatClampNeg m_9) else (doI (f_X8_within fu x3 (-99999) 99999 m_9) (fun r_13 m_12 => if r_13 = 0 then (some ((-1000000001), m_12)) else (f_X8_mark_92 fu x2 x3 x1.toNatClampNeg m_12))))))) else (some ((-1000000011), m_6))))))
set_option maxHeartbeats 4000000 in
set_option maxRecDepth 100000 in
theorem w_X8_mark {X : TX} {p : Program} {l : Launch} {e : Env} {s : State} {mi : MethodId} {args : Array Value} {below : List Frame} {meth : Method} {c : Code} {Q : State → Prop} {r : Int32} {mE : Mem} (C : Cx X p s mi args c RX8 cX8_mark 5) (hq : RetI X p l e (rmD 2) s mi args below meth c cX8_mark .int Q r mE) {fu : Nat} {x1 : Int32} {x2 : Int32} {x3 : Int32} {m : Mem} {H : Heap} {locs : List Loc} {ls : Array Slot} (h : f_X8_mark fu x1 x2 x3 m = some (r, mE))  (hW : Wd X s m H locs) (hl : lv_has ls 5 [(0, .ref (ad X 0 0)), (1, .int x1), (2, .int x2), (3, .int x3)]) : W p l e (rmD 2) s mi args below meth c H locs 0 0 Q (F0 mi 0 ls []) := by
  unfold f_X8_mark at h
  refine lv_iload_n C.1 C.2.1 dX8_mark_0 rfl (lv_at hl 1 rfl) ?_
  obtain ⟨r_3, m_2, hc_1, h⟩ := doI_E h
  refine zr_cSI C hW (c_X8_isSheet (x0 := x1) hc_1 ) k_X8_isSheet w_651 ⟨Nat.le_of_ble_eq_true rfl, Nat.le_of_ble_eq_true rfl⟩ ⟨Nat.le_refl 0, Nat.le_refl 0⟩ rfl hl.1 rfl (Nat.le_of_ble_eq_true rfl) dX8_mark_1 (fun H locs hW => ?_)
  refine lv_if_ne (tgt := 10) C.1 C.2.1 dX8_mark_4 (by decide) (fun hc_23 => ?_) (fun hc_23 => ?_)
  · have h := ite_f hc_23 h
    refine lv_aload_n C.1 C.2.1 dX8_mark_10 rfl (lv_at hl 0 rfl) ?_
    refine zg_X8_sheets C hW id_0 w_367 dX8_mark_11 ?_
    refine lv_iload_n C.1 C.2.1 dX8_mark_14 rfl (lv_at hl 1 rfl) ?_
    obtain ⟨hb_4, h⟩ := chk_E h
    refine zaa_14 C hW id_14 (inb_E hb_4) dX8_mark_15 ?_
    refine lv_astore (lv' := [(4, .ref (ad X 15 x1.toNatClampNeg)), (0, .ref (ad X 0 0)), (1, .int x1), (2, .int x2), (3, .int x3)]) C.1 C.2.1 dX8_mark_16 hl (by decide) rfl (fun ls hl => ?_)
    refine lv_aload C.1 C.2.1 dX8_mark_18 (lv_at hl 0 rfl) ?_
    obtain ⟨r_7, m_6, hc_5, h⟩ := doI_E h
    refine zr_cVI C hW (c_X2_isMissing (i0 := x1.toNatClampNeg) hc_5 (ia_14 (inb_E hb_4))) k_X2_isMissing (zr_recv C hW (ia_14 (inb_E hb_4)) zco_15 rfl) w_654 ⟨Nat.le_of_ble_eq_true rfl, Nat.le_of_ble_eq_true rfl⟩ ⟨Nat.le_refl 0, Nat.le_refl 0⟩ rfl hl.1 rfl (Nat.le_of_ble_eq_true rfl) dX8_mark_20 (fun H locs hW => ?_)
    refine lv_if_eq (tgt := 29) C.1 C.2.1 dX8_mark_23 (by decide) (fun hc_22 => ?_) (fun hc_22 => ?_)
    · have h := ite_t hc_22 h
      refine lv_aload C.1 C.2.1 dX8_mark_29 (lv_at hl 0 rfl) ?_
      refine lv_iload_n C.1 C.2.1 dX8_mark_31 rfl (lv_at hl 3 rfl) ?_
      obtain ⟨r_10, m_9, hc_8, h⟩ := doI_E h
      refine zr_cVI C hW (c_X2_hasPlace (i0 := x1.toNatClampNeg) (x1 := x2) hc_8 (ia_14 (inb_E hb_4))) k_X2_hasPlace (zr_recv C hW (ia_14 (inb_E hb_4)) zco_15 rfl) w_920 ⟨Nat.le_of_ble_eq_true rfl, Nat.le_of_ble_eq_true rfl⟩ ⟨Nat.le_refl 0, Nat.le_refl 0⟩ rfl hl.1 rfl (Nat.le_of_ble_eq_true rfl) dX8_mark_32 (fun H locs hW => ?_)
      refine lv_if_ne (tgt := 42) C.1 C.2.1 dX8_mark_35 (by decide) (fun hc_21 => ?_) (fun hc_21 => ?_)
      · have h := ite_f hc_21 h
        refine lv_aload C.1 C.2.1 dX8_mark_42 (lv_at hl 0 rfl) ?_
        refine zg_X2_sort C hW (ia_14 (inb_E hb_4)) w_321 dX8_mark_44 ?_
        refine lv_if_ne (tgt := 70) C.1 C.2.1 dX8_mark_47 (by decide) (fun hc_20 => ?_) (fun hc_20 => ?_)
        · have h := ite_f hc_20 h
          refine lv_iload_n C.1 C.2.1 dX8_mark_70 rfl (lv_at hl 4 rfl) ?_
          refine lv_ldc C.1 C.2.1 C.2.2.2.1 (C.2.2.2.2.1 _ w_605) dX8_mark_71 ?_
          refine lv_icmp_eq (tgt := 92) C.1 C.2.1 dX8_mark_73 (by decide) (fun hc_15 => ?_) (fun hc_15 => ?_)
          · have h := ite_t hc_15 h
            exact w_X8_mark_92 C hq  h (ia_14 (inb_E hb_4)) hW (lv_sub hl [3, 4, 0] rfl)
          · have h := ite_f hc_15 h
            refine lv_iload_n C.1 C.2.1 dX8_mark_76 rfl (lv_at hl 4 rfl) ?_
            refine lv_ldcw C.1 C.2.1 C.2.2.2.1 (C.2.2.2.2.1 _ w_922) dX8_mark_77 ?_
            refine lv_ldcw C.1 C.2.1 C.2.2.2.1 (C.2.2.2.2.1 _ w_923) dX8_mark_80 ?_
            obtain ⟨r_13, m_12, hc_11, h⟩ := doI_E h
            refine zr_cSI C hW (c_X8_within (x0 := x3) (x1 := (-99999)) (x2 := 99999) hc_11 ) k_X8_within w_401 ⟨Nat.le_of_ble_eq_true rfl, Nat.le_of_ble_eq_true rfl⟩ ⟨Nat.le_refl 0, Nat.le_refl 0⟩ rfl hl.1 rfl (Nat.le_of_ble_eq_true rfl) dX8_mark_83 (fun H locs hW => ?_)
            refine lv_if_ne (tgt := 92) C.1 C.2.1 dX8_mark_86 (by decide) (fun hc_14 => ?_) (fun hc_14 => ?_)
            · have h := ite_f hc_14 h
              exact w_X8_mark_92 C hq  h (ia_14 (inb_E hb_4)) hW (lv_sub hl [3, 4, 0] rfl)
            · have h := ite_t hc_14 h
              refine lv_ldc C.1 C.2.1 C.2.2.2.1 (C.2.2.2.2.1 _ w_408) dX8_mark_89 ?_
              exact ret_i h hq rfl hW dX8_mark_91
        · have h := ite_t hc_20 h
          refine lv_iload_n C.1 C.2.1 dX8_mark_50 rfl (lv_at hl 4 rfl) ?_
          refine lv_ldc C.1 C.2.1 C.2.2.2.1 (C.2.2.2.2.1 _ w_605) dX8_mark_51 ?_
          refine lv_icmp_ne (tgt := 59) C.1 C.2.1 dX8_mark_53 (by decide) (fun hc_19 => ?_) (fun hc_19 => ?_)
          · have h := ite_f hc_19 h
            refine lv_aload C.1 C.2.1 dX8_mark_59 (lv_at hl 0 rfl) ?_
            refine zg_X2_places C hW (ia_14 (inb_E hb_4)) w_325 dX8_mark_61 ?_
            refine lv_iload_n C.1 C.2.1 dX8_mark_64 rfl (lv_at hl 3 rfl) ?_
            refine lv_iload_n C.1 C.2.1 dX8_mark_65 rfl (lv_at hl 4 rfl) ?_
            refine lv_i2s (v := (x3.toInt16.toInt32)) C.1 C.2.1 dX8_mark_66 rfl ?_
            obtain ⟨hb_16, h⟩ := chk_E h
            obtain ⟨m_17, e_18, h⟩ := seqM_E h
            refine zas_16 C hW (im_15_16 (ia_14 (inb_E hb_4))) (inb_E hb_16) e_18 dX8_mark_67 (fun H locs hW => ?_)
            refine lv_iconst (v := 1) C.1 C.2.1 dX8_mark_68 rfl ?_
            exact ret_i h hq rfl hW dX8_mark_69
          · have h := ite_t hc_19 h
            refine lv_ldc C.1 C.2.1 C.2.2.2.1 (C.2.2.2.2.1 _ w_457) dX8_mark_56 ?_
            exact ret_i h hq rfl hW dX8_mark_58
      · have h := ite_t hc_21 h
        refine lv_ldcw C.1 C.2.1 C.2.2.2.1 (C.2.2.2.2.1 _ w_921) dX8_mark_38 ?_
        exact ret_i h hq rfl hW dX8_mark_41
    · have h := ite_f hc_22 h
      refine lv_ldc C.1 C.2.1 C.2.2.2.1 (C.2.2.2.2.1 _ w_658) dX8_mark_26 ?_
      exact ret_i h hq rfl hW dX8_mark_28
  · have h := ite_t hc_23 h
    refine lv_ldc C.1 C.2.1 C.2.2.2.1 (C.2.2.2.2.1 _ w_408) dX8_mark_7 ?_
    exact ret_i h hq rfl hW dX8_mark_9
theorem c_X8_mark {X : TX} {l : Launch} {fu : Nat} {x1 : Int32} {x2 : Int32} {x3 : Int32} {m mE : Mem} {r : Int32} (h : f_X8_mark fu x1 x2 x3 m = some (r, mE))  : MetI X l yX8_mark cX8_mark 5 .int 2 [.ref (ad X 0 0), .int x1, .int x2, .int x3] m r mE :=
  met_I (by decide) (Nat.le_of_ble_eq_true rfl) (fun p e s mi args below meth c ls Q C hq hW hl => w_X8_mark C hq h  hW (lv_sub hl [0, 1, 2, 3] rfl))
theorem k_X8_mark : CalV yX8_mark cX8_mark 5 (some .int) RX8 3 := ⟨w_917, w_918, w_61, w_919, by decide +kernel⟩
theorem dX8_pour_0 : decode cX8_pour 0 = .ok (.iload_n 1, 1) := by decide +kernel
theorem dX8_pour_1 : decode cX8_pour 1 = .ok (.invokestatic 229, 3) := by decide +kernel
theorem dX8_pour_4 : decode cX8_pour 4 = .ok (.ifCond .ne 6, 3) := by decide +kernel
theorem dX8_pour_7 : decode cX8_pour 7 = .ok (.ldc 73, 2) := by decide +kernel
theorem dX8_pour_9 : decode cX8_pour 9 = .ok (.ireturn, 1) := by decide +kernel
theorem dX8_pour_10 : decode cX8_pour 10 = .ok (.aload_n 0, 1) := by decide +kernel
theorem dX8_pour_11 : decode cX8_pour 11 = .ok (.getfield 47, 3) := by decide +kernel
theorem dX8_pour_14 : decode cX8_pour 14 = .ok (.iload_n 1, 1) := by decide +kernel
theorem dX8_pour_15 : decode cX8_pour 15 = .ok (.aaload, 1) := by decide +kernel
theorem dX8_pour_16 : decode cX8_pour 16 = .ok (.astore_n 2, 1) := by decide +kernel
theorem dX8_pour_17 : decode cX8_pour 17 = .ok (.aload_n 2, 1) := by decide +kernel
theorem dX8_pour_18 : decode cX8_pour 18 = .ok (.invokevirtual 232, 3) := by decide +kernel
theorem dX8_pour_21 : decode cX8_pour 21 = .ok (.ifCond .eq 6, 3) := by decide +kernel
theorem dX8_pour_24 : decode cX8_pour 24 = .ok (.ldc 235, 2) := by decide +kernel
theorem dX8_pour_26 : decode cX8_pour 26 = .ok (.ireturn, 1) := by decide +kernel
theorem dX8_pour_27 : decode cX8_pour 27 = .ok (.iconst 0, 1) := by decide +kernel
theorem dX8_pour_28 : decode cX8_pour 28 = .ok (.istore_n 3, 1) := by decide +kernel
theorem dX8_pour_29 : decode cX8_pour 29 = .ok (.iconst 0, 1) := by decide +kernel
theorem dX8_pour_30 : decode cX8_pour 30 = .ok (.istore 4, 2) := by decide +kernel
theorem dX8_pour_32 : decode cX8_pour 32 = .ok (.iload 4, 2) := by decide +kernel
theorem dX8_pour_34 : decode cX8_pour 34 = .ok (.aload_n 0, 1) := by decide +kernel
theorem dX8_pour_35 : decode cX8_pour 35 = .ok (.getfield 28, 3) := by decide +kernel
theorem dX8_pour_38 : decode cX8_pour 38 = .ok (.getfield 191, 3) := by decide +kernel
theorem dX8_pour_41 : decode cX8_pour 41 = .ok (.if_icmp .ge 72, 3) := by decide +kernel
theorem dX8_pour_44 : decode cX8_pour 44 = .ok (.aload_n 2, 1) := by decide +kernel
theorem dX8_pour_45 : decode cX8_pour 45 = .ok (.iload 4, 2) := by decide +kernel
theorem dX8_pour_47 : decode cX8_pour 47 = .ok (.invokevirtual 296, 3) := by decide +kernel
theorem dX8_pour_50 : decode cX8_pour 50 = .ok (.ifCond .eq 57, 3) := by decide +kernel
theorem dX8_pour_53 : decode cX8_pour 53 = .ok (.iconst 1, 1) := by decide +kernel
theorem dX8_pour_54 : decode cX8_pour 54 = .ok (.aload_n 2, 1) := by decide +kernel
theorem dX8_pour_55 : decode cX8_pour 55 = .ok (.getfield 291, 3) := by decide +kernel
theorem dX8_pour_58 : decode cX8_pour 58 = .ok (.iload 4, 2) := by decide +kernel
theorem dX8_pour_60 : decode cX8_pour 60 = .ok (.iaload, 1) := by decide +kernel
theorem dX8_pour_61 : decode cX8_pour 61 = .ok (.bipush 60, 2) := by decide +kernel
theorem dX8_pour_63 : decode cX8_pour 63 = .ok (.invokestatic 155, 3) := by decide +kernel
theorem dX8_pour_66 : decode cX8_pour 66 = .ok (.invokestatic 299, 3) := by decide +kernel
theorem dX8_pour_69 : decode cX8_pour 69 = .ok (.istore 5, 2) := by decide +kernel
theorem dX8_pour_71 : decode cX8_pour 71 = .ok (.iload 5, 2) := by decide +kernel
theorem dX8_pour_73 : decode cX8_pour 73 = .ok (.aload_n 0, 1) := by decide +kernel
theorem dX8_pour_74 : decode cX8_pour 74 = .ok (.getfield 28, 3) := by decide +kernel
theorem dX8_pour_77 : decode cX8_pour 77 = .ok (.getfield 86, 3) := by decide +kernel
theorem dX8_pour_80 : decode cX8_pour 80 = .ok (.iload 4, 2) := by decide +kernel
theorem dX8_pour_82 : decode cX8_pour 82 = .ok (.aaload, 1) := by decide +kernel
theorem dX8_pour_83 : decode cX8_pour 83 = .ok (.getfield 94, 3) := by decide +kernel
theorem dX8_pour_86 : decode cX8_pour 86 = .ok (.if_icmp .eq 21, 3) := by decide +kernel
theorem dX8_pour_89 : decode cX8_pour 89 = .ok (.aload_n 0, 1) := by decide +kernel
theorem dX8_pour_90 : decode cX8_pour 90 = .ok (.getfield 28, 3) := by decide +kernel
theorem dX8_pour_93 : decode cX8_pour 93 = .ok (.getfield 86, 3) := by decide +kernel
theorem dX8_pour_96 : decode cX8_pour 96 = .ok (.iload 4, 2) := by decide +kernel
theorem dX8_pour_98 : decode cX8_pour 98 = .ok (.aaload, 1) := by decide +kernel
theorem dX8_pour_99 : decode cX8_pour 99 = .ok (.iload 5, 2) := by decide +kernel
theorem dX8_pour_101 : decode cX8_pour 101 = .ok (.putfield 94, 3) := by decide +kernel
theorem dX8_pour_104 : decode cX8_pour 104 = .ok (.iinc 3 1, 3) := by decide +kernel
theorem dX8_pour_107 : decode cX8_pour 107 = .ok (.iinc 4 1, 3) := by decide +kernel
theorem dX8_pour_110 : decode cX8_pour 110 = .ok (.goto (-78), 3) := by decide +kernel
theorem dX8_pour_113 : decode cX8_pour 113 = .ok (.iload_n 3, 1) := by decide +kernel
theorem dX8_pour_114 : decode cX8_pour 114 = .ok (.ireturn, 1) := by decide +kernel
def f_X8_pour_107 (fu : Nat) (k_32 : Nat → Int32 → Int32 → Mem → Option (Int32 × Mem)) (i2 : Nat) (x3 : Int32) (x4 : Int32) (m : Mem) : Option (Int32 × Mem) := seqM (x4 + 1) (fun x_1 : Int32 => k_32 i2 x3 x_1 m)
set_option maxHeartbeats 4000000 in
set_option maxRecDepth 100000 in
theorem w_X8_pour_107 {X : TX} {p : Program} {l : Launch} {e : Env} {s : State} {mi : MethodId} {args : Array Value} {below : List Frame} {meth : Method} {c : Code} {Q : State → Prop} {r : Int32} {mE : Mem} (C : Cx X p s mi args c RX8 cX8_pour 6) (hq : RetI X p l e (rmD 2) s mi args below meth c cX8_pour .int Q r mE) {fu : Nat} {k_32 : Nat → Int32 → Int32 → Mem → Option (Int32 × Mem)} (hk_32 : ∀ {i2 : Nat} {x3 : Int32} {x4 : Int32} {m : Mem} {H : Heap} {locs : List Loc} {ls : Array Slot}, k_32 i2 x3 x4 m = some (r, mE) → (15, i2) ∈ ids → Wd X s m H locs → lv_has ls 6 [(0, .ref (ad X 0 0)), (2, .ref (ad X 15 i2)), (3, .int x3), (4, .int x4)] → W p l e (rmD 2) s mi args below meth c H locs 0 0 Q (F0 mi 32 ls [])) {i2 : Nat} {x3 : Int32} {x4 : Int32} {m : Mem} {H : Heap} {locs : List Loc} {ls : Array Slot} (h : f_X8_pour_107 fu k_32 i2 x3 x4 m = some (r, mE)) (g_i2 : (15, i2) ∈ ids) (hW : Wd X s m H locs) (hl : lv_has ls 6 [(0, .ref (ad X 0 0)), (2, .ref (ad X 15 i2)), (3, .int x3), (4, .int x4)]) : W p l e (rmD 2) s mi args below meth c H locs 0 0 Q (F0 mi 107 ls []) := by
  unfold f_X8_pour_107 at h
  obtain ⟨x_1, e_2, h⟩ := seqM_E h
  refine lv_iinc (v := x_1) (lv' := [(4, .int x_1), (0, .ref (ad X 0 0)), (2, .ref (ad X 15 i2)), (3, .int x3)]) C.1 C.2.1 dX8_pour_107 hl (k := 3) rfl (by rw [e_2]; rfl) (by decide) rfl (fun ls hl => ?_)
  refine lv_goto (tgt := 32) C.1 C.2.1 dX8_pour_110 (by decide) ?_
  exact hk_32 h g_i2 hW (lv_sub hl [1, 2, 3, 0] rfl)
def f_X8_pour_32 (fu : Nat)  : Nat → Nat → Int32 → Int32 → Mem → Option (Int32 × Mem)
  | 0, _, _, _, _ => none
  | n + 1, i2, x3, x4, m => if (m (sf 0 1)) ≤ x4 then (some (x3, m)) else (doI (f_X2_isNumber fu i2 x4 m) (fun r_3 m_2 => if r_3 = 0 then (f_X8_pour_107 fu (f_X8_pour_32 fu n) i2 x3 x4 m_2) else (chk (inb x4 24) (seqM (if 1 < (if 60 < (m_2 ((500 + 24 * i2) + x4.toNatClampNeg)) then 60 else (m_2 ((500 + 24 * i2) + x4.toNatClampNeg))) then (if 60 < (m_2 ((500 + 24 * i2) + x4.toNatClampNeg)) then 60 else (m_2 ((500 + 24 * i2) + x4.toNatClampNeg))) else 1) (fun x_5 : Int32 => chk (inb x4 5) (if x_5 = (m_2 (vf (10 * 0 + x4.toNatClampNeg) 1)) then (f_X8_pour_107 fu (f_X8_pour_32 fu n) i2 x3 x4 m_2) else (chk (inb x4 5) (seqM (upd m_2 (vf (10 * 0 + x4.toNatClampNeg) 1) x_5) (fun m_9 : Mem => seqM (x3 + 1) (fun x_11 : Int32 => f_X8_pour_107 fu (f_X8_pour_32 fu n) i2 x_11 x4 m_9))))))))))
set_option maxHeartbeats 4000000 in
set_option maxRecDepth 100000 in
theorem w_X8_pour_32 {X : TX} {p : Program} {l : Launch} {e : Env} {s : State} {mi : MethodId} {args : Array Value} {below : List Frame} {meth : Method} {c : Code} {Q : State → Prop} {r : Int32} {mE : Mem} (C : Cx X p s mi args c RX8 cX8_pour 6) (hq : RetI X p l e (rmD 2) s mi args below meth c cX8_pour .int Q r mE) {fu : Nat} : ∀ (n : Nat) {i2 : Nat} {x3 : Int32} {x4 : Int32} {m : Mem} {H : Heap} {locs : List Loc} {ls : Array Slot}, f_X8_pour_32 fu n i2 x3 x4 m = some (r, mE) → (15, i2) ∈ ids → Wd X s m H locs → lv_has ls 6 [(0, .ref (ad X 0 0)), (2, .ref (ad X 15 i2)), (3, .int x3), (4, .int x4)] → W p l e (rmD 2) s mi args below meth c H locs 0 0 Q (F0 mi 32 ls []) := by
  intro n
  induction n with
  | zero =>
    intro i2 x3 x4 m H locs ls h g_i2 hW hl
    rw [f_X8_pour_32] at h
    cases h
  | succ n ih =>
    intro i2 x3 x4 m H locs ls h g_i2 hW hl
    rw [f_X8_pour_32] at h
    refine lv_iload C.1 C.2.1 dX8_pour_32 (lv_at hl 3 rfl) ?_
    refine lv_aload_n C.1 C.2.1 dX8_pour_34 rfl (lv_at hl 0 rfl) ?_
    refine zg_X8_now C hW id_0 w_362 dX8_pour_35 ?_
    refine zg_X4_many C hW id_9_0 w_227 dX8_pour_38 ?_
    refine lv_icmp_ge (tgt := 113) C.1 C.2.1 dX8_pour_41 (by decide) (fun hc_15 => ?_) (fun hc_15 => ?_)
    · have h := ite_t hc_15 h
      refine lv_iload_n C.1 C.2.1 dX8_pour_113 rfl (lv_at hl 2 rfl) ?_
      exact ret_i h hq rfl hW dX8_pour_114
    · have h := ite_f hc_15 h
      refine lv_aload_n C.1 C.2.1 dX8_pour_44 rfl (lv_at hl 1 rfl) ?_
      refine lv_iload C.1 C.2.1 dX8_pour_45 (lv_at hl 3 rfl) ?_
      obtain ⟨r_3, m_2, hc_1, h⟩ := doI_E h
      refine zr_cVI C hW (c_X2_isNumber (i0 := i2) (x1 := x4) hc_1 g_i2) k_X2_isNumber (zr_recv C hW g_i2 zco_15 rfl) w_663 ⟨Nat.le_of_ble_eq_true rfl, Nat.le_of_ble_eq_true rfl⟩ ⟨Nat.le_refl 0, Nat.le_refl 0⟩ rfl hl.1 rfl (Nat.le_of_ble_eq_true rfl) dX8_pour_47 (fun H locs hW => ?_)
      refine lv_if_eq (tgt := 107) C.1 C.2.1 dX8_pour_50 (by decide) (fun hc_14 => ?_) (fun hc_14 => ?_)
      · have h := ite_t hc_14 h
        exact w_X8_pour_107 C hq ih h g_i2 hW (lv_sub hl [0, 1, 2, 3] rfl)
      · have h := ite_f hc_14 h
        refine lv_iconst (v := 1) C.1 C.2.1 dX8_pour_53 rfl ?_
        refine lv_aload_n C.1 C.2.1 dX8_pour_54 rfl (lv_at hl 1 rfl) ?_
        refine zg_X2_places C hW g_i2 w_325 dX8_pour_55 ?_
        refine lv_iload C.1 C.2.1 dX8_pour_58 (lv_at hl 3 rfl) ?_
        obtain ⟨hb_4, h⟩ := chk_E h
        refine zal_16 C hW (im_15_16 g_i2) (inb_E hb_4) dX8_pour_60 ?_
        refine lv_bipush (v := 60) C.1 C.2.1 dX8_pour_61 rfl ?_
        refine va_mmin C.1 C.2.1 (C.2.2.1.trans hl.1.symm) C.2.2.2.1 (C.2.2.2.2.1 _ w_512) (C.2.2.2.2.1 _ w_513) (C.2.2.2.2.1 _ w_71) (C.2.2.2.2.1 _ w_514) (Nat.le_of_ble_eq_true rfl) (Nat.le_of_ble_eq_true rfl) (Nat.le_refl 0) (Nat.le_refl 0) dX8_pour_63 ?_
        refine va_mmax C.1 C.2.1 (C.2.2.1.trans hl.1.symm) C.2.2.2.1 (C.2.2.2.2.1 _ w_928) (C.2.2.2.2.1 _ w_431) (C.2.2.2.2.1 _ w_71) (C.2.2.2.2.1 _ w_432) (Nat.le_of_ble_eq_true rfl) (Nat.le_of_ble_eq_true rfl) (Nat.le_refl 0) (Nat.le_refl 0) dX8_pour_66 ?_
        obtain ⟨x_5, e_6, h⟩ := seqM_E h
        refine lv_name e_6 ?_
        refine lv_istore (lv' := [(5, .int x_5), (0, .ref (ad X 0 0)), (2, .ref (ad X 15 i2)), (3, .int x3), (4, .int x4)]) C.1 C.2.1 dX8_pour_69 hl (by decide) rfl (fun ls hl => ?_)
        refine lv_iload C.1 C.2.1 dX8_pour_71 (lv_at hl 0 rfl) ?_
        refine lv_aload_n C.1 C.2.1 dX8_pour_73 rfl (lv_at hl 1 rfl) ?_
        refine zg_X8_now C hW id_0 w_362 dX8_pour_74 ?_
        refine zg_X4_voices C hW id_9_0 w_225 dX8_pour_77 ?_
        refine lv_iload C.1 C.2.1 dX8_pour_80 (lv_at hl 4 rfl) ?_
        obtain ⟨hb_7, h⟩ := chk_E h
        refine zaa_10 C hW (im_9_10 id_9_0) (inb_E hb_7) dX8_pour_82 ?_
        refine zg_X7_wait C hW (ia_10 (im_9_10 id_9_0) (inb_E hb_7)) w_192 dX8_pour_83 ?_
        refine lv_icmp_eq (tgt := 107) C.1 C.2.1 dX8_pour_86 (by decide) (fun hc_13 => ?_) (fun hc_13 => ?_)
        · have h := ite_t hc_13 h
          exact w_X8_pour_107 C hq ih h g_i2 hW (lv_sub hl [1, 2, 3, 4] rfl)
        · have h := ite_f hc_13 h
          refine lv_aload_n C.1 C.2.1 dX8_pour_89 rfl (lv_at hl 1 rfl) ?_
          refine zg_X8_now C hW id_0 w_362 dX8_pour_90 ?_
          refine zg_X4_voices C hW id_9_0 w_225 dX8_pour_93 ?_
          refine lv_iload C.1 C.2.1 dX8_pour_96 (lv_at hl 4 rfl) ?_
          obtain ⟨hb_8, h⟩ := chk_E h
          refine zaa_10 C hW (im_9_10 id_9_0) (inb_E hb_8) dX8_pour_98 ?_
          refine lv_iload C.1 C.2.1 dX8_pour_99 (lv_at hl 0 rfl) ?_
          obtain ⟨m_9, e_10, h⟩ := seqM_E h
          refine zp_X7_wait C hW (ia_10 (im_9_10 id_9_0) (inb_E hb_8)) w_192 e_10 dX8_pour_101 (fun H locs hW => ?_)
          obtain ⟨x_11, e_12, h⟩ := seqM_E h
          refine lv_iinc (v := x_11) (lv' := [(3, .int x_11), (5, .int x_5), (0, .ref (ad X 0 0)), (2, .ref (ad X 15 i2)), (4, .int x4)]) C.1 C.2.1 dX8_pour_104 hl (k := 3) rfl (by rw [e_12]; rfl) (by decide) rfl (fun ls hl => ?_)
          exact w_X8_pour_107 C hq ih h g_i2 hW (lv_sub hl [2, 3, 0, 4] rfl)
def f_X8_pour (fu : Nat)  (x1 : Int32) (m : Mem) : Option (Int32 × Mem) := doI (f_X8_isSheet fu x1 m) (fun r_3 m_2 => if r_3 = 0 then (some ((-1000000001), m_2)) else (chk (inb x1 4) (doI (f_X2_isMissing fu x1.toNatClampNeg m_2) (fun r_7 m_6 => if r_7 = 0 then (f_X8_pour_32 fu fu x1.toNatClampNeg 0 0 m_6) else (some ((-1000000011), m_6))))))
set_option maxHeartbeats 4000000 in
set_option maxRecDepth 100000 in
theorem w_X8_pour {X : TX} {p : Program} {l : Launch} {e : Env} {s : State} {mi : MethodId} {args : Array Value} {below : List Frame} {meth : Method} {c : Code} {Q : State → Prop} {r : Int32} {mE : Mem} (C : Cx X p s mi args c RX8 cX8_pour 6) (hq : RetI X p l e (rmD 2) s mi args below meth c cX8_pour .int Q r mE) {fu : Nat} {x1 : Int32} {m : Mem} {H : Heap} {locs : List Loc} {ls : Array Slot} (h : f_X8_pour fu x1 m = some (r, mE))  (hW : Wd X s m H locs) (hl : lv_has ls 6 [(0, .ref (ad X 0 0)), (1, .int x1)]) : W p l e (rmD 2) s mi args below meth c H locs 0 0 Q (F0 mi 0 ls []) := by
  unfold f_X8_pour at h
  refine lv_iload_n C.1 C.2.1 dX8_pour_0 rfl (lv_at hl 1 rfl) ?_
  obtain ⟨r_3, m_2, hc_1, h⟩ := doI_E h
  refine zr_cSI C hW (c_X8_isSheet (x0 := x1) hc_1 ) k_X8_isSheet w_651 ⟨Nat.le_of_ble_eq_true rfl, Nat.le_of_ble_eq_true rfl⟩ ⟨Nat.le_refl 0, Nat.le_refl 0⟩ rfl hl.1 rfl (Nat.le_of_ble_eq_true rfl) dX8_pour_1 (fun H locs hW => ?_)
  refine lv_if_ne (tgt := 10) C.1 C.2.1 dX8_pour_4 (by decide) (fun hc_9 => ?_) (fun hc_9 => ?_)
  · have h := ite_f hc_9 h
    refine lv_aload_n C.1 C.2.1 dX8_pour_10 rfl (lv_at hl 0 rfl) ?_
    refine zg_X8_sheets C hW id_0 w_367 dX8_pour_11 ?_
    refine lv_iload_n C.1 C.2.1 dX8_pour_14 rfl (lv_at hl 1 rfl) ?_
    obtain ⟨hb_4, h⟩ := chk_E h
    refine zaa_14 C hW id_14 (inb_E hb_4) dX8_pour_15 ?_
    refine lv_astore_n (lv' := [(2, .ref (ad X 15 x1.toNatClampNeg)), (0, .ref (ad X 0 0)), (1, .int x1)]) C.1 C.2.1 dX8_pour_16 rfl hl (by decide) rfl (fun ls hl => ?_)
    refine lv_aload_n C.1 C.2.1 dX8_pour_17 rfl (lv_at hl 0 rfl) ?_
    obtain ⟨r_7, m_6, hc_5, h⟩ := doI_E h
    refine zr_cVI C hW (c_X2_isMissing (i0 := x1.toNatClampNeg) hc_5 (ia_14 (inb_E hb_4))) k_X2_isMissing (zr_recv C hW (ia_14 (inb_E hb_4)) zco_15 rfl) w_654 ⟨Nat.le_of_ble_eq_true rfl, Nat.le_of_ble_eq_true rfl⟩ ⟨Nat.le_refl 0, Nat.le_refl 0⟩ rfl hl.1 rfl (Nat.le_of_ble_eq_true rfl) dX8_pour_18 (fun H locs hW => ?_)
    refine lv_if_eq (tgt := 27) C.1 C.2.1 dX8_pour_21 (by decide) (fun hc_8 => ?_) (fun hc_8 => ?_)
    · have h := ite_t hc_8 h
      refine lv_iconst (v := 0) C.1 C.2.1 dX8_pour_27 rfl ?_
      refine lv_istore_n (lv' := [(3, .int 0), (2, .ref (ad X 15 x1.toNatClampNeg)), (0, .ref (ad X 0 0)), (1, .int x1)]) C.1 C.2.1 dX8_pour_28 rfl hl (by decide) rfl (fun ls hl => ?_)
      refine lv_iconst (v := 0) C.1 C.2.1 dX8_pour_29 rfl ?_
      refine lv_istore (lv' := [(4, .int 0), (3, .int 0), (2, .ref (ad X 15 x1.toNatClampNeg)), (0, .ref (ad X 0 0)), (1, .int x1)]) C.1 C.2.1 dX8_pour_30 hl (by decide) rfl (fun ls hl => ?_)
      exact w_X8_pour_32 C hq  fu h (ia_14 (inb_E hb_4)) hW (lv_sub hl [3, 2, 1, 0] rfl)
    · have h := ite_f hc_8 h
      refine lv_ldc C.1 C.2.1 C.2.2.2.1 (C.2.2.2.2.1 _ w_658) dX8_pour_24 ?_
      exact ret_i h hq rfl hW dX8_pour_26
  · have h := ite_t hc_9 h
    refine lv_ldc C.1 C.2.1 C.2.2.2.1 (C.2.2.2.2.1 _ w_408) dX8_pour_7 ?_
    exact ret_i h hq rfl hW dX8_pour_9
theorem c_X8_pour {X : TX} {l : Launch} {fu : Nat} {x1 : Int32} {m mE : Mem} {r : Int32} (h : f_X8_pour fu x1 m = some (r, mE))  : MetI X l yX8_pour cX8_pour 6 .int 2 [.ref (ad X 0 0), .int x1] m r mE :=
  met_I (by decide) (Nat.le_of_ble_eq_true rfl) (fun p e s mi args below meth c ls Q C hq hW hl => w_X8_pour C hq h  hW (lv_sub hl [0, 1] rfl))
theorem k_X8_pour : CalV yX8_pour cX8_pour 6 (some .int) RX8 1 := ⟨w_925, w_926, w_61, w_927, by decide +kernel⟩
theorem dX8_reads_0 : decode cX8_reads 0 = .ok (.iload_n 1, 1) := by decide +kernel
theorem dX8_reads_1 : decode cX8_reads 1 = .ok (.invokestatic 229, 3) := by decide +kernel
theorem dX8_reads_4 : decode cX8_reads 4 = .ok (.ifCond .ne 6, 3) := by decide +kernel
theorem dX8_reads_7 : decode cX8_reads 7 = .ok (.ldc 73, 2) := by decide +kernel
theorem dX8_reads_9 : decode cX8_reads 9 = .ok (.ireturn, 1) := by decide +kernel
theorem dX8_reads_10 : decode cX8_reads 10 = .ok (.aload_n 0, 1) := by decide +kernel
theorem dX8_reads_11 : decode cX8_reads 11 = .ok (.getfield 47, 3) := by decide +kernel
theorem dX8_reads_14 : decode cX8_reads 14 = .ok (.iload_n 1, 1) := by decide +kernel
theorem dX8_reads_15 : decode cX8_reads 15 = .ok (.aaload, 1) := by decide +kernel
theorem dX8_reads_16 : decode cX8_reads 16 = .ok (.astore_n 2, 1) := by decide +kernel
theorem dX8_reads_17 : decode cX8_reads 17 = .ok (.aload_n 2, 1) := by decide +kernel
theorem dX8_reads_18 : decode cX8_reads 18 = .ok (.invokevirtual 232, 3) := by decide +kernel
theorem dX8_reads_21 : decode cX8_reads 21 = .ok (.ifCond .eq 6, 3) := by decide +kernel
theorem dX8_reads_24 : decode cX8_reads 24 = .ok (.ldc 235, 2) := by decide +kernel
theorem dX8_reads_26 : decode cX8_reads 26 = .ok (.ireturn, 1) := by decide +kernel
theorem dX8_reads_27 : decode cX8_reads 27 = .ok (.iconst 0, 1) := by decide +kernel
theorem dX8_reads_28 : decode cX8_reads 28 = .ok (.istore_n 3, 1) := by decide +kernel
theorem dX8_reads_29 : decode cX8_reads 29 = .ok (.iload_n 3, 1) := by decide +kernel
theorem dX8_reads_30 : decode cX8_reads 30 = .ok (.aload_n 2, 1) := by decide +kernel
theorem dX8_reads_31 : decode cX8_reads 31 = .ok (.getfield 302, 3) := by decide +kernel
theorem dX8_reads_34 : decode cX8_reads 34 = .ok (.if_icmp .ge 51, 3) := by decide +kernel
theorem dX8_reads_37 : decode cX8_reads 37 = .ok (.aload_n 2, 1) := by decide +kernel
theorem dX8_reads_38 : decode cX8_reads 38 = .ok (.iload_n 3, 1) := by decide +kernel
theorem dX8_reads_39 : decode cX8_reads 39 = .ok (.invokevirtual 296, 3) := by decide +kernel
theorem dX8_reads_42 : decode cX8_reads 42 = .ok (.ifCond .eq 37, 3) := by decide +kernel
theorem dX8_reads_45 : decode cX8_reads 45 = .ok (.aload_n 0, 1) := by decide +kernel
theorem dX8_reads_46 : decode cX8_reads 46 = .ok (.getfield 28, 3) := by decide +kernel
theorem dX8_reads_49 : decode cX8_reads 49 = .ok (.iload_n 3, 1) := by decide +kernel
theorem dX8_reads_50 : decode cX8_reads 50 = .ok (.invokevirtual 83, 3) := by decide +kernel
theorem dX8_reads_53 : decode cX8_reads 53 = .ok (.ifCond .eq 24, 3) := by decide +kernel
theorem dX8_reads_56 : decode cX8_reads 56 = .ok (.aload_n 2, 1) := by decide +kernel
theorem dX8_reads_57 : decode cX8_reads 57 = .ok (.getfield 291, 3) := by decide +kernel
theorem dX8_reads_60 : decode cX8_reads 60 = .ok (.iload_n 3, 1) := by decide +kernel
theorem dX8_reads_61 : decode cX8_reads 61 = .ok (.iaload, 1) := by decide +kernel
theorem dX8_reads_62 : decode cX8_reads 62 = .ok (.aload_n 0, 1) := by decide +kernel
theorem dX8_reads_63 : decode cX8_reads 63 = .ok (.getfield 28, 3) := by decide +kernel
theorem dX8_reads_66 : decode cX8_reads 66 = .ok (.getfield 86, 3) := by decide +kernel
theorem dX8_reads_69 : decode cX8_reads 69 = .ok (.iload_n 3, 1) := by decide +kernel
theorem dX8_reads_70 : decode cX8_reads 70 = .ok (.aaload, 1) := by decide +kernel
theorem dX8_reads_71 : decode cX8_reads 71 = .ok (.getfield 109, 3) := by decide +kernel
theorem dX8_reads_74 : decode cX8_reads 74 = .ok (.if_icmp .eq 5, 3) := by decide +kernel
theorem dX8_reads_77 : decode cX8_reads 77 = .ok (.iload_n 3, 1) := by decide +kernel
theorem dX8_reads_78 : decode cX8_reads 78 = .ok (.ireturn, 1) := by decide +kernel
theorem dX8_reads_79 : decode cX8_reads 79 = .ok (.iinc 3 1, 3) := by decide +kernel
theorem dX8_reads_82 : decode cX8_reads 82 = .ok (.goto (-53), 3) := by decide +kernel
theorem dX8_reads_85 : decode cX8_reads 85 = .ok (.ldc 202, 2) := by decide +kernel
theorem dX8_reads_87 : decode cX8_reads 87 = .ok (.ireturn, 1) := by decide +kernel
def f_X8_reads_79 (fu : Nat) (k_29 : Nat → Int32 → Mem → Option (Int32 × Mem)) (i2 : Nat) (x3 : Int32) (m : Mem) : Option (Int32 × Mem) := seqM (x3 + 1) (fun x_1 : Int32 => k_29 i2 x_1 m)
set_option maxHeartbeats 4000000 in
set_option maxRecDepth 100000 in
theorem w_X8_reads_79 {X : TX} {p : Program} {l : Launch} {e : Env} {s : State} {mi : MethodId} {args : Array Value} {below : List Frame} {meth : Method} {c : Code} {Q : State → Prop} {r : Int32} {mE : Mem} (C : Cx X p s mi args c RX8 cX8_reads 4) (hq : RetI X p l e (rmD 2) s mi args below meth c cX8_reads .int Q r mE) {fu : Nat} {k_29 : Nat → Int32 → Mem → Option (Int32 × Mem)} (hk_29 : ∀ {i2 : Nat} {x3 : Int32} {m : Mem} {H : Heap} {locs : List Loc} {ls : Array Slot}, k_29 i2 x3 m = some (r, mE) → (15, i2) ∈ ids → Wd X s m H locs → lv_has ls 4 [(0, .ref (ad X 0 0)), (2, .ref (ad X 15 i2)), (3, .int x3)] → W p l e (rmD 2) s mi args below meth c H locs 0 0 Q (F0 mi 29 ls [])) {i2 : Nat} {x3 : Int32} {m : Mem} {H : Heap} {locs : List Loc} {ls : Array Slot} (h : f_X8_reads_79 fu k_29 i2 x3 m = some (r, mE)) (g_i2 : (15, i2) ∈ ids) (hW : Wd X s m H locs) (hl : lv_has ls 4 [(0, .ref (ad X 0 0)), (2, .ref (ad X 15 i2)), (3, .int x3)]) : W p l e (rmD 2) s mi args below meth c H locs 0 0 Q (F0 mi 79 ls []) := by
  unfold f_X8_reads_79 at h
  obtain ⟨x_1, e_2, h⟩ := seqM_E h
  refine lv_iinc (v := x_1) (lv' := [(3, .int x_1), (0, .ref (ad X 0 0)), (2, .ref (ad X 15 i2))]) C.1 C.2.1 dX8_reads_79 hl (k := 2) rfl (by rw [e_2]; rfl) (by decide) rfl (fun ls hl => ?_)
  refine lv_goto (tgt := 29) C.1 C.2.1 dX8_reads_82 (by decide) ?_
  exact hk_29 h g_i2 hW (lv_sub hl [1, 2, 0] rfl)
def f_X8_reads_29 (fu : Nat)  : Nat → Nat → Int32 → Mem → Option (Int32 × Mem)
  | 0, _, _, _ => none
  | n + 1, i2, x3, m => if (m (hf i2 1)) ≤ x3 then (some ((-1000000005), m)) else (doI (f_X2_isNumber fu i2 x3 m) (fun r_3 m_2 => if r_3 = 0 then (f_X8_reads_79 fu (f_X8_reads_29 fu n) i2 x3 m_2) else (doI (f_X4_has fu 0 x3 m_2) (fun r_6 m_5 => if r_6 = 0 then (some (x3, m_5)) else (chk (inb x3 24) (chk (inb x3 5) (if (m_5 ((500 + 24 * i2) + x3.toNatClampNeg)) = (m_5 (vf (10 * 0 + x3.toNatClampNeg) 6)) then (f_X8_reads_79 fu (f_X8_reads_29 fu n) i2 x3 m_5) else (some (x3, m_5)))))))))
set_option maxHeartbeats 4000000 in
set_option maxRecDepth 100000 in
theorem w_X8_reads_29 {X : TX} {p : Program} {l : Launch} {e : Env} {s : State} {mi : MethodId} {args : Array Value} {below : List Frame} {meth : Method} {c : Code} {Q : State → Prop} {r : Int32} {mE : Mem} (C : Cx X p s mi args c RX8 cX8_reads 4) (hq : RetI X p l e (rmD 2) s mi args below meth c cX8_reads .int Q r mE) {fu : Nat} : ∀ (n : Nat) {i2 : Nat} {x3 : Int32} {m : Mem} {H : Heap} {locs : List Loc} {ls : Array Slot}, f_X8_reads_29 fu n i2 x3 m = some (r, mE) → (15, i2) ∈ ids → Wd X s m H locs → lv_has ls 4 [(0, .ref (ad X 0 0)), (2, .ref (ad X 15 i2)), (3, .int x3)] → W p l e (rmD 2) s mi args below meth c H locs 0 0 Q (F0 mi 29 ls []) := by
  intro n
  induction n with
  | zero =>
    intro i2 x3 m H locs ls h g_i2 hW hl
    rw [f_X8_reads_29] at h
    cases h
  | succ n ih =>
    intro i2 x3 m H locs ls h g_i2 hW hl
    rw [f_X8_reads_29] at h
    refine lv_iload_n C.1 C.2.1 dX8_reads_29 rfl (lv_at hl 2 rfl) ?_
    refine lv_aload_n C.1 C.2.1 dX8_reads_30 rfl (lv_at hl 1 rfl) ?_
    refine zg_X2_size C hW g_i2 w_323 dX8_reads_31 ?_
    refine lv_icmp_ge (tgt := 85) C.1 C.2.1 dX8_reads_34 (by decide) (fun hc_12 => ?_) (fun hc_12 => ?_)
    · have h := ite_t hc_12 h
      refine lv_ldc C.1 C.2.1 C.2.2.2.1 (C.2.2.2.2.1 _ w_605) dX8_reads_85 ?_
      exact ret_i h hq rfl hW dX8_reads_87
    · have h := ite_f hc_12 h
      refine lv_aload_n C.1 C.2.1 dX8_reads_37 rfl (lv_at hl 1 rfl) ?_
      refine lv_iload_n C.1 C.2.1 dX8_reads_38 rfl (lv_at hl 2 rfl) ?_
      obtain ⟨r_3, m_2, hc_1, h⟩ := doI_E h
      refine zr_cVI C hW (c_X2_isNumber (i0 := i2) (x1 := x3) hc_1 g_i2) k_X2_isNumber (zr_recv C hW g_i2 zco_15 rfl) w_663 ⟨Nat.le_of_ble_eq_true rfl, Nat.le_of_ble_eq_true rfl⟩ ⟨Nat.le_refl 0, Nat.le_refl 0⟩ rfl hl.1 rfl (Nat.le_of_ble_eq_true rfl) dX8_reads_39 (fun H locs hW => ?_)
      refine lv_if_eq (tgt := 79) C.1 C.2.1 dX8_reads_42 (by decide) (fun hc_11 => ?_) (fun hc_11 => ?_)
      · have h := ite_t hc_11 h
        exact w_X8_reads_79 C hq ih h g_i2 hW (lv_sub hl [0, 1, 2] rfl)
      · have h := ite_f hc_11 h
        refine lv_aload_n C.1 C.2.1 dX8_reads_45 rfl (lv_at hl 0 rfl) ?_
        refine zg_X8_now C hW id_0 w_362 dX8_reads_46 ?_
        refine lv_iload_n C.1 C.2.1 dX8_reads_49 rfl (lv_at hl 2 rfl) ?_
        obtain ⟨r_6, m_5, hc_4, h⟩ := doI_E h
        refine zr_cVI C hW (c_X4_has (i0 := 0) (x1 := x3) hc_4 id_9_0) k_X4_has (zr_recv C hW id_9_0 zco_9 rfl) w_422 ⟨Nat.le_of_ble_eq_true rfl, Nat.le_of_ble_eq_true rfl⟩ ⟨Nat.le_refl 0, Nat.le_refl 0⟩ rfl hl.1 rfl (Nat.le_of_ble_eq_true rfl) dX8_reads_50 (fun H locs hW => ?_)
        refine lv_if_eq (tgt := 77) C.1 C.2.1 dX8_reads_53 (by decide) (fun hc_10 => ?_) (fun hc_10 => ?_)
        · have h := ite_t hc_10 h
          refine lv_iload_n C.1 C.2.1 dX8_reads_77 rfl (lv_at hl 2 rfl) ?_
          exact ret_i h hq rfl hW dX8_reads_78
        · have h := ite_f hc_10 h
          refine lv_aload_n C.1 C.2.1 dX8_reads_56 rfl (lv_at hl 1 rfl) ?_
          refine zg_X2_places C hW g_i2 w_325 dX8_reads_57 ?_
          refine lv_iload_n C.1 C.2.1 dX8_reads_60 rfl (lv_at hl 2 rfl) ?_
          obtain ⟨hb_7, h⟩ := chk_E h
          refine zal_16 C hW (im_15_16 g_i2) (inb_E hb_7) dX8_reads_61 ?_
          refine lv_aload_n C.1 C.2.1 dX8_reads_62 rfl (lv_at hl 0 rfl) ?_
          refine zg_X8_now C hW id_0 w_362 dX8_reads_63 ?_
          refine zg_X4_voices C hW id_9_0 w_225 dX8_reads_66 ?_
          refine lv_iload_n C.1 C.2.1 dX8_reads_69 rfl (lv_at hl 2 rfl) ?_
          obtain ⟨hb_8, h⟩ := chk_E h
          refine zaa_10 C hW (im_9_10 id_9_0) (inb_E hb_8) dX8_reads_70 ?_
          refine zg_X7_said C hW (ia_10 (im_9_10 id_9_0) (inb_E hb_8)) w_206 dX8_reads_71 ?_
          refine lv_icmp_eq (tgt := 79) C.1 C.2.1 dX8_reads_74 (by decide) (fun hc_9 => ?_) (fun hc_9 => ?_)
          · have h := ite_t hc_9 h
            exact w_X8_reads_79 C hq ih h g_i2 hW (lv_sub hl [0, 1, 2] rfl)
          · have h := ite_f hc_9 h
            refine lv_iload_n C.1 C.2.1 dX8_reads_77 rfl (lv_at hl 2 rfl) ?_
            exact ret_i h hq rfl hW dX8_reads_78
def f_X8_reads (fu : Nat)  (x1 : Int32) (m : Mem) : Option (Int32 × Mem) := doI (f_X8_isSheet fu x1 m) (fun r_3 m_2 => if r_3 = 0 then (some ((-1000000001), m_2)) else (chk (inb x1 4) (doI (f_X2_isMissing fu x1.toNatClampNeg m_2) (fun r_7 m_6 => if r_7 = 0 then (f_X8_reads_29 fu fu x1.toNatClampNeg 0 m_6) else (some ((-1000000011), m_6))))))
set_option maxHeartbeats 4000000 in
set_option maxRecDepth 100000 in
theorem w_X8_reads {X : TX} {p : Program} {l : Launch} {e : Env} {s : State} {mi : MethodId} {args : Array Value} {below : List Frame} {meth : Method} {c : Code} {Q : State → Prop} {r : Int32} {mE : Mem} (C : Cx X p s mi args c RX8 cX8_reads 4) (hq : RetI X p l e (rmD 2) s mi args below meth c cX8_reads .int Q r mE) {fu : Nat} {x1 : Int32} {m : Mem} {H : Heap} {locs : List Loc} {ls : Array Slot} (h : f_X8_reads fu x1 m = some (r, mE))  (hW : Wd X s m H locs) (hl : lv_has ls 4 [(0, .ref (ad X 0 0)), (1, .int x1)]) : W p l e (rmD 2) s mi args below meth c H locs 0 0 Q (F0 mi 0 ls []) := by
  unfold f_X8_reads at h
  refine lv_iload_n C.1 C.2.1 dX8_reads_0 rfl (lv_at hl 1 rfl) ?_
  obtain ⟨r_3, m_2, hc_1, h⟩ := doI_E h
  refine zr_cSI C hW (c_X8_isSheet (x0 := x1) hc_1 ) k_X8_isSheet w_651 ⟨Nat.le_of_ble_eq_true rfl, Nat.le_of_ble_eq_true rfl⟩ ⟨Nat.le_refl 0, Nat.le_refl 0⟩ rfl hl.1 rfl (Nat.le_of_ble_eq_true rfl) dX8_reads_1 (fun H locs hW => ?_)
  refine lv_if_ne (tgt := 10) C.1 C.2.1 dX8_reads_4 (by decide) (fun hc_9 => ?_) (fun hc_9 => ?_)
  · have h := ite_f hc_9 h
    refine lv_aload_n C.1 C.2.1 dX8_reads_10 rfl (lv_at hl 0 rfl) ?_
    refine zg_X8_sheets C hW id_0 w_367 dX8_reads_11 ?_
    refine lv_iload_n C.1 C.2.1 dX8_reads_14 rfl (lv_at hl 1 rfl) ?_
    obtain ⟨hb_4, h⟩ := chk_E h
    refine zaa_14 C hW id_14 (inb_E hb_4) dX8_reads_15 ?_
    refine lv_astore_n (lv' := [(2, .ref (ad X 15 x1.toNatClampNeg)), (0, .ref (ad X 0 0)), (1, .int x1)]) C.1 C.2.1 dX8_reads_16 rfl hl (by decide) rfl (fun ls hl => ?_)
    refine lv_aload_n C.1 C.2.1 dX8_reads_17 rfl (lv_at hl 0 rfl) ?_
    obtain ⟨r_7, m_6, hc_5, h⟩ := doI_E h
    refine zr_cVI C hW (c_X2_isMissing (i0 := x1.toNatClampNeg) hc_5 (ia_14 (inb_E hb_4))) k_X2_isMissing (zr_recv C hW (ia_14 (inb_E hb_4)) zco_15 rfl) w_654 ⟨Nat.le_of_ble_eq_true rfl, Nat.le_of_ble_eq_true rfl⟩ ⟨Nat.le_refl 0, Nat.le_refl 0⟩ rfl hl.1 rfl (Nat.le_of_ble_eq_true rfl) dX8_reads_18 (fun H locs hW => ?_)
    refine lv_if_eq (tgt := 27) C.1 C.2.1 dX8_reads_21 (by decide) (fun hc_8 => ?_) (fun hc_8 => ?_)
    · have h := ite_t hc_8 h
      refine lv_iconst (v := 0) C.1 C.2.1 dX8_reads_27 rfl ?_
      refine lv_istore_n (lv' := [(3, .int 0), (2, .ref (ad X 15 x1.toNatClampNeg)), (0, .ref (ad X 0 0)), (1, .int x1)]) C.1 C.2.1 dX8_reads_28 rfl hl (by decide) rfl (fun ls hl => ?_)
      exact w_X8_reads_29 C hq  fu h (ia_14 (inb_E hb_4)) hW (lv_sub hl [2, 1, 0] rfl)
    · have h := ite_f hc_8 h
      refine lv_ldc C.1 C.2.1 C.2.2.2.1 (C.2.2.2.2.1 _ w_658) dX8_reads_24 ?_
      exact ret_i h hq rfl hW dX8_reads_26
  · have h := ite_t hc_9 h
    refine lv_ldc C.1 C.2.1 C.2.2.2.1 (C.2.2.2.2.1 _ w_408) dX8_reads_7 ?_
    exact ret_i h hq rfl hW dX8_reads_9
theorem c_X8_reads {X : TX} {l : Launch} {fu : Nat} {x1 : Int32} {m mE : Mem} {r : Int32} (h : f_X8_reads fu x1 m = some (r, mE))  : MetI X l yX8_reads cX8_reads 4 .int 2 [.ref (ad X 0 0), .int x1] m r mE :=
  met_I (by decide) (Nat.le_of_ble_eq_true rfl) (fun p e s mi args below meth c ls Q C hq hW hl => w_X8_reads C hq h  hW (lv_sub hl [0, 1] rfl))
theorem k_X8_reads : CalV yX8_reads cX8_reads 4 (some .int) RX8 1 := ⟨w_930, w_931, w_61, w_932, by decide +kernel⟩
