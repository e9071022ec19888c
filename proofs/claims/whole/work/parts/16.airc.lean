theorem dX8_copy_0 : decode cX8_copy 0 = .ok (.iload_n 1, 1) := by decide +kernel
theorem dX8_copy_1 : decode cX8_copy 1 = .ok (.invokestatic 229, 3) := by decide +kernel
theorem dX8_copy_4 : decode cX8_copy 4 = .ok (.ifCond .eq 10, 3) := by decide +kernel
theorem dX8_copy_7 : decode cX8_copy 7 = .ok (.iload_n 3, 1) := by decide +kernel
theorem dX8_copy_8 : decode cX8_copy 8 = .ok (.invokestatic 229, 3) := by decide +kernel
theorem dX8_copy_11 : decode cX8_copy 11 = .ok (.ifCond .ne 6, 3) := by decide +kernel
theorem dX8_copy_14 : decode cX8_copy 14 = .ok (.ldc 73, 2) := by decide +kernel
theorem dX8_copy_16 : decode cX8_copy 16 = .ok (.ireturn, 1) := by decide +kernel
theorem dX8_copy_17 : decode cX8_copy 17 = .ok (.aload_n 0, 1) := by decide +kernel
theorem dX8_copy_18 : decode cX8_copy 18 = .ok (.getfield 47, 3) := by decide +kernel
theorem dX8_copy_21 : decode cX8_copy 21 = .ok (.iload_n 1, 1) := by decide +kernel
theorem dX8_copy_22 : decode cX8_copy 22 = .ok (.aaload, 1) := by decide +kernel
theorem dX8_copy_23 : decode cX8_copy 23 = .ok (.astore 6, 2) := by decide +kernel
theorem dX8_copy_25 : decode cX8_copy 25 = .ok (.aload_n 0, 1) := by decide +kernel
theorem dX8_copy_26 : decode cX8_copy 26 = .ok (.getfield 47, 3) := by decide +kernel
theorem dX8_copy_29 : decode cX8_copy 29 = .ok (.iload_n 3, 1) := by decide +kernel
theorem dX8_copy_30 : decode cX8_copy 30 = .ok (.aaload, 1) := by decide +kernel
theorem dX8_copy_31 : decode cX8_copy 31 = .ok (.astore 7, 2) := by decide +kernel
theorem dX8_copy_33 : decode cX8_copy 33 = .ok (.aload 6, 2) := by decide +kernel
theorem dX8_copy_35 : decode cX8_copy 35 = .ok (.invokevirtual 232, 3) := by decide +kernel
theorem dX8_copy_38 : decode cX8_copy 38 = .ok (.ifCond .ne 11, 3) := by decide +kernel
theorem dX8_copy_41 : decode cX8_copy 41 = .ok (.aload 7, 2) := by decide +kernel
theorem dX8_copy_43 : decode cX8_copy 43 = .ok (.invokevirtual 232, 3) := by decide +kernel
theorem dX8_copy_46 : decode cX8_copy 46 = .ok (.ifCond .eq 6, 3) := by decide +kernel
theorem dX8_copy_49 : decode cX8_copy 49 = .ok (.ldc 235, 2) := by decide +kernel
theorem dX8_copy_51 : decode cX8_copy 51 = .ok (.ireturn, 1) := by decide +kernel
theorem dX8_copy_52 : decode cX8_copy 52 = .ok (.aload 6, 2) := by decide +kernel
theorem dX8_copy_54 : decode cX8_copy 54 = .ok (.getfield 288, 3) := by decide +kernel
theorem dX8_copy_57 : decode cX8_copy 57 = .ok (.aload 7, 2) := by decide +kernel
theorem dX8_copy_59 : decode cX8_copy 59 = .ok (.getfield 288, 3) := by decide +kernel
theorem dX8_copy_62 : decode cX8_copy 62 = .ok (.if_icmp .eq 6, 3) := by decide +kernel
theorem dX8_copy_65 : decode cX8_copy 65 = .ok (.ldc 132, 2) := by decide +kernel
theorem dX8_copy_67 : decode cX8_copy 67 = .ok (.ireturn, 1) := by decide +kernel
theorem dX8_copy_68 : decode cX8_copy 68 = .ok (.aload 6, 2) := by decide +kernel
theorem dX8_copy_70 : decode cX8_copy 70 = .ok (.iload_n 2, 1) := by decide +kernel
theorem dX8_copy_71 : decode cX8_copy 71 = .ok (.iload 5, 2) := by decide +kernel
theorem dX8_copy_73 : decode cX8_copy 73 = .ok (.invokevirtual 305, 3) := by decide +kernel
theorem dX8_copy_76 : decode cX8_copy 76 = .ok (.ifCond .eq 15, 3) := by decide +kernel
theorem dX8_copy_79 : decode cX8_copy 79 = .ok (.aload 7, 2) := by decide +kernel
theorem dX8_copy_81 : decode cX8_copy 81 = .ok (.iload 4, 2) := by decide +kernel
theorem dX8_copy_83 : decode cX8_copy 83 = .ok (.iload 5, 2) := by decide +kernel
theorem dX8_copy_85 : decode cX8_copy 85 = .ok (.invokevirtual 305, 3) := by decide +kernel
theorem dX8_copy_88 : decode cX8_copy 88 = .ok (.ifCond .ne 7, 3) := by decide +kernel
theorem dX8_copy_91 : decode cX8_copy 91 = .ok (.ldc_w 287, 3) := by decide +kernel
theorem dX8_copy_94 : decode cX8_copy 94 = .ok (.ireturn, 1) := by decide +kernel
theorem dX8_copy_95 : decode cX8_copy 95 = .ok (.aload 6, 2) := by decide +kernel
theorem dX8_copy_97 : decode cX8_copy 97 = .ok (.getfield 291, 3) := by decide +kernel
theorem dX8_copy_100 : decode cX8_copy 100 = .ok (.iload_n 2, 1) := by decide +kernel
theorem dX8_copy_101 : decode cX8_copy 101 = .ok (.aload 7, 2) := by decide +kernel
theorem dX8_copy_103 : decode cX8_copy 103 = .ok (.getfield 291, 3) := by decide +kernel
theorem dX8_copy_106 : decode cX8_copy 106 = .ok (.iload 4, 2) := by decide +kernel
theorem dX8_copy_108 : decode cX8_copy 108 = .ok (.iload 5, 2) := by decide +kernel
theorem dX8_copy_110 : decode cX8_copy 110 = .ok (.invokestatic 308, 3) := by decide +kernel
theorem dX8_copy_113 : decode cX8_copy 113 = .ok (.iload 5, 2) := by decide +kernel
theorem dX8_copy_115 : decode cX8_copy 115 = .ok (.ireturn, 1) := by decide +kernel
def f_X8_copy (fu : Nat)  (x1 : Int32) (x2 : Int32) (x3 : Int32) (x4 : Int32) (x5 : Int32) (m : Mem) : Option (Int32 × Mem) := doI (f_X8_isSheet fu x1 m) (fun r_3 m_2 => if r_3 = 0 then (some ((-1000000001), m_2)) else (doI (f_X8_isSheet fu x3 m_2) (fun r_6 m_5 => if r_6 = 0 then (some ((-1000000001), m_5)) else (chk (inb x1 4) (chk (inb x3 4) (doI (f_X2_isMissing fu x1.toNatClampNeg m_5) (fun r_11 m_10 => if r_11 = 0 then (doI (f_X2_isMissing fu x3.toNatClampNeg m_10) (fun r_14 m_13 => if r_14 = 0 then (if (m_13 (hf x1.toNatClampNeg 0)) = (m_13 (hf x3.toNatClampNeg 0)) then (doI (f_X2_hasPlaces fu x1.toNatClampNeg x2 x5 m_13) (fun r_17 m_16 => if r_17 = 0 then (some ((-1000000013), m_16)) else (doI (f_X2_hasPlaces fu x3.toNatClampNeg x4 x5 m_16) (fun r_20 m_19 => if r_20 = 0 then (some ((-1000000013), m_19)) else (chk (okCp x2 x4 x5 24 24) (seqM (cpM m_19 (500 + 24 * x1.toNatClampNeg) (500 + 24 * x3.toNatClampNeg) x2 x4 x5) (fun m_22 : Mem => some (x5, m_22)))))))) else (some ((-1000000012), m_13))) else (some ((-1000000011), m_13)))) else (some ((-1000000011), m_10)))))))))
set_option maxHeartbeats 4000000 in
set_option maxRecDepth 100000 in
theorem w_X8_copy {X : TX} {p : Program} {l : Launch} {e : Env} {s : State} {mi : MethodId} {args : Array Value} {below : List Frame} {meth : Method} {c : Code} {Q : State → Prop} {r : Int32} {mE : Mem} (C : Cx X p s mi args c RX8 cX8_copy 8) (hq : RetI X p l e (rmD 2) s mi args below meth c cX8_copy .int Q r mE) {fu : Nat} {x1 : Int32} {x2 : Int32} {x3 : Int32} {x4 : Int32} {x5 : Int32} {m : Mem} {H : Heap} {locs : List Loc} {ls : Array Slot} (h : f_X8_copy fu x1 x2 x3 x4 x5 m = some (r, mE))  (hW : Wd X s m H locs) (hl : lv_has ls 8 [(0, .ref (ad X 0 0)), (1, .int x1), (2, .int x2), (3, .int x3), (4, .int x4), (5, .int x5)]) : W p l e (rmD 2) s mi args below meth c H locs 0 0 Q (F0 mi 0 ls []) := by
  unfold f_X8_copy at h
  refine lv_iload_n C.1 C.2.1 dX8_copy_0 rfl (lv_at hl 1 rfl) ?_
  obtain ⟨r_3, m_2, hc_1, h⟩ := doI_E h
  refine zr_cSI C hW (c_X8_isSheet (x0 := x1) hc_1 ) k_X8_isSheet w_651 ⟨Nat.le_of_ble_eq_true rfl, Nat.le_of_ble_eq_true rfl⟩ ⟨Nat.le_refl 0, Nat.le_refl 0⟩ rfl hl.1 rfl (Nat.le_of_ble_eq_true rfl) dX8_copy_1 (fun H locs hW => ?_)
  refine lv_if_eq (tgt := 14) C.1 C.2.1 dX8_copy_4 (by decide) (fun hc_30 => ?_) (fun hc_30 => ?_)
  · have h := ite_t hc_30 h
    refine lv_ldc C.1 C.2.1 C.2.2.2.1 (C.2.2.2.2.1 _ w_408) dX8_copy_14 ?_
    exact ret_i h hq rfl hW dX8_copy_16
  · have h := ite_f hc_30 h
    refine lv_iload_n C.1 C.2.1 dX8_copy_7 rfl (lv_at hl 3 rfl) ?_
    obtain ⟨r_6, m_5, hc_4, h⟩ := doI_E h
    refine zr_cSI C hW (c_X8_isSheet (x0 := x3) hc_4 ) k_X8_isSheet w_651 ⟨Nat.le_of_ble_eq_true rfl, Nat.le_of_ble_eq_true rfl⟩ ⟨Nat.le_refl 0, Nat.le_refl 0⟩ rfl hl.1 rfl (Nat.le_of_ble_eq_true rfl) dX8_copy_8 (fun H locs hW => ?_)
    refine lv_if_ne (tgt := 17) C.1 C.2.1 dX8_copy_11 (by decide) (fun hc_29 => ?_) (fun hc_29 => ?_)
    · have h := ite_f hc_29 h
      refine lv_aload_n C.1 C.2.1 dX8_copy_17 rfl (lv_at hl 0 rfl) ?_
      refine zg_X8_sheets C hW id_0 w_367 dX8_copy_18 ?_
      refine lv_iload_n C.1 C.2.1 dX8_copy_21 rfl (lv_at hl 1 rfl) ?_
      obtain ⟨hb_7, h⟩ := chk_E h
      refine zaa_14 C hW id_14 (inb_E hb_7) dX8_copy_22 ?_
      refine lv_astore (lv' := [(6, .ref (ad X 15 x1.toNatClampNeg)), (0, .ref (ad X 0 0)), (1, .int x1), (2, .int x2), (3, .int x3), (4, .int x4), (5, .int x5)]) C.1 C.2.1 dX8_copy_23 hl (by decide) rfl (fun ls hl => ?_)
      refine lv_aload_n C.1 C.2.1 dX8_copy_25 rfl (lv_at hl 1 rfl) ?_
      refine zg_X8_sheets C hW id_0 w_367 dX8_copy_26 ?_
      refine lv_iload_n C.1 C.2.1 dX8_copy_29 rfl (lv_at hl 4 rfl) ?_
      obtain ⟨hb_8, h⟩ := chk_E h
      refine zaa_14 C hW id_14 (inb_E hb_8) dX8_copy_30 ?_
      refine lv_astore (lv' := [(7, .ref (ad X 15 x3.toNatClampNeg)), (6, .ref (ad X 15 x1.toNatClampNeg)), (0, .ref (ad X 0 0)), (1, .int x1), (2, .int x2), (3, .int x3), (4, .int x4), (5, .int x5)]) C.1 C.2.1 dX8_copy_31 hl (by decide) rfl (fun ls hl => ?_)
      refine lv_aload C.1 C.2.1 dX8_copy_33 (lv_at hl 1 rfl) ?_
      obtain ⟨r_11, m_10, hc_9, h⟩ := doI_E h
      refine zr_cVI C hW (c_X2_isMissing (i0 := x1.toNatClampNeg) hc_9 (ia_14 (inb_E hb_7))) k_X2_isMissing (zr_recv C hW (ia_14 (inb_E hb_7)) zco_15 rfl) w_654 ⟨Nat.le_of_ble_eq_true rfl, Nat.le_of_ble_eq_true rfl⟩ ⟨Nat.le_refl 0, Nat.le_refl 0⟩ rfl hl.1 rfl (Nat.le_of_ble_eq_true rfl) dX8_copy_35 (fun H locs hW => ?_)
      refine lv_if_ne (tgt := 49) C.1 C.2.1 dX8_copy_38 (by decide) (fun hc_28 => ?_) (fun hc_28 => ?_)
      · have h := ite_f hc_28 h
        refine lv_ldc C.1 C.2.1 C.2.2.2.1 (C.2.2.2.2.1 _ w_658) dX8_copy_49 ?_
        exact ret_i h hq rfl hW dX8_copy_51
      · have h := ite_t hc_28 h
        refine lv_aload C.1 C.2.1 dX8_copy_41 (lv_at hl 0 rfl) ?_
        obtain ⟨r_14, m_13, hc_12, h⟩ := doI_E h
        refine zr_cVI C hW (c_X2_isMissing (i0 := x3.toNatClampNeg) hc_12 (ia_14 (inb_E hb_8))) k_X2_isMissing (zr_recv C hW (ia_14 (inb_E hb_8)) zco_15 rfl) w_654 ⟨Nat.le_of_ble_eq_true rfl, Nat.le_of_ble_eq_true rfl⟩ ⟨Nat.le_refl 0, Nat.le_refl 0⟩ rfl hl.1 rfl (Nat.le_of_ble_eq_true rfl) dX8_copy_43 (fun H locs hW => ?_)
        refine lv_if_eq (tgt := 52) C.1 C.2.1 dX8_copy_46 (by decide) (fun hc_27 => ?_) (fun hc_27 => ?_)
        · have h := ite_t hc_27 h
          refine lv_aload C.1 C.2.1 dX8_copy_52 (lv_at hl 1 rfl) ?_
          refine zg_X2_sort C hW (ia_14 (inb_E hb_7)) w_321 dX8_copy_54 ?_
          refine lv_aload C.1 C.2.1 dX8_copy_57 (lv_at hl 0 rfl) ?_
          refine zg_X2_sort C hW (ia_14 (inb_E hb_8)) w_321 dX8_copy_59 ?_
          refine lv_icmp_eq (tgt := 68) C.1 C.2.1 dX8_copy_62 (by decide) (fun hc_26 => ?_) (fun hc_26 => ?_)
          · have h := ite_t hc_26 h
            refine lv_aload C.1 C.2.1 dX8_copy_68 (lv_at hl 1 rfl) ?_
            refine lv_iload_n C.1 C.2.1 dX8_copy_70 rfl (lv_at hl 4 rfl) ?_
            refine lv_iload C.1 C.2.1 dX8_copy_71 (lv_at hl 7 rfl) ?_
            obtain ⟨r_17, m_16, hc_15, h⟩ := doI_E h
            refine zr_cVI C hW (c_X2_hasPlaces (i0 := x1.toNatClampNeg) (x1 := x2) (x2 := x5) hc_15 (ia_14 (inb_E hb_7))) k_X2_hasPlaces (zr_recv C hW (ia_14 (inb_E hb_7)) zco_15 rfl) w_937 ⟨Nat.le_of_ble_eq_true rfl, Nat.le_of_ble_eq_true rfl⟩ ⟨Nat.le_refl 0, Nat.le_refl 0⟩ rfl hl.1 rfl (Nat.le_of_ble_eq_true rfl) dX8_copy_73 (fun H locs hW => ?_)
            refine lv_if_eq (tgt := 91) C.1 C.2.1 dX8_copy_76 (by decide) (fun hc_25 => ?_) (fun hc_25 => ?_)
            · have h := ite_t hc_25 h
              refine lv_ldcw C.1 C.2.1 C.2.2.2.1 (C.2.2.2.2.1 _ w_921) dX8_copy_91 ?_
              exact ret_i h hq rfl hW dX8_copy_94
            · have h := ite_f hc_25 h
              refine lv_aload C.1 C.2.1 dX8_copy_79 (lv_at hl 0 rfl) ?_
              refine lv_iload C.1 C.2.1 dX8_copy_81 (lv_at hl 6 rfl) ?_
              refine lv_iload C.1 C.2.1 dX8_copy_83 (lv_at hl 7 rfl) ?_
              obtain ⟨r_20, m_19, hc_18, h⟩ := doI_E h
              refine zr_cVI C hW (c_X2_hasPlaces (i0 := x3.toNatClampNeg) (x1 := x4) (x2 := x5) hc_18 (ia_14 (inb_E hb_8))) k_X2_hasPlaces (zr_recv C hW (ia_14 (inb_E hb_8)) zco_15 rfl) w_937 ⟨Nat.le_of_ble_eq_true rfl, Nat.le_of_ble_eq_true rfl⟩ ⟨Nat.le_refl 0, Nat.le_refl 0⟩ rfl hl.1 rfl (Nat.le_of_ble_eq_true rfl) dX8_copy_85 (fun H locs hW => ?_)
              refine lv_if_ne (tgt := 95) C.1 C.2.1 dX8_copy_88 (by decide) (fun hc_24 => ?_) (fun hc_24 => ?_)
              · have h := ite_f hc_24 h
                refine lv_aload C.1 C.2.1 dX8_copy_95 (lv_at hl 1 rfl) ?_
                refine zg_X2_places C hW (ia_14 (inb_E hb_7)) w_325 dX8_copy_97 ?_
                refine lv_iload_n C.1 C.2.1 dX8_copy_100 rfl (lv_at hl 4 rfl) ?_
                refine lv_aload C.1 C.2.1 dX8_copy_101 (lv_at hl 0 rfl) ?_
                refine zg_X2_places C hW (ia_14 (inb_E hb_8)) w_325 dX8_copy_103 ?_
                refine lv_iload C.1 C.2.1 dX8_copy_106 (lv_at hl 6 rfl) ?_
                refine lv_iload C.1 C.2.1 dX8_copy_108 (lv_at hl 7 rfl) ?_
                obtain ⟨hb_21, h⟩ := chk_E h
                obtain ⟨m_22, e_23, h⟩ := seqM_E h
                refine zcp_16 C hW (im_15_16 (ia_14 (inb_E hb_7))) (im_15_16 (ia_14 (inb_E hb_8))) w_941 hb_21 e_23 hl.1 (Nat.le_of_ble_eq_true rfl) (Nat.le_of_ble_eq_true rfl) dX8_copy_110 (fun H locs hW => ?_)
                refine lv_iload C.1 C.2.1 dX8_copy_113 (lv_at hl 7 rfl) ?_
                exact ret_i h hq rfl hW dX8_copy_115
              · have h := ite_t hc_24 h
                refine lv_ldcw C.1 C.2.1 C.2.2.2.1 (C.2.2.2.2.1 _ w_921) dX8_copy_91 ?_
                exact ret_i h hq rfl hW dX8_copy_94
          · have h := ite_f hc_26 h
            refine lv_ldc C.1 C.2.1 C.2.2.2.1 (C.2.2.2.2.1 _ w_457) dX8_copy_65 ?_
            exact ret_i h hq rfl hW dX8_copy_67
        · have h := ite_f hc_27 h
          refine lv_ldc C.1 C.2.1 C.2.2.2.1 (C.2.2.2.2.1 _ w_658) dX8_copy_49 ?_
          exact ret_i h hq rfl hW dX8_copy_51
    · have h := ite_t hc_29 h
      refine lv_ldc C.1 C.2.1 C.2.2.2.1 (C.2.2.2.2.1 _ w_408) dX8_copy_14 ?_
      exact ret_i h hq rfl hW dX8_copy_16
theorem c_X8_copy {X : TX} {l : Launch} {fu : Nat} {x1 : Int32} {x2 : Int32} {x3 : Int32} {x4 : Int32} {x5 : Int32} {m mE : Mem} {r : Int32} (h : f_X8_copy fu x1 x2 x3 x4 x5 m = some (r, mE))  : MetI X l yX8_copy cX8_copy 8 .int 2 [.ref (ad X 0 0), .int x1, .int x2, .int x3, .int x4, .int x5] m r mE :=
  met_I (by decide) (Nat.le_of_ble_eq_true rfl) (fun p e s mi args below meth c ls Q C hq hW hl => w_X8_copy C hq h  hW (lv_sub hl [0, 1, 2, 3, 4, 5] rfl))
theorem k_X8_copy : CalV yX8_copy cX8_copy 8 (some .int) RX8 5 := ⟨w_934, w_935, w_61, w_936, by decide +kernel⟩
theorem dX8_isSlot_0 : decode cX8_isSlot 0 = .ok (.iload_n 0, 1) := by decide +kernel
theorem dX8_isSlot_1 : decode cX8_isSlot 1 = .ok (.iconst 0, 1) := by decide +kernel
theorem dX8_isSlot_2 : decode cX8_isSlot 2 = .ok (.iconst 4, 1) := by decide +kernel
theorem dX8_isSlot_3 : decode cX8_isSlot 3 = .ok (.invokestatic 137, 3) := by decide +kernel
theorem dX8_isSlot_6 : decode cX8_isSlot 6 = .ok (.ireturn, 1) := by decide +kernel
def f_X8_isSlot (fu : Nat)  (x0 : Int32) (m : Mem) : Option (Int32 × Mem) := doI (f_X8_within fu x0 0 4 m) (fun r_3 m_2 => chk (isB r_3) (some (r_3, m_2)))
set_option maxHeartbeats 4000000 in
set_option maxRecDepth 100000 in
theorem w_X8_isSlot {X : TX} {p : Program} {l : Launch} {e : Env} {s : State} {mi : MethodId} {args : Array Value} {below : List Frame} {meth : Method} {c : Code} {Q : State → Prop} {r : Int32} {mE : Mem} (C : Cx X p s mi args c RX8 cX8_isSlot 1) (hq : RetI X p l e (rmD 1) s mi args below meth c cX8_isSlot .boolean Q r mE) {fu : Nat} {x0 : Int32} {m : Mem} {H : Heap} {locs : List Loc} {ls : Array Slot} (h : f_X8_isSlot fu x0 m = some (r, mE))  (hW : Wd X s m H locs) (hl : lv_has ls 1 [(0, .int x0)]) : W p l e (rmD 1) s mi args below meth c H locs 0 0 Q (F0 mi 0 ls []) := by
  unfold f_X8_isSlot at h
  refine lv_iload_n C.1 C.2.1 dX8_isSlot_0 rfl (lv_at hl 0 rfl) ?_
  refine lv_iconst (v := 0) C.1 C.2.1 dX8_isSlot_1 rfl ?_
  refine lv_iconst (v := 4) C.1 C.2.1 dX8_isSlot_2 rfl ?_
  obtain ⟨r_3, m_2, hc_1, h⟩ := doI_E h
  refine zr_cSI C hW (c_X8_within (x0 := x0) (x1 := 0) (x2 := 4) hc_1 ) k_X8_within w_401 ⟨Nat.le_of_ble_eq_true rfl, Nat.le_of_ble_eq_true rfl⟩ ⟨Nat.le_refl 0, Nat.le_refl 0⟩ rfl hl.1 rfl (Nat.le_of_ble_eq_true rfl) dX8_isSlot_3 (fun H locs hW => ?_)
  obtain ⟨hb_4, h⟩ := chk_E h
  exact ret_i h hq (nar_B (isB_E hb_4)) hW dX8_isSlot_6
theorem c_X8_isSlot {X : TX} {l : Launch} {fu : Nat} {x0 : Int32} {m mE : Mem} {r : Int32} (h : f_X8_isSlot fu x0 m = some (r, mE))  : MetI X l yX8_isSlot cX8_isSlot 1 .boolean 1 [.int x0] m r mE :=
  met_I (by decide) (Nat.le_of_ble_eq_true rfl) (fun p e s mi args below meth c ls Q C hq hW hl => w_X8_isSlot C hq h  hW (lv_sub hl [0] rfl))
theorem k_X8_isSlot : CalS yX8_isSlot cX8_isSlot 1 (some .boolean) 1 := ⟨w_947, w_61, w_948, by decide +kernel⟩
theorem dX8_lay_0 : decode cX8_lay 0 = .ok (.iload_n 1, 1) := by decide +kernel
theorem dX8_lay_1 : decode cX8_lay 1 = .ok (.invokestatic 314, 3) := by decide +kernel
theorem dX8_lay_4 : decode cX8_lay 4 = .ok (.ifCond .eq 12, 3) := by decide +kernel
theorem dX8_lay_7 : decode cX8_lay 7 = .ok (.iload_n 2, 1) := by decide +kernel
theorem dX8_lay_8 : decode cX8_lay 8 = .ok (.iconst 0, 1) := by decide +kernel
theorem dX8_lay_9 : decode cX8_lay 9 = .ok (.iconst 3, 1) := by decide +kernel
theorem dX8_lay_10 : decode cX8_lay 10 = .ok (.invokestatic 137, 3) := by decide +kernel
theorem dX8_lay_13 : decode cX8_lay 13 = .ok (.ifCond .ne 6, 3) := by decide +kernel
theorem dX8_lay_16 : decode cX8_lay 16 = .ok (.ldc 73, 2) := by decide +kernel
theorem dX8_lay_18 : decode cX8_lay 18 = .ok (.ireturn, 1) := by decide +kernel
theorem dX8_lay_19 : decode cX8_lay 19 = .ok (.iload_n 2, 1) := by decide +kernel
theorem dX8_lay_20 : decode cX8_lay 20 = .ok (.iconst 1, 1) := by decide +kernel
theorem dX8_lay_21 : decode cX8_lay 21 = .ok (.if_icmp .ne 14, 3) := by decide +kernel
theorem dX8_lay_24 : decode cX8_lay 24 = .ok (.aload_n 0, 1) := by decide +kernel
theorem dX8_lay_25 : decode cX8_lay 25 = .ok (.getfield 28, 3) := by decide +kernel
theorem dX8_lay_28 : decode cX8_lay 28 = .ok (.iload_n 3, 1) := by decide +kernel
theorem dX8_lay_29 : decode cX8_lay 29 = .ok (.invokevirtual 83, 3) := by decide +kernel
theorem dX8_lay_32 : decode cX8_lay 32 = .ok (.ifCond .eq 15, 3) := by decide +kernel
theorem dX8_lay_35 : decode cX8_lay 35 = .ok (.iload_n 2, 1) := by decide +kernel
theorem dX8_lay_36 : decode cX8_lay 36 = .ok (.iconst 2, 1) := by decide +kernel
theorem dX8_lay_37 : decode cX8_lay 37 = .ok (.if_icmp .ne 13, 3) := by decide +kernel
theorem dX8_lay_40 : decode cX8_lay 40 = .ok (.iload_n 3, 1) := by decide +kernel
theorem dX8_lay_41 : decode cX8_lay 41 = .ok (.invokestatic 229, 3) := by decide +kernel
theorem dX8_lay_44 : decode cX8_lay 44 = .ok (.ifCond .ne 6, 3) := by decide +kernel
theorem dX8_lay_47 : decode cX8_lay 47 = .ok (.ldc 73, 2) := by decide +kernel
theorem dX8_lay_49 : decode cX8_lay 49 = .ok (.ireturn, 1) := by decide +kernel
theorem dX8_lay_50 : decode cX8_lay 50 = .ok (.iload_n 2, 1) := by decide +kernel
theorem dX8_lay_51 : decode cX8_lay 51 = .ok (.iconst 2, 1) := by decide +kernel
theorem dX8_lay_52 : decode cX8_lay 52 = .ok (.if_icmp .ne 18, 3) := by decide +kernel
theorem dX8_lay_55 : decode cX8_lay 55 = .ok (.aload_n 0, 1) := by decide +kernel
theorem dX8_lay_56 : decode cX8_lay 56 = .ok (.getfield 47, 3) := by decide +kernel
theorem dX8_lay_59 : decode cX8_lay 59 = .ok (.iload_n 3, 1) := by decide +kernel
theorem dX8_lay_60 : decode cX8_lay 60 = .ok (.aaload, 1) := by decide +kernel
theorem dX8_lay_61 : decode cX8_lay 61 = .ok (.invokevirtual 232, 3) := by decide +kernel
theorem dX8_lay_64 : decode cX8_lay 64 = .ok (.ifCond .eq 6, 3) := by decide +kernel
theorem dX8_lay_67 : decode cX8_lay 67 = .ok (.ldc 235, 2) := by decide +kernel
theorem dX8_lay_69 : decode cX8_lay 69 = .ok (.ireturn, 1) := by decide +kernel
theorem dX8_lay_70 : decode cX8_lay 70 = .ok (.aload_n 0, 1) := by decide +kernel
theorem dX8_lay_71 : decode cX8_lay 71 = .ok (.getfield 54, 3) := by decide +kernel
theorem dX8_lay_74 : decode cX8_lay 74 = .ok (.iload_n 1, 1) := by decide +kernel
theorem dX8_lay_75 : decode cX8_lay 75 = .ok (.aaload, 1) := by decide +kernel
theorem dX8_lay_76 : decode cX8_lay 76 = .ok (.astore 4, 2) := by decide +kernel
theorem dX8_lay_78 : decode cX8_lay 78 = .ok (.aload 4, 2) := by decide +kernel
theorem dX8_lay_80 : decode cX8_lay 80 = .ok (.getfield 317, 3) := by decide +kernel
theorem dX8_lay_83 : decode cX8_lay 83 = .ok (.istore 5, 2) := by decide +kernel
theorem dX8_lay_85 : decode cX8_lay 85 = .ok (.aload 4, 2) := by decide +kernel
theorem dX8_lay_87 : decode cX8_lay 87 = .ok (.iload_n 2, 1) := by decide +kernel
theorem dX8_lay_88 : decode cX8_lay 88 = .ok (.putfield 317, 3) := by decide +kernel
theorem dX8_lay_91 : decode cX8_lay 91 = .ok (.iload_n 2, 1) := by decide +kernel
theorem dX8_lay_92 : decode cX8_lay 92 = .ok (.iconst 1, 1) := by decide +kernel
theorem dX8_lay_93 : decode cX8_lay 93 = .ok (.if_icmp .ne 23, 3) := by decide +kernel
theorem dX8_lay_96 : decode cX8_lay 96 = .ok (.aload 4, 2) := by decide +kernel
theorem dX8_lay_98 : decode cX8_lay 98 = .ok (.getfield 320, 3) := by decide +kernel
theorem dX8_lay_101 : decode cX8_lay 101 = .ok (.aload_n 0, 1) := by decide +kernel
theorem dX8_lay_102 : decode cX8_lay 102 = .ok (.getfield 28, 3) := by decide +kernel
theorem dX8_lay_105 : decode cX8_lay 105 = .ok (.getfield 86, 3) := by decide +kernel
theorem dX8_lay_108 : decode cX8_lay 108 = .ok (.iload_n 3, 1) := by decide +kernel
theorem dX8_lay_109 : decode cX8_lay 109 = .ok (.aaload, 1) := by decide +kernel
theorem dX8_lay_110 : decode cX8_lay 110 = .ok (.invokevirtual 324, 3) := by decide +kernel
theorem dX8_lay_113 : decode cX8_lay 113 = .ok (.goto 31, 3) := by decide +kernel
theorem dX8_lay_116 : decode cX8_lay 116 = .ok (.iload_n 2, 1) := by decide +kernel
theorem dX8_lay_117 : decode cX8_lay 117 = .ok (.iconst 2, 1) := by decide +kernel
theorem dX8_lay_118 : decode cX8_lay 118 = .ok (.if_icmp .ne 20, 3) := by decide +kernel
theorem dX8_lay_121 : decode cX8_lay 121 = .ok (.aload 4, 2) := by decide +kernel
theorem dX8_lay_123 : decode cX8_lay 123 = .ok (.getfield 327, 3) := by decide +kernel
theorem dX8_lay_126 : decode cX8_lay 126 = .ok (.aload_n 0, 1) := by decide +kernel
theorem dX8_lay_127 : decode cX8_lay 127 = .ok (.getfield 47, 3) := by decide +kernel
theorem dX8_lay_130 : decode cX8_lay 130 = .ok (.iload_n 3, 1) := by decide +kernel
theorem dX8_lay_131 : decode cX8_lay 131 = .ok (.aaload, 1) := by decide +kernel
theorem dX8_lay_132 : decode cX8_lay 132 = .ok (.invokevirtual 331, 3) := by decide +kernel
theorem dX8_lay_135 : decode cX8_lay 135 = .ok (.goto 9, 3) := by decide +kernel
theorem dX8_lay_138 : decode cX8_lay 138 = .ok (.aload 4, 2) := by decide +kernel
theorem dX8_lay_140 : decode cX8_lay 140 = .ok (.iload_n 3, 1) := by decide +kernel
theorem dX8_lay_141 : decode cX8_lay 141 = .ok (.putfield 334, 3) := by decide +kernel
theorem dX8_lay_144 : decode cX8_lay 144 = .ok (.iload 5, 2) := by decide +kernel
theorem dX8_lay_146 : decode cX8_lay 146 = .ok (.ireturn, 1) := by decide +kernel
def f_X8_lay_70 (fu : Nat)  (x1 : Int32) (x2 : Int32) (x3 : Int32) (m : Mem) : Option (Int32 × Mem) := chk (inb x1 5) (seqM (m (lf x1.toNatClampNeg 0)) (fun x_2 : Int32 => seqM (upd m (lf x1.toNatClampNeg 0) x2) (fun m_4 : Mem => if x2 = 1 then (chk (inb x3 5) (doV (f_X7_become fu (30 + x1.toNatClampNeg) (10 * 0 + x3.toNatClampNeg) m_4) (fun m_14 => some (x_2, m_14)))) else (if x2 = 2 then (chk (inb x3 4) (doV (f_X2_become fu (4 + x1.toNatClampNeg) x3.toNatClampNeg m_4) (fun m_10 => some (x_2, m_10)))) else (seqM (upd m_4 (lf x1.toNatClampNeg 1) x3) (fun m_6 : Mem => some (x_2, m_6)))))))
set_option maxHeartbeats 4000000 in
set_option maxRecDepth 100000 in
theorem w_X8_lay_70 {X : TX} {p : Program} {l : Launch} {e : Env} {s : State} {mi : MethodId} {args : Array Value} {below : List Frame} {meth : Method} {c : Code} {Q : State → Prop} {r : Int32} {mE : Mem} (C : Cx X p s mi args c RX8 cX8_lay 6) (hq : RetI X p l e (rmD 3) s mi args below meth c cX8_lay .int Q r mE) {fu : Nat} {x1 : Int32} {x2 : Int32} {x3 : Int32} {m : Mem} {H : Heap} {locs : List Loc} {ls : Array Slot} (h : f_X8_lay_70 fu x1 x2 x3 m = some (r, mE))  (hW : Wd X s m H locs) (hl : lv_has ls 6 [(0, .ref (ad X 0 0)), (1, .int x1), (2, .int x2), (3, .int x3)]) : W p l e (rmD 3) s mi args below meth c H locs 0 0 Q (F0 mi 70 ls []) := by
  unfold f_X8_lay_70 at h
  refine lv_aload_n C.1 C.2.1 dX8_lay_70 rfl (lv_at hl 0 rfl) ?_
  refine zg_X8_slots C hW id_0 w_368 dX8_lay_71 ?_
  refine lv_iload_n C.1 C.2.1 dX8_lay_74 rfl (lv_at hl 1 rfl) ?_
  obtain ⟨hb_1, h⟩ := chk_E h
  refine zaa_17 C hW id_17 (inb_E hb_1) dX8_lay_75 ?_
  refine lv_astore (lv' := [(4, .ref (ad X 18 x1.toNatClampNeg)), (0, .ref (ad X 0 0)), (1, .int x1), (2, .int x2), (3, .int x3)]) C.1 C.2.1 dX8_lay_76 hl (by decide) rfl (fun ls hl => ?_)
  refine lv_aload C.1 C.2.1 dX8_lay_78 (lv_at hl 0 rfl) ?_
  refine zg_X3_thing C hW (ia_17 (inb_E hb_1)) w_345 dX8_lay_80 ?_
  obtain ⟨x_2, e_3, h⟩ := seqM_E h
  refine lv_name e_3 ?_
  refine lv_istore (lv' := [(5, .int x_2), (4, .ref (ad X 18 x1.toNatClampNeg)), (0, .ref (ad X 0 0)), (1, .int x1), (2, .int x2), (3, .int x3)]) C.1 C.2.1 dX8_lay_83 hl (by decide) rfl (fun ls hl => ?_)
  refine lv_aload C.1 C.2.1 dX8_lay_85 (lv_at hl 1 rfl) ?_
  refine lv_iload_n C.1 C.2.1 dX8_lay_87 rfl (lv_at hl 4 rfl) ?_
  obtain ⟨m_4, e_5, h⟩ := seqM_E h
  refine zp_X3_thing C hW (ia_17 (inb_E hb_1)) w_345 e_5 dX8_lay_88 (fun H locs hW => ?_)
  refine lv_iload_n C.1 C.2.1 dX8_lay_91 rfl (lv_at hl 4 rfl) ?_
  refine lv_iconst (v := 1) C.1 C.2.1 dX8_lay_92 rfl ?_
  refine lv_icmp_ne (tgt := 116) C.1 C.2.1 dX8_lay_93 (by decide) (fun hc_15 => ?_) (fun hc_15 => ?_)
  · have h := ite_f hc_15 h
    refine lv_iload_n C.1 C.2.1 dX8_lay_116 rfl (lv_at hl 4 rfl) ?_
    refine lv_iconst (v := 2) C.1 C.2.1 dX8_lay_117 rfl ?_
    refine lv_icmp_ne (tgt := 138) C.1 C.2.1 dX8_lay_118 (by decide) (fun hc_11 => ?_) (fun hc_11 => ?_)
    · have h := ite_f hc_11 h
      refine lv_aload C.1 C.2.1 dX8_lay_138 (lv_at hl 1 rfl) ?_
      refine lv_iload_n C.1 C.2.1 dX8_lay_140 rfl (lv_at hl 5 rfl) ?_
      obtain ⟨m_6, e_7, h⟩ := seqM_E h
      refine zp_X3_number C hW (ia_17 (inb_E hb_1)) w_350 e_7 dX8_lay_141 (fun H locs hW => ?_)
      refine lv_iload C.1 C.2.1 dX8_lay_144 (lv_at hl 0 rfl) ?_
      exact ret_i h hq rfl hW dX8_lay_146
    · have h := ite_t hc_11 h
      refine lv_aload C.1 C.2.1 dX8_lay_121 (lv_at hl 1 rfl) ?_
      refine zg_X3_row C hW (ia_17 (inb_E hb_1)) w_349 dX8_lay_123 ?_
      refine lv_aload_n C.1 C.2.1 dX8_lay_126 rfl (lv_at hl 2 rfl) ?_
      refine zg_X8_sheets C hW id_0 w_367 dX8_lay_127 ?_
      refine lv_iload_n C.1 C.2.1 dX8_lay_130 rfl (lv_at hl 5 rfl) ?_
      obtain ⟨hb_8, h⟩ := chk_E h
      refine zaa_14 C hW id_14 (inb_E hb_8) dX8_lay_131 ?_
      obtain ⟨m_10, hc_9, h⟩ := doV_E h
      refine zr_cVV C hW (c_X2_become (i0 := (4 + x1.toNatClampNeg)) (i1 := x3.toNatClampNeg) hc_9 (im_18_15 (ia_17 (inb_E hb_1))) (ia_14 (inb_E hb_8))) k_X2_become (zr_recv C hW (im_18_15 (ia_17 (inb_E hb_1))) zco_15 rfl) w_950 ⟨Nat.le_of_ble_eq_true rfl, Nat.le_of_ble_eq_true rfl⟩ ⟨Nat.le_refl 0, Nat.le_refl 0⟩ rfl hl.1 rfl (Nat.le_of_ble_eq_true rfl) dX8_lay_132 (fun H locs hW => ?_)
      refine lv_goto (tgt := 144) C.1 C.2.1 dX8_lay_135 (by decide) ?_
      refine lv_iload C.1 C.2.1 dX8_lay_144 (lv_at hl 0 rfl) ?_
      exact ret_i h hq rfl hW dX8_lay_146
  · have h := ite_t hc_15 h
    refine lv_aload C.1 C.2.1 dX8_lay_96 (lv_at hl 1 rfl) ?_
    refine zg_X3_voice C hW (ia_17 (inb_E hb_1)) w_347 dX8_lay_98 ?_
    refine lv_aload_n C.1 C.2.1 dX8_lay_101 rfl (lv_at hl 2 rfl) ?_
    refine zg_X8_now C hW id_0 w_362 dX8_lay_102 ?_
    refine zg_X4_voices C hW id_9_0 w_225 dX8_lay_105 ?_
    refine lv_iload_n C.1 C.2.1 dX8_lay_108 rfl (lv_at hl 5 rfl) ?_
    obtain ⟨hb_12, h⟩ := chk_E h
    refine zaa_10 C hW (im_9_10 id_9_0) (inb_E hb_12) dX8_lay_109 ?_
    obtain ⟨m_14, hc_13, h⟩ := doV_E h
    refine zr_cVV C hW (c_X7_become (i0 := (30 + x1.toNatClampNeg)) (i1 := (10 * 0 + x3.toNatClampNeg)) hc_13 (im_18_11 (ia_17 (inb_E hb_1))) (ia_10 (im_9_10 id_9_0) (inb_E hb_12))) k_X7_become (zr_recv C hW (im_18_11 (ia_17 (inb_E hb_1))) zco_11 rfl) w_949 ⟨Nat.le_of_ble_eq_true rfl, Nat.le_of_ble_eq_true rfl⟩ ⟨Nat.le_refl 0, Nat.le_refl 0⟩ rfl hl.1 rfl (Nat.le_of_ble_eq_true rfl) dX8_lay_110 (fun H locs hW => ?_)
    refine lv_goto (tgt := 144) C.1 C.2.1 dX8_lay_113 (by decide) ?_
    refine lv_iload C.1 C.2.1 dX8_lay_144 (lv_at hl 0 rfl) ?_
    exact ret_i h hq rfl hW dX8_lay_146
def f_X8_lay_50 (fu : Nat)  (x1 : Int32) (x2 : Int32) (x3 : Int32) (m : Mem) : Option (Int32 × Mem) := if x2 = 2 then (chk (inb x3 4) (doI (f_X2_isMissing fu x3.toNatClampNeg m) (fun r_4 m_3 => if r_4 = 0 then (f_X8_lay_70 fu x1 x2 x3 m_3) else (some ((-1000000011), m_3))))) else (f_X8_lay_70 fu x1 x2 x3 m)
set_option maxHeartbeats 4000000 in
set_option maxRecDepth 100000 in
theorem w_X8_lay_50 {X : TX} {p : Program} {l : Launch} {e : Env} {s : State} {mi : MethodId} {args : Array Value} {below : List Frame} {meth : Method} {c : Code} {Q : State → Prop} {r : Int32} {mE : Mem} (C : Cx X p s mi args c RX8 cX8_lay 6) (hq : RetI X p l e (rmD 3) s mi args below meth c cX8_lay .int Q r mE) {fu : Nat} {x1 : Int32} {x2 : Int32} {x3 : Int32} {m : Mem} {H : Heap} {locs : List Loc} {ls : Array Slot} (h : f_X8_lay_50 fu x1 x2 x3 m = some (r, mE))  (hW : Wd X s m H locs) (hl : lv_has ls 6 [(0, .ref (ad X 0 0)), (1, .int x1), (2, .int x2), (3, .int x3)]) : W p l e (rmD 3) s mi args below meth c H locs 0 0 Q (F0 mi 50 ls []) := by
  unfold f_X8_lay_50 at h
  refine lv_iload_n C.1 C.2.1 dX8_lay_50 rfl (lv_at hl 2 rfl) ?_
  refine lv_iconst (v := 2) C.1 C.2.1 dX8_lay_51 rfl ?_
  refine lv_icmp_ne (tgt := 70) C.1 C.2.1 dX8_lay_52 (by decide) (fun hc_6 => ?_) (fun hc_6 => ?_)
  · have h := ite_f hc_6 h
    exact w_X8_lay_70 C hq  h  hW (lv_sub hl [0, 1, 2, 3] rfl)
  · have h := ite_t hc_6 h
    refine lv_aload_n C.1 C.2.1 dX8_lay_55 rfl (lv_at hl 0 rfl) ?_
    refine zg_X8_sheets C hW id_0 w_367 dX8_lay_56 ?_
    refine lv_iload_n C.1 C.2.1 dX8_lay_59 rfl (lv_at hl 3 rfl) ?_
    obtain ⟨hb_1, h⟩ := chk_E h
    refine zaa_14 C hW id_14 (inb_E hb_1) dX8_lay_60 ?_
    obtain ⟨r_4, m_3, hc_2, h⟩ := doI_E h
    refine zr_cVI C hW (c_X2_isMissing (i0 := x3.toNatClampNeg) hc_2 (ia_14 (inb_E hb_1))) k_X2_isMissing (zr_recv C hW (ia_14 (inb_E hb_1)) zco_15 rfl) w_654 ⟨Nat.le_of_ble_eq_true rfl, Nat.le_of_ble_eq_true rfl⟩ ⟨Nat.le_refl 0, Nat.le_refl 0⟩ rfl hl.1 rfl (Nat.le_of_ble_eq_true rfl) dX8_lay_61 (fun H locs hW => ?_)
    refine lv_if_eq (tgt := 70) C.1 C.2.1 dX8_lay_64 (by decide) (fun hc_5 => ?_) (fun hc_5 => ?_)
    · have h := ite_t hc_5 h
      exact w_X8_lay_70 C hq  h  hW (lv_sub hl [0, 1, 2, 3] rfl)
    · have h := ite_f hc_5 h
      refine lv_ldc C.1 C.2.1 C.2.2.2.1 (C.2.2.2.2.1 _ w_658) dX8_lay_67 ?_
      exact ret_i h hq rfl hW dX8_lay_69
def f_X8_lay_35 (fu : Nat)  (x1 : Int32) (x2 : Int32) (x3 : Int32) (m : Mem) : Option (Int32 × Mem) := if x2 = 2 then (doI (f_X8_isSheet fu x3 m) (fun r_3 m_2 => if r_3 = 0 then (some ((-1000000001), m_2)) else (f_X8_lay_50 fu x1 x2 x3 m_2))) else (f_X8_lay_50 fu x1 x2 x3 m)
set_option maxHeartbeats 4000000 in
set_option maxRecDepth 100000 in
theorem w_X8_lay_35 {X : TX} {p : Program} {l : Launch} {e : Env} {s : State} {mi : MethodId} {args : Array Value} {below : List Frame} {meth : Method} {c : Code} {Q : State → Prop} {r : Int32} {mE : Mem} (C : Cx X p s mi args c RX8 cX8_lay 6) (hq : RetI X p l e (rmD 3) s mi args below meth c cX8_lay .int Q r mE) {fu : Nat} {x1 : Int32} {x2 : Int32} {x3 : Int32} {m : Mem} {H : Heap} {locs : List Loc} {ls : Array Slot} (h : f_X8_lay_35 fu x1 x2 x3 m = some (r, mE))  (hW : Wd X s m H locs) (hl : lv_has ls 6 [(0, .ref (ad X 0 0)), (1, .int x1), (2, .int x2), (3, .int x3)]) : W p l e (rmD 3) s mi args below meth c H locs 0 0 Q (F0 mi 35 ls []) := by
  unfold f_X8_lay_35 at h
  refine lv_iload_n C.1 C.2.1 dX8_lay_35 rfl (lv_at hl 2 rfl) ?_
  refine lv_iconst (v := 2) C.1 C.2.1 dX8_lay_36 rfl ?_
  refine lv_icmp_ne (tgt := 50) C.1 C.2.1 dX8_lay_37 (by decide) (fun hc_5 => ?_) (fun hc_5 => ?_)
  · have h := ite_f hc_5 h
    exact w_X8_lay_50 C hq  h  hW (lv_sub hl [0, 1, 2, 3] rfl)
  · have h := ite_t hc_5 h
    refine lv_iload_n C.1 C.2.1 dX8_lay_40 rfl (lv_at hl 3 rfl) ?_
    obtain ⟨r_3, m_2, hc_1, h⟩ := doI_E h
    refine zr_cSI C hW (c_X8_isSheet (x0 := x3) hc_1 ) k_X8_isSheet w_651 ⟨Nat.le_of_ble_eq_true rfl, Nat.le_of_ble_eq_true rfl⟩ ⟨Nat.le_refl 0, Nat.le_refl 0⟩ rfl hl.1 rfl (Nat.le_of_ble_eq_true rfl) dX8_lay_41 (fun H locs hW => ?_)
    refine lv_if_ne (tgt := 50) C.1 C.2.1 dX8_lay_44 (by decide) (fun hc_4 => ?_) (fun hc_4 => ?_)
    · have h := ite_f hc_4 h
      exact w_X8_lay_50 C hq  h  hW (lv_sub hl [0, 1, 2, 3] rfl)
    · have h := ite_t hc_4 h
      refine lv_ldc C.1 C.2.1 C.2.2.2.1 (C.2.2.2.2.1 _ w_408) dX8_lay_47 ?_
      exact ret_i h hq rfl hW dX8_lay_49
def f_X8_lay (fu : Nat)  (x1 : Int32) (x2 : Int32) (x3 : Int32) (m : Mem) : Option (Int32 × Mem) := doI (f_X8_isSlot fu x1 m) (fun r_3 m_2 => if r_3 = 0 then (some ((-1000000001), m_2)) else (doI (f_X8_within fu x2 0 3 m_2) (fun r_6 m_5 => if r_6 = 0 then (some ((-1000000001), m_5)) else (if x2 = 1 then (doI (f_X4_has fu 0 x3 m_5) (fun r_9 m_8 => if r_9 = 0 then (some ((-1000000001), m_8)) else (f_X8_lay_35 fu x1 x2 x3 m_8))) else (f_X8_lay_35 fu x1 x2 x3 m_5)))))
set_option maxHeartbeats 4000000 in
set_option maxRecDepth 100000 in
theorem w_X8_lay {X : TX} {p : Program} {l : Launch} {e : Env} {s : State} {mi : MethodId} {args : Array Value} {below : List Frame} {meth : Method} {c : Code} {Q : State → Prop} {r : Int32} {mE : Mem} (C : Cx X p s mi args c RX8 cX8_lay 6) (hq : RetI X p l e (rmD 3) s mi args below meth c cX8_lay .int Q r mE) {fu : Nat} {x1 : Int32} {x2 : Int32} {x3 : Int32} {m : Mem} {H : Heap} {locs : List Loc} {ls : Array Slot} (h : f_X8_lay fu x1 x2 x3 m = some (r, mE))  (hW : Wd X s m H locs) (hl : lv_has ls 6 [(0, .ref (ad X 0 0)), (1, .int x1), (2, .int x2), (3, .int x3)]) : W p l e (rmD 3) s mi args below meth c H locs 0 0 Q (F0 mi 0 ls []) := by
  unfold f_X8_lay at h
  refine lv_iload_n C.1 C.2.1 dX8_lay_0 rfl (lv_at hl 1 rfl) ?_
  obtain ⟨r_3, m_2, hc_1, h⟩ := doI_E h
  refine zr_cSI C hW (c_X8_isSlot (x0 := x1) hc_1 ) k_X8_isSlot w_946 ⟨Nat.le_of_ble_eq_true rfl, Nat.le_of_ble_eq_true rfl⟩ ⟨Nat.le_refl 0, Nat.le_refl 0⟩ rfl hl.1 rfl (Nat.le_of_ble_eq_true rfl) dX8_lay_1 (fun H locs hW => ?_)
  refine lv_if_eq (tgt := 16) C.1 C.2.1 dX8_lay_4 (by decide) (fun hc_13 => ?_) (fun hc_13 => ?_)
  · have h := ite_t hc_13 h
    refine lv_ldc C.1 C.2.1 C.2.2.2.1 (C.2.2.2.2.1 _ w_408) dX8_lay_16 ?_
    exact ret_i h hq rfl hW dX8_lay_18
  · have h := ite_f hc_13 h
    refine lv_iload_n C.1 C.2.1 dX8_lay_7 rfl (lv_at hl 2 rfl) ?_
    refine lv_iconst (v := 0) C.1 C.2.1 dX8_lay_8 rfl ?_
    refine lv_iconst (v := 3) C.1 C.2.1 dX8_lay_9 rfl ?_
    obtain ⟨r_6, m_5, hc_4, h⟩ := doI_E h
    refine zr_cSI C hW (c_X8_within (x0 := x2) (x1 := 0) (x2 := 3) hc_4 ) k_X8_within w_401 ⟨Nat.le_of_ble_eq_true rfl, Nat.le_of_ble_eq_true rfl⟩ ⟨Nat.le_refl 0, Nat.le_refl 0⟩ rfl hl.1 rfl (Nat.le_of_ble_eq_true rfl) dX8_lay_10 (fun H locs hW => ?_)
    refine lv_if_ne (tgt := 19) C.1 C.2.1 dX8_lay_13 (by decide) (fun hc_12 => ?_) (fun hc_12 => ?_)
    · have h := ite_f hc_12 h
      refine lv_iload_n C.1 C.2.1 dX8_lay_19 rfl (lv_at hl 2 rfl) ?_
      refine lv_iconst (v := 1) C.1 C.2.1 dX8_lay_20 rfl ?_
      refine lv_icmp_ne (tgt := 35) C.1 C.2.1 dX8_lay_21 (by decide) (fun hc_11 => ?_) (fun hc_11 => ?_)
      · have h := ite_f hc_11 h
        exact w_X8_lay_35 C hq  h  hW (lv_sub hl [0, 1, 2, 3] rfl)
      · have h := ite_t hc_11 h
        refine lv_aload_n C.1 C.2.1 dX8_lay_24 rfl (lv_at hl 0 rfl) ?_
        refine zg_X8_now C hW id_0 w_362 dX8_lay_25 ?_
        refine lv_iload_n C.1 C.2.1 dX8_lay_28 rfl (lv_at hl 3 rfl) ?_
        obtain ⟨r_9, m_8, hc_7, h⟩ := doI_E h
        refine zr_cVI C hW (c_X4_has (i0 := 0) (x1 := x3) hc_7 id_9_0) k_X4_has (zr_recv C hW id_9_0 zco_9 rfl) w_422 ⟨Nat.le_of_ble_eq_true rfl, Nat.le_of_ble_eq_true rfl⟩ ⟨Nat.le_refl 0, Nat.le_refl 0⟩ rfl hl.1 rfl (Nat.le_of_ble_eq_true rfl) dX8_lay_29 (fun H locs hW => ?_)
        refine lv_if_eq (tgt := 47) C.1 C.2.1 dX8_lay_32 (by decide) (fun hc_10 => ?_) (fun hc_10 => ?_)
        · have h := ite_t hc_10 h
          refine lv_ldc C.1 C.2.1 C.2.2.2.1 (C.2.2.2.2.1 _ w_408) dX8_lay_47 ?_
          exact ret_i h hq rfl hW dX8_lay_49
        · have h := ite_f hc_10 h
          exact w_X8_lay_35 C hq  h  hW (lv_sub hl [0, 1, 2, 3] rfl)
    · have h := ite_t hc_12 h
      refine lv_ldc C.1 C.2.1 C.2.2.2.1 (C.2.2.2.2.1 _ w_408) dX8_lay_16 ?_
      exact ret_i h hq rfl hW dX8_lay_18
theorem c_X8_lay {X : TX} {l : Launch} {fu : Nat} {x1 : Int32} {x2 : Int32} {x3 : Int32} {m mE : Mem} {r : Int32} (h : f_X8_lay fu x1 x2 x3 m = some (r, mE))  : MetI X l yX8_lay cX8_lay 6 .int 3 [.ref (ad X 0 0), .int x1, .int x2, .int x3] m r mE :=
  met_I (by decide) (Nat.le_of_ble_eq_true rfl) (fun p e s mi args below meth c ls Q C hq hW hl => w_X8_lay C hq h  hW (lv_sub hl [0, 1, 2, 3] rfl))
theorem k_X8_lay : CalV yX8_lay cX8_lay 6 (some .int) RX8 3 := ⟨w_943, w_944, w_61, w_945, by decide +kernel⟩
theorem dX8_ask_0 : decode cX8_ask 0 = .ok (.iload_n 1, 1) := by decide +kernel
theorem dX8_ask_1 : decode cX8_ask 1 = .ok (.invokestatic 314, 3) := by decide +kernel
theorem dX8_ask_4 : decode cX8_ask 4 = .ok (.ifCond .eq 10, 3) := by decide +kernel
theorem dX8_ask_7 : decode cX8_ask 7 = .ok (.iload_n 2, 1) := by decide +kernel
theorem dX8_ask_8 : decode cX8_ask 8 = .ok (.invokestatic 63, 3) := by decide +kernel
theorem dX8_ask_11 : decode cX8_ask 11 = .ok (.ifCond .ne 6, 3) := by decide +kernel
theorem dX8_ask_14 : decode cX8_ask 14 = .ok (.ldc 73, 2) := by decide +kernel
theorem dX8_ask_16 : decode cX8_ask 16 = .ok (.ireturn, 1) := by decide +kernel
theorem dX8_ask_17 : decode cX8_ask 17 = .ok (.aload_n 0, 1) := by decide +kernel
theorem dX8_ask_18 : decode cX8_ask 18 = .ok (.getfield 54, 3) := by decide +kernel
theorem dX8_ask_21 : decode cX8_ask 21 = .ok (.iload_n 1, 1) := by decide +kernel
theorem dX8_ask_22 : decode cX8_ask 22 = .ok (.aaload, 1) := by decide +kernel
theorem dX8_ask_23 : decode cX8_ask 23 = .ok (.iconst 1, 1) := by decide +kernel
theorem dX8_ask_24 : decode cX8_ask 24 = .ok (.invokevirtual 337, 3) := by decide +kernel
theorem dX8_ask_27 : decode cX8_ask 27 = .ok (.istore_n 3, 1) := by decide +kernel
theorem dX8_ask_28 : decode cX8_ask 28 = .ok (.iload_n 3, 1) := by decide +kernel
theorem dX8_ask_29 : decode cX8_ask 29 = .ok (.ifCond .eq 5, 3) := by decide +kernel
theorem dX8_ask_32 : decode cX8_ask 32 = .ok (.iload_n 3, 1) := by decide +kernel
theorem dX8_ask_33 : decode cX8_ask 33 = .ok (.ireturn, 1) := by decide +kernel
theorem dX8_ask_34 : decode cX8_ask 34 = .ok (.aload_n 0, 1) := by decide +kernel
theorem dX8_ask_35 : decode cX8_ask 35 = .ok (.getfield 54, 3) := by decide +kernel
theorem dX8_ask_38 : decode cX8_ask 38 = .ok (.iload_n 1, 1) := by decide +kernel
theorem dX8_ask_39 : decode cX8_ask 39 = .ok (.aaload, 1) := by decide +kernel
theorem dX8_ask_40 : decode cX8_ask 40 = .ok (.getfield 320, 3) := by decide +kernel
theorem dX8_ask_43 : decode cX8_ask 43 = .ok (.astore 4, 2) := by decide +kernel
theorem dX8_ask_45 : decode cX8_ask 45 = .ok (.aload 4, 2) := by decide +kernel
theorem dX8_ask_47 : decode cX8_ask 47 = .ok (.iload_n 2, 1) := by decide +kernel
theorem dX8_ask_48 : decode cX8_ask 48 = .ok (.invokevirtual 129, 3) := by decide +kernel
theorem dX8_ask_51 : decode cX8_ask 51 = .ok (.ifCond .eq 11, 3) := by decide +kernel
theorem dX8_ask_54 : decode cX8_ask 54 = .ok (.aload 4, 2) := by decide +kernel
theorem dX8_ask_56 : decode cX8_ask 56 = .ok (.invokevirtual 126, 3) := by decide +kernel
theorem dX8_ask_59 : decode cX8_ask 59 = .ok (.goto 5, 3) := by decide +kernel
theorem dX8_ask_62 : decode cX8_ask 62 = .ok (.ldc 132, 2) := by decide +kernel
theorem dX8_ask_64 : decode cX8_ask 64 = .ok (.ireturn, 1) := by decide +kernel
def f_X8_ask (fu : Nat)  (x1 : Int32) (x2 : Int32) (m : Mem) : Option (Int32 × Mem) := doI (f_X8_isSlot fu x1 m) (fun r_3 m_2 => if r_3 = 0 then (some ((-1000000001), m_2)) else (doI (f_X8_isKind fu x2 m_2) (fun r_6 m_5 => if r_6 = 0 then (some ((-1000000001), m_5)) else (chk (inb x1 5) (doI (f_X3_finding fu x1.toNatClampNeg 1 m_5) (fun r_10 m_9 => if r_10 = 0 then (chk (inb x1 5) (doI (f_X7_isOf fu (30 + x1.toNatClampNeg) x2 m_9) (fun r_14 m_13 => if r_14 = 0 then (some ((-1000000012), m_13)) else (doI (f_X7_worth fu (30 + x1.toNatClampNeg) m_13) (fun r_17 m_16 => some (r_17, m_16)))))) else (some (r_10, m_9))))))))
set_option maxHeartbeats 4000000 in
set_option maxRecDepth 100000 in
theorem w_X8_ask {X : TX} {p : Program} {l : Launch} {e : Env} {s : State} {mi : MethodId} {args : Array Value} {below : List Frame} {meth : Method} {c : Code} {Q : State → Prop} {r : Int32} {mE : Mem} (C : Cx X p s mi args c RX8 cX8_ask 5) (hq : RetI X p l e (rmD 2) s mi args below meth c cX8_ask .int Q r mE) {fu : Nat} {x1 : Int32} {x2 : Int32} {m : Mem} {H : Heap} {locs : List Loc} {ls : Array Slot} (h : f_X8_ask fu x1 x2 m = some (r, mE))  (hW : Wd X s m H locs) (hl : lv_has ls 5 [(0, .ref (ad X 0 0)), (1, .int x1), (2, .int x2)]) : W p l e (rmD 2) s mi args below meth c H locs 0 0 Q (F0 mi 0 ls []) := by
  unfold f_X8_ask at h
  refine lv_iload_n C.1 C.2.1 dX8_ask_0 rfl (lv_at hl 1 rfl) ?_
  obtain ⟨r_3, m_2, hc_1, h⟩ := doI_E h
  refine zr_cSI C hW (c_X8_isSlot (x0 := x1) hc_1 ) k_X8_isSlot w_946 ⟨Nat.le_of_ble_eq_true rfl, Nat.le_of_ble_eq_true rfl⟩ ⟨Nat.le_refl 0, Nat.le_refl 0⟩ rfl hl.1 rfl (Nat.le_of_ble_eq_true rfl) dX8_ask_1 (fun H locs hW => ?_)
  refine lv_if_eq (tgt := 14) C.1 C.2.1 dX8_ask_4 (by decide) (fun hc_21 => ?_) (fun hc_21 => ?_)
  · have h := ite_t hc_21 h
    refine lv_ldc C.1 C.2.1 C.2.2.2.1 (C.2.2.2.2.1 _ w_408) dX8_ask_14 ?_
    exact ret_i h hq rfl hW dX8_ask_16
  · have h := ite_f hc_21 h
    refine lv_iload_n C.1 C.2.1 dX8_ask_7 rfl (lv_at hl 2 rfl) ?_
    obtain ⟨r_6, m_5, hc_4, h⟩ := doI_E h
    refine zr_cSI C hW (c_X8_isKind (x0 := x2) hc_4 ) k_X8_isKind w_398 ⟨Nat.le_of_ble_eq_true rfl, Nat.le_of_ble_eq_true rfl⟩ ⟨Nat.le_refl 0, Nat.le_refl 0⟩ rfl hl.1 rfl (Nat.le_of_ble_eq_true rfl) dX8_ask_8 (fun H locs hW => ?_)
    refine lv_if_ne (tgt := 17) C.1 C.2.1 dX8_ask_11 (by decide) (fun hc_20 => ?_) (fun hc_20 => ?_)
    · have h := ite_f hc_20 h
      refine lv_aload_n C.1 C.2.1 dX8_ask_17 rfl (lv_at hl 0 rfl) ?_
      refine zg_X8_slots C hW id_0 w_368 dX8_ask_18 ?_
      refine lv_iload_n C.1 C.2.1 dX8_ask_21 rfl (lv_at hl 1 rfl) ?_
      obtain ⟨hb_7, h⟩ := chk_E h
      refine zaa_17 C hW id_17 (inb_E hb_7) dX8_ask_22 ?_
      refine lv_iconst (v := 1) C.1 C.2.1 dX8_ask_23 rfl ?_
      obtain ⟨r_10, m_9, hc_8, h⟩ := doI_E h
      refine zr_cVI C hW (c_X3_finding (i0 := x1.toNatClampNeg) (x1 := 1) hc_8 (ia_17 (inb_E hb_7))) k_X3_finding (zr_recv C hW (ia_17 (inb_E hb_7)) zco_18 rfl) w_959 ⟨Nat.le_of_ble_eq_true rfl, Nat.le_of_ble_eq_true rfl⟩ ⟨Nat.le_refl 0, Nat.le_refl 0⟩ rfl hl.1 rfl (Nat.le_of_ble_eq_true rfl) dX8_ask_24 (fun H locs hW => ?_)
      refine lv_istore_n (lv' := [(3, .int r_10), (0, .ref (ad X 0 0)), (1, .int x1), (2, .int x2)]) C.1 C.2.1 dX8_ask_27 rfl hl (by decide) rfl (fun ls hl => ?_)
      refine lv_iload_n C.1 C.2.1 dX8_ask_28 rfl (lv_at hl 0 rfl) ?_
      refine lv_if_eq (tgt := 34) C.1 C.2.1 dX8_ask_29 (by decide) (fun hc_19 => ?_) (fun hc_19 => ?_)
      · have h := ite_t hc_19 h
        refine lv_aload_n C.1 C.2.1 dX8_ask_34 rfl (lv_at hl 1 rfl) ?_
        refine zg_X8_slots C hW id_0 w_368 dX8_ask_35 ?_
        refine lv_iload_n C.1 C.2.1 dX8_ask_38 rfl (lv_at hl 2 rfl) ?_
        obtain ⟨hb_11, h⟩ := chk_E h
        refine zaa_17 C hW id_17 (inb_E hb_11) dX8_ask_39 ?_
        refine zg_X3_voice C hW (ia_17 (inb_E hb_11)) w_347 dX8_ask_40 ?_
        refine lv_astore (lv' := [(4, .ref (ad X 11 (30 + x1.toNatClampNeg))), (3, .int r_10), (0, .ref (ad X 0 0)), (1, .int x1), (2, .int x2)]) C.1 C.2.1 dX8_ask_43 hl (by decide) rfl (fun ls hl => ?_)
        refine lv_aload C.1 C.2.1 dX8_ask_45 (lv_at hl 0 rfl) ?_
        refine lv_iload_n C.1 C.2.1 dX8_ask_47 rfl (lv_at hl 4 rfl) ?_
        obtain ⟨r_14, m_13, hc_12, h⟩ := doI_E h
        refine zr_cVI C hW (c_X7_isOf (i0 := (30 + x1.toNatClampNeg)) (x1 := x2) hc_12 (im_18_11 (ia_17 (inb_E hb_11)))) k_X7_isOf (zr_recv C hW (im_18_11 (ia_17 (inb_E hb_11))) zco_11 rfl) w_449 ⟨Nat.le_of_ble_eq_true rfl, Nat.le_of_ble_eq_true rfl⟩ ⟨Nat.le_refl 0, Nat.le_refl 0⟩ rfl hl.1 rfl (Nat.le_of_ble_eq_true rfl) dX8_ask_48 (fun H locs hW => ?_)
        refine lv_if_eq (tgt := 62) C.1 C.2.1 dX8_ask_51 (by decide) (fun hc_18 => ?_) (fun hc_18 => ?_)
        · have h := ite_t hc_18 h
          refine lv_ldc C.1 C.2.1 C.2.2.2.1 (C.2.2.2.2.1 _ w_457) dX8_ask_62 ?_
          exact ret_i h hq rfl hW dX8_ask_64
        · have h := ite_f hc_18 h
          refine lv_aload C.1 C.2.1 dX8_ask_54 (lv_at hl 0 rfl) ?_
          obtain ⟨r_17, m_16, hc_15, h⟩ := doI_E h
          refine zr_cVI C hW (c_X7_worth (i0 := (30 + x1.toNatClampNeg)) hc_15 (im_18_11 (ia_17 (inb_E hb_11)))) k_X7_worth (zr_recv C hW (im_18_11 (ia_17 (inb_E hb_11))) zco_11 rfl) w_441 ⟨Nat.le_of_ble_eq_true rfl, Nat.le_of_ble_eq_true rfl⟩ ⟨Nat.le_refl 0, Nat.le_refl 0⟩ rfl hl.1 rfl (Nat.le_of_ble_eq_true rfl) dX8_ask_56 (fun H locs hW => ?_)
          refine lv_goto (tgt := 64) C.1 C.2.1 dX8_ask_59 (by decide) ?_
          exact ret_i h hq rfl hW dX8_ask_64
      · have h := ite_f hc_19 h
        refine lv_iload_n C.1 C.2.1 dX8_ask_32 rfl (lv_at hl 0 rfl) ?_
        exact ret_i h hq rfl hW dX8_ask_33
    · have h := ite_t hc_20 h
      refine lv_ldc C.1 C.2.1 C.2.2.2.1 (C.2.2.2.2.1 _ w_408) dX8_ask_14 ?_
      exact ret_i h hq rfl hW dX8_ask_16
theorem c_X8_ask {X : TX} {l : Launch} {fu : Nat} {x1 : Int32} {x2 : Int32} {m mE : Mem} {r : Int32} (h : f_X8_ask fu x1 x2 m = some (r, mE))  : MetI X l yX8_ask cX8_ask 5 .int 2 [.ref (ad X 0 0), .int x1, .int x2] m r mE :=
  met_I (by decide) (Nat.le_of_ble_eq_true rfl) (fun p e s mi args below meth c ls Q C hq hW hl => w_X8_ask C hq h  hW (lv_sub hl [0, 1, 2] rfl))
theorem k_X8_ask : CalV yX8_ask cX8_ask 5 (some .int) RX8 2 := ⟨w_956, w_957, w_61, w_958, by decide +kernel⟩
theorem dX8_item_0 : decode cX8_item 0 = .ok (.iload_n 1, 1) := by decide +kernel
theorem dX8_item_1 : decode cX8_item 1 = .ok (.invokestatic 314, 3) := by decide +kernel
theorem dX8_item_4 : decode cX8_item 4 = .ok (.ifCond .ne 6, 3) := by decide +kernel
theorem dX8_item_7 : decode cX8_item 7 = .ok (.ldc 73, 2) := by decide +kernel
theorem dX8_item_9 : decode cX8_item 9 = .ok (.ireturn, 1) := by decide +kernel
theorem dX8_item_10 : decode cX8_item 10 = .ok (.aload_n 0, 1) := by decide +kernel
theorem dX8_item_11 : decode cX8_item 11 = .ok (.getfield 54, 3) := by decide +kernel
theorem dX8_item_14 : decode cX8_item 14 = .ok (.iload_n 1, 1) := by decide +kernel
theorem dX8_item_15 : decode cX8_item 15 = .ok (.aaload, 1) := by decide +kernel
theorem dX8_item_16 : decode cX8_item 16 = .ok (.iconst 2, 1) := by decide +kernel
theorem dX8_item_17 : decode cX8_item 17 = .ok (.invokevirtual 337, 3) := by decide +kernel
theorem dX8_item_20 : decode cX8_item 20 = .ok (.istore_n 3, 1) := by decide +kernel
theorem dX8_item_21 : decode cX8_item 21 = .ok (.iload_n 3, 1) := by decide +kernel
theorem dX8_item_22 : decode cX8_item 22 = .ok (.ifCond .eq 5, 3) := by decide +kernel
theorem dX8_item_25 : decode cX8_item 25 = .ok (.iload_n 3, 1) := by decide +kernel
theorem dX8_item_26 : decode cX8_item 26 = .ok (.ireturn, 1) := by decide +kernel
theorem dX8_item_27 : decode cX8_item 27 = .ok (.aload_n 0, 1) := by decide +kernel
theorem dX8_item_28 : decode cX8_item 28 = .ok (.getfield 54, 3) := by decide +kernel
theorem dX8_item_31 : decode cX8_item 31 = .ok (.iload_n 1, 1) := by decide +kernel
theorem dX8_item_32 : decode cX8_item 32 = .ok (.aaload, 1) := by decide +kernel
theorem dX8_item_33 : decode cX8_item 33 = .ok (.getfield 327, 3) := by decide +kernel
theorem dX8_item_36 : decode cX8_item 36 = .ok (.astore 4, 2) := by decide +kernel
theorem dX8_item_38 : decode cX8_item 38 = .ok (.aload 4, 2) := by decide +kernel
theorem dX8_item_40 : decode cX8_item 40 = .ok (.iload_n 2, 1) := by decide +kernel
theorem dX8_item_41 : decode cX8_item 41 = .ok (.invokevirtual 284, 3) := by decide +kernel
theorem dX8_item_44 : decode cX8_item 44 = .ok (.ifCond .ne 7, 3) := by decide +kernel
theorem dX8_item_47 : decode cX8_item 47 = .ok (.ldc_w 287, 3) := by decide +kernel
theorem dX8_item_50 : decode cX8_item 50 = .ok (.ireturn, 1) := by decide +kernel
theorem dX8_item_51 : decode cX8_item 51 = .ok (.aload 4, 2) := by decide +kernel
theorem dX8_item_53 : decode cX8_item 53 = .ok (.iload_n 2, 1) := by decide +kernel
theorem dX8_item_54 : decode cX8_item 54 = .ok (.invokevirtual 296, 3) := by decide +kernel
theorem dX8_item_57 : decode cX8_item 57 = .ok (.ifCond .eq 13, 3) := by decide +kernel
theorem dX8_item_60 : decode cX8_item 60 = .ok (.aload 4, 2) := by decide +kernel
theorem dX8_item_62 : decode cX8_item 62 = .ok (.getfield 291, 3) := by decide +kernel
theorem dX8_item_65 : decode cX8_item 65 = .ok (.iload_n 2, 1) := by decide +kernel
theorem dX8_item_66 : decode cX8_item 66 = .ok (.iaload, 1) := by decide +kernel
theorem dX8_item_67 : decode cX8_item 67 = .ok (.goto 5, 3) := by decide +kernel
theorem dX8_item_70 : decode cX8_item 70 = .ok (.ldc 132, 2) := by decide +kernel
theorem dX8_item_72 : decode cX8_item 72 = .ok (.ireturn, 1) := by decide +kernel
def f_X8_item (fu : Nat)  (x1 : Int32) (x2 : Int32) (m : Mem) : Option (Int32 × Mem) := doI (f_X8_isSlot fu x1 m) (fun r_3 m_2 => if r_3 = 0 then (some ((-1000000001), m_2)) else (chk (inb x1 5) (doI (f_X3_finding fu x1.toNatClampNeg 2 m_2) (fun r_7 m_6 => if r_7 = 0 then (chk (inb x1 5) (doI (f_X2_hasPlace fu (4 + x1.toNatClampNeg) x2 m_6) (fun r_11 m_10 => if r_11 = 0 then (some ((-1000000013), m_10)) else (doI (f_X2_isNumber fu (4 + x1.toNatClampNeg) x2 m_10) (fun r_14 m_13 => if r_14 = 0 then (some ((-1000000012), m_13)) else (chk (inb x2 24) (some ((m_13 ((500 + 24 * (4 + x1.toNatClampNeg)) + x2.toNatClampNeg)), m_13)))))))) else (some (r_7, m_6))))))
set_option maxHeartbeats 4000000 in
set_option maxRecDepth 100000 in
theorem w_X8_item {X : TX} {p : Program} {l : Launch} {e : Env} {s : State} {mi : MethodId} {args : Array Value} {below : List Frame} {meth : Method} {c : Code} {Q : State → Prop} {r : Int32} {mE : Mem} (C : Cx X p s mi args c RX8 cX8_item 5) (hq : RetI X p l e (rmD 2) s mi args below meth c cX8_item .int Q r mE) {fu : Nat} {x1 : Int32} {x2 : Int32} {m : Mem} {H : Heap} {locs : List Loc} {ls : Array Slot} (h : f_X8_item fu x1 x2 m = some (r, mE))  (hW : Wd X s m H locs) (hl : lv_has ls 5 [(0, .ref (ad X 0 0)), (1, .int x1), (2, .int x2)]) : W p l e (rmD 2) s mi args below meth c H locs 0 0 Q (F0 mi 0 ls []) := by
  unfold f_X8_item at h
  refine lv_iload_n C.1 C.2.1 dX8_item_0 rfl (lv_at hl 1 rfl) ?_
  obtain ⟨r_3, m_2, hc_1, h⟩ := doI_E h
  refine zr_cSI C hW (c_X8_isSlot (x0 := x1) hc_1 ) k_X8_isSlot w_946 ⟨Nat.le_of_ble_eq_true rfl, Nat.le_of_ble_eq_true rfl⟩ ⟨Nat.le_refl 0, Nat.le_refl 0⟩ rfl hl.1 rfl (Nat.le_of_ble_eq_true rfl) dX8_item_1 (fun H locs hW => ?_)
  refine lv_if_ne (tgt := 10) C.1 C.2.1 dX8_item_4 (by decide) (fun hc_19 => ?_) (fun hc_19 => ?_)
  · have h := ite_f hc_19 h
    refine lv_aload_n C.1 C.2.1 dX8_item_10 rfl (lv_at hl 0 rfl) ?_
    refine zg_X8_slots C hW id_0 w_368 dX8_item_11 ?_
    refine lv_iload_n C.1 C.2.1 dX8_item_14 rfl (lv_at hl 1 rfl) ?_
    obtain ⟨hb_4, h⟩ := chk_E h
    refine zaa_17 C hW id_17 (inb_E hb_4) dX8_item_15 ?_
    refine lv_iconst (v := 2) C.1 C.2.1 dX8_item_16 rfl ?_
    obtain ⟨r_7, m_6, hc_5, h⟩ := doI_E h
    refine zr_cVI C hW (c_X3_finding (i0 := x1.toNatClampNeg) (x1 := 2) hc_5 (ia_17 (inb_E hb_4))) k_X3_finding (zr_recv C hW (ia_17 (inb_E hb_4)) zco_18 rfl) w_959 ⟨Nat.le_of_ble_eq_true rfl, Nat.le_of_ble_eq_true rfl⟩ ⟨Nat.le_refl 0, Nat.le_refl 0⟩ rfl hl.1 rfl (Nat.le_of_ble_eq_true rfl) dX8_item_17 (fun H locs hW => ?_)
    refine lv_istore_n (lv' := [(3, .int r_7), (0, .ref (ad X 0 0)), (1, .int x1), (2, .int x2)]) C.1 C.2.1 dX8_item_20 rfl hl (by decide) rfl (fun ls hl => ?_)
    refine lv_iload_n C.1 C.2.1 dX8_item_21 rfl (lv_at hl 0 rfl) ?_
    refine lv_if_eq (tgt := 27) C.1 C.2.1 dX8_item_22 (by decide) (fun hc_18 => ?_) (fun hc_18 => ?_)
    · have h := ite_t hc_18 h
      refine lv_aload_n C.1 C.2.1 dX8_item_27 rfl (lv_at hl 1 rfl) ?_
      refine zg_X8_slots C hW id_0 w_368 dX8_item_28 ?_
      refine lv_iload_n C.1 C.2.1 dX8_item_31 rfl (lv_at hl 2 rfl) ?_
      obtain ⟨hb_8, h⟩ := chk_E h
      refine zaa_17 C hW id_17 (inb_E hb_8) dX8_item_32 ?_
      refine zg_X3_row C hW (ia_17 (inb_E hb_8)) w_349 dX8_item_33 ?_
      refine lv_astore (lv' := [(4, .ref (ad X 15 (4 + x1.toNatClampNeg))), (3, .int r_7), (0, .ref (ad X 0 0)), (1, .int x1), (2, .int x2)]) C.1 C.2.1 dX8_item_36 hl (by decide) rfl (fun ls hl => ?_)
      refine lv_aload C.1 C.2.1 dX8_item_38 (lv_at hl 0 rfl) ?_
      refine lv_iload_n C.1 C.2.1 dX8_item_40 rfl (lv_at hl 4 rfl) ?_
      obtain ⟨r_11, m_10, hc_9, h⟩ := doI_E h
      refine zr_cVI C hW (c_X2_hasPlace (i0 := (4 + x1.toNatClampNeg)) (x1 := x2) hc_9 (im_18_15 (ia_17 (inb_E hb_8)))) k_X2_hasPlace (zr_recv C hW (im_18_15 (ia_17 (inb_E hb_8))) zco_15 rfl) w_920 ⟨Nat.le_of_ble_eq_true rfl, Nat.le_of_ble_eq_true rfl⟩ ⟨Nat.le_refl 0, Nat.le_refl 0⟩ rfl hl.1 rfl (Nat.le_of_ble_eq_true rfl) dX8_item_41 (fun H locs hW => ?_)
      refine lv_if_ne (tgt := 51) C.1 C.2.1 dX8_item_44 (by decide) (fun hc_17 => ?_) (fun hc_17 => ?_)
      · have h := ite_f hc_17 h
        refine lv_aload C.1 C.2.1 dX8_item_51 (lv_at hl 0 rfl) ?_
        refine lv_iload_n C.1 C.2.1 dX8_item_53 rfl (lv_at hl 4 rfl) ?_
        obtain ⟨r_14, m_13, hc_12, h⟩ := doI_E h
        refine zr_cVI C hW (c_X2_isNumber (i0 := (4 + x1.toNatClampNeg)) (x1 := x2) hc_12 (im_18_15 (ia_17 (inb_E hb_8)))) k_X2_isNumber (zr_recv C hW (im_18_15 (ia_17 (inb_E hb_8))) zco_15 rfl) w_663 ⟨Nat.le_of_ble_eq_true rfl, Nat.le_of_ble_eq_true rfl⟩ ⟨Nat.le_refl 0, Nat.le_refl 0⟩ rfl hl.1 rfl (Nat.le_of_ble_eq_true rfl) dX8_item_54 (fun H locs hW => ?_)
        refine lv_if_eq (tgt := 70) C.1 C.2.1 dX8_item_57 (by decide) (fun hc_16 => ?_) (fun hc_16 => ?_)
        · have h := ite_t hc_16 h
          refine lv_ldc C.1 C.2.1 C.2.2.2.1 (C.2.2.2.2.1 _ w_457) dX8_item_70 ?_
          exact ret_i h hq rfl hW dX8_item_72
        · have h := ite_f hc_16 h
          refine lv_aload C.1 C.2.1 dX8_item_60 (lv_at hl 0 rfl) ?_
          refine zg_X2_places C hW (im_18_15 (ia_17 (inb_E hb_8))) w_325 dX8_item_62 ?_
          refine lv_iload_n C.1 C.2.1 dX8_item_65 rfl (lv_at hl 4 rfl) ?_
          obtain ⟨hb_15, h⟩ := chk_E h
          refine zal_16 C hW (im_15_16 (im_18_15 (ia_17 (inb_E hb_8)))) (inb_E hb_15) dX8_item_66 ?_
          refine lv_goto (tgt := 72) C.1 C.2.1 dX8_item_67 (by decide) ?_
          exact ret_i h hq rfl hW dX8_item_72
      · have h := ite_t hc_17 h
        refine lv_ldcw C.1 C.2.1 C.2.2.2.1 (C.2.2.2.2.1 _ w_921) dX8_item_47 ?_
        exact ret_i h hq rfl hW dX8_item_50
    · have h := ite_f hc_18 h
      refine lv_iload_n C.1 C.2.1 dX8_item_25 rfl (lv_at hl 0 rfl) ?_
      exact ret_i h hq rfl hW dX8_item_26
  · have h := ite_t hc_19 h
    refine lv_ldc C.1 C.2.1 C.2.2.2.1 (C.2.2.2.2.1 _ w_408) dX8_item_7 ?_
    exact ret_i h hq rfl hW dX8_item_9
theorem c_X8_item {X : TX} {l : Launch} {fu : Nat} {x1 : Int32} {x2 : Int32} {m mE : Mem} {r : Int32} (h : f_X8_item fu x1 x2 m = some (r, mE))  : MetI X l yX8_item cX8_item 5 .int 2 [.ref (ad X 0 0), .int x1, .int x2] m r mE :=
  met_I (by decide) (Nat.le_of_ble_eq_true rfl) (fun p e s mi args below meth c ls Q C hq hW hl => w_X8_item C hq h  hW (lv_sub hl [0, 1, 2] rfl))
theorem k_X8_item : CalV yX8_item cX8_item 5 (some .int) RX8 2 := ⟨w_966, w_967, w_61, w_968, by decide +kernel⟩
theorem dX8_rest_0 : decode cX8_rest 0 = .ok (.iload_n 1, 1) := by decide +kernel
theorem dX8_rest_1 : decode cX8_rest 1 = .ok (.invokestatic 314, 3) := by decide +kernel
theorem dX8_rest_4 : decode cX8_rest 4 = .ok (.ifCond .ne 6, 3) := by decide +kernel
theorem dX8_rest_7 : decode cX8_rest 7 = .ok (.ldc 73, 2) := by decide +kernel
theorem dX8_rest_9 : decode cX8_rest 9 = .ok (.ireturn, 1) := by decide +kernel
theorem dX8_rest_10 : decode cX8_rest 10 = .ok (.aload_n 0, 1) := by decide +kernel
theorem dX8_rest_11 : decode cX8_rest 11 = .ok (.getfield 54, 3) := by decide +kernel
theorem dX8_rest_14 : decode cX8_rest 14 = .ok (.iload_n 1, 1) := by decide +kernel
theorem dX8_rest_15 : decode cX8_rest 15 = .ok (.aaload, 1) := by decide +kernel
theorem dX8_rest_16 : decode cX8_rest 16 = .ok (.iconst 3, 1) := by decide +kernel
theorem dX8_rest_17 : decode cX8_rest 17 = .ok (.invokevirtual 337, 3) := by decide +kernel
theorem dX8_rest_20 : decode cX8_rest 20 = .ok (.istore_n 3, 1) := by decide +kernel
theorem dX8_rest_21 : decode cX8_rest 21 = .ok (.iload_n 3, 1) := by decide +kernel
theorem dX8_rest_22 : decode cX8_rest 22 = .ok (.ifCond .eq 5, 3) := by decide +kernel
theorem dX8_rest_25 : decode cX8_rest 25 = .ok (.iload_n 3, 1) := by decide +kernel
theorem dX8_rest_26 : decode cX8_rest 26 = .ok (.ireturn, 1) := by decide +kernel
theorem dX8_rest_27 : decode cX8_rest 27 = .ok (.iload_n 2, 1) := by decide +kernel
theorem dX8_rest_28 : decode cX8_rest 28 = .ok (.ifCond .ne 9, 3) := by decide +kernel
theorem dX8_rest_31 : decode cX8_rest 31 = .ok (.ldc_w 340, 3) := by decide +kernel
theorem dX8_rest_34 : decode cX8_rest 34 = .ok (.goto 14, 3) := by decide +kernel
theorem dX8_rest_37 : decode cX8_rest 37 = .ok (.aload_n 0, 1) := by decide +kernel
theorem dX8_rest_38 : decode cX8_rest 38 = .ok (.getfield 54, 3) := by decide +kernel
theorem dX8_rest_41 : decode cX8_rest 41 = .ok (.iload_n 1, 1) := by decide +kernel
theorem dX8_rest_42 : decode cX8_rest 42 = .ok (.aaload, 1) := by decide +kernel
theorem dX8_rest_43 : decode cX8_rest 43 = .ok (.getfield 334, 3) := by decide +kernel
theorem dX8_rest_46 : decode cX8_rest 46 = .ok (.iload_n 2, 1) := by decide +kernel
theorem dX8_rest_47 : decode cX8_rest 47 = .ok (.irem, 1) := by decide +kernel
theorem dX8_rest_48 : decode cX8_rest 48 = .ok (.ireturn, 1) := by decide +kernel
def f_X8_rest (fu : Nat)  (x1 : Int32) (x2 : Int32) (m : Mem) : Option (Int32 × Mem) := doI (f_X8_isSlot fu x1 m) (fun r_3 m_2 => if r_3 = 0 then (some ((-1000000001), m_2)) else (chk (inb x1 5) (doI (f_X3_finding fu x1.toNatClampNeg 3 m_2) (fun r_7 m_6 => if r_7 = 0 then (if x2 = 0 then (some ((-1000000002), m_6)) else (chk (inb x1 5) (chk (nz x2) (some ((irem (m_6 (lf x1.toNatClampNeg 1)) x2), m_6))))) else (some (r_7, m_6))))))
set_option maxHeartbeats 4000000 in
set_option maxRecDepth 100000 in
theorem w_X8_rest {X : TX} {p : Program} {l : Launch} {e : Env} {s : State} {mi : MethodId} {args : Array Value} {below : List Frame} {meth : Method} {c : Code} {Q : State → Prop} {r : Int32} {mE : Mem} (C : Cx X p s mi args c RX8 cX8_rest 4) (hq : RetI X p l e (rmD 2) s mi args below meth c cX8_rest .int Q r mE) {fu : Nat} {x1 : Int32} {x2 : Int32} {m : Mem} {H : Heap} {locs : List Loc} {ls : Array Slot} (h : f_X8_rest fu x1 x2 m = some (r, mE))  (hW : Wd X s m H locs) (hl : lv_has ls 4 [(0, .ref (ad X 0 0)), (1, .int x1), (2, .int x2)]) : W p l e (rmD 2) s mi args below meth c H locs 0 0 Q (F0 mi 0 ls []) := by
  unfold f_X8_rest at h
  refine lv_iload_n C.1 C.2.1 dX8_rest_0 rfl (lv_at hl 1 rfl) ?_
  obtain ⟨r_3, m_2, hc_1, h⟩ := doI_E h
  refine zr_cSI C hW (c_X8_isSlot (x0 := x1) hc_1 ) k_X8_isSlot w_946 ⟨Nat.le_of_ble_eq_true rfl, Nat.le_of_ble_eq_true rfl⟩ ⟨Nat.le_refl 0, Nat.le_refl 0⟩ rfl hl.1 rfl (Nat.le_of_ble_eq_true rfl) dX8_rest_1 (fun H locs hW => ?_)
  refine lv_if_ne (tgt := 10) C.1 C.2.1 dX8_rest_4 (by decide) (fun hc_12 => ?_) (fun hc_12 => ?_)
  · have h := ite_f hc_12 h
    refine lv_aload_n C.1 C.2.1 dX8_rest_10 rfl (lv_at hl 0 rfl) ?_
    refine zg_X8_slots C hW id_0 w_368 dX8_rest_11 ?_
    refine lv_iload_n C.1 C.2.1 dX8_rest_14 rfl (lv_at hl 1 rfl) ?_
    obtain ⟨hb_4, h⟩ := chk_E h
    refine zaa_17 C hW id_17 (inb_E hb_4) dX8_rest_15 ?_
    refine lv_iconst (v := 3) C.1 C.2.1 dX8_rest_16 rfl ?_
    obtain ⟨r_7, m_6, hc_5, h⟩ := doI_E h
    refine zr_cVI C hW (c_X3_finding (i0 := x1.toNatClampNeg) (x1 := 3) hc_5 (ia_17 (inb_E hb_4))) k_X3_finding (zr_recv C hW (ia_17 (inb_E hb_4)) zco_18 rfl) w_959 ⟨Nat.le_of_ble_eq_true rfl, Nat.le_of_ble_eq_true rfl⟩ ⟨Nat.le_refl 0, Nat.le_refl 0⟩ rfl hl.1 rfl (Nat.le_of_ble_eq_true rfl) dX8_rest_17 (fun H locs hW => ?_)
    refine lv_istore_n (lv' := [(3, .int r_7), (0, .ref (ad X 0 0)), (1, .int x1), (2, .int x2)]) C.1 C.2.1 dX8_rest_20 rfl hl (by decide) rfl (fun ls hl => ?_)
    refine lv_iload_n C.1 C.2.1 dX8_rest_21 rfl (lv_at hl 0 rfl) ?_
    refine lv_if_eq (tgt := 27) C.1 C.2.1 dX8_rest_22 (by decide) (fun hc_11 => ?_) (fun hc_11 => ?_)
    · have h := ite_t hc_11 h
      refine lv_iload_n C.1 C.2.1 dX8_rest_27 rfl (lv_at hl 3 rfl) ?_
      refine lv_if_ne (tgt := 37) C.1 C.2.1 dX8_rest_28 (by decide) (fun hc_10 => ?_) (fun hc_10 => ?_)
      · have h := ite_f hc_10 h
        refine lv_aload_n C.1 C.2.1 dX8_rest_37 rfl (lv_at hl 1 rfl) ?_
        refine zg_X8_slots C hW id_0 w_368 dX8_rest_38 ?_
        refine lv_iload_n C.1 C.2.1 dX8_rest_41 rfl (lv_at hl 2 rfl) ?_
        obtain ⟨hb_8, h⟩ := chk_E h
        refine zaa_17 C hW id_17 (inb_E hb_8) dX8_rest_42 ?_
        refine zg_X3_number C hW (ia_17 (inb_E hb_8)) w_350 dX8_rest_43 ?_
        refine lv_iload_n C.1 C.2.1 dX8_rest_46 rfl (lv_at hl 3 rfl) ?_
        obtain ⟨hb_9, h⟩ := chk_E h
        refine zr_irem C.1 C.2.1 dX8_rest_47 (nz_E hb_9) ?_
        exact ret_i h hq rfl hW dX8_rest_48
      · have h := ite_t hc_10 h
        refine lv_ldcw C.1 C.2.1 C.2.2.2.1 (C.2.2.2.2.1 _ w_973) dX8_rest_31 ?_
        refine lv_goto (tgt := 48) C.1 C.2.1 dX8_rest_34 (by decide) ?_
        exact ret_i h hq rfl hW dX8_rest_48
    · have h := ite_f hc_11 h
      refine lv_iload_n C.1 C.2.1 dX8_rest_25 rfl (lv_at hl 0 rfl) ?_
      exact ret_i h hq rfl hW dX8_rest_26
  · have h := ite_t hc_12 h
    refine lv_ldc C.1 C.2.1 C.2.2.2.1 (C.2.2.2.2.1 _ w_408) dX8_rest_7 ?_
    exact ret_i h hq rfl hW dX8_rest_9
theorem c_X8_rest {X : TX} {l : Launch} {fu : Nat} {x1 : Int32} {x2 : Int32} {m mE : Mem} {r : Int32} (h : f_X8_rest fu x1 x2 m = some (r, mE))  : MetI X l yX8_rest cX8_rest 4 .int 2 [.ref (ad X 0 0), .int x1, .int x2] m r mE :=
  met_I (by decide) (Nat.le_of_ble_eq_true rfl) (fun p e s mi args below meth c ls Q C hq hW hl => w_X8_rest C hq h  hW (lv_sub hl [0, 1, 2] rfl))
theorem k_X8_rest : CalV yX8_rest cX8_rest 4 (some .int) RX8 2 := ⟨w_970, w_971, w_61, w_972, by decide +kernel⟩
theorem dX8_tell_0 : decode cX8_tell 0 = .ok (.aload_n 0, 1) := by decide +kernel
theorem dX8_tell_1 : decode cX8_tell 1 = .ok (.getfield 341, 3) := by decide +kernel
theorem dX8_tell_4 : decode cX8_tell 4 = .ok (.bipush 60, 2) := by decide +kernel
theorem dX8_tell_6 : decode cX8_tell 6 = .ok (.if_icmp .lt 6, 3) := by decide +kernel
theorem dX8_tell_9 : decode cX8_tell 9 = .ok (.ldc 78, 2) := by decide +kernel
theorem dX8_tell_11 : decode cX8_tell 11 = .ok (.ireturn, 1) := by decide +kernel
theorem dX8_tell_12 : decode cX8_tell 12 = .ok (.aload_n 0, 1) := by decide +kernel
theorem dX8_tell_13 : decode cX8_tell 13 = .ok (.getfield 59, 3) := by decide +kernel
theorem dX8_tell_16 : decode cX8_tell 16 = .ok (.aload_n 0, 1) := by decide +kernel
theorem dX8_tell_17 : decode cX8_tell 17 = .ok (.getfield 341, 3) := by decide +kernel
theorem dX8_tell_20 : decode cX8_tell 20 = .ok (.iload_n 1, 1) := by decide +kernel
theorem dX8_tell_21 : decode cX8_tell 21 = .ok (.iastore, 1) := by decide +kernel
theorem dX8_tell_22 : decode cX8_tell 22 = .ok (.aload_n 0, 1) := by decide +kernel
theorem dX8_tell_23 : decode cX8_tell 23 = .ok (.dup, 1) := by decide +kernel
theorem dX8_tell_24 : decode cX8_tell 24 = .ok (.getfield 341, 3) := by decide +kernel
theorem dX8_tell_27 : decode cX8_tell 27 = .ok (.iconst 1, 1) := by decide +kernel
theorem dX8_tell_28 : decode cX8_tell 28 = .ok (.iadd, 1) := by decide +kernel
theorem dX8_tell_29 : decode cX8_tell 29 = .ok (.putfield 341, 3) := by decide +kernel
theorem dX8_tell_32 : decode cX8_tell 32 = .ok (.aload_n 0, 1) := by decide +kernel
theorem dX8_tell_33 : decode cX8_tell 33 = .ok (.getfield 341, 3) := by decide +kernel
theorem dX8_tell_36 : decode cX8_tell 36 = .ok (.ireturn, 1) := by decide +kernel
def f_X8_tell (fu : Nat)  (x1 : Int32) (m : Mem) : Option (Int32 × Mem) := if (m 271) < 60 then (chk (inb (m 271) 60) (seqM (upd m (400 + (m 271).toNatClampNeg) x1) (fun m_2 : Mem => seqM (upd m_2 271 ((m_2 271) + 1)) (fun m_4 : Mem => some ((m_4 271), m_4))))) else (some ((-1000000003), m))
set_option maxHeartbeats 4000000 in
set_option maxRecDepth 100000 in
theorem w_X8_tell {X : TX} {p : Program} {l : Launch} {e : Env} {s : State} {mi : MethodId} {args : Array Value} {below : List Frame} {meth : Method} {c : Code} {Q : State → Prop} {r : Int32} {mE : Mem} (C : Cx X p s mi args c RX8 cX8_tell 2) (hq : RetI X p l e (rmD 0) s mi args below meth c cX8_tell .int Q r mE) {fu : Nat} {x1 : Int32} {m : Mem} {H : Heap} {locs : List Loc} {ls : Array Slot} (h : f_X8_tell fu x1 m = some (r, mE))  (hW : Wd X s m H locs) (hl : lv_has ls 2 [(0, .ref (ad X 0 0)), (1, .int x1)]) : W p l e (rmD 0) s mi args below meth c H locs 0 0 Q (F0 mi 0 ls []) := by
  unfold f_X8_tell at h
  refine lv_aload_n C.1 C.2.1 dX8_tell_0 rfl (lv_at hl 0 rfl) ?_
  refine zg_X8_waitingMany C hW id_0 w_370 dX8_tell_1 ?_
  refine lv_bipush (v := 60) C.1 C.2.1 dX8_tell_4 rfl ?_
  refine lv_icmp_lt (tgt := 12) C.1 C.2.1 dX8_tell_6 (by decide) (fun hc_6 => ?_) (fun hc_6 => ?_)
  · have h := ite_t hc_6 h
    refine lv_aload_n C.1 C.2.1 dX8_tell_12 rfl (lv_at hl 0 rfl) ?_
    refine zg_X8_waiting C hW id_0 w_369 dX8_tell_13 ?_
    refine lv_aload_n C.1 C.2.1 dX8_tell_16 rfl (lv_at hl 0 rfl) ?_
    refine zg_X8_waitingMany C hW id_0 w_370 dX8_tell_17 ?_
    refine lv_iload_n C.1 C.2.1 dX8_tell_20 rfl (lv_at hl 1 rfl) ?_
    obtain ⟨hb_1, h⟩ := chk_E h
    obtain ⟨m_2, e_3, h⟩ := seqM_E h
    refine zas_19 C hW id_19 (inb_E hb_1) e_3 dX8_tell_21 (fun H locs hW => ?_)
    refine lv_aload_n C.1 C.2.1 dX8_tell_22 rfl (lv_at hl 0 rfl) ?_
    refine lv_dup C.1 C.2.1 dX8_tell_23 rfl ?_
    refine zg_X8_waitingMany C hW id_0 w_370 dX8_tell_24 ?_
    refine lv_iconst (v := 1) C.1 C.2.1 dX8_tell_27 rfl ?_
    refine lv_iadd C.1 C.2.1 dX8_tell_28 ?_
    obtain ⟨m_4, e_5, h⟩ := seqM_E h
    refine zp_X8_waitingMany C hW id_0 w_370 e_5 dX8_tell_29 (fun H locs hW => ?_)
    refine lv_aload_n C.1 C.2.1 dX8_tell_32 rfl (lv_at hl 0 rfl) ?_
    refine zg_X8_waitingMany C hW id_0 w_370 dX8_tell_33 ?_
    exact ret_i h hq rfl hW dX8_tell_36
  · have h := ite_f hc_6 h
    refine lv_ldc C.1 C.2.1 C.2.2.2.1 (C.2.2.2.2.1 _ w_413) dX8_tell_9 ?_
    exact ret_i h hq rfl hW dX8_tell_11
theorem c_X8_tell {X : TX} {l : Launch} {fu : Nat} {x1 : Int32} {m mE : Mem} {r : Int32} (h : f_X8_tell fu x1 m = some (r, mE))  : MetI X l yX8_tell cX8_tell 2 .int 0 [.ref (ad X 0 0), .int x1] m r mE :=
  met_I (by decide) (Nat.le_of_ble_eq_true rfl) (fun p e s mi args below meth c ls Q C hq hW hl => w_X8_tell C hq h  hW (lv_sub hl [0, 1] rfl))
theorem k_X8_tell : CalV yX8_tell cX8_tell 2 (some .int) RX8 1 := ⟨w_975, w_976, w_61, w_977, by decide +kernel⟩
theorem dX8_isWaiting_0 : decode cX8_isWaiting 0 = .ok (.iload_n 1, 1) := by decide +kernel
theorem dX8_isWaiting_1 : decode cX8_isWaiting 1 = .ok (.iconst 0, 1) := by decide +kernel
theorem dX8_isWaiting_2 : decode cX8_isWaiting 2 = .ok (.bipush 59, 2) := by decide +kernel
theorem dX8_isWaiting_4 : decode cX8_isWaiting 4 = .ok (.invokestatic 137, 3) := by decide +kernel
theorem dX8_isWaiting_7 : decode cX8_isWaiting 7 = .ok (.ifCond .eq 22, 3) := by decide +kernel
theorem dX8_isWaiting_10 : decode cX8_isWaiting 10 = .ok (.iload_n 1, 1) := by decide +kernel
theorem dX8_isWaiting_11 : decode cX8_isWaiting 11 = .ok (.iload_n 2, 1) := by decide +kernel
theorem dX8_isWaiting_12 : decode cX8_isWaiting 12 = .ok (.if_icmp .ge 17, 3) := by decide +kernel
theorem dX8_isWaiting_15 : decode cX8_isWaiting 15 = .ok (.aload_n 0, 1) := by decide +kernel
theorem dX8_isWaiting_16 : decode cX8_isWaiting 16 = .ok (.getfield 59, 3) := by decide +kernel
theorem dX8_isWaiting_19 : decode cX8_isWaiting 19 = .ok (.iload_n 1, 1) := by decide +kernel
theorem dX8_isWaiting_20 : decode cX8_isWaiting 20 = .ok (.iaload, 1) := by decide +kernel
theorem dX8_isWaiting_21 : decode cX8_isWaiting 21 = .ok (.iload_n 3, 1) := by decide +kernel
theorem dX8_isWaiting_22 : decode cX8_isWaiting 22 = .ok (.if_icmp .ne 7, 3) := by decide +kernel
theorem dX8_isWaiting_25 : decode cX8_isWaiting 25 = .ok (.iconst 1, 1) := by decide +kernel
theorem dX8_isWaiting_26 : decode cX8_isWaiting 26 = .ok (.goto 4, 3) := by decide +kernel
theorem dX8_isWaiting_29 : decode cX8_isWaiting 29 = .ok (.iconst 0, 1) := by decide +kernel
theorem dX8_isWaiting_30 : decode cX8_isWaiting 30 = .ok (.ireturn, 1) := by decide +kernel
def f_X8_isWaiting (fu : Nat)  (x1 : Int32) (x2 : Int32) (x3 : Int32) (m : Mem) : Option (Int32 × Mem) := doI (f_X8_within fu x1 0 59 m) (fun r_3 m_2 => if r_3 = 0 then (some (0, m_2)) else (if x2 ≤ x1 then (some (0, m_2)) else (chk (inb x1 60) (if (m_2 (400 + x1.toNatClampNeg)) = x3 then (some (1, m_2)) else (some (0, m_2))))))
set_option maxHeartbeats 4000000 in
set_option maxRecDepth 100000 in
theorem w_X8_isWaiting {X : TX} {p : Program} {l : Launch} {e : Env} {s : State} {mi : MethodId} {args : Array Value} {below : List Frame} {meth : Method} {c : Code} {Q : State → Prop} {r : Int32} {mE : Mem} (C : Cx X p s mi args c RX8 cX8_isWaiting 4) (hq : RetI X p l e (rmD 1) s mi args below meth c cX8_isWaiting .boolean Q r mE) {fu : Nat} {x1 : Int32} {x2 : Int32} {x3 : Int32} {m : Mem} {H : Heap} {locs : List Loc} {ls : Array Slot} (h : f_X8_isWaiting fu x1 x2 x3 m = some (r, mE))  (hW : Wd X s m H locs) (hl : lv_has ls 4 [(0, .ref (ad X 0 0)), (1, .int x1), (2, .int x2), (3, .int x3)]) : W p l e (rmD 1) s mi args below meth c H locs 0 0 Q (F0 mi 0 ls []) := by
  unfold f_X8_isWaiting at h
  refine lv_iload_n C.1 C.2.1 dX8_isWaiting_0 rfl (lv_at hl 1 rfl) ?_
  refine lv_iconst (v := 0) C.1 C.2.1 dX8_isWaiting_1 rfl ?_
  refine lv_bipush (v := 59) C.1 C.2.1 dX8_isWaiting_2 rfl ?_
  obtain ⟨r_3, m_2, hc_1, h⟩ := doI_E h
  refine zr_cSI C hW (c_X8_within (x0 := x1) (x1 := 0) (x2 := 59) hc_1 ) k_X8_within w_401 ⟨Nat.le_of_ble_eq_true rfl, Nat.le_of_ble_eq_true rfl⟩ ⟨Nat.le_refl 0, Nat.le_refl 0⟩ rfl hl.1 rfl (Nat.le_of_ble_eq_true rfl) dX8_isWaiting_4 (fun H locs hW => ?_)
  refine lv_if_eq (tgt := 29) C.1 C.2.1 dX8_isWaiting_7 (by decide) (fun hc_7 => ?_) (fun hc_7 => ?_)
  · have h := ite_t hc_7 h
    refine lv_iconst (v := 0) C.1 C.2.1 dX8_isWaiting_29 rfl ?_
    exact ret_i h hq rfl hW dX8_isWaiting_30
  · have h := ite_f hc_7 h
    refine lv_iload_n C.1 C.2.1 dX8_isWaiting_10 rfl (lv_at hl 1 rfl) ?_
    refine lv_iload_n C.1 C.2.1 dX8_isWaiting_11 rfl (lv_at hl 2 rfl) ?_
    refine lv_icmp_ge (tgt := 29) C.1 C.2.1 dX8_isWaiting_12 (by decide) (fun hc_6 => ?_) (fun hc_6 => ?_)
    · have h := ite_t hc_6 h
      refine lv_iconst (v := 0) C.1 C.2.1 dX8_isWaiting_29 rfl ?_
      exact ret_i h hq rfl hW dX8_isWaiting_30
    · have h := ite_f hc_6 h
      refine lv_aload_n C.1 C.2.1 dX8_isWaiting_15 rfl (lv_at hl 0 rfl) ?_
      refine zg_X8_waiting C hW id_0 w_369 dX8_isWaiting_16 ?_
      refine lv_iload_n C.1 C.2.1 dX8_isWaiting_19 rfl (lv_at hl 1 rfl) ?_
      obtain ⟨hb_4, h⟩ := chk_E h
      refine zal_19 C hW id_19 (inb_E hb_4) dX8_isWaiting_20 ?_
      refine lv_iload_n C.1 C.2.1 dX8_isWaiting_21 rfl (lv_at hl 3 rfl) ?_
      refine lv_icmp_ne (tgt := 29) C.1 C.2.1 dX8_isWaiting_22 (by decide) (fun hc_5 => ?_) (fun hc_5 => ?_)
      · have h := ite_f hc_5 h
        refine lv_iconst (v := 0) C.1 C.2.1 dX8_isWaiting_29 rfl ?_
        exact ret_i h hq rfl hW dX8_isWaiting_30
      · have h := ite_t hc_5 h
        refine lv_iconst (v := 1) C.1 C.2.1 dX8_isWaiting_25 rfl ?_
        refine lv_goto (tgt := 30) C.1 C.2.1 dX8_isWaiting_26 (by decide) ?_
        exact ret_i h hq rfl hW dX8_isWaiting_30
theorem c_X8_isWaiting {X : TX} {l : Launch} {fu : Nat} {x1 : Int32} {x2 : Int32} {x3 : Int32} {m mE : Mem} {r : Int32} (h : f_X8_isWaiting fu x1 x2 x3 m = some (r, mE))  : MetI X l yX8_isWaiting cX8_isWaiting 4 .boolean 1 [.ref (ad X 0 0), .int x1, .int x2, .int x3] m r mE :=
  met_I (by decide) (Nat.le_of_ble_eq_true rfl) (fun p e s mi args below meth c ls Q C hq hW hl => w_X8_isWaiting C hq h  hW (lv_sub hl [0, 1, 2, 3] rfl))
theorem k_X8_isWaiting : CalV yX8_isWaiting cX8_isWaiting 4 (some .boolean) RX8 3 := ⟨w_984, w_24, w_61, w_985, by decide +kernel⟩
theorem dX8_check_0 : decode cX8_check 0 = .ok (.aload_n 0, 1) := by decide +kernel
theorem dX8_check_1 : decode cX8_check 1 = .ok (.getfield 341, 3) := by decide +kernel
theorem dX8_check_4 : decode cX8_check 4 = .ok (.istore_n 2, 1) := by decide +kernel
theorem dX8_check_5 : decode cX8_check 5 = .ok (.aload_n 0, 1) := by decide +kernel
theorem dX8_check_6 : decode cX8_check 6 = .ok (.iconst 0, 1) := by decide +kernel
theorem dX8_check_7 : decode cX8_check 7 = .ok (.putfield 341, 3) := by decide +kernel
theorem dX8_check_10 : decode cX8_check 10 = .ok (.iload_n 1, 1) := by decide +kernel
theorem dX8_check_11 : decode cX8_check 11 = .ok (.iconst 1, 1) := by decide +kernel
theorem dX8_check_12 : decode cX8_check 12 = .ok (.bipush 30, 2) := by decide +kernel
theorem dX8_check_14 : decode cX8_check 14 = .ok (.invokestatic 137, 3) := by decide +kernel
theorem dX8_check_17 : decode cX8_check 17 = .ok (.ifCond .ne 6, 3) := by decide +kernel
theorem dX8_check_20 : decode cX8_check 20 = .ok (.ldc 73, 2) := by decide +kernel
theorem dX8_check_22 : decode cX8_check 22 = .ok (.ireturn, 1) := by decide +kernel
theorem dX8_check_23 : decode cX8_check 23 = .ok (.aload_n 0, 1) := by decide +kernel
theorem dX8_check_24 : decode cX8_check 24 = .ok (.getfield 344, 3) := by decide +kernel
theorem dX8_check_27 : decode cX8_check 27 = .ok (.ifCond .ne 7, 3) := by decide +kernel
theorem dX8_check_30 : decode cX8_check 30 = .ok (.ldc_w 340, 3) := by decide +kernel
theorem dX8_check_33 : decode cX8_check 33 = .ok (.ireturn, 1) := by decide +kernel
theorem dX8_check_34 : decode cX8_check 34 = .ok (.iload_n 1, 1) := by decide +kernel
theorem dX8_check_35 : decode cX8_check 35 = .ok (.sipush 9999, 3) := by decide +kernel
theorem dX8_check_38 : decode cX8_check 38 = .ok (.aload_n 0, 1) := by decide +kernel
theorem dX8_check_39 : decode cX8_check 39 = .ok (.getfield 35, 3) := by decide +kernel
theorem dX8_check_42 : decode cX8_check 42 = .ok (.getfield 152, 3) := by decide +kernel
theorem dX8_check_45 : decode cX8_check 45 = .ok (.isub, 1) := by decide +kernel
theorem dX8_check_46 : decode cX8_check 46 = .ok (.invokestatic 155, 3) := by decide +kernel
theorem dX8_check_49 : decode cX8_check 49 = .ok (.istore_n 3, 1) := by decide +kernel
theorem dX8_check_50 : decode cX8_check 50 = .ok (.aload_n 0, 1) := by decide +kernel
theorem dX8_check_51 : decode cX8_check 51 = .ok (.getfield 32, 3) := by decide +kernel
theorem dX8_check_54 : decode cX8_check 54 = .ok (.aload_n 0, 1) := by decide +kernel
theorem dX8_check_55 : decode cX8_check 55 = .ok (.getfield 35, 3) := by decide +kernel
theorem dX8_check_58 : decode cX8_check 58 = .ok (.invokevirtual 194, 3) := by decide +kernel
theorem dX8_check_61 : decode cX8_check 61 = .ok (.iconst 0, 1) := by decide +kernel
theorem dX8_check_62 : decode cX8_check 62 = .ok (.istore 4, 2) := by decide +kernel
theorem dX8_check_64 : decode cX8_check 64 = .ok (.iload 4, 2) := by decide +kernel
theorem dX8_check_66 : decode cX8_check 66 = .ok (.iload_n 3, 1) := by decide +kernel
theorem dX8_check_67 : decode cX8_check 67 = .ok (.if_icmp .ge 71, 3) := by decide +kernel
theorem dX8_check_70 : decode cX8_check 70 = .ok (.aload_n 0, 1) := by decide +kernel
theorem dX8_check_71 : decode cX8_check 71 = .ok (.getfield 32, 3) := by decide +kernel
theorem dX8_check_74 : decode cX8_check 74 = .ok (.iconst 1, 1) := by decide +kernel
theorem dX8_check_75 : decode cX8_check 75 = .ok (.invokevirtual 160, 3) := by decide +kernel
theorem dX8_check_78 : decode cX8_check 78 = .ok (.aload_n 0, 1) := by decide +kernel
theorem dX8_check_79 : decode cX8_check 79 = .ok (.iconst 2, 1) := by decide +kernel
theorem dX8_check_80 : decode cX8_check 80 = .ok (.iload 4, 2) := by decide +kernel
theorem dX8_check_82 : decode cX8_check 82 = .ok (.imul, 1) := by decide +kernel
theorem dX8_check_83 : decode cX8_check 83 = .ok (.iload_n 2, 1) := by decide +kernel
theorem dX8_check_84 : decode cX8_check 84 = .ok (.aload_n 0, 1) := by decide +kernel
theorem dX8_check_85 : decode cX8_check 85 = .ok (.getfield 32, 3) := by decide +kernel
theorem dX8_check_88 : decode cX8_check 88 = .ok (.getfield 149, 3) := by decide +kernel
theorem dX8_check_91 : decode cX8_check 91 = .ok (.invokevirtual 348, 3) := by decide +kernel
theorem dX8_check_94 : decode cX8_check 94 = .ok (.ifCond .ne 10, 3) := by decide +kernel
theorem dX8_check_97 : decode cX8_check 97 = .ok (.iconst 1, 1) := by decide +kernel
theorem dX8_check_98 : decode cX8_check 98 = .ok (.iconst 2, 1) := by decide +kernel
theorem dX8_check_99 : decode cX8_check 99 = .ok (.iload 4, 2) := by decide +kernel
theorem dX8_check_101 : decode cX8_check 101 = .ok (.imul, 1) := by decide +kernel
theorem dX8_check_102 : decode cX8_check 102 = .ok (.iadd, 1) := by decide +kernel
theorem dX8_check_103 : decode cX8_check 103 = .ok (.ireturn, 1) := by decide +kernel
theorem dX8_check_104 : decode cX8_check 104 = .ok (.aload_n 0, 1) := by decide +kernel
theorem dX8_check_105 : decode cX8_check 105 = .ok (.iconst 2, 1) := by decide +kernel
theorem dX8_check_106 : decode cX8_check 106 = .ok (.iload 4, 2) := by decide +kernel
theorem dX8_check_108 : decode cX8_check 108 = .ok (.imul, 1) := by decide +kernel
theorem dX8_check_109 : decode cX8_check 109 = .ok (.iconst 1, 1) := by decide +kernel
theorem dX8_check_110 : decode cX8_check 110 = .ok (.iadd, 1) := by decide +kernel
theorem dX8_check_111 : decode cX8_check 111 = .ok (.iload_n 2, 1) := by decide +kernel
theorem dX8_check_112 : decode cX8_check 112 = .ok (.aload_n 0, 1) := by decide +kernel
theorem dX8_check_113 : decode cX8_check 113 = .ok (.getfield 32, 3) := by decide +kernel
theorem dX8_check_116 : decode cX8_check 116 = .ok (.getfield 164, 3) := by decide +kernel
theorem dX8_check_119 : decode cX8_check 119 = .ok (.invokevirtual 348, 3) := by decide +kernel
theorem dX8_check_122 : decode cX8_check 122 = .ok (.ifCond .ne 10, 3) := by decide +kernel
theorem dX8_check_125 : decode cX8_check 125 = .ok (.iconst 2, 1) := by decide +kernel
theorem dX8_check_126 : decode cX8_check 126 = .ok (.iconst 2, 1) := by decide +kernel
theorem dX8_check_127 : decode cX8_check 127 = .ok (.iload 4, 2) := by decide +kernel
theorem dX8_check_129 : decode cX8_check 129 = .ok (.imul, 1) := by decide +kernel
theorem dX8_check_130 : decode cX8_check 130 = .ok (.iadd, 1) := by decide +kernel
theorem dX8_check_131 : decode cX8_check 131 = .ok (.ireturn, 1) := by decide +kernel
theorem dX8_check_132 : decode cX8_check 132 = .ok (.iinc 4 1, 3) := by decide +kernel
theorem dX8_check_135 : decode cX8_check 135 = .ok (.goto (-71), 3) := by decide +kernel
theorem dX8_check_138 : decode cX8_check 138 = .ok (.iload_n 2, 1) := by decide +kernel
theorem dX8_check_139 : decode cX8_check 139 = .ok (.iconst 2, 1) := by decide +kernel
theorem dX8_check_140 : decode cX8_check 140 = .ok (.iload_n 3, 1) := by decide +kernel
theorem dX8_check_141 : decode cX8_check 141 = .ok (.imul, 1) := by decide +kernel
theorem dX8_check_142 : decode cX8_check 142 = .ok (.if_icmp .le 11, 3) := by decide +kernel
theorem dX8_check_145 : decode cX8_check 145 = .ok (.iconst 1, 1) := by decide +kernel
theorem dX8_check_146 : decode cX8_check 146 = .ok (.iconst 2, 1) := by decide +kernel
theorem dX8_check_147 : decode cX8_check 147 = .ok (.iload_n 3, 1) := by decide +kernel
theorem dX8_check_148 : decode cX8_check 148 = .ok (.imul, 1) := by decide +kernel
theorem dX8_check_149 : decode cX8_check 149 = .ok (.iadd, 1) := by decide +kernel
theorem dX8_check_150 : decode cX8_check 150 = .ok (.goto 4, 3) := by decide +kernel
theorem dX8_check_153 : decode cX8_check 153 = .ok (.iconst 0, 1) := by decide +kernel
theorem dX8_check_154 : decode cX8_check 154 = .ok (.ireturn, 1) := by decide +kernel
def f_X8_check_64 (fu : Nat)  : Nat → Int32 → Int32 → Int32 → Mem → Option (Int32 × Mem)
  | 0, _, _, _, _ => none
  | n + 1, x2, x3, x4, m => if x3 ≤ x4 then (if x2 ≤ (2 * x3) then (some (0, m)) else (some ((1 + (2 * x3)), m))) else (doV (f_X4_run fu 1 1 m) (fun m_3 => doI (f_X8_isWaiting fu (2 * x4) x2 (m_3 (sf 1 7)) m_3) (fun r_6 m_5 => if r_6 = 0 then (some ((1 + (2 * x4)), m_5)) else (doI (f_X8_isWaiting fu ((2 * x4) + 1) x2 (m_5 (sf 1 5)) m_5) (fun r_9 m_8 => if r_9 = 0 then (some ((2 + (2 * x4)), m_8)) else (seqM (x4 + 1) (fun x_10 : Int32 => f_X8_check_64 fu n x2 x3 x_10 m_8)))))))
set_option maxHeartbeats 4000000 in
set_option maxRecDepth 100000 in
theorem w_X8_check_64 {X : TX} {p : Program} {l : Launch} {e : Env} {s : State} {mi : MethodId} {args : Array Value} {below : List Frame} {meth : Method} {c : Code} {Q : State → Prop} {r : Int32} {mE : Mem} (C : Cx X p s mi args c RX8 cX8_check 5) (hq : RetI X p l e (rmD 6) s mi args below meth c cX8_check .int Q r mE) {fu : Nat} : ∀ (n : Nat) {x2 : Int32} {x3 : Int32} {x4 : Int32} {m : Mem} {H : Heap} {locs : List Loc} {ls : Array Slot}, f_X8_check_64 fu n x2 x3 x4 m = some (r, mE) → Wd X s m H locs → lv_has ls 5 [(0, .ref (ad X 0 0)), (2, .int x2), (3, .int x3), (4, .int x4)] → W p l e (rmD 6) s mi args below meth c H locs 0 0 Q (F0 mi 64 ls []) := by
  intro n
  induction n with
  | zero =>
    intro x2 x3 x4 m H locs ls h hW hl
    rw [f_X8_check_64] at h
    cases h
  | succ n ih =>
    intro x2 x3 x4 m H locs ls h hW hl
    rw [f_X8_check_64] at h
    refine lv_iload C.1 C.2.1 dX8_check_64 (lv_at hl 3 rfl) ?_
    refine lv_iload_n C.1 C.2.1 dX8_check_66 rfl (lv_at hl 2 rfl) ?_
    refine lv_icmp_ge (tgt := 138) C.1 C.2.1 dX8_check_67 (by decide) (fun hc_14 => ?_) (fun hc_14 => ?_)
    · have h := ite_t hc_14 h
      refine lv_iload_n C.1 C.2.1 dX8_check_138 rfl (lv_at hl 1 rfl) ?_
      refine lv_iconst (v := 2) C.1 C.2.1 dX8_check_139 rfl ?_
      refine lv_iload_n C.1 C.2.1 dX8_check_140 rfl (lv_at hl 2 rfl) ?_
      refine lv_imul C.1 C.2.1 dX8_check_141 ?_
      refine lv_icmp_le (tgt := 153) C.1 C.2.1 dX8_check_142 (by decide) (fun hc_1 => ?_) (fun hc_1 => ?_)
      · have h := ite_t hc_1 h
        refine lv_iconst (v := 0) C.1 C.2.1 dX8_check_153 rfl ?_
        exact ret_i h hq rfl hW dX8_check_154
      · have h := ite_f hc_1 h
        refine lv_iconst (v := 1) C.1 C.2.1 dX8_check_145 rfl ?_
        refine lv_iconst (v := 2) C.1 C.2.1 dX8_check_146 rfl ?_
        refine lv_iload_n C.1 C.2.1 dX8_check_147 rfl (lv_at hl 2 rfl) ?_
        refine lv_imul C.1 C.2.1 dX8_check_148 ?_
        refine lv_iadd C.1 C.2.1 dX8_check_149 ?_
        refine lv_goto (tgt := 154) C.1 C.2.1 dX8_check_150 (by decide) ?_
        exact ret_i h hq rfl hW dX8_check_154
    · have h := ite_f hc_14 h
      refine lv_aload_n C.1 C.2.1 dX8_check_70 rfl (lv_at hl 0 rfl) ?_
      refine zg_X8_thought C hW id_0 w_363 dX8_check_71 ?_
      refine lv_iconst (v := 1) C.1 C.2.1 dX8_check_74 rfl ?_
      obtain ⟨m_3, hc_2, h⟩ := doV_E h
      refine zr_cVV C hW (c_X4_run (i0 := 1) (x1 := 1) hc_2 id_9_1) k_X4_run (zr_recv C hW id_9_1 zco_9 rfl) w_515 ⟨Nat.le_of_ble_eq_true rfl, Nat.le_of_ble_eq_true rfl⟩ ⟨Nat.le_refl 0, Nat.le_refl 0⟩ rfl hl.1 rfl (Nat.le_of_ble_eq_true rfl) dX8_check_75 (fun H locs hW => ?_)
      refine lv_aload_n C.1 C.2.1 dX8_check_78 rfl (lv_at hl 0 rfl) ?_
      refine lv_iconst (v := 2) C.1 C.2.1 dX8_check_79 rfl ?_
      refine lv_iload C.1 C.2.1 dX8_check_80 (lv_at hl 3 rfl) ?_
      refine lv_imul C.1 C.2.1 dX8_check_82 ?_
      refine lv_iload_n C.1 C.2.1 dX8_check_83 rfl (lv_at hl 1 rfl) ?_
      refine lv_aload_n C.1 C.2.1 dX8_check_84 rfl (lv_at hl 0 rfl) ?_
      refine zg_X8_thought C hW id_0 w_363 dX8_check_85 ?_
      refine zg_X4_silent C hW id_9_1 w_237 dX8_check_88 ?_
      obtain ⟨r_6, m_5, hc_4, h⟩ := doI_E h
      refine zr_cVI C hW (c_X8_isWaiting (x1 := (2 * x4)) (x2 := x2) (x3 := (m_3 (sf 1 7))) hc_4 ) k_X8_isWaiting (zr_recv C hW id_0 zco_0 rfl) w_982 ⟨Nat.le_of_ble_eq_true rfl, Nat.le_of_ble_eq_true rfl⟩ ⟨Nat.le_refl 0, Nat.le_refl 0⟩ rfl hl.1 rfl (Nat.le_of_ble_eq_true rfl) dX8_check_91 (fun H locs hW => ?_)
      refine lv_if_ne (tgt := 104) C.1 C.2.1 dX8_check_94 (by decide) (fun hc_13 => ?_) (fun hc_13 => ?_)
      · have h := ite_f hc_13 h
        refine lv_aload_n C.1 C.2.1 dX8_check_104 rfl (lv_at hl 0 rfl) ?_
        refine lv_iconst (v := 2) C.1 C.2.1 dX8_check_105 rfl ?_
        refine lv_iload C.1 C.2.1 dX8_check_106 (lv_at hl 3 rfl) ?_
        refine lv_imul C.1 C.2.1 dX8_check_108 ?_
        refine lv_iconst (v := 1) C.1 C.2.1 dX8_check_109 rfl ?_
        refine lv_iadd C.1 C.2.1 dX8_check_110 ?_
        refine lv_iload_n C.1 C.2.1 dX8_check_111 rfl (lv_at hl 1 rfl) ?_
        refine lv_aload_n C.1 C.2.1 dX8_check_112 rfl (lv_at hl 0 rfl) ?_
        refine zg_X8_thought C hW id_0 w_363 dX8_check_113 ?_
        refine zg_X4_listeners C hW id_9_1 w_229 dX8_check_116 ?_
        obtain ⟨r_9, m_8, hc_7, h⟩ := doI_E h
        refine zr_cVI C hW (c_X8_isWaiting (x1 := ((2 * x4) + 1)) (x2 := x2) (x3 := (m_5 (sf 1 5))) hc_7 ) k_X8_isWaiting (zr_recv C hW id_0 zco_0 rfl) w_982 ⟨Nat.le_of_ble_eq_true rfl, Nat.le_of_ble_eq_true rfl⟩ ⟨Nat.le_refl 0, Nat.le_refl 0⟩ rfl hl.1 rfl (Nat.le_of_ble_eq_true rfl) dX8_check_119 (fun H locs hW => ?_)
        refine lv_if_ne (tgt := 132) C.1 C.2.1 dX8_check_122 (by decide) (fun hc_12 => ?_) (fun hc_12 => ?_)
        · have h := ite_f hc_12 h
          obtain ⟨x_10, e_11, h⟩ := seqM_E h
          refine lv_iinc (v := x_10) (lv' := [(4, .int x_10), (0, .ref (ad X 0 0)), (2, .int x2), (3, .int x3)]) C.1 C.2.1 dX8_check_132 hl (k := 3) rfl (by rw [e_11]; rfl) (by decide) rfl (fun ls hl => ?_)
          refine lv_goto (tgt := 64) C.1 C.2.1 dX8_check_135 (by decide) ?_
          exact ih h  hW (lv_sub hl [1, 2, 3, 0] rfl)
        · have h := ite_t hc_12 h
          refine lv_iconst (v := 2) C.1 C.2.1 dX8_check_125 rfl ?_
          refine lv_iconst (v := 2) C.1 C.2.1 dX8_check_126 rfl ?_
          refine lv_iload C.1 C.2.1 dX8_check_127 (lv_at hl 3 rfl) ?_
          refine lv_imul C.1 C.2.1 dX8_check_129 ?_
          refine lv_iadd C.1 C.2.1 dX8_check_130 ?_
          exact ret_i h hq rfl hW dX8_check_131
      · have h := ite_t hc_13 h
        refine lv_iconst (v := 1) C.1 C.2.1 dX8_check_97 rfl ?_
        refine lv_iconst (v := 2) C.1 C.2.1 dX8_check_98 rfl ?_
        refine lv_iload C.1 C.2.1 dX8_check_99 (lv_at hl 3 rfl) ?_
        refine lv_imul C.1 C.2.1 dX8_check_101 ?_
        refine lv_iadd C.1 C.2.1 dX8_check_102 ?_
        exact ret_i h hq rfl hW dX8_check_103
def f_X8_check (fu : Nat)  (x1 : Int32) (m : Mem) : Option (Int32 × Mem) := seqM (m 271) (fun x_1 : Int32 => seqM (upd m 271 0) (fun m_3 : Mem => doI (f_X8_within fu x1 1 30 m_3) (fun r_7 m_6 => if r_7 = 0 then (some ((-1000000001), m_6)) else (if (m_6 270) = 0 then (some ((-1000000002), m_6)) else (seqM (if (9999 - (m_6 (sf 2 2))) < x1 then (9999 - (m_6 (sf 2 2))) else x1) (fun x_8 : Int32 => doV (f_X4_become fu 1 2 m_6) (fun m_11 => f_X8_check_64 fu fu x_1 x_8 0 m_11)))))))
set_option maxHeartbeats 4000000 in
set_option maxRecDepth 100000 in
theorem w_X8_check {X : TX} {p : Program} {l : Launch} {e : Env} {s : State} {mi : MethodId} {args : Array Value} {below : List Frame} {meth : Method} {c : Code} {Q : State → Prop} {r : Int32} {mE : Mem} (C : Cx X p s mi args c RX8 cX8_check 5) (hq : RetI X p l e (rmD 6) s mi args below meth c cX8_check .int Q r mE) {fu : Nat} {x1 : Int32} {m : Mem} {H : Heap} {locs : List Loc} {ls : Array Slot} (h : f_X8_check fu x1 m = some (r, mE))  (hW : Wd X s m H locs) (hl : lv_has ls 5 [(0, .ref (ad X 0 0)), (1, .int x1)]) : W p l e (rmD 6) s mi args below meth c H locs 0 0 Q (F0 mi 0 ls []) := by
  unfold f_X8_check at h
  refine lv_aload_n C.1 C.2.1 dX8_check_0 rfl (lv_at hl 0 rfl) ?_
  refine zg_X8_waitingMany C hW id_0 w_370 dX8_check_1 ?_
  obtain ⟨x_1, e_2, h⟩ := seqM_E h
  refine lv_name e_2 ?_
  refine lv_istore_n (lv' := [(2, .int x_1), (0, .ref (ad X 0 0)), (1, .int x1)]) C.1 C.2.1 dX8_check_4 rfl hl (by decide) rfl (fun ls hl => ?_)
  refine lv_aload_n C.1 C.2.1 dX8_check_5 rfl (lv_at hl 1 rfl) ?_
  refine lv_iconst (v := 0) C.1 C.2.1 dX8_check_6 rfl ?_
  obtain ⟨m_3, e_4, h⟩ := seqM_E h
  refine zp_X8_waitingMany C hW id_0 w_370 e_4 dX8_check_7 (fun H locs hW => ?_)
  refine lv_iload_n C.1 C.2.1 dX8_check_10 rfl (lv_at hl 2 rfl) ?_
  refine lv_iconst (v := 1) C.1 C.2.1 dX8_check_11 rfl ?_
  refine lv_bipush (v := 30) C.1 C.2.1 dX8_check_12 rfl ?_
  obtain ⟨r_7, m_6, hc_5, h⟩ := doI_E h
  refine zr_cSI C hW (c_X8_within (x0 := x1) (x1 := 1) (x2 := 30) hc_5 ) k_X8_within w_401 ⟨Nat.le_of_ble_eq_true rfl, Nat.le_of_ble_eq_true rfl⟩ ⟨Nat.le_refl 0, Nat.le_refl 0⟩ rfl hl.1 rfl (Nat.le_of_ble_eq_true rfl) dX8_check_14 (fun H locs hW => ?_)
  refine lv_if_ne (tgt := 23) C.1 C.2.1 dX8_check_17 (by decide) (fun hc_13 => ?_) (fun hc_13 => ?_)
  · have h := ite_f hc_13 h
    refine lv_aload_n C.1 C.2.1 dX8_check_23 rfl (lv_at hl 1 rfl) ?_
    refine zg_X8_imageKept C hW id_0 w_365 dX8_check_24 ?_
    refine lv_if_ne (tgt := 34) C.1 C.2.1 dX8_check_27 (by decide) (fun hc_12 => ?_) (fun hc_12 => ?_)
    · have h := ite_f hc_12 h
      refine lv_iload_n C.1 C.2.1 dX8_check_34 rfl (lv_at hl 2 rfl) ?_
      refine lv_sipush (v := 9999) C.1 C.2.1 dX8_check_35 rfl ?_
      refine lv_aload_n C.1 C.2.1 dX8_check_38 rfl (lv_at hl 1 rfl) ?_
      refine zg_X8_image C hW id_0 w_364 dX8_check_39 ?_
      refine zg_X4_tenth C hW id_9_2 w_253 dX8_check_42 ?_
      refine lv_isub C.1 C.2.1 dX8_check_45 ?_
      refine va_mmin C.1 C.2.1 (C.2.2.1.trans hl.1.symm) C.2.2.2.1 (C.2.2.2.2.1 _ w_512) (C.2.2.2.2.1 _ w_513) (C.2.2.2.2.1 _ w_71) (C.2.2.2.2.1 _ w_514) (Nat.le_of_ble_eq_true rfl) (Nat.le_of_ble_eq_true rfl) (Nat.le_refl 0) (Nat.le_refl 0) dX8_check_46 ?_
      obtain ⟨x_8, e_9, h⟩ := seqM_E h
      refine lv_name e_9 ?_
      refine lv_istore_n (lv' := [(3, .int x_8), (2, .int x_1), (0, .ref (ad X 0 0)), (1, .int x1)]) C.1 C.2.1 dX8_check_49 rfl hl (by decide) rfl (fun ls hl => ?_)
      refine lv_aload_n C.1 C.2.1 dX8_check_50 rfl (lv_at hl 2 rfl) ?_
      refine zg_X8_thought C hW id_0 w_363 dX8_check_51 ?_
      refine lv_aload_n C.1 C.2.1 dX8_check_54 rfl (lv_at hl 2 rfl) ?_
      refine zg_X8_image C hW id_0 w_364 dX8_check_55 ?_
      obtain ⟨m_11, hc_10, h⟩ := doV_E h
      refine zr_cVV C hW (c_X4_become (i0 := 1) (i1 := 2) hc_10 id_9_1 id_9_2) k_X4_become (zr_recv C hW id_9_1 zco_9 rfl) w_589 ⟨Nat.le_of_ble_eq_true rfl, Nat.le_of_ble_eq_true rfl⟩ ⟨Nat.le_refl 0, Nat.le_refl 0⟩ rfl hl.1 rfl (Nat.le_of_ble_eq_true rfl) dX8_check_58 (fun H locs hW => ?_)
      refine lv_iconst (v := 0) C.1 C.2.1 dX8_check_61 rfl ?_
      refine lv_istore (lv' := [(4, .int 0), (3, .int x_8), (2, .int x_1), (0, .ref (ad X 0 0)), (1, .int x1)]) C.1 C.2.1 dX8_check_62 hl (by decide) rfl (fun ls hl => ?_)
      exact w_X8_check_64 C hq  fu h  hW (lv_sub hl [3, 2, 1, 0] rfl)
    · have h := ite_t hc_12 h
      refine lv_ldcw C.1 C.2.1 C.2.2.2.1 (C.2.2.2.2.1 _ w_973) dX8_check_30 ?_
      exact ret_i h hq rfl hW dX8_check_33
  · have h := ite_t hc_13 h
    refine lv_ldc C.1 C.2.1 C.2.2.2.1 (C.2.2.2.2.1 _ w_408) dX8_check_20 ?_
    exact ret_i h hq rfl hW dX8_check_22
theorem c_X8_check {X : TX} {l : Launch} {fu : Nat} {x1 : Int32} {m mE : Mem} {r : Int32} (h : f_X8_check fu x1 m = some (r, mE))  : MetI X l yX8_check cX8_check 5 .int 6 [.ref (ad X 0 0), .int x1] m r mE :=
  met_I (by decide) (Nat.le_of_ble_eq_true rfl) (fun p e s mi args below meth c ls Q C hq hW hl => w_X8_check C hq h  hW (lv_sub hl [0, 1] rfl))
theorem k_X8_check : CalV yX8_check cX8_check 5 (some .int) RX8 1 := ⟨w_979, w_980, w_61, w_981, by decide +kernel⟩
theorem dX8_keep_0 : decode cX8_keep 0 = .ok (.aload_n 0, 1) := by decide +kernel
theorem dX8_keep_1 : decode cX8_keep 1 = .ok (.getfield 35, 3) := by decide +kernel
theorem dX8_keep_4 : decode cX8_keep 4 = .ok (.aload_n 0, 1) := by decide +kernel
theorem dX8_keep_5 : decode cX8_keep 5 = .ok (.getfield 28, 3) := by decide +kernel
theorem dX8_keep_8 : decode cX8_keep 8 = .ok (.invokevirtual 194, 3) := by decide +kernel
theorem dX8_keep_11 : decode cX8_keep 11 = .ok (.aload_n 0, 1) := by decide +kernel
theorem dX8_keep_12 : decode cX8_keep 12 = .ok (.iconst 1, 1) := by decide +kernel
theorem dX8_keep_13 : decode cX8_keep 13 = .ok (.putfield 344, 3) := by decide +kernel
theorem dX8_keep_16 : decode cX8_keep 16 = .ok (.aload_n 0, 1) := by decide +kernel
theorem dX8_keep_17 : decode cX8_keep 17 = .ok (.getfield 35, 3) := by decide +kernel
theorem dX8_keep_20 : decode cX8_keep 20 = .ok (.getfield 191, 3) := by decide +kernel
theorem dX8_keep_23 : decode cX8_keep 23 = .ok (.ireturn, 1) := by decide +kernel
def f_X8_keep (fu : Nat)   (m : Mem) : Option (Int32 × Mem) := doV (f_X4_become fu 2 0 m) (fun m_2 => seqM (upd m_2 270 1) (fun m_3 : Mem => some ((m_3 (sf 2 1)), m_3)))
set_option maxHeartbeats 4000000 in
set_option maxRecDepth 100000 in
theorem w_X8_keep {X : TX} {p : Program} {l : Launch} {e : Env} {s : State} {mi : MethodId} {args : Array Value} {below : List Frame} {meth : Method} {c : Code} {Q : State → Prop} {r : Int32} {mE : Mem} (C : Cx X p s mi args c RX8 cX8_keep 1) (hq : RetI X p l e (rmD 2) s mi args below meth c cX8_keep .int Q r mE) {fu : Nat}  {m : Mem} {H : Heap} {locs : List Loc} {ls : Array Slot} (h : f_X8_keep fu  m = some (r, mE))  (hW : Wd X s m H locs) (hl : lv_has ls 1 [(0, .ref (ad X 0 0))]) : W p l e (rmD 2) s mi args below meth c H locs 0 0 Q (F0 mi 0 ls []) := by
  unfold f_X8_keep at h
  refine lv_aload_n C.1 C.2.1 dX8_keep_0 rfl (lv_at hl 0 rfl) ?_
  refine zg_X8_image C hW id_0 w_364 dX8_keep_1 ?_
  refine lv_aload_n C.1 C.2.1 dX8_keep_4 rfl (lv_at hl 0 rfl) ?_
  refine zg_X8_now C hW id_0 w_362 dX8_keep_5 ?_
  obtain ⟨m_2, hc_1, h⟩ := doV_E h
  refine zr_cVV C hW (c_X4_become (i0 := 2) (i1 := 0) hc_1 id_9_2 id_9_0) k_X4_become (zr_recv C hW id_9_2 zco_9 rfl) w_589 ⟨Nat.le_of_ble_eq_true rfl, Nat.le_of_ble_eq_true rfl⟩ ⟨Nat.le_refl 0, Nat.le_refl 0⟩ rfl hl.1 rfl (Nat.le_of_ble_eq_true rfl) dX8_keep_8 (fun H locs hW => ?_)
  refine lv_aload_n C.1 C.2.1 dX8_keep_11 rfl (lv_at hl 0 rfl) ?_
  refine lv_iconst (v := 1) C.1 C.2.1 dX8_keep_12 rfl ?_
  obtain ⟨m_3, e_4, h⟩ := seqM_E h
  refine zp_X8_imageKept C hW id_0 w_365 (by decide) e_4 dX8_keep_13 (fun H locs hW => ?_)
  refine lv_aload_n C.1 C.2.1 dX8_keep_16 rfl (lv_at hl 0 rfl) ?_
  refine zg_X8_image C hW id_0 w_364 dX8_keep_17 ?_
  refine zg_X4_many C hW id_9_2 w_227 dX8_keep_20 ?_
  exact ret_i h hq rfl hW dX8_keep_23
theorem c_X8_keep {X : TX} {l : Launch} {fu : Nat}  {m mE : Mem} {r : Int32} (h : f_X8_keep fu  m = some (r, mE))  : MetI X l yX8_keep cX8_keep 1 .int 2 [.ref (ad X 0 0)] m r mE :=
  met_I (by decide) (Nat.le_of_ble_eq_true rfl) (fun p e s mi args below meth c ls Q C hq hW hl => w_X8_keep C hq h  hW (lv_sub hl [0] rfl))
theorem k_X8_keep : CalV yX8_keep cX8_keep 1 (some .int) RX8 0 := ⟨w_987, w_988, w_61, w_989, by decide +kernel⟩
theorem dX8_back_0 : decode cX8_back 0 = .ok (.aload_n 0, 1) := by decide +kernel
theorem dX8_back_1 : decode cX8_back 1 = .ok (.getfield 344, 3) := by decide +kernel
theorem dX8_back_4 : decode cX8_back 4 = .ok (.ifCond .ne 7, 3) := by decide +kernel
theorem dX8_back_7 : decode cX8_back 7 = .ok (.ldc_w 340, 3) := by decide +kernel
theorem dX8_back_10 : decode cX8_back 10 = .ok (.ireturn, 1) := by decide +kernel
theorem dX8_back_11 : decode cX8_back 11 = .ok (.aload_n 0, 1) := by decide +kernel
theorem dX8_back_12 : decode cX8_back 12 = .ok (.getfield 28, 3) := by decide +kernel
theorem dX8_back_15 : decode cX8_back 15 = .ok (.aload_n 0, 1) := by decide +kernel
theorem dX8_back_16 : decode cX8_back 16 = .ok (.getfield 35, 3) := by decide +kernel
theorem dX8_back_19 : decode cX8_back 19 = .ok (.invokevirtual 194, 3) := by decide +kernel
theorem dX8_back_22 : decode cX8_back 22 = .ok (.aload_n 0, 1) := by decide +kernel
theorem dX8_back_23 : decode cX8_back 23 = .ok (.getfield 28, 3) := by decide +kernel
theorem dX8_back_26 : decode cX8_back 26 = .ok (.getfield 191, 3) := by decide +kernel
theorem dX8_back_29 : decode cX8_back 29 = .ok (.ireturn, 1) := by decide +kernel
def f_X8_back (fu : Nat)   (m : Mem) : Option (Int32 × Mem) := if (m 270) = 0 then (some ((-1000000002), m)) else (doV (f_X4_become fu 0 2 m) (fun m_2 => some ((m_2 (sf 0 1)), m_2)))
set_option maxHeartbeats 4000000 in
set_option maxRecDepth 100000 in
theorem w_X8_back {X : TX} {p : Program} {l : Launch} {e : Env} {s : State} {mi : MethodId} {args : Array Value} {below : List Frame} {meth : Method} {c : Code} {Q : State → Prop} {r : Int32} {mE : Mem} (C : Cx X p s mi args c RX8 cX8_back 1) (hq : RetI X p l e (rmD 2) s mi args below meth c cX8_back .int Q r mE) {fu : Nat}  {m : Mem} {H : Heap} {locs : List Loc} {ls : Array Slot} (h : f_X8_back fu  m = some (r, mE))  (hW : Wd X s m H locs) (hl : lv_has ls 1 [(0, .ref (ad X 0 0))]) : W p l e (rmD 2) s mi args below meth c H locs 0 0 Q (F0 mi 0 ls []) := by
  unfold f_X8_back at h
  refine lv_aload_n C.1 C.2.1 dX8_back_0 rfl (lv_at hl 0 rfl) ?_
  refine zg_X8_imageKept C hW id_0 w_365 dX8_back_1 ?_
  refine lv_if_ne (tgt := 11) C.1 C.2.1 dX8_back_4 (by decide) (fun hc_3 => ?_) (fun hc_3 => ?_)
  · have h := ite_f hc_3 h
    refine lv_aload_n C.1 C.2.1 dX8_back_11 rfl (lv_at hl 0 rfl) ?_
    refine zg_X8_now C hW id_0 w_362 dX8_back_12 ?_
    refine lv_aload_n C.1 C.2.1 dX8_back_15 rfl (lv_at hl 0 rfl) ?_
    refine zg_X8_image C hW id_0 w_364 dX8_back_16 ?_
    obtain ⟨m_2, hc_1, h⟩ := doV_E h
    refine zr_cVV C hW (c_X4_become (i0 := 0) (i1 := 2) hc_1 id_9_0 id_9_2) k_X4_become (zr_recv C hW id_9_0 zco_9 rfl) w_589 ⟨Nat.le_of_ble_eq_true rfl, Nat.le_of_ble_eq_true rfl⟩ ⟨Nat.le_refl 0, Nat.le_refl 0⟩ rfl hl.1 rfl (Nat.le_of_ble_eq_true rfl) dX8_back_19 (fun H locs hW => ?_)
    refine lv_aload_n C.1 C.2.1 dX8_back_22 rfl (lv_at hl 0 rfl) ?_
    refine zg_X8_now C hW id_0 w_362 dX8_back_23 ?_
    refine zg_X4_many C hW id_9_0 w_227 dX8_back_26 ?_
    exact ret_i h hq rfl hW dX8_back_29
  · have h := ite_t hc_3 h
    refine lv_ldcw C.1 C.2.1 C.2.2.2.1 (C.2.2.2.2.1 _ w_973) dX8_back_7 ?_
    exact ret_i h hq rfl hW dX8_back_10
theorem c_X8_back {X : TX} {l : Launch} {fu : Nat}  {m mE : Mem} {r : Int32} (h : f_X8_back fu  m = some (r, mE))  : MetI X l yX8_back cX8_back 1 .int 2 [.ref (ad X 0 0)] m r mE :=
  met_I (by decide) (Nat.le_of_ble_eq_true rfl) (fun p e s mi args below meth c ls Q C hq hW hl => w_X8_back C hq h  hW (lv_sub hl [0] rfl))
theorem k_X8_back : CalV yX8_back cX8_back 1 (some .int) RX8 0 := ⟨w_991, w_992, w_61, w_993, by decide +kernel⟩
theorem dX8_count_0 : decode cX8_count 0 = .ok (.iload_n 1, 1) := by decide +kernel
theorem dX8_count_1 : decode cX8_count 1 = .ok (.tableswitch 96 0 6 #[43, 51, 59, 67, 75, 80, 88], 43) := by decide +kernel
theorem dX8_count_44 : decode cX8_count 44 = .ok (.aload_n 0, 1) := by decide +kernel
theorem dX8_count_45 : decode cX8_count 45 = .ok (.getfield 28, 3) := by decide +kernel
theorem dX8_count_48 : decode cX8_count 48 = .ok (.getfield 191, 3) := by decide +kernel
theorem dX8_count_51 : decode cX8_count 51 = .ok (.ireturn, 1) := by decide +kernel
theorem dX8_count_52 : decode cX8_count 52 = .ok (.aload_n 0, 1) := by decide +kernel
theorem dX8_count_53 : decode cX8_count 53 = .ok (.getfield 28, 3) := by decide +kernel
theorem dX8_count_56 : decode cX8_count 56 = .ok (.getfield 152, 3) := by decide +kernel
theorem dX8_count_59 : decode cX8_count 59 = .ok (.ireturn, 1) := by decide +kernel
theorem dX8_count_60 : decode cX8_count 60 = .ok (.aload_n 0, 1) := by decide +kernel
theorem dX8_count_61 : decode cX8_count 61 = .ok (.getfield 28, 3) := by decide +kernel
theorem dX8_count_64 : decode cX8_count 64 = .ok (.getfield 223, 3) := by decide +kernel
theorem dX8_count_67 : decode cX8_count 67 = .ok (.ireturn, 1) := by decide +kernel
theorem dX8_count_68 : decode cX8_count 68 = .ok (.aload_n 0, 1) := by decide +kernel
theorem dX8_count_69 : decode cX8_count 69 = .ok (.getfield 28, 3) := by decide +kernel
theorem dX8_count_72 : decode cX8_count 72 = .ok (.getfield 256, 3) := by decide +kernel
theorem dX8_count_75 : decode cX8_count 75 = .ok (.ireturn, 1) := by decide +kernel
theorem dX8_count_76 : decode cX8_count 76 = .ok (.aload_n 0, 1) := by decide +kernel
theorem dX8_count_77 : decode cX8_count 77 = .ok (.getfield 341, 3) := by decide +kernel
theorem dX8_count_80 : decode cX8_count 80 = .ok (.ireturn, 1) := by decide +kernel
theorem dX8_count_81 : decode cX8_count 81 = .ok (.aload_n 0, 1) := by decide +kernel
theorem dX8_count_82 : decode cX8_count 82 = .ok (.getfield 19, 3) := by decide +kernel
theorem dX8_count_85 : decode cX8_count 85 = .ok (.getfield 247, 3) := by decide +kernel
theorem dX8_count_88 : decode cX8_count 88 = .ok (.ireturn, 1) := by decide +kernel
theorem dX8_count_89 : decode cX8_count 89 = .ok (.aload_n 0, 1) := by decide +kernel
theorem dX8_count_90 : decode cX8_count 90 = .ok (.getfield 28, 3) := by decide +kernel
theorem dX8_count_93 : decode cX8_count 93 = .ok (.getfield 146, 3) := by decide +kernel
theorem dX8_count_96 : decode cX8_count 96 = .ok (.ireturn, 1) := by decide +kernel
theorem dX8_count_97 : decode cX8_count 97 = .ok (.ldc 73, 2) := by decide +kernel
theorem dX8_count_99 : decode cX8_count 99 = .ok (.ireturn, 1) := by decide +kernel
def f_X8_count (fu : Nat)  (x1 : Int32) (m : Mem) : Option (Int32 × Mem) := if x1 = 0 then (some ((m (sf 0 1)), m)) else (if x1 = 1 then (some ((m (sf 0 2)), m)) else (if x1 = 2 then (some ((m (sf 0 3)), m)) else (if x1 = 3 then (some ((m (sf 0 15)), m)) else (if x1 = 4 then (some ((m 271), m)) else (if x1 = 5 then (some ((m 280), m)) else (if x1 = 6 then (some ((m (sf 0 0)), m)) else (some ((-1000000001), m))))))))
set_option maxHeartbeats 4000000 in
set_option maxRecDepth 100000 in
theorem w_X8_count {X : TX} {p : Program} {l : Launch} {e : Env} {s : State} {mi : MethodId} {args : Array Value} {below : List Frame} {meth : Method} {c : Code} {Q : State → Prop} {r : Int32} {mE : Mem} (C : Cx X p s mi args c RX8 cX8_count 2) (hq : RetI X p l e (rmD 0) s mi args below meth c cX8_count .int Q r mE) {fu : Nat} {x1 : Int32} {m : Mem} {H : Heap} {locs : List Loc} {ls : Array Slot} (h : f_X8_count fu x1 m = some (r, mE))  (hW : Wd X s m H locs) (hl : lv_has ls 2 [(0, .ref (ad X 0 0)), (1, .int x1)]) : W p l e (rmD 0) s mi args below meth c H locs 0 0 Q (F0 mi 0 ls []) := by
  unfold f_X8_count at h
  refine lv_iload_n C.1 C.2.1 dX8_count_0 rfl (lv_at hl 1 rfl) ?_
  by_cases hc_1 : x1 = 0
  · have h := ite_t hc_1 h
    refine lv_tableIn (tgt := 44) C.1 C.2.1 dX8_count_1 (by rw [hc_1]; decide) (by rw [hc_1]; decide) (by rw [hc_1]; rfl) (by decide) ?_
    refine lv_aload_n C.1 C.2.1 dX8_count_44 rfl (lv_at hl 0 rfl) ?_
    refine zg_X8_now C hW id_0 w_362 dX8_count_45 ?_
    refine zg_X4_many C hW id_9_0 w_227 dX8_count_48 ?_
    exact ret_i h hq rfl hW dX8_count_51
  · have h := ite_f hc_1 h
    by_cases hc_2 : x1 = 1
    · have h := ite_t hc_2 h
      refine lv_tableIn (tgt := 52) C.1 C.2.1 dX8_count_1 (by rw [hc_2]; decide) (by rw [hc_2]; decide) (by rw [hc_2]; rfl) (by decide) ?_
      refine lv_aload_n C.1 C.2.1 dX8_count_52 rfl (lv_at hl 0 rfl) ?_
      refine zg_X8_now C hW id_0 w_362 dX8_count_53 ?_
      refine zg_X4_tenth C hW id_9_0 w_253 dX8_count_56 ?_
      exact ret_i h hq rfl hW dX8_count_59
    · have h := ite_f hc_2 h
      by_cases hc_3 : x1 = 2
      · have h := ite_t hc_3 h
        refine lv_tableIn (tgt := 60) C.1 C.2.1 dX8_count_1 (by rw [hc_3]; decide) (by rw [hc_3]; decide) (by rw [hc_3]; rfl) (by decide) ?_
        refine lv_aload_n C.1 C.2.1 dX8_count_60 rfl (lv_at hl 0 rfl) ?_
        refine zg_X8_now C hW id_0 w_362 dX8_count_61 ?_
        refine zg_X4_cut C hW id_9_0 w_231 dX8_count_64 ?_
        exact ret_i h hq rfl hW dX8_count_67
      · have h := ite_f hc_3 h
        by_cases hc_4 : x1 = 3
        · have h := ite_t hc_4 h
          refine lv_tableIn (tgt := 68) C.1 C.2.1 dX8_count_1 (by rw [hc_4]; decide) (by rw [hc_4]; decide) (by rw [hc_4]; rfl) (by decide) ?_
          refine lv_aload_n C.1 C.2.1 dX8_count_68 rfl (lv_at hl 0 rfl) ?_
          refine zg_X8_now C hW id_0 w_362 dX8_count_69 ?_
          refine zg_X4_textsMany C hW id_9_0 w_257 dX8_count_72 ?_
          exact ret_i h hq rfl hW dX8_count_75
        · have h := ite_f hc_4 h
          by_cases hc_5 : x1 = 4
          · have h := ite_t hc_5 h
            refine lv_tableIn (tgt := 76) C.1 C.2.1 dX8_count_1 (by rw [hc_5]; decide) (by rw [hc_5]; decide) (by rw [hc_5]; rfl) (by decide) ?_
            refine lv_aload_n C.1 C.2.1 dX8_count_76 rfl (lv_at hl 0 rfl) ?_
            refine zg_X8_waitingMany C hW id_0 w_370 dX8_count_77 ?_
            exact ret_i h hq rfl hW dX8_count_80
          · have h := ite_f hc_5 h
            by_cases hc_6 : x1 = 5
            · have h := ite_t hc_6 h
              refine lv_tableIn (tgt := 81) C.1 C.2.1 dX8_count_1 (by rw [hc_6]; decide) (by rw [hc_6]; decide) (by rw [hc_6]; rfl) (by decide) ?_
              refine lv_aload_n C.1 C.2.1 dX8_count_81 rfl (lv_at hl 0 rfl) ?_
              refine zg_X8_reader C hW id_0 w_361 dX8_count_82 ?_
              refine zg_X1_length C hW id_6 w_138 dX8_count_85 ?_
              exact ret_i h hq rfl hW dX8_count_88
            · have h := ite_f hc_6 h
              by_cases hc_7 : x1 = 6
              · have h := ite_t hc_7 h
                refine lv_tableIn (tgt := 89) C.1 C.2.1 dX8_count_1 (by rw [hc_7]; decide) (by rw [hc_7]; decide) (by rw [hc_7]; rfl) (by decide) ?_
                refine lv_aload_n C.1 C.2.1 dX8_count_89 rfl (lv_at hl 0 rfl) ?_
                refine zg_X8_now C hW id_0 w_362 dX8_count_90 ?_
                refine zg_X4_z C hW id_9_0 w_255 dX8_count_93 ?_
                exact ret_i h hq rfl hW dX8_count_96
              · have h := ite_f hc_7 h
                have nhc_1 := ne_k (0) rfl hc_1
                have nhc_2 := ne_k (1) rfl hc_2
                have nhc_3 := ne_k (2) rfl hc_3
                have nhc_4 := ne_k (3) rfl hc_4
                have nhc_5 := ne_k (4) rfl hc_5
                have nhc_6 := ne_k (5) rfl hc_6
                have nhc_7 := ne_k (6) rfl hc_7
                refine lv_tableOut (tgt := 97) C.1 C.2.1 dX8_count_1 (by omega) (by decide) ?_
                refine lv_ldc C.1 C.2.1 C.2.2.2.1 (C.2.2.2.2.1 _ w_408) dX8_count_97 ?_
                exact ret_i h hq rfl hW dX8_count_99
theorem c_X8_count {X : TX} {l : Launch} {fu : Nat} {x1 : Int32} {m mE : Mem} {r : Int32} (h : f_X8_count fu x1 m = some (r, mE))  : MetI X l yX8_count cX8_count 2 .int 0 [.ref (ad X 0 0), .int x1] m r mE :=
  met_I (by decide) (Nat.le_of_ble_eq_true rfl) (fun p e s mi args below meth c ls Q C hq hW hl => w_X8_count C hq h  hW (lv_sub hl [0, 1] rfl))
theorem k_X8_count : CalV yX8_count cX8_count 2 (some .int) RX8 1 := ⟨w_995, w_996, w_61, w_997, by decide +kernel⟩
