theorem dX8_isKind_0 : decode cX8_isKind 0 = .ok (.iload_n 0, 1) := by decide +kernel
theorem dX8_isKind_1 : decode cX8_isKind 1 = .ok (.iconst 0, 1) := by decide +kernel
theorem dX8_isKind_2 : decode cX8_isKind 2 = .ok (.iconst 5, 1) := by decide +kernel
theorem dX8_isKind_3 : decode cX8_isKind 3 = .ok (.invokestatic 137, 3) := by decide +kernel
theorem dX8_isKind_6 : decode cX8_isKind 6 = .ok (.ireturn, 1) := by decide +kernel
def f_X8_isKind (fu : Nat)  (x0 : Int32) (m : Mem) : Option (Int32 × Mem) := doI (f_X8_within fu x0 0 5 m) (fun r_3 m_2 => chk (isB r_3) (some (r_3, m_2)))
set_option maxHeartbeats 4000000 in
set_option maxRecDepth 100000 in
theorem w_X8_isKind {X : TX} {p : Program} {l : Launch} {e : Env} {s : State} {mi : MethodId} {args : Array Value} {below : List Frame} {meth : Method} {c : Code} {Q : State → Prop} {r : Int32} {mE : Mem} (C : Cx X p s mi args c RX8 cX8_isKind 1) (hq : RetI X p l e (rmD 1) s mi args below meth c cX8_isKind .boolean Q r mE) {fu : Nat} {x0 : Int32} {m : Mem} {H : Heap} {locs : List Loc} {ls : Array Slot} (h : f_X8_isKind fu x0 m = some (r, mE))  (hW : Wd X s m H locs) (hl : lv_has ls 1 [(0, .int x0)]) : W p l e (rmD 1) s mi args below meth c H locs 0 0 Q (F0 mi 0 ls []) := by
  unfold f_X8_isKind at h
  refine lv_iload_n C.1 C.2.1 dX8_isKind_0 rfl (lv_at hl 0 rfl) ?_
  refine lv_iconst (v := 0) C.1 C.2.1 dX8_isKind_1 rfl ?_
  refine lv_iconst (v := 5) C.1 C.2.1 dX8_isKind_2 rfl ?_
  obtain ⟨r_3, m_2, hc_1, h⟩ := doI_E h
  refine zr_cSI C hW (c_X8_within (x0 := x0) (x1 := 0) (x2 := 5) hc_1 ) k_X8_within w_401 ⟨Nat.le_of_ble_eq_true rfl, Nat.le_of_ble_eq_true rfl⟩ ⟨Nat.le_refl 0, Nat.le_refl 0⟩ rfl hl.1 rfl (Nat.le_of_ble_eq_true rfl) dX8_isKind_3 (fun H locs hW => ?_)
  obtain ⟨hb_4, h⟩ := chk_E h
  exact ret_i h hq (nar_B (isB_E hb_4)) hW dX8_isKind_6
theorem c_X8_isKind {X : TX} {l : Launch} {fu : Nat} {x0 : Int32} {m mE : Mem} {r : Int32} (h : f_X8_isKind fu x0 m = some (r, mE))  : MetI X l yX8_isKind cX8_isKind 1 .boolean 1 [.int x0] m r mE :=
  met_I (by decide) (Nat.le_of_ble_eq_true rfl) (fun p e s mi args below meth c ls Q C hq hW hl => w_X8_isKind C hq h  hW (lv_sub hl [0] rfl))
theorem k_X8_isKind : CalS yX8_isKind cX8_isKind 1 (some .boolean) 1 := ⟨w_399, w_61, w_400, by decide +kernel⟩
theorem dX8_voice_0 : decode cX8_voice 0 = .ok (.iload_n 1, 1) := by decide +kernel
theorem dX8_voice_1 : decode cX8_voice 1 = .ok (.invokestatic 63, 3) := by decide +kernel
theorem dX8_voice_4 : decode cX8_voice 4 = .ok (.ifCond .eq 19, 3) := by decide +kernel
theorem dX8_voice_7 : decode cX8_voice 7 = .ok (.iconst 1, 1) := by decide +kernel
theorem dX8_voice_8 : decode cX8_voice 8 = .ok (.iload_n 2, 1) := by decide +kernel
theorem dX8_voice_9 : decode cX8_voice 9 = .ok (.invokestatic 67, 3) := by decide +kernel
theorem dX8_voice_12 : decode cX8_voice 12 = .ok (.ifCond .eq 11, 3) := by decide +kernel
theorem dX8_voice_15 : decode cX8_voice 15 = .ok (.iconst 2, 1) := by decide +kernel
theorem dX8_voice_16 : decode cX8_voice 16 = .ok (.iload_n 3, 1) := by decide +kernel
theorem dX8_voice_17 : decode cX8_voice 17 = .ok (.invokestatic 67, 3) := by decide +kernel
theorem dX8_voice_20 : decode cX8_voice 20 = .ok (.ifCond .ne 6, 3) := by decide +kernel
theorem dX8_voice_23 : decode cX8_voice 23 = .ok (.ldc 73, 2) := by decide +kernel
theorem dX8_voice_25 : decode cX8_voice 25 = .ok (.ireturn, 1) := by decide +kernel
theorem dX8_voice_26 : decode cX8_voice 26 = .ok (.aload_n 0, 1) := by decide +kernel
theorem dX8_voice_27 : decode cX8_voice 27 = .ok (.getfield 28, 3) := by decide +kernel
theorem dX8_voice_30 : decode cX8_voice 30 = .ok (.invokevirtual 74, 3) := by decide +kernel
theorem dX8_voice_33 : decode cX8_voice 33 = .ok (.ifCond .ne 6, 3) := by decide +kernel
theorem dX8_voice_36 : decode cX8_voice 36 = .ok (.ldc 78, 2) := by decide +kernel
theorem dX8_voice_38 : decode cX8_voice 38 = .ok (.ireturn, 1) := by decide +kernel
theorem dX8_voice_39 : decode cX8_voice 39 = .ok (.aload_n 0, 1) := by decide +kernel
theorem dX8_voice_40 : decode cX8_voice 40 = .ok (.getfield 28, 3) := by decide +kernel
theorem dX8_voice_43 : decode cX8_voice 43 = .ok (.iload_n 1, 1) := by decide +kernel
theorem dX8_voice_44 : decode cX8_voice 44 = .ok (.iload_n 2, 1) := by decide +kernel
theorem dX8_voice_45 : decode cX8_voice 45 = .ok (.iload_n 3, 1) := by decide +kernel
theorem dX8_voice_46 : decode cX8_voice 46 = .ok (.invokevirtual 79, 3) := by decide +kernel
theorem dX8_voice_49 : decode cX8_voice 49 = .ok (.ireturn, 1) := by decide +kernel
def f_X8_voice (fu : Nat)  (x1 : Int32) (x2 : Int32) (x3 : Int32) (m : Mem) : Option (Int32 × Mem) := doI (f_X8_isKind fu x1 m) (fun r_3 m_2 => if r_3 = 0 then (some ((-1000000001), m_2)) else (doI (f_X7_allows fu 1 x2 m_2) (fun r_6 m_5 => if r_6 = 0 then (some ((-1000000001), m_5)) else (doI (f_X7_allows fu 2 x3 m_5) (fun r_9 m_8 => if r_9 = 0 then (some ((-1000000001), m_8)) else (doI (f_X4_hasRoom fu 0 m_8) (fun r_12 m_11 => if r_12 = 0 then (some ((-1000000003), m_11)) else (doI (f_X4_seat fu 0 x1 x2 x3 m_11) (fun r_15 m_14 => some (r_15, m_14))))))))))
set_option maxHeartbeats 4000000 in
set_option maxRecDepth 100000 in
theorem w_X8_voice {X : TX} {p : Program} {l : Launch} {e : Env} {s : State} {mi : MethodId} {args : Array Value} {below : List Frame} {meth : Method} {c : Code} {Q : State → Prop} {r : Int32} {mE : Mem} (C : Cx X p s mi args c RX8 cX8_voice 4) (hq : RetI X p l e (rmD 2) s mi args below meth c cX8_voice .int Q r mE) {fu : Nat} {x1 : Int32} {x2 : Int32} {x3 : Int32} {m : Mem} {H : Heap} {locs : List Loc} {ls : Array Slot} (h : f_X8_voice fu x1 x2 x3 m = some (r, mE))  (hW : Wd X s m H locs) (hl : lv_has ls 4 [(0, .ref (ad X 0 0)), (1, .int x1), (2, .int x2), (3, .int x3)]) : W p l e (rmD 2) s mi args below meth c H locs 0 0 Q (F0 mi 0 ls []) := by
  unfold f_X8_voice at h
  refine lv_iload_n C.1 C.2.1 dX8_voice_0 rfl (lv_at hl 1 rfl) ?_
  obtain ⟨r_3, m_2, hc_1, h⟩ := doI_E h
  refine zr_cSI C hW (c_X8_isKind (x0 := x1) hc_1 ) k_X8_isKind w_398 ⟨Nat.le_of_ble_eq_true rfl, Nat.le_of_ble_eq_true rfl⟩ ⟨Nat.le_refl 0, Nat.le_refl 0⟩ rfl hl.1 rfl (Nat.le_of_ble_eq_true rfl) dX8_voice_1 (fun H locs hW => ?_)
  refine lv_if_eq (tgt := 23) C.1 C.2.1 dX8_voice_4 (by decide) (fun hc_19 => ?_) (fun hc_19 => ?_)
  · have h := ite_t hc_19 h
    refine lv_ldc C.1 C.2.1 C.2.2.2.1 (C.2.2.2.2.1 _ w_408) dX8_voice_23 ?_
    exact ret_i h hq rfl hW dX8_voice_25
  · have h := ite_f hc_19 h
    refine lv_iconst (v := 1) C.1 C.2.1 dX8_voice_7 rfl ?_
    refine lv_iload_n C.1 C.2.1 dX8_voice_8 rfl (lv_at hl 2 rfl) ?_
    obtain ⟨r_6, m_5, hc_4, h⟩ := doI_E h
    refine zr_cSI C hW (c_X7_allows (x0 := 1) (x1 := x2) hc_4 ) k_X7_allows w_404 ⟨Nat.le_of_ble_eq_true rfl, Nat.le_of_ble_eq_true rfl⟩ ⟨Nat.le_refl 0, Nat.le_refl 0⟩ rfl hl.1 rfl (Nat.le_of_ble_eq_true rfl) dX8_voice_9 (fun H locs hW => ?_)
    refine lv_if_eq (tgt := 23) C.1 C.2.1 dX8_voice_12 (by decide) (fun hc_18 => ?_) (fun hc_18 => ?_)
    · have h := ite_t hc_18 h
      refine lv_ldc C.1 C.2.1 C.2.2.2.1 (C.2.2.2.2.1 _ w_408) dX8_voice_23 ?_
      exact ret_i h hq rfl hW dX8_voice_25
    · have h := ite_f hc_18 h
      refine lv_iconst (v := 2) C.1 C.2.1 dX8_voice_15 rfl ?_
      refine lv_iload_n C.1 C.2.1 dX8_voice_16 rfl (lv_at hl 3 rfl) ?_
      obtain ⟨r_9, m_8, hc_7, h⟩ := doI_E h
      refine zr_cSI C hW (c_X7_allows (x0 := 2) (x1 := x3) hc_7 ) k_X7_allows w_404 ⟨Nat.le_of_ble_eq_true rfl, Nat.le_of_ble_eq_true rfl⟩ ⟨Nat.le_refl 0, Nat.le_refl 0⟩ rfl hl.1 rfl (Nat.le_of_ble_eq_true rfl) dX8_voice_17 (fun H locs hW => ?_)
      refine lv_if_ne (tgt := 26) C.1 C.2.1 dX8_voice_20 (by decide) (fun hc_17 => ?_) (fun hc_17 => ?_)
      · have h := ite_f hc_17 h
        refine lv_aload_n C.1 C.2.1 dX8_voice_26 rfl (lv_at hl 0 rfl) ?_
        refine zg_X8_now C hW id_0 w_362 dX8_voice_27 ?_
        obtain ⟨r_12, m_11, hc_10, h⟩ := doI_E h
        refine zr_cVI C hW (c_X4_hasRoom (i0 := 0) hc_10 id_9_0) k_X4_hasRoom (zr_recv C hW id_9_0 zco_9 rfl) w_409 ⟨Nat.le_of_ble_eq_true rfl, Nat.le_of_ble_eq_true rfl⟩ ⟨Nat.le_refl 0, Nat.le_refl 0⟩ rfl hl.1 rfl (Nat.le_of_ble_eq_true rfl) dX8_voice_30 (fun H locs hW => ?_)
        refine lv_if_ne (tgt := 39) C.1 C.2.1 dX8_voice_33 (by decide) (fun hc_16 => ?_) (fun hc_16 => ?_)
        · have h := ite_f hc_16 h
          refine lv_aload_n C.1 C.2.1 dX8_voice_39 rfl (lv_at hl 0 rfl) ?_
          refine zg_X8_now C hW id_0 w_362 dX8_voice_40 ?_
          refine lv_iload_n C.1 C.2.1 dX8_voice_43 rfl (lv_at hl 1 rfl) ?_
          refine lv_iload_n C.1 C.2.1 dX8_voice_44 rfl (lv_at hl 2 rfl) ?_
          refine lv_iload_n C.1 C.2.1 dX8_voice_45 rfl (lv_at hl 3 rfl) ?_
          obtain ⟨r_15, m_14, hc_13, h⟩ := doI_E h
          refine zr_cVI C hW (c_X4_seat (i0 := 0) (x1 := x1) (x2 := x2) (x3 := x3) hc_13 id_9_0) k_X4_seat (zr_recv C hW id_9_0 zco_9 rfl) w_414 ⟨Nat.le_of_ble_eq_true rfl, Nat.le_of_ble_eq_true rfl⟩ ⟨Nat.le_refl 0, Nat.le_refl 0⟩ rfl hl.1 rfl (Nat.le_of_ble_eq_true rfl) dX8_voice_46 (fun H locs hW => ?_)
          exact ret_i h hq rfl hW dX8_voice_49
        · have h := ite_t hc_16 h
          refine lv_ldc C.1 C.2.1 C.2.2.2.1 (C.2.2.2.2.1 _ w_413) dX8_voice_36 ?_
          exact ret_i h hq rfl hW dX8_voice_38
      · have h := ite_t hc_17 h
        refine lv_ldc C.1 C.2.1 C.2.2.2.1 (C.2.2.2.2.1 _ w_408) dX8_voice_23 ?_
        exact ret_i h hq rfl hW dX8_voice_25
theorem c_X8_voice {X : TX} {l : Launch} {fu : Nat} {x1 : Int32} {x2 : Int32} {x3 : Int32} {m mE : Mem} {r : Int32} (h : f_X8_voice fu x1 x2 x3 m = some (r, mE))  : MetI X l yX8_voice cX8_voice 4 .int 2 [.ref (ad X 0 0), .int x1, .int x2, .int x3] m r mE :=
  met_I (by decide) (Nat.le_of_ble_eq_true rfl) (fun p e s mi args below meth c ls Q C hq hW hl => w_X8_voice C hq h  hW (lv_sub hl [0, 1, 2, 3] rfl))
theorem k_X8_voice : CalV yX8_voice cX8_voice 4 (some .int) RX8 3 := ⟨w_395, w_396, w_61, w_397, by decide +kernel⟩
theorem dX8_told_0 : decode cX8_told 0 = .ok (.aload_n 0, 1) := by decide +kernel
theorem dX8_told_1 : decode cX8_told 1 = .ok (.getfield 28, 3) := by decide +kernel
theorem dX8_told_4 : decode cX8_told 4 = .ok (.iload_n 1, 1) := by decide +kernel
theorem dX8_told_5 : decode cX8_told 5 = .ok (.invokevirtual 83, 3) := by decide +kernel
theorem dX8_told_8 : decode cX8_told 8 = .ok (.ifCond .ne 6, 3) := by decide +kernel
theorem dX8_told_11 : decode cX8_told 11 = .ok (.ldc 73, 2) := by decide +kernel
theorem dX8_told_13 : decode cX8_told 13 = .ok (.ireturn, 1) := by decide +kernel
theorem dX8_told_14 : decode cX8_told 14 = .ok (.aload_n 0, 1) := by decide +kernel
theorem dX8_told_15 : decode cX8_told 15 = .ok (.getfield 28, 3) := by decide +kernel
theorem dX8_told_18 : decode cX8_told 18 = .ok (.getfield 86, 3) := by decide +kernel
theorem dX8_told_21 : decode cX8_told 21 = .ok (.iload_n 1, 1) := by decide +kernel
theorem dX8_told_22 : decode cX8_told 22 = .ok (.aaload, 1) := by decide +kernel
theorem dX8_told_23 : decode cX8_told 23 = .ok (.astore_n 3, 1) := by decide +kernel
theorem dX8_told_24 : decode cX8_told 24 = .ok (.iload_n 2, 1) := by decide +kernel
theorem dX8_told_25 : decode cX8_told 25 = .ok (.tableswitch 138 0 10 #[59, 64, 69, 74, 79, 84, 89, 94, 115, 120, 133], 59) := by decide +kernel
theorem dX8_told_84 : decode cX8_told 84 = .ok (.aload_n 3, 1) := by decide +kernel
theorem dX8_told_85 : decode cX8_told 85 = .ok (.getfield 90, 3) := by decide +kernel
theorem dX8_told_88 : decode cX8_told 88 = .ok (.ireturn, 1) := by decide +kernel
theorem dX8_told_89 : decode cX8_told 89 = .ok (.aload_n 3, 1) := by decide +kernel
theorem dX8_told_90 : decode cX8_told 90 = .ok (.getfield 94, 3) := by decide +kernel
theorem dX8_told_93 : decode cX8_told 93 = .ok (.ireturn, 1) := by decide +kernel
theorem dX8_told_94 : decode cX8_told 94 = .ok (.aload_n 3, 1) := by decide +kernel
theorem dX8_told_95 : decode cX8_told 95 = .ok (.getfield 97, 3) := by decide +kernel
theorem dX8_told_98 : decode cX8_told 98 = .ok (.ireturn, 1) := by decide +kernel
theorem dX8_told_99 : decode cX8_told 99 = .ok (.aload_n 3, 1) := by decide +kernel
theorem dX8_told_100 : decode cX8_told 100 = .ok (.getfield 100, 3) := by decide +kernel
theorem dX8_told_103 : decode cX8_told 103 = .ok (.ireturn, 1) := by decide +kernel
theorem dX8_told_104 : decode cX8_told 104 = .ok (.aload_n 3, 1) := by decide +kernel
theorem dX8_told_105 : decode cX8_told 105 = .ok (.getfield 103, 3) := by decide +kernel
theorem dX8_told_108 : decode cX8_told 108 = .ok (.ireturn, 1) := by decide +kernel
theorem dX8_told_109 : decode cX8_told 109 = .ok (.aload_n 3, 1) := by decide +kernel
theorem dX8_told_110 : decode cX8_told 110 = .ok (.getfield 106, 3) := by decide +kernel
theorem dX8_told_113 : decode cX8_told 113 = .ok (.ireturn, 1) := by decide +kernel
theorem dX8_told_114 : decode cX8_told 114 = .ok (.aload_n 3, 1) := by decide +kernel
theorem dX8_told_115 : decode cX8_told 115 = .ok (.getfield 109, 3) := by decide +kernel
theorem dX8_told_118 : decode cX8_told 118 = .ok (.ireturn, 1) := by decide +kernel
theorem dX8_told_119 : decode cX8_told 119 = .ok (.aload_n 3, 1) := by decide +kernel
theorem dX8_told_120 : decode cX8_told 120 = .ok (.iload_n 1, 1) := by decide +kernel
theorem dX8_told_121 : decode cX8_told 121 = .ok (.aload_n 0, 1) := by decide +kernel
theorem dX8_told_122 : decode cX8_told 122 = .ok (.getfield 28, 3) := by decide +kernel
theorem dX8_told_125 : decode cX8_told 125 = .ok (.getfield 112, 3) := by decide +kernel
theorem dX8_told_128 : decode cX8_told 128 = .ok (.if_icmp .ne 7, 3) := by decide +kernel
theorem dX8_told_131 : decode cX8_told 131 = .ok (.iconst 1, 1) := by decide +kernel
theorem dX8_told_132 : decode cX8_told 132 = .ok (.goto 4, 3) := by decide +kernel
theorem dX8_told_135 : decode cX8_told 135 = .ok (.iconst 0, 1) := by decide +kernel
theorem dX8_told_136 : decode cX8_told 136 = .ok (.invokevirtual 115, 3) := by decide +kernel
theorem dX8_told_139 : decode cX8_told 139 = .ok (.ireturn, 1) := by decide +kernel
theorem dX8_told_140 : decode cX8_told 140 = .ok (.aload_n 3, 1) := by decide +kernel
theorem dX8_told_141 : decode cX8_told 141 = .ok (.invokevirtual 119, 3) := by decide +kernel
theorem dX8_told_144 : decode cX8_told 144 = .ok (.ireturn, 1) := by decide +kernel
theorem dX8_told_145 : decode cX8_told 145 = .ok (.aload_n 3, 1) := by decide +kernel
theorem dX8_told_146 : decode cX8_told 146 = .ok (.invokevirtual 123, 3) := by decide +kernel
theorem dX8_told_149 : decode cX8_told 149 = .ok (.ifCond .eq 7, 3) := by decide +kernel
theorem dX8_told_152 : decode cX8_told 152 = .ok (.iconst 1, 1) := by decide +kernel
theorem dX8_told_153 : decode cX8_told 153 = .ok (.goto 4, 3) := by decide +kernel
theorem dX8_told_156 : decode cX8_told 156 = .ok (.iconst 0, 1) := by decide +kernel
theorem dX8_told_157 : decode cX8_told 157 = .ok (.ireturn, 1) := by decide +kernel
theorem dX8_told_158 : decode cX8_told 158 = .ok (.aload_n 3, 1) := by decide +kernel
theorem dX8_told_159 : decode cX8_told 159 = .ok (.invokevirtual 126, 3) := by decide +kernel
theorem dX8_told_162 : decode cX8_told 162 = .ok (.ireturn, 1) := by decide +kernel
theorem dX8_told_163 : decode cX8_told 163 = .ok (.ldc 73, 2) := by decide +kernel
theorem dX8_told_165 : decode cX8_told 165 = .ok (.ireturn, 1) := by decide +kernel
def f_X8_told_136 (fu : Nat)  (j0 : Nat) (y1 : Int32) (m : Mem) : Option (Int32 × Mem) := doI (f_X7_waits fu j0 y1 m) (fun r_3 m_2 => some (r_3, m_2))
set_option maxHeartbeats 4000000 in
set_option maxRecDepth 100000 in
theorem w_X8_told_136 {X : TX} {p : Program} {l : Launch} {e : Env} {s : State} {mi : MethodId} {args : Array Value} {below : List Frame} {meth : Method} {c : Code} {Q : State → Prop} {r : Int32} {mE : Mem} (C : Cx X p s mi args c RX8 cX8_told 4) (hq : RetI X p l e (rmD 2) s mi args below meth c cX8_told .int Q r mE) {fu : Nat} {j0 : Nat} {y1 : Int32} {m : Mem} {H : Heap} {locs : List Loc} {ls : Array Slot} (h : f_X8_told_136 fu j0 y1 m = some (r, mE)) (g_j0 : (11, j0) ∈ ids) (hW : Wd X s m H locs) (hl : lv_has ls 4 []) : W p l e (rmD 2) s mi args below meth c H locs 0 0 Q (F0 mi 136 ls [.int y1, .ref (ad X 11 j0)]) := by
  unfold f_X8_told_136 at h
  obtain ⟨r_3, m_2, hc_1, h⟩ := doI_E h
  refine zr_cVI C hW (c_X7_waits (i0 := j0) (x1 := y1) hc_1 g_j0) k_X7_waits (zr_recv C hW g_j0 zco_11 rfl) w_426 ⟨Nat.le_of_ble_eq_true rfl, Nat.le_of_ble_eq_true rfl⟩ ⟨Nat.le_refl 0, Nat.le_refl 0⟩ rfl hl.1 rfl (Nat.le_of_ble_eq_true rfl) dX8_told_136 (fun H locs hW => ?_)
  exact ret_i h hq rfl hW dX8_told_139
def f_X8_told (fu : Nat)  (x1 : Int32) (x2 : Int32) (m : Mem) : Option (Int32 × Mem) := doI (f_X4_has fu 0 x1 m) (fun r_3 m_2 => if r_3 = 0 then (some ((-1000000001), m_2)) else (chk (inb x1 5) (if x2 = 0 then (some ((m_2 (vf (10 * 0 + x1.toNatClampNeg) 0)), m_2)) else (if x2 = 1 then (some ((m_2 (vf (10 * 0 + x1.toNatClampNeg) 1)), m_2)) else (if x2 = 2 then (some ((m_2 (vf (10 * 0 + x1.toNatClampNeg) 2)), m_2)) else (if x2 = 3 then (some ((m_2 (vf (10 * 0 + x1.toNatClampNeg) 3)), m_2)) else (if x2 = 4 then (some ((m_2 (vf (10 * 0 + x1.toNatClampNeg) 4)), m_2)) else (if x2 = 5 then (some ((m_2 (vf (10 * 0 + x1.toNatClampNeg) 5)), m_2)) else (if x2 = 6 then (some ((m_2 (vf (10 * 0 + x1.toNatClampNeg) 6)), m_2)) else (if x2 = 7 then (if x1 = (m_2 (sf 0 14)) then (f_X8_told_136 fu (10 * 0 + x1.toNatClampNeg) 1 m_2) else (f_X8_told_136 fu (10 * 0 + x1.toNatClampNeg) 0 m_2)) else (if x2 = 8 then (doI (f_X7_talks fu (10 * 0 + x1.toNatClampNeg) m_2) (fun r_16 m_15 => some (r_16, m_15))) else (if x2 = 9 then (doI (f_X7_yields fu (10 * 0 + x1.toNatClampNeg) m_2) (fun r_20 m_19 => if r_20 = 0 then (some (0, m_19)) else (some (1, m_19)))) else (if x2 = 10 then (doI (f_X7_worth fu (10 * 0 + x1.toNatClampNeg) m_2) (fun r_25 m_24 => some (r_25, m_24))) else (some ((-1000000001), m_2)))))))))))))))
set_option maxHeartbeats 4000000 in
set_option maxRecDepth 100000 in
theorem w_X8_told {X : TX} {p : Program} {l : Launch} {e : Env} {s : State} {mi : MethodId} {args : Array Value} {below : List Frame} {meth : Method} {c : Code} {Q : State → Prop} {r : Int32} {mE : Mem} (C : Cx X p s mi args c RX8 cX8_told 4) (hq : RetI X p l e (rmD 2) s mi args below meth c cX8_told .int Q r mE) {fu : Nat} {x1 : Int32} {x2 : Int32} {m : Mem} {H : Heap} {locs : List Loc} {ls : Array Slot} (h : f_X8_told fu x1 x2 m = some (r, mE))  (hW : Wd X s m H locs) (hl : lv_has ls 4 [(0, .ref (ad X 0 0)), (1, .int x1), (2, .int x2)]) : W p l e (rmD 2) s mi args below meth c H locs 0 0 Q (F0 mi 0 ls []) := by
  unfold f_X8_told at h
  refine lv_aload_n C.1 C.2.1 dX8_told_0 rfl (lv_at hl 0 rfl) ?_
  refine zg_X8_now C hW id_0 w_362 dX8_told_1 ?_
  refine lv_iload_n C.1 C.2.1 dX8_told_4 rfl (lv_at hl 1 rfl) ?_
  obtain ⟨r_3, m_2, hc_1, h⟩ := doI_E h
  refine zr_cVI C hW (c_X4_has (i0 := 0) (x1 := x1) hc_1 id_9_0) k_X4_has (zr_recv C hW id_9_0 zco_9 rfl) w_422 ⟨Nat.le_of_ble_eq_true rfl, Nat.le_of_ble_eq_true rfl⟩ ⟨Nat.le_refl 0, Nat.le_refl 0⟩ rfl hl.1 rfl (Nat.le_of_ble_eq_true rfl) dX8_told_5 (fun H locs hW => ?_)
  refine lv_if_ne (tgt := 14) C.1 C.2.1 dX8_told_8 (by decide) (fun hc_27 => ?_) (fun hc_27 => ?_)
  · have h := ite_f hc_27 h
    refine lv_aload_n C.1 C.2.1 dX8_told_14 rfl (lv_at hl 0 rfl) ?_
    refine zg_X8_now C hW id_0 w_362 dX8_told_15 ?_
    refine zg_X4_voices C hW id_9_0 w_225 dX8_told_18 ?_
    refine lv_iload_n C.1 C.2.1 dX8_told_21 rfl (lv_at hl 1 rfl) ?_
    obtain ⟨hb_4, h⟩ := chk_E h
    refine zaa_10 C hW (im_9_10 id_9_0) (inb_E hb_4) dX8_told_22 ?_
    refine lv_astore_n (lv' := [(3, .ref (ad X 11 (10 * 0 + x1.toNatClampNeg))), (0, .ref (ad X 0 0)), (1, .int x1), (2, .int x2)]) C.1 C.2.1 dX8_told_23 rfl hl (by decide) rfl (fun ls hl => ?_)
    refine lv_iload_n C.1 C.2.1 dX8_told_24 rfl (lv_at hl 3 rfl) ?_
    by_cases hc_5 : x2 = 0
    · have h := ite_t hc_5 h
      refine lv_tableIn (tgt := 84) C.1 C.2.1 dX8_told_25 (by rw [hc_5]; decide) (by rw [hc_5]; decide) (by rw [hc_5]; rfl) (by decide) ?_
      refine lv_aload_n C.1 C.2.1 dX8_told_84 rfl (lv_at hl 0 rfl) ?_
      refine zg_X7_kind C hW (ia_10 (im_9_10 id_9_0) (inb_E hb_4)) w_188 dX8_told_85 ?_
      exact ret_i h hq rfl hW dX8_told_88
    · have h := ite_f hc_5 h
      by_cases hc_6 : x2 = 1
      · have h := ite_t hc_6 h
        refine lv_tableIn (tgt := 89) C.1 C.2.1 dX8_told_25 (by rw [hc_6]; decide) (by rw [hc_6]; decide) (by rw [hc_6]; rfl) (by decide) ?_
        refine lv_aload_n C.1 C.2.1 dX8_told_89 rfl (lv_at hl 0 rfl) ?_
        refine zg_X7_wait C hW (ia_10 (im_9_10 id_9_0) (inb_E hb_4)) w_192 dX8_told_90 ?_
        exact ret_i h hq rfl hW dX8_told_93
      · have h := ite_f hc_6 h
        by_cases hc_7 : x2 = 2
        · have h := ite_t hc_7 h
          refine lv_tableIn (tgt := 94) C.1 C.2.1 dX8_told_25 (by rw [hc_7]; decide) (by rw [hc_7]; decide) (by rw [hc_7]; rfl) (by decide) ?_
          refine lv_aload_n C.1 C.2.1 dX8_told_94 rfl (lv_at hl 0 rfl) ?_
          refine zg_X7_talk C hW (ia_10 (im_9_10 id_9_0) (inb_E hb_4)) w_195 dX8_told_95 ?_
          exact ret_i h hq rfl hW dX8_told_98
        · have h := ite_f hc_7 h
          by_cases hc_8 : x2 = 3
          · have h := ite_t hc_8 h
            refine lv_tableIn (tgt := 99) C.1 C.2.1 dX8_told_25 (by rw [hc_8]; decide) (by rw [hc_8]; decide) (by rw [hc_8]; rfl) (by decide) ?_
            refine lv_aload_n C.1 C.2.1 dX8_told_99 rfl (lv_at hl 0 rfl) ?_
            refine zg_X7_pause C hW (ia_10 (im_9_10 id_9_0) (inb_E hb_4)) w_198 dX8_told_100 ?_
            exact ret_i h hq rfl hW dX8_told_103
          · have h := ite_f hc_8 h
            by_cases hc_9 : x2 = 4
            · have h := ite_t hc_9 h
              refine lv_tableIn (tgt := 104) C.1 C.2.1 dX8_told_25 (by rw [hc_9]; decide) (by rw [hc_9]; decide) (by rw [hc_9]; rfl) (by decide) ?_
              refine lv_aload_n C.1 C.2.1 dX8_told_104 rfl (lv_at hl 0 rfl) ?_
              refine zg_X7_left C hW (ia_10 (im_9_10 id_9_0) (inb_E hb_4)) w_200 dX8_told_105 ?_
              exact ret_i h hq rfl hW dX8_told_108
            · have h := ite_f hc_9 h
              by_cases hc_10 : x2 = 5
              · have h := ite_t hc_10 h
                refine lv_tableIn (tgt := 109) C.1 C.2.1 dX8_told_25 (by rw [hc_10]; decide) (by rw [hc_10]; decide) (by rw [hc_10]; rfl) (by decide) ?_
                refine lv_aload_n C.1 C.2.1 dX8_told_109 rfl (lv_at hl 0 rfl) ?_
                refine zg_X7_back C hW (ia_10 (im_9_10 id_9_0) (inb_E hb_4)) w_203 dX8_told_110 ?_
                exact ret_i h hq rfl hW dX8_told_113
              · have h := ite_f hc_10 h
                by_cases hc_11 : x2 = 6
                · have h := ite_t hc_11 h
                  refine lv_tableIn (tgt := 114) C.1 C.2.1 dX8_told_25 (by rw [hc_11]; decide) (by rw [hc_11]; decide) (by rw [hc_11]; rfl) (by decide) ?_
                  refine lv_aload_n C.1 C.2.1 dX8_told_114 rfl (lv_at hl 0 rfl) ?_
                  refine zg_X7_said C hW (ia_10 (im_9_10 id_9_0) (inb_E hb_4)) w_206 dX8_told_115 ?_
                  exact ret_i h hq rfl hW dX8_told_118
                · have h := ite_f hc_11 h
                  by_cases hc_13 : x2 = 7
                  · have h := ite_t hc_13 h
                    refine lv_tableIn (tgt := 119) C.1 C.2.1 dX8_told_25 (by rw [hc_13]; decide) (by rw [hc_13]; decide) (by rw [hc_13]; rfl) (by decide) ?_
                    refine lv_aload_n C.1 C.2.1 dX8_told_119 rfl (lv_at hl 0 rfl) ?_
                    refine lv_iload_n C.1 C.2.1 dX8_told_120 rfl (lv_at hl 2 rfl) ?_
                    refine lv_aload_n C.1 C.2.1 dX8_told_121 rfl (lv_at hl 1 rfl) ?_
                    refine zg_X8_now C hW id_0 w_362 dX8_told_122 ?_
                    refine zg_X4_last C hW id_9_0 w_251 dX8_told_125 ?_
                    refine lv_icmp_ne (tgt := 135) C.1 C.2.1 dX8_told_128 (by decide) (fun hc_12 => ?_) (fun hc_12 => ?_)
                    · have h := ite_f hc_12 h
                      refine lv_iconst (v := 0) C.1 C.2.1 dX8_told_135 rfl ?_
                      exact w_X8_told_136 C hq  h (ia_10 (im_9_10 id_9_0) (inb_E hb_4)) hW (lv_sub hl [] rfl)
                    · have h := ite_t hc_12 h
                      refine lv_iconst (v := 1) C.1 C.2.1 dX8_told_131 rfl ?_
                      refine lv_goto (tgt := 136) C.1 C.2.1 dX8_told_132 (by decide) ?_
                      exact w_X8_told_136 C hq  h (ia_10 (im_9_10 id_9_0) (inb_E hb_4)) hW (lv_sub hl [] rfl)
                  · have h := ite_f hc_13 h
                    by_cases hc_17 : x2 = 8
                    · have h := ite_t hc_17 h
                      refine lv_tableIn (tgt := 140) C.1 C.2.1 dX8_told_25 (by rw [hc_17]; decide) (by rw [hc_17]; decide) (by rw [hc_17]; rfl) (by decide) ?_
                      refine lv_aload_n C.1 C.2.1 dX8_told_140 rfl (lv_at hl 0 rfl) ?_
                      obtain ⟨r_16, m_15, hc_14, h⟩ := doI_E h
                      refine zr_cVI C hW (c_X7_talks (i0 := (10 * 0 + x1.toNatClampNeg)) hc_14 (ia_10 (im_9_10 id_9_0) (inb_E hb_4))) k_X7_talks (zr_recv C hW (ia_10 (im_9_10 id_9_0) (inb_E hb_4)) zco_11 rfl) w_433 ⟨Nat.le_of_ble_eq_true rfl, Nat.le_of_ble_eq_true rfl⟩ ⟨Nat.le_refl 0, Nat.le_refl 0⟩ rfl hl.1 rfl (Nat.le_of_ble_eq_true rfl) dX8_told_141 (fun H locs hW => ?_)
                      exact ret_i h hq rfl hW dX8_told_144
                    · have h := ite_f hc_17 h
                      by_cases hc_22 : x2 = 9
                      · have h := ite_t hc_22 h
                        refine lv_tableIn (tgt := 145) C.1 C.2.1 dX8_told_25 (by rw [hc_22]; decide) (by rw [hc_22]; decide) (by rw [hc_22]; rfl) (by decide) ?_
                        refine lv_aload_n C.1 C.2.1 dX8_told_145 rfl (lv_at hl 0 rfl) ?_
                        obtain ⟨r_20, m_19, hc_18, h⟩ := doI_E h
                        refine zr_cVI C hW (c_X7_yields (i0 := (10 * 0 + x1.toNatClampNeg)) hc_18 (ia_10 (im_9_10 id_9_0) (inb_E hb_4))) k_X7_yields (zr_recv C hW (ia_10 (im_9_10 id_9_0) (inb_E hb_4)) zco_11 rfl) w_437 ⟨Nat.le_of_ble_eq_true rfl, Nat.le_of_ble_eq_true rfl⟩ ⟨Nat.le_refl 0, Nat.le_refl 0⟩ rfl hl.1 rfl (Nat.le_of_ble_eq_true rfl) dX8_told_146 (fun H locs hW => ?_)
                        refine lv_if_eq (tgt := 156) C.1 C.2.1 dX8_told_149 (by decide) (fun hc_21 => ?_) (fun hc_21 => ?_)
                        · have h := ite_t hc_21 h
                          refine lv_iconst (v := 0) C.1 C.2.1 dX8_told_156 rfl ?_
                          exact ret_i h hq rfl hW dX8_told_157
                        · have h := ite_f hc_21 h
                          refine lv_iconst (v := 1) C.1 C.2.1 dX8_told_152 rfl ?_
                          refine lv_goto (tgt := 157) C.1 C.2.1 dX8_told_153 (by decide) ?_
                          exact ret_i h hq rfl hW dX8_told_157
                      · have h := ite_f hc_22 h
                        by_cases hc_26 : x2 = 10
                        · have h := ite_t hc_26 h
                          refine lv_tableIn (tgt := 158) C.1 C.2.1 dX8_told_25 (by rw [hc_26]; decide) (by rw [hc_26]; decide) (by rw [hc_26]; rfl) (by decide) ?_
                          refine lv_aload_n C.1 C.2.1 dX8_told_158 rfl (lv_at hl 0 rfl) ?_
                          obtain ⟨r_25, m_24, hc_23, h⟩ := doI_E h
                          refine zr_cVI C hW (c_X7_worth (i0 := (10 * 0 + x1.toNatClampNeg)) hc_23 (ia_10 (im_9_10 id_9_0) (inb_E hb_4))) k_X7_worth (zr_recv C hW (ia_10 (im_9_10 id_9_0) (inb_E hb_4)) zco_11 rfl) w_441 ⟨Nat.le_of_ble_eq_true rfl, Nat.le_of_ble_eq_true rfl⟩ ⟨Nat.le_refl 0, Nat.le_refl 0⟩ rfl hl.1 rfl (Nat.le_of_ble_eq_true rfl) dX8_told_159 (fun H locs hW => ?_)
                          exact ret_i h hq rfl hW dX8_told_162
                        · have h := ite_f hc_26 h
                          have nhc_5 := ne_k (0) rfl hc_5
                          have nhc_6 := ne_k (1) rfl hc_6
                          have nhc_7 := ne_k (2) rfl hc_7
                          have nhc_8 := ne_k (3) rfl hc_8
                          have nhc_9 := ne_k (4) rfl hc_9
                          have nhc_10 := ne_k (5) rfl hc_10
                          have nhc_11 := ne_k (6) rfl hc_11
                          have nhc_13 := ne_k (7) rfl hc_13
                          have nhc_17 := ne_k (8) rfl hc_17
                          have nhc_22 := ne_k (9) rfl hc_22
                          have nhc_26 := ne_k (10) rfl hc_26
                          refine lv_tableOut (tgt := 163) C.1 C.2.1 dX8_told_25 (by omega) (by decide) ?_
                          refine lv_ldc C.1 C.2.1 C.2.2.2.1 (C.2.2.2.2.1 _ w_408) dX8_told_163 ?_
                          exact ret_i h hq rfl hW dX8_told_165
  · have h := ite_t hc_27 h
    refine lv_ldc C.1 C.2.1 C.2.2.2.1 (C.2.2.2.2.1 _ w_408) dX8_told_11 ?_
    exact ret_i h hq rfl hW dX8_told_13
theorem c_X8_told {X : TX} {l : Launch} {fu : Nat} {x1 : Int32} {x2 : Int32} {m mE : Mem} {r : Int32} (h : f_X8_told fu x1 x2 m = some (r, mE))  : MetI X l yX8_told cX8_told 4 .int 2 [.ref (ad X 0 0), .int x1, .int x2] m r mE :=
  met_I (by decide) (Nat.le_of_ble_eq_true rfl) (fun p e s mi args below meth c ls Q C hq hW hl => w_X8_told C hq h  hW (lv_sub hl [0, 1, 2] rfl))
theorem k_X8_told : CalV yX8_told cX8_told 4 (some .int) RX8 2 := ⟨w_419, w_420, w_61, w_421, by decide +kernel⟩
theorem dX8_as_0 : decode cX8_as 0 = .ok (.aload_n 0, 1) := by decide +kernel
theorem dX8_as_1 : decode cX8_as 1 = .ok (.getfield 28, 3) := by decide +kernel
theorem dX8_as_4 : decode cX8_as 4 = .ok (.iload_n 1, 1) := by decide +kernel
theorem dX8_as_5 : decode cX8_as 5 = .ok (.invokevirtual 83, 3) := by decide +kernel
theorem dX8_as_8 : decode cX8_as 8 = .ok (.ifCond .eq 10, 3) := by decide +kernel
theorem dX8_as_11 : decode cX8_as 11 = .ok (.iload_n 2, 1) := by decide +kernel
theorem dX8_as_12 : decode cX8_as 12 = .ok (.invokestatic 63, 3) := by decide +kernel
theorem dX8_as_15 : decode cX8_as 15 = .ok (.ifCond .ne 6, 3) := by decide +kernel
theorem dX8_as_18 : decode cX8_as 18 = .ok (.ldc 73, 2) := by decide +kernel
theorem dX8_as_20 : decode cX8_as 20 = .ok (.ireturn, 1) := by decide +kernel
theorem dX8_as_21 : decode cX8_as 21 = .ok (.aload_n 0, 1) := by decide +kernel
theorem dX8_as_22 : decode cX8_as 22 = .ok (.getfield 28, 3) := by decide +kernel
theorem dX8_as_25 : decode cX8_as 25 = .ok (.getfield 86, 3) := by decide +kernel
theorem dX8_as_28 : decode cX8_as 28 = .ok (.iload_n 1, 1) := by decide +kernel
theorem dX8_as_29 : decode cX8_as 29 = .ok (.aaload, 1) := by decide +kernel
theorem dX8_as_30 : decode cX8_as 30 = .ok (.astore_n 3, 1) := by decide +kernel
theorem dX8_as_31 : decode cX8_as 31 = .ok (.aload_n 3, 1) := by decide +kernel
theorem dX8_as_32 : decode cX8_as 32 = .ok (.iload_n 2, 1) := by decide +kernel
theorem dX8_as_33 : decode cX8_as 33 = .ok (.invokevirtual 129, 3) := by decide +kernel
theorem dX8_as_36 : decode cX8_as 36 = .ok (.ifCond .eq 10, 3) := by decide +kernel
theorem dX8_as_39 : decode cX8_as 39 = .ok (.aload_n 3, 1) := by decide +kernel
theorem dX8_as_40 : decode cX8_as 40 = .ok (.getfield 94, 3) := by decide +kernel
theorem dX8_as_43 : decode cX8_as 43 = .ok (.goto 5, 3) := by decide +kernel
theorem dX8_as_46 : decode cX8_as 46 = .ok (.ldc 132, 2) := by decide +kernel
theorem dX8_as_48 : decode cX8_as 48 = .ok (.ireturn, 1) := by decide +kernel
def f_X8_as (fu : Nat)  (x1 : Int32) (x2 : Int32) (m : Mem) : Option (Int32 × Mem) := doI (f_X4_has fu 0 x1 m) (fun r_3 m_2 => if r_3 = 0 then (some ((-1000000001), m_2)) else (doI (f_X8_isKind fu x2 m_2) (fun r_6 m_5 => if r_6 = 0 then (some ((-1000000001), m_5)) else (chk (inb x1 5) (doI (f_X7_isOf fu (10 * 0 + x1.toNatClampNeg) x2 m_5) (fun r_10 m_9 => if r_10 = 0 then (some ((-1000000012), m_9)) else (some ((m_9 (vf (10 * 0 + x1.toNatClampNeg) 1)), m_9))))))))
set_option maxHeartbeats 4000000 in
set_option maxRecDepth 100000 in
theorem w_X8_as {X : TX} {p : Program} {l : Launch} {e : Env} {s : State} {mi : MethodId} {args : Array Value} {below : List Frame} {meth : Method} {c : Code} {Q : State → Prop} {r : Int32} {mE : Mem} (C : Cx X p s mi args c RX8 cX8_as 4) (hq : RetI X p l e (rmD 2) s mi args below meth c cX8_as .int Q r mE) {fu : Nat} {x1 : Int32} {x2 : Int32} {m : Mem} {H : Heap} {locs : List Loc} {ls : Array Slot} (h : f_X8_as fu x1 x2 m = some (r, mE))  (hW : Wd X s m H locs) (hl : lv_has ls 4 [(0, .ref (ad X 0 0)), (1, .int x1), (2, .int x2)]) : W p l e (rmD 2) s mi args below meth c H locs 0 0 Q (F0 mi 0 ls []) := by
  unfold f_X8_as at h
  refine lv_aload_n C.1 C.2.1 dX8_as_0 rfl (lv_at hl 0 rfl) ?_
  refine zg_X8_now C hW id_0 w_362 dX8_as_1 ?_
  refine lv_iload_n C.1 C.2.1 dX8_as_4 rfl (lv_at hl 1 rfl) ?_
  obtain ⟨r_3, m_2, hc_1, h⟩ := doI_E h
  refine zr_cVI C hW (c_X4_has (i0 := 0) (x1 := x1) hc_1 id_9_0) k_X4_has (zr_recv C hW id_9_0 zco_9 rfl) w_422 ⟨Nat.le_of_ble_eq_true rfl, Nat.le_of_ble_eq_true rfl⟩ ⟨Nat.le_refl 0, Nat.le_refl 0⟩ rfl hl.1 rfl (Nat.le_of_ble_eq_true rfl) dX8_as_5 (fun H locs hW => ?_)
  refine lv_if_eq (tgt := 18) C.1 C.2.1 dX8_as_8 (by decide) (fun hc_13 => ?_) (fun hc_13 => ?_)
  · have h := ite_t hc_13 h
    refine lv_ldc C.1 C.2.1 C.2.2.2.1 (C.2.2.2.2.1 _ w_408) dX8_as_18 ?_
    exact ret_i h hq rfl hW dX8_as_20
  · have h := ite_f hc_13 h
    refine lv_iload_n C.1 C.2.1 dX8_as_11 rfl (lv_at hl 2 rfl) ?_
    obtain ⟨r_6, m_5, hc_4, h⟩ := doI_E h
    refine zr_cSI C hW (c_X8_isKind (x0 := x2) hc_4 ) k_X8_isKind w_398 ⟨Nat.le_of_ble_eq_true rfl, Nat.le_of_ble_eq_true rfl⟩ ⟨Nat.le_refl 0, Nat.le_refl 0⟩ rfl hl.1 rfl (Nat.le_of_ble_eq_true rfl) dX8_as_12 (fun H locs hW => ?_)
    refine lv_if_ne (tgt := 21) C.1 C.2.1 dX8_as_15 (by decide) (fun hc_12 => ?_) (fun hc_12 => ?_)
    · have h := ite_f hc_12 h
      refine lv_aload_n C.1 C.2.1 dX8_as_21 rfl (lv_at hl 0 rfl) ?_
      refine zg_X8_now C hW id_0 w_362 dX8_as_22 ?_
      refine zg_X4_voices C hW id_9_0 w_225 dX8_as_25 ?_
      refine lv_iload_n C.1 C.2.1 dX8_as_28 rfl (lv_at hl 1 rfl) ?_
      obtain ⟨hb_7, h⟩ := chk_E h
      refine zaa_10 C hW (im_9_10 id_9_0) (inb_E hb_7) dX8_as_29 ?_
      refine lv_astore_n (lv' := [(3, .ref (ad X 11 (10 * 0 + x1.toNatClampNeg))), (0, .ref (ad X 0 0)), (1, .int x1), (2, .int x2)]) C.1 C.2.1 dX8_as_30 rfl hl (by decide) rfl (fun ls hl => ?_)
      refine lv_aload_n C.1 C.2.1 dX8_as_31 rfl (lv_at hl 0 rfl) ?_
      refine lv_iload_n C.1 C.2.1 dX8_as_32 rfl (lv_at hl 3 rfl) ?_
      obtain ⟨r_10, m_9, hc_8, h⟩ := doI_E h
      refine zr_cVI C hW (c_X7_isOf (i0 := (10 * 0 + x1.toNatClampNeg)) (x1 := x2) hc_8 (ia_10 (im_9_10 id_9_0) (inb_E hb_7))) k_X7_isOf (zr_recv C hW (ia_10 (im_9_10 id_9_0) (inb_E hb_7)) zco_11 rfl) w_449 ⟨Nat.le_of_ble_eq_true rfl, Nat.le_of_ble_eq_true rfl⟩ ⟨Nat.le_refl 0, Nat.le_refl 0⟩ rfl hl.1 rfl (Nat.le_of_ble_eq_true rfl) dX8_as_33 (fun H locs hW => ?_)
      refine lv_if_eq (tgt := 46) C.1 C.2.1 dX8_as_36 (by decide) (fun hc_11 => ?_) (fun hc_11 => ?_)
      · have h := ite_t hc_11 h
        refine lv_ldc C.1 C.2.1 C.2.2.2.1 (C.2.2.2.2.1 _ w_457) dX8_as_46 ?_
        exact ret_i h hq rfl hW dX8_as_48
      · have h := ite_f hc_11 h
        refine lv_aload_n C.1 C.2.1 dX8_as_39 rfl (lv_at hl 0 rfl) ?_
        refine zg_X7_wait C hW (ia_10 (im_9_10 id_9_0) (inb_E hb_7)) w_192 dX8_as_40 ?_
        refine lv_goto (tgt := 48) C.1 C.2.1 dX8_as_43 (by decide) ?_
        exact ret_i h hq rfl hW dX8_as_48
    · have h := ite_t hc_12 h
      refine lv_ldc C.1 C.2.1 C.2.2.2.1 (C.2.2.2.2.1 _ w_408) dX8_as_18 ?_
      exact ret_i h hq rfl hW dX8_as_20
theorem c_X8_as {X : TX} {l : Launch} {fu : Nat} {x1 : Int32} {x2 : Int32} {m mE : Mem} {r : Int32} (h : f_X8_as fu x1 x2 m = some (r, mE))  : MetI X l yX8_as cX8_as 4 .int 2 [.ref (ad X 0 0), .int x1, .int x2] m r mE :=
  met_I (by decide) (Nat.le_of_ble_eq_true rfl) (fun p e s mi args below meth c ls Q C hq hW hl => w_X8_as C hq h  hW (lv_sub hl [0, 1, 2] rfl))
theorem k_X8_as : CalV yX8_as cX8_as 4 (some .int) RX8 2 := ⟨w_446, w_447, w_61, w_448, by decide +kernel⟩
theorem dX8_turns_0 : decode cX8_turns 0 = .ok (.aload_n 0, 1) := by decide +kernel
theorem dX8_turns_1 : decode cX8_turns 1 = .ok (.getfield 28, 3) := by decide +kernel
theorem dX8_turns_4 : decode cX8_turns 4 = .ok (.iload_n 1, 1) := by decide +kernel
theorem dX8_turns_5 : decode cX8_turns 5 = .ok (.invokevirtual 83, 3) := by decide +kernel
theorem dX8_turns_8 : decode cX8_turns 8 = .ok (.ifCond .eq 10, 3) := by decide +kernel
theorem dX8_turns_11 : decode cX8_turns 11 = .ok (.iload_n 2, 1) := by decide +kernel
theorem dX8_turns_12 : decode cX8_turns 12 = .ok (.invokestatic 63, 3) := by decide +kernel
theorem dX8_turns_15 : decode cX8_turns 15 = .ok (.ifCond .ne 6, 3) := by decide +kernel
theorem dX8_turns_18 : decode cX8_turns 18 = .ok (.ldc 73, 2) := by decide +kernel
theorem dX8_turns_20 : decode cX8_turns 20 = .ok (.ireturn, 1) := by decide +kernel
theorem dX8_turns_21 : decode cX8_turns 21 = .ok (.aload_n 0, 1) := by decide +kernel
theorem dX8_turns_22 : decode cX8_turns 22 = .ok (.getfield 28, 3) := by decide +kernel
theorem dX8_turns_25 : decode cX8_turns 25 = .ok (.getfield 86, 3) := by decide +kernel
theorem dX8_turns_28 : decode cX8_turns 28 = .ok (.iload_n 1, 1) := by decide +kernel
theorem dX8_turns_29 : decode cX8_turns 29 = .ok (.aaload, 1) := by decide +kernel
theorem dX8_turns_30 : decode cX8_turns 30 = .ok (.astore_n 3, 1) := by decide +kernel
theorem dX8_turns_31 : decode cX8_turns 31 = .ok (.aload_n 3, 1) := by decide +kernel
theorem dX8_turns_32 : decode cX8_turns 32 = .ok (.getfield 90, 3) := by decide +kernel
theorem dX8_turns_35 : decode cX8_turns 35 = .ok (.istore 4, 2) := by decide +kernel
theorem dX8_turns_37 : decode cX8_turns 37 = .ok (.aload_n 3, 1) := by decide +kernel
theorem dX8_turns_38 : decode cX8_turns 38 = .ok (.iload_n 2, 1) := by decide +kernel
theorem dX8_turns_39 : decode cX8_turns 39 = .ok (.putfield 90, 3) := by decide +kernel
theorem dX8_turns_42 : decode cX8_turns 42 = .ok (.iload 4, 2) := by decide +kernel
theorem dX8_turns_44 : decode cX8_turns 44 = .ok (.ireturn, 1) := by decide +kernel
def f_X8_turns (fu : Nat)  (x1 : Int32) (x2 : Int32) (m : Mem) : Option (Int32 × Mem) := doI (f_X4_has fu 0 x1 m) (fun r_3 m_2 => if r_3 = 0 then (some ((-1000000001), m_2)) else (doI (f_X8_isKind fu x2 m_2) (fun r_6 m_5 => if r_6 = 0 then (some ((-1000000001), m_5)) else (chk (inb x1 5) (seqM (m_5 (vf (10 * 0 + x1.toNatClampNeg) 0)) (fun x_8 : Int32 => seqM (upd m_5 (vf (10 * 0 + x1.toNatClampNeg) 0) x2) (fun m_10 : Mem => some (x_8, m_10))))))))
set_option maxHeartbeats 4000000 in
set_option maxRecDepth 100000 in
theorem w_X8_turns {X : TX} {p : Program} {l : Launch} {e : Env} {s : State} {mi : MethodId} {args : Array Value} {below : List Frame} {meth : Method} {c : Code} {Q : State → Prop} {r : Int32} {mE : Mem} (C : Cx X p s mi args c RX8 cX8_turns 5) (hq : RetI X p l e (rmD 2) s mi args below meth c cX8_turns .int Q r mE) {fu : Nat} {x1 : Int32} {x2 : Int32} {m : Mem} {H : Heap} {locs : List Loc} {ls : Array Slot} (h : f_X8_turns fu x1 x2 m = some (r, mE))  (hW : Wd X s m H locs) (hl : lv_has ls 5 [(0, .ref (ad X 0 0)), (1, .int x1), (2, .int x2)]) : W p l e (rmD 2) s mi args below meth c H locs 0 0 Q (F0 mi 0 ls []) := by
  unfold f_X8_turns at h
  refine lv_aload_n C.1 C.2.1 dX8_turns_0 rfl (lv_at hl 0 rfl) ?_
  refine zg_X8_now C hW id_0 w_362 dX8_turns_1 ?_
  refine lv_iload_n C.1 C.2.1 dX8_turns_4 rfl (lv_at hl 1 rfl) ?_
  obtain ⟨r_3, m_2, hc_1, h⟩ := doI_E h
  refine zr_cVI C hW (c_X4_has (i0 := 0) (x1 := x1) hc_1 id_9_0) k_X4_has (zr_recv C hW id_9_0 zco_9 rfl) w_422 ⟨Nat.le_of_ble_eq_true rfl, Nat.le_of_ble_eq_true rfl⟩ ⟨Nat.le_refl 0, Nat.le_refl 0⟩ rfl hl.1 rfl (Nat.le_of_ble_eq_true rfl) dX8_turns_5 (fun H locs hW => ?_)
  refine lv_if_eq (tgt := 18) C.1 C.2.1 dX8_turns_8 (by decide) (fun hc_13 => ?_) (fun hc_13 => ?_)
  · have h := ite_t hc_13 h
    refine lv_ldc C.1 C.2.1 C.2.2.2.1 (C.2.2.2.2.1 _ w_408) dX8_turns_18 ?_
    exact ret_i h hq rfl hW dX8_turns_20
  · have h := ite_f hc_13 h
    refine lv_iload_n C.1 C.2.1 dX8_turns_11 rfl (lv_at hl 2 rfl) ?_
    obtain ⟨r_6, m_5, hc_4, h⟩ := doI_E h
    refine zr_cSI C hW (c_X8_isKind (x0 := x2) hc_4 ) k_X8_isKind w_398 ⟨Nat.le_of_ble_eq_true rfl, Nat.le_of_ble_eq_true rfl⟩ ⟨Nat.le_refl 0, Nat.le_refl 0⟩ rfl hl.1 rfl (Nat.le_of_ble_eq_true rfl) dX8_turns_12 (fun H locs hW => ?_)
    refine lv_if_ne (tgt := 21) C.1 C.2.1 dX8_turns_15 (by decide) (fun hc_12 => ?_) (fun hc_12 => ?_)
    · have h := ite_f hc_12 h
      refine lv_aload_n C.1 C.2.1 dX8_turns_21 rfl (lv_at hl 0 rfl) ?_
      refine zg_X8_now C hW id_0 w_362 dX8_turns_22 ?_
      refine zg_X4_voices C hW id_9_0 w_225 dX8_turns_25 ?_
      refine lv_iload_n C.1 C.2.1 dX8_turns_28 rfl (lv_at hl 1 rfl) ?_
      obtain ⟨hb_7, h⟩ := chk_E h
      refine zaa_10 C hW (im_9_10 id_9_0) (inb_E hb_7) dX8_turns_29 ?_
      refine lv_astore_n (lv' := [(3, .ref (ad X 11 (10 * 0 + x1.toNatClampNeg))), (0, .ref (ad X 0 0)), (1, .int x1), (2, .int x2)]) C.1 C.2.1 dX8_turns_30 rfl hl (by decide) rfl (fun ls hl => ?_)
      refine lv_aload_n C.1 C.2.1 dX8_turns_31 rfl (lv_at hl 0 rfl) ?_
      refine zg_X7_kind C hW (ia_10 (im_9_10 id_9_0) (inb_E hb_7)) w_188 dX8_turns_32 ?_
      obtain ⟨x_8, e_9, h⟩ := seqM_E h
      refine lv_name e_9 ?_
      refine lv_istore (lv' := [(4, .int x_8), (3, .ref (ad X 11 (10 * 0 + x1.toNatClampNeg))), (0, .ref (ad X 0 0)), (1, .int x1), (2, .int x2)]) C.1 C.2.1 dX8_turns_35 hl (by decide) rfl (fun ls hl => ?_)
      refine lv_aload_n C.1 C.2.1 dX8_turns_37 rfl (lv_at hl 1 rfl) ?_
      refine lv_iload_n C.1 C.2.1 dX8_turns_38 rfl (lv_at hl 4 rfl) ?_
      obtain ⟨m_10, e_11, h⟩ := seqM_E h
      refine zp_X7_kind C hW (ia_10 (im_9_10 id_9_0) (inb_E hb_7)) w_188 e_11 dX8_turns_39 (fun H locs hW => ?_)
      refine lv_iload C.1 C.2.1 dX8_turns_42 (lv_at hl 0 rfl) ?_
      exact ret_i h hq rfl hW dX8_turns_44
    · have h := ite_t hc_12 h
      refine lv_ldc C.1 C.2.1 C.2.2.2.1 (C.2.2.2.2.1 _ w_408) dX8_turns_18 ?_
      exact ret_i h hq rfl hW dX8_turns_20
theorem c_X8_turns {X : TX} {l : Launch} {fu : Nat} {x1 : Int32} {x2 : Int32} {m mE : Mem} {r : Int32} (h : f_X8_turns fu x1 x2 m = some (r, mE))  : MetI X l yX8_turns cX8_turns 5 .int 2 [.ref (ad X 0 0), .int x1, .int x2] m r mE :=
  met_I (by decide) (Nat.le_of_ble_eq_true rfl) (fun p e s mi args below meth c ls Q C hq hW hl => w_X8_turns C hq h  hW (lv_sub hl [0, 1, 2] rfl))
theorem k_X8_turns : CalV yX8_turns cX8_turns 5 (some .int) RX8 2 := ⟨w_459, w_460, w_61, w_461, by decide +kernel⟩
theorem dX8_set_0 : decode cX8_set 0 = .ok (.aload_n 0, 1) := by decide +kernel
theorem dX8_set_1 : decode cX8_set 1 = .ok (.getfield 28, 3) := by decide +kernel
theorem dX8_set_4 : decode cX8_set 4 = .ok (.iload_n 1, 1) := by decide +kernel
theorem dX8_set_5 : decode cX8_set 5 = .ok (.invokevirtual 83, 3) := by decide +kernel
theorem dX8_set_8 : decode cX8_set 8 = .ok (.ifCond .eq 11, 3) := by decide +kernel
theorem dX8_set_11 : decode cX8_set 11 = .ok (.iload_n 2, 1) := by decide +kernel
theorem dX8_set_12 : decode cX8_set 12 = .ok (.iload_n 3, 1) := by decide +kernel
theorem dX8_set_13 : decode cX8_set 13 = .ok (.invokestatic 67, 3) := by decide +kernel
theorem dX8_set_16 : decode cX8_set 16 = .ok (.ifCond .ne 6, 3) := by decide +kernel
theorem dX8_set_19 : decode cX8_set 19 = .ok (.ldc 73, 2) := by decide +kernel
theorem dX8_set_21 : decode cX8_set 21 = .ok (.ireturn, 1) := by decide +kernel
theorem dX8_set_22 : decode cX8_set 22 = .ok (.aload_n 0, 1) := by decide +kernel
theorem dX8_set_23 : decode cX8_set 23 = .ok (.getfield 28, 3) := by decide +kernel
theorem dX8_set_26 : decode cX8_set 26 = .ok (.getfield 86, 3) := by decide +kernel
theorem dX8_set_29 : decode cX8_set 29 = .ok (.iload_n 1, 1) := by decide +kernel
theorem dX8_set_30 : decode cX8_set 30 = .ok (.aaload, 1) := by decide +kernel
theorem dX8_set_31 : decode cX8_set 31 = .ok (.iload_n 2, 1) := by decide +kernel
theorem dX8_set_32 : decode cX8_set 32 = .ok (.iload_n 3, 1) := by decide +kernel
theorem dX8_set_33 : decode cX8_set 33 = .ok (.invokevirtual 133, 3) := by decide +kernel
theorem dX8_set_36 : decode cX8_set 36 = .ok (.ireturn, 1) := by decide +kernel
def f_X8_set (fu : Nat)  (x1 : Int32) (x2 : Int32) (x3 : Int32) (m : Mem) : Option (Int32 × Mem) := doI (f_X4_has fu 0 x1 m) (fun r_3 m_2 => if r_3 = 0 then (some ((-1000000001), m_2)) else (doI (f_X7_allows fu x2 x3 m_2) (fun r_6 m_5 => if r_6 = 0 then (some ((-1000000001), m_5)) else (chk (inb x1 5) (doI (f_X7_put fu (10 * 0 + x1.toNatClampNeg) x2 x3 m_5) (fun r_10 m_9 => some (r_10, m_9)))))))
set_option maxHeartbeats 4000000 in
set_option maxRecDepth 100000 in
theorem w_X8_set {X : TX} {p : Program} {l : Launch} {e : Env} {s : State} {mi : MethodId} {args : Array Value} {below : List Frame} {meth : Method} {c : Code} {Q : State → Prop} {r : Int32} {mE : Mem} (C : Cx X p s mi args c RX8 cX8_set 4) (hq : RetI X p l e (rmD 2) s mi args below meth c cX8_set .int Q r mE) {fu : Nat} {x1 : Int32} {x2 : Int32} {x3 : Int32} {m : Mem} {H : Heap} {locs : List Loc} {ls : Array Slot} (h : f_X8_set fu x1 x2 x3 m = some (r, mE))  (hW : Wd X s m H locs) (hl : lv_has ls 4 [(0, .ref (ad X 0 0)), (1, .int x1), (2, .int x2), (3, .int x3)]) : W p l e (rmD 2) s mi args below meth c H locs 0 0 Q (F0 mi 0 ls []) := by
  unfold f_X8_set at h
  refine lv_aload_n C.1 C.2.1 dX8_set_0 rfl (lv_at hl 0 rfl) ?_
  refine zg_X8_now C hW id_0 w_362 dX8_set_1 ?_
  refine lv_iload_n C.1 C.2.1 dX8_set_4 rfl (lv_at hl 1 rfl) ?_
  obtain ⟨r_3, m_2, hc_1, h⟩ := doI_E h
  refine zr_cVI C hW (c_X4_has (i0 := 0) (x1 := x1) hc_1 id_9_0) k_X4_has (zr_recv C hW id_9_0 zco_9 rfl) w_422 ⟨Nat.le_of_ble_eq_true rfl, Nat.le_of_ble_eq_true rfl⟩ ⟨Nat.le_refl 0, Nat.le_refl 0⟩ rfl hl.1 rfl (Nat.le_of_ble_eq_true rfl) dX8_set_5 (fun H locs hW => ?_)
  refine lv_if_eq (tgt := 19) C.1 C.2.1 dX8_set_8 (by decide) (fun hc_12 => ?_) (fun hc_12 => ?_)
  · have h := ite_t hc_12 h
    refine lv_ldc C.1 C.2.1 C.2.2.2.1 (C.2.2.2.2.1 _ w_408) dX8_set_19 ?_
    exact ret_i h hq rfl hW dX8_set_21
  · have h := ite_f hc_12 h
    refine lv_iload_n C.1 C.2.1 dX8_set_11 rfl (lv_at hl 2 rfl) ?_
    refine lv_iload_n C.1 C.2.1 dX8_set_12 rfl (lv_at hl 3 rfl) ?_
    obtain ⟨r_6, m_5, hc_4, h⟩ := doI_E h
    refine zr_cSI C hW (c_X7_allows (x0 := x2) (x1 := x3) hc_4 ) k_X7_allows w_404 ⟨Nat.le_of_ble_eq_true rfl, Nat.le_of_ble_eq_true rfl⟩ ⟨Nat.le_refl 0, Nat.le_refl 0⟩ rfl hl.1 rfl (Nat.le_of_ble_eq_true rfl) dX8_set_13 (fun H locs hW => ?_)
    refine lv_if_ne (tgt := 22) C.1 C.2.1 dX8_set_16 (by decide) (fun hc_11 => ?_) (fun hc_11 => ?_)
    · have h := ite_f hc_11 h
      refine lv_aload_n C.1 C.2.1 dX8_set_22 rfl (lv_at hl 0 rfl) ?_
      refine zg_X8_now C hW id_0 w_362 dX8_set_23 ?_
      refine zg_X4_voices C hW id_9_0 w_225 dX8_set_26 ?_
      refine lv_iload_n C.1 C.2.1 dX8_set_29 rfl (lv_at hl 1 rfl) ?_
      obtain ⟨hb_7, h⟩ := chk_E h
      refine zaa_10 C hW (im_9_10 id_9_0) (inb_E hb_7) dX8_set_30 ?_
      refine lv_iload_n C.1 C.2.1 dX8_set_31 rfl (lv_at hl 2 rfl) ?_
      refine lv_iload_n C.1 C.2.1 dX8_set_32 rfl (lv_at hl 3 rfl) ?_
      obtain ⟨r_10, m_9, hc_8, h⟩ := doI_E h
      refine zr_cVI C hW (c_X7_put (i0 := (10 * 0 + x1.toNatClampNeg)) (x1 := x2) (x2 := x3) hc_8 (ia_10 (im_9_10 id_9_0) (inb_E hb_7))) k_X7_put (zr_recv C hW (ia_10 (im_9_10 id_9_0) (inb_E hb_7)) zco_11 rfl) w_466 ⟨Nat.le_of_ble_eq_true rfl, Nat.le_of_ble_eq_true rfl⟩ ⟨Nat.le_refl 0, Nat.le_refl 0⟩ rfl hl.1 rfl (Nat.le_of_ble_eq_true rfl) dX8_set_33 (fun H locs hW => ?_)
      exact ret_i h hq rfl hW dX8_set_36
    · have h := ite_t hc_11 h
      refine lv_ldc C.1 C.2.1 C.2.2.2.1 (C.2.2.2.2.1 _ w_408) dX8_set_19 ?_
      exact ret_i h hq rfl hW dX8_set_21
theorem c_X8_set {X : TX} {l : Launch} {fu : Nat} {x1 : Int32} {x2 : Int32} {x3 : Int32} {m mE : Mem} {r : Int32} (h : f_X8_set fu x1 x2 x3 m = some (r, mE))  : MetI X l yX8_set cX8_set 4 .int 2 [.ref (ad X 0 0), .int x1, .int x2, .int x3] m r mE :=
  met_I (by decide) (Nat.le_of_ble_eq_true rfl) (fun p e s mi args below meth c ls Q C hq hW hl => w_X8_set C hq h  hW (lv_sub hl [0, 1, 2, 3] rfl))
theorem k_X8_set : CalV yX8_set cX8_set 4 (some .int) RX8 3 := ⟨w_463, w_464, w_61, w_465, by decide +kernel⟩
theorem dX8_speak_0 : decode cX8_speak 0 = .ok (.aload_n 0, 1) := by decide +kernel
theorem dX8_speak_1 : decode cX8_speak 1 = .ok (.getfield 28, 3) := by decide +kernel
theorem dX8_speak_4 : decode cX8_speak 4 = .ok (.iload_n 1, 1) := by decide +kernel
theorem dX8_speak_5 : decode cX8_speak 5 = .ok (.invokevirtual 83, 3) := by decide +kernel
theorem dX8_speak_8 : decode cX8_speak 8 = .ok (.ifCond .eq 13, 3) := by decide +kernel
theorem dX8_speak_11 : decode cX8_speak 11 = .ok (.iload_n 2, 1) := by decide +kernel
theorem dX8_speak_12 : decode cX8_speak 12 = .ok (.iconst 1, 1) := by decide +kernel
theorem dX8_speak_13 : decode cX8_speak 13 = .ok (.bipush 60, 2) := by decide +kernel
theorem dX8_speak_15 : decode cX8_speak 15 = .ok (.invokestatic 137, 3) := by decide +kernel
theorem dX8_speak_18 : decode cX8_speak 18 = .ok (.ifCond .ne 6, 3) := by decide +kernel
theorem dX8_speak_21 : decode cX8_speak 21 = .ok (.ldc 73, 2) := by decide +kernel
theorem dX8_speak_23 : decode cX8_speak 23 = .ok (.ireturn, 1) := by decide +kernel
theorem dX8_speak_24 : decode cX8_speak 24 = .ok (.aload_n 0, 1) := by decide +kernel
theorem dX8_speak_25 : decode cX8_speak 25 = .ok (.getfield 28, 3) := by decide +kernel
theorem dX8_speak_28 : decode cX8_speak 28 = .ok (.getfield 86, 3) := by decide +kernel
theorem dX8_speak_31 : decode cX8_speak 31 = .ok (.iload_n 1, 1) := by decide +kernel
theorem dX8_speak_32 : decode cX8_speak 32 = .ok (.aaload, 1) := by decide +kernel
theorem dX8_speak_33 : decode cX8_speak 33 = .ok (.astore_n 3, 1) := by decide +kernel
theorem dX8_speak_34 : decode cX8_speak 34 = .ok (.aload_n 3, 1) := by decide +kernel
theorem dX8_speak_35 : decode cX8_speak 35 = .ok (.getfield 103, 3) := by decide +kernel
theorem dX8_speak_38 : decode cX8_speak 38 = .ok (.istore 4, 2) := by decide +kernel
theorem dX8_speak_40 : decode cX8_speak 40 = .ok (.aload_n 3, 1) := by decide +kernel
theorem dX8_speak_41 : decode cX8_speak 41 = .ok (.iload_n 2, 1) := by decide +kernel
theorem dX8_speak_42 : decode cX8_speak 42 = .ok (.putfield 103, 3) := by decide +kernel
theorem dX8_speak_45 : decode cX8_speak 45 = .ok (.aload_n 3, 1) := by decide +kernel
theorem dX8_speak_46 : decode cX8_speak 46 = .ok (.dup, 1) := by decide +kernel
theorem dX8_speak_47 : decode cX8_speak 47 = .ok (.getfield 109, 3) := by decide +kernel
theorem dX8_speak_50 : decode cX8_speak 50 = .ok (.iconst 1, 1) := by decide +kernel
theorem dX8_speak_51 : decode cX8_speak 51 = .ok (.iadd, 1) := by decide +kernel
theorem dX8_speak_52 : decode cX8_speak 52 = .ok (.putfield 109, 3) := by decide +kernel
theorem dX8_speak_55 : decode cX8_speak 55 = .ok (.iload 4, 2) := by decide +kernel
theorem dX8_speak_57 : decode cX8_speak 57 = .ok (.ireturn, 1) := by decide +kernel
def f_X8_speak (fu : Nat)  (x1 : Int32) (x2 : Int32) (m : Mem) : Option (Int32 × Mem) := doI (f_X4_has fu 0 x1 m) (fun r_3 m_2 => if r_3 = 0 then (some ((-1000000001), m_2)) else (doI (f_X8_within fu x2 1 60 m_2) (fun r_6 m_5 => if r_6 = 0 then (some ((-1000000001), m_5)) else (chk (inb x1 5) (seqM (m_5 (vf (10 * 0 + x1.toNatClampNeg) 4)) (fun x_8 : Int32 => seqM (upd m_5 (vf (10 * 0 + x1.toNatClampNeg) 4) x2) (fun m_10 : Mem => seqM (upd m_10 (vf (10 * 0 + x1.toNatClampNeg) 6) ((m_10 (vf (10 * 0 + x1.toNatClampNeg) 6)) + 1)) (fun m_12 : Mem => some (x_8, m_12)))))))))
set_option maxHeartbeats 4000000 in
set_option maxRecDepth 100000 in
theorem w_X8_speak {X : TX} {p : Program} {l : Launch} {e : Env} {s : State} {mi : MethodId} {args : Array Value} {below : List Frame} {meth : Method} {c : Code} {Q : State → Prop} {r : Int32} {mE : Mem} (C : Cx X p s mi args c RX8 cX8_speak 5) (hq : RetI X p l e (rmD 1) s mi args below meth c cX8_speak .int Q r mE) {fu : Nat} {x1 : Int32} {x2 : Int32} {m : Mem} {H : Heap} {locs : List Loc} {ls : Array Slot} (h : f_X8_speak fu x1 x2 m = some (r, mE))  (hW : Wd X s m H locs) (hl : lv_has ls 5 [(0, .ref (ad X 0 0)), (1, .int x1), (2, .int x2)]) : W p l e (rmD 1) s mi args below meth c H locs 0 0 Q (F0 mi 0 ls []) := by
  unfold f_X8_speak at h
  refine lv_aload_n C.1 C.2.1 dX8_speak_0 rfl (lv_at hl 0 rfl) ?_
  refine zg_X8_now C hW id_0 w_362 dX8_speak_1 ?_
  refine lv_iload_n C.1 C.2.1 dX8_speak_4 rfl (lv_at hl 1 rfl) ?_
  obtain ⟨r_3, m_2, hc_1, h⟩ := doI_E h
  refine zr_cVI C hW (c_X4_has (i0 := 0) (x1 := x1) hc_1 id_9_0) k_X4_has (zr_recv C hW id_9_0 zco_9 rfl) w_422 ⟨Nat.le_of_ble_eq_true rfl, Nat.le_of_ble_eq_true rfl⟩ ⟨Nat.le_refl 0, Nat.le_refl 0⟩ rfl hl.1 rfl (Nat.le_of_ble_eq_true rfl) dX8_speak_5 (fun H locs hW => ?_)
  refine lv_if_eq (tgt := 21) C.1 C.2.1 dX8_speak_8 (by decide) (fun hc_15 => ?_) (fun hc_15 => ?_)
  · have h := ite_t hc_15 h
    refine lv_ldc C.1 C.2.1 C.2.2.2.1 (C.2.2.2.2.1 _ w_408) dX8_speak_21 ?_
    exact ret_i h hq rfl hW dX8_speak_23
  · have h := ite_f hc_15 h
    refine lv_iload_n C.1 C.2.1 dX8_speak_11 rfl (lv_at hl 2 rfl) ?_
    refine lv_iconst (v := 1) C.1 C.2.1 dX8_speak_12 rfl ?_
    refine lv_bipush (v := 60) C.1 C.2.1 dX8_speak_13 rfl ?_
    obtain ⟨r_6, m_5, hc_4, h⟩ := doI_E h
    refine zr_cSI C hW (c_X8_within (x0 := x2) (x1 := 1) (x2 := 60) hc_4 ) k_X8_within w_401 ⟨Nat.le_of_ble_eq_true rfl, Nat.le_of_ble_eq_true rfl⟩ ⟨Nat.le_refl 0, Nat.le_refl 0⟩ rfl hl.1 rfl (Nat.le_of_ble_eq_true rfl) dX8_speak_15 (fun H locs hW => ?_)
    refine lv_if_ne (tgt := 24) C.1 C.2.1 dX8_speak_18 (by decide) (fun hc_14 => ?_) (fun hc_14 => ?_)
    · have h := ite_f hc_14 h
      refine lv_aload_n C.1 C.2.1 dX8_speak_24 rfl (lv_at hl 0 rfl) ?_
      refine zg_X8_now C hW id_0 w_362 dX8_speak_25 ?_
      refine zg_X4_voices C hW id_9_0 w_225 dX8_speak_28 ?_
      refine lv_iload_n C.1 C.2.1 dX8_speak_31 rfl (lv_at hl 1 rfl) ?_
      obtain ⟨hb_7, h⟩ := chk_E h
      refine zaa_10 C hW (im_9_10 id_9_0) (inb_E hb_7) dX8_speak_32 ?_
      refine lv_astore_n (lv' := [(3, .ref (ad X 11 (10 * 0 + x1.toNatClampNeg))), (0, .ref (ad X 0 0)), (1, .int x1), (2, .int x2)]) C.1 C.2.1 dX8_speak_33 rfl hl (by decide) rfl (fun ls hl => ?_)
      refine lv_aload_n C.1 C.2.1 dX8_speak_34 rfl (lv_at hl 0 rfl) ?_
      refine zg_X7_left C hW (ia_10 (im_9_10 id_9_0) (inb_E hb_7)) w_200 dX8_speak_35 ?_
      obtain ⟨x_8, e_9, h⟩ := seqM_E h
      refine lv_name e_9 ?_
      refine lv_istore (lv' := [(4, .int x_8), (3, .ref (ad X 11 (10 * 0 + x1.toNatClampNeg))), (0, .ref (ad X 0 0)), (1, .int x1), (2, .int x2)]) C.1 C.2.1 dX8_speak_38 hl (by decide) rfl (fun ls hl => ?_)
      refine lv_aload_n C.1 C.2.1 dX8_speak_40 rfl (lv_at hl 1 rfl) ?_
      refine lv_iload_n C.1 C.2.1 dX8_speak_41 rfl (lv_at hl 4 rfl) ?_
      obtain ⟨m_10, e_11, h⟩ := seqM_E h
      refine zp_X7_left C hW (ia_10 (im_9_10 id_9_0) (inb_E hb_7)) w_200 e_11 dX8_speak_42 (fun H locs hW => ?_)
      refine lv_aload_n C.1 C.2.1 dX8_speak_45 rfl (lv_at hl 1 rfl) ?_
      refine lv_dup C.1 C.2.1 dX8_speak_46 rfl ?_
      refine zg_X7_said C hW (ia_10 (im_9_10 id_9_0) (inb_E hb_7)) w_206 dX8_speak_47 ?_
      refine lv_iconst (v := 1) C.1 C.2.1 dX8_speak_50 rfl ?_
      refine lv_iadd C.1 C.2.1 dX8_speak_51 ?_
      obtain ⟨m_12, e_13, h⟩ := seqM_E h
      refine zp_X7_said C hW (ia_10 (im_9_10 id_9_0) (inb_E hb_7)) w_206 e_13 dX8_speak_52 (fun H locs hW => ?_)
      refine lv_iload C.1 C.2.1 dX8_speak_55 (lv_at hl 0 rfl) ?_
      exact ret_i h hq rfl hW dX8_speak_57
    · have h := ite_t hc_14 h
      refine lv_ldc C.1 C.2.1 C.2.2.2.1 (C.2.2.2.2.1 _ w_408) dX8_speak_21 ?_
      exact ret_i h hq rfl hW dX8_speak_23
theorem c_X8_speak {X : TX} {l : Launch} {fu : Nat} {x1 : Int32} {x2 : Int32} {m mE : Mem} {r : Int32} (h : f_X8_speak fu x1 x2 m = some (r, mE))  : MetI X l yX8_speak cX8_speak 5 .int 1 [.ref (ad X 0 0), .int x1, .int x2] m r mE :=
  met_I (by decide) (Nat.le_of_ble_eq_true rfl) (fun p e s mi args below meth c ls Q C hq hW hl => w_X8_speak C hq h  hW (lv_sub hl [0, 1, 2] rfl))
theorem k_X8_speak : CalV yX8_speak cX8_speak 5 (some .int) RX8 2 := ⟨w_471, w_472, w_61, w_473, by decide +kernel⟩
theorem dX8_hush_0 : decode cX8_hush 0 = .ok (.aload_n 0, 1) := by decide +kernel
theorem dX8_hush_1 : decode cX8_hush 1 = .ok (.getfield 28, 3) := by decide +kernel
theorem dX8_hush_4 : decode cX8_hush 4 = .ok (.iload_n 1, 1) := by decide +kernel
theorem dX8_hush_5 : decode cX8_hush 5 = .ok (.invokevirtual 83, 3) := by decide +kernel
theorem dX8_hush_8 : decode cX8_hush 8 = .ok (.ifCond .ne 6, 3) := by decide +kernel
theorem dX8_hush_11 : decode cX8_hush 11 = .ok (.ldc 73, 2) := by decide +kernel
theorem dX8_hush_13 : decode cX8_hush 13 = .ok (.ireturn, 1) := by decide +kernel
theorem dX8_hush_14 : decode cX8_hush 14 = .ok (.aload_n 0, 1) := by decide +kernel
theorem dX8_hush_15 : decode cX8_hush 15 = .ok (.getfield 28, 3) := by decide +kernel
theorem dX8_hush_18 : decode cX8_hush 18 = .ok (.getfield 86, 3) := by decide +kernel
theorem dX8_hush_21 : decode cX8_hush 21 = .ok (.iload_n 1, 1) := by decide +kernel
theorem dX8_hush_22 : decode cX8_hush 22 = .ok (.aaload, 1) := by decide +kernel
theorem dX8_hush_23 : decode cX8_hush 23 = .ok (.astore_n 2, 1) := by decide +kernel
theorem dX8_hush_24 : decode cX8_hush 24 = .ok (.aload_n 2, 1) := by decide +kernel
theorem dX8_hush_25 : decode cX8_hush 25 = .ok (.getfield 103, 3) := by decide +kernel
theorem dX8_hush_28 : decode cX8_hush 28 = .ok (.istore_n 3, 1) := by decide +kernel
theorem dX8_hush_29 : decode cX8_hush 29 = .ok (.iload_n 3, 1) := by decide +kernel
theorem dX8_hush_30 : decode cX8_hush 30 = .ok (.ifCond .eq 16, 3) := by decide +kernel
theorem dX8_hush_33 : decode cX8_hush 33 = .ok (.aload_n 2, 1) := by decide +kernel
theorem dX8_hush_34 : decode cX8_hush 34 = .ok (.iconst 0, 1) := by decide +kernel
theorem dX8_hush_35 : decode cX8_hush 35 = .ok (.putfield 103, 3) := by decide +kernel
theorem dX8_hush_38 : decode cX8_hush 38 = .ok (.aload_n 0, 1) := by decide +kernel
theorem dX8_hush_39 : decode cX8_hush 39 = .ok (.getfield 28, 3) := by decide +kernel
theorem dX8_hush_42 : decode cX8_hush 42 = .ok (.iload_n 1, 1) := by decide +kernel
theorem dX8_hush_43 : decode cX8_hush 43 = .ok (.putfield 112, 3) := by decide +kernel
theorem dX8_hush_46 : decode cX8_hush 46 = .ok (.iload_n 3, 1) := by decide +kernel
theorem dX8_hush_47 : decode cX8_hush 47 = .ok (.ireturn, 1) := by decide +kernel
def f_X8_hush (fu : Nat)  (x1 : Int32) (m : Mem) : Option (Int32 × Mem) := doI (f_X4_has fu 0 x1 m) (fun r_3 m_2 => if r_3 = 0 then (some ((-1000000001), m_2)) else (chk (inb x1 5) (seqM (m_2 (vf (10 * 0 + x1.toNatClampNeg) 4)) (fun x_5 : Int32 => if x_5 = 0 then (some (x_5, m_2)) else (seqM (upd m_2 (vf (10 * 0 + x1.toNatClampNeg) 4) 0) (fun m_7 : Mem => seqM (upd m_7 (sf 0 14) x1) (fun m_9 : Mem => some (x_5, m_9))))))))
set_option maxHeartbeats 4000000 in
set_option maxRecDepth 100000 in
theorem w_X8_hush {X : TX} {p : Program} {l : Launch} {e : Env} {s : State} {mi : MethodId} {args : Array Value} {below : List Frame} {meth : Method} {c : Code} {Q : State → Prop} {r : Int32} {mE : Mem} (C : Cx X p s mi args c RX8 cX8_hush 4) (hq : RetI X p l e (rmD 1) s mi args below meth c cX8_hush .int Q r mE) {fu : Nat} {x1 : Int32} {m : Mem} {H : Heap} {locs : List Loc} {ls : Array Slot} (h : f_X8_hush fu x1 m = some (r, mE))  (hW : Wd X s m H locs) (hl : lv_has ls 4 [(0, .ref (ad X 0 0)), (1, .int x1)]) : W p l e (rmD 1) s mi args below meth c H locs 0 0 Q (F0 mi 0 ls []) := by
  unfold f_X8_hush at h
  refine lv_aload_n C.1 C.2.1 dX8_hush_0 rfl (lv_at hl 0 rfl) ?_
  refine zg_X8_now C hW id_0 w_362 dX8_hush_1 ?_
  refine lv_iload_n C.1 C.2.1 dX8_hush_4 rfl (lv_at hl 1 rfl) ?_
  obtain ⟨r_3, m_2, hc_1, h⟩ := doI_E h
  refine zr_cVI C hW (c_X4_has (i0 := 0) (x1 := x1) hc_1 id_9_0) k_X4_has (zr_recv C hW id_9_0 zco_9 rfl) w_422 ⟨Nat.le_of_ble_eq_true rfl, Nat.le_of_ble_eq_true rfl⟩ ⟨Nat.le_refl 0, Nat.le_refl 0⟩ rfl hl.1 rfl (Nat.le_of_ble_eq_true rfl) dX8_hush_5 (fun H locs hW => ?_)
  refine lv_if_ne (tgt := 14) C.1 C.2.1 dX8_hush_8 (by decide) (fun hc_12 => ?_) (fun hc_12 => ?_)
  · have h := ite_f hc_12 h
    refine lv_aload_n C.1 C.2.1 dX8_hush_14 rfl (lv_at hl 0 rfl) ?_
    refine zg_X8_now C hW id_0 w_362 dX8_hush_15 ?_
    refine zg_X4_voices C hW id_9_0 w_225 dX8_hush_18 ?_
    refine lv_iload_n C.1 C.2.1 dX8_hush_21 rfl (lv_at hl 1 rfl) ?_
    obtain ⟨hb_4, h⟩ := chk_E h
    refine zaa_10 C hW (im_9_10 id_9_0) (inb_E hb_4) dX8_hush_22 ?_
    refine lv_astore_n (lv' := [(2, .ref (ad X 11 (10 * 0 + x1.toNatClampNeg))), (0, .ref (ad X 0 0)), (1, .int x1)]) C.1 C.2.1 dX8_hush_23 rfl hl (by decide) rfl (fun ls hl => ?_)
    refine lv_aload_n C.1 C.2.1 dX8_hush_24 rfl (lv_at hl 0 rfl) ?_
    refine zg_X7_left C hW (ia_10 (im_9_10 id_9_0) (inb_E hb_4)) w_200 dX8_hush_25 ?_
    obtain ⟨x_5, e_6, h⟩ := seqM_E h
    refine lv_name e_6 ?_
    refine lv_istore_n (lv' := [(3, .int x_5), (2, .ref (ad X 11 (10 * 0 + x1.toNatClampNeg))), (0, .ref (ad X 0 0)), (1, .int x1)]) C.1 C.2.1 dX8_hush_28 rfl hl (by decide) rfl (fun ls hl => ?_)
    refine lv_iload_n C.1 C.2.1 dX8_hush_29 rfl (lv_at hl 0 rfl) ?_
    refine lv_if_eq (tgt := 46) C.1 C.2.1 dX8_hush_30 (by decide) (fun hc_11 => ?_) (fun hc_11 => ?_)
    · have h := ite_t hc_11 h
      refine lv_iload_n C.1 C.2.1 dX8_hush_46 rfl (lv_at hl 0 rfl) ?_
      exact ret_i h hq rfl hW dX8_hush_47
    · have h := ite_f hc_11 h
      refine lv_aload_n C.1 C.2.1 dX8_hush_33 rfl (lv_at hl 1 rfl) ?_
      refine lv_iconst (v := 0) C.1 C.2.1 dX8_hush_34 rfl ?_
      obtain ⟨m_7, e_8, h⟩ := seqM_E h
      refine zp_X7_left C hW (ia_10 (im_9_10 id_9_0) (inb_E hb_4)) w_200 e_8 dX8_hush_35 (fun H locs hW => ?_)
      refine lv_aload_n C.1 C.2.1 dX8_hush_38 rfl (lv_at hl 2 rfl) ?_
      refine zg_X8_now C hW id_0 w_362 dX8_hush_39 ?_
      refine lv_iload_n C.1 C.2.1 dX8_hush_42 rfl (lv_at hl 3 rfl) ?_
      obtain ⟨m_9, e_10, h⟩ := seqM_E h
      refine zp_X4_last C hW id_9_0 w_251 e_10 dX8_hush_43 (fun H locs hW => ?_)
      refine lv_iload_n C.1 C.2.1 dX8_hush_46 rfl (lv_at hl 0 rfl) ?_
      exact ret_i h hq rfl hW dX8_hush_47
  · have h := ite_t hc_12 h
    refine lv_ldc C.1 C.2.1 C.2.2.2.1 (C.2.2.2.2.1 _ w_408) dX8_hush_11 ?_
    exact ret_i h hq rfl hW dX8_hush_13
theorem c_X8_hush {X : TX} {l : Launch} {fu : Nat} {x1 : Int32} {m mE : Mem} {r : Int32} (h : f_X8_hush fu x1 m = some (r, mE))  : MetI X l yX8_hush cX8_hush 4 .int 1 [.ref (ad X 0 0), .int x1] m r mE :=
  met_I (by decide) (Nat.le_of_ble_eq_true rfl) (fun p e s mi args below meth c ls Q C hq hW hl => w_X8_hush C hq h  hW (lv_sub hl [0, 1] rfl))
theorem k_X8_hush : CalV yX8_hush cX8_hush 4 (some .int) RX8 1 := ⟨w_475, w_476, w_61, w_477, by decide +kernel⟩
theorem dX8_air_0 : decode cX8_air 0 = .ok (.iload_n 1, 1) := by decide +kernel
theorem dX8_air_1 : decode cX8_air 1 = .ok (.iload_n 2, 1) := by decide +kernel
theorem dX8_air_2 : decode cX8_air 2 = .ok (.invokestatic 141, 3) := by decide +kernel
theorem dX8_air_5 : decode cX8_air 5 = .ok (.ifCond .ne 6, 3) := by decide +kernel
theorem dX8_air_8 : decode cX8_air 8 = .ok (.ldc 73, 2) := by decide +kernel
theorem dX8_air_10 : decode cX8_air 10 = .ok (.ireturn, 1) := by decide +kernel
theorem dX8_air_11 : decode cX8_air 11 = .ok (.aload_n 0, 1) := by decide +kernel
theorem dX8_air_12 : decode cX8_air 12 = .ok (.getfield 28, 3) := by decide +kernel
theorem dX8_air_15 : decode cX8_air 15 = .ok (.iload_n 1, 1) := by decide +kernel
theorem dX8_air_16 : decode cX8_air 16 = .ok (.iload_n 2, 1) := by decide +kernel
theorem dX8_air_17 : decode cX8_air 17 = .ok (.invokevirtual 142, 3) := by decide +kernel
theorem dX8_air_20 : decode cX8_air 20 = .ok (.ireturn, 1) := by decide +kernel
def f_X8_air (fu : Nat)  (x1 : Int32) (x2 : Int32) (m : Mem) : Option (Int32 × Mem) := doI (f_X4_allows fu x1 x2 m) (fun r_3 m_2 => if r_3 = 0 then (some ((-1000000001), m_2)) else (doI (f_X4_put fu 0 x1 x2 m_2) (fun r_6 m_5 => some (r_6, m_5))))
set_option maxHeartbeats 4000000 in
set_option maxRecDepth 100000 in
theorem w_X8_air {X : TX} {p : Program} {l : Launch} {e : Env} {s : State} {mi : MethodId} {args : Array Value} {below : List Frame} {meth : Method} {c : Code} {Q : State → Prop} {r : Int32} {mE : Mem} (C : Cx X p s mi args c RX8 cX8_air 3) (hq : RetI X p l e (rmD 2) s mi args below meth c cX8_air .int Q r mE) {fu : Nat} {x1 : Int32} {x2 : Int32} {m : Mem} {H : Heap} {locs : List Loc} {ls : Array Slot} (h : f_X8_air fu x1 x2 m = some (r, mE))  (hW : Wd X s m H locs) (hl : lv_has ls 3 [(0, .ref (ad X 0 0)), (1, .int x1), (2, .int x2)]) : W p l e (rmD 2) s mi args below meth c H locs 0 0 Q (F0 mi 0 ls []) := by
  unfold f_X8_air at h
  refine lv_iload_n C.1 C.2.1 dX8_air_0 rfl (lv_at hl 1 rfl) ?_
  refine lv_iload_n C.1 C.2.1 dX8_air_1 rfl (lv_at hl 2 rfl) ?_
  obtain ⟨r_3, m_2, hc_1, h⟩ := doI_E h
  refine zr_cSI C hW (c_X4_allows (x0 := x1) (x1 := x2) hc_1 ) k_X4_allows w_482 ⟨Nat.le_of_ble_eq_true rfl, Nat.le_of_ble_eq_true rfl⟩ ⟨Nat.le_refl 0, Nat.le_refl 0⟩ rfl hl.1 rfl (Nat.le_of_ble_eq_true rfl) dX8_air_2 (fun H locs hW => ?_)
  refine lv_if_ne (tgt := 11) C.1 C.2.1 dX8_air_5 (by decide) (fun hc_7 => ?_) (fun hc_7 => ?_)
  · have h := ite_f hc_7 h
    refine lv_aload_n C.1 C.2.1 dX8_air_11 rfl (lv_at hl 0 rfl) ?_
    refine zg_X8_now C hW id_0 w_362 dX8_air_12 ?_
    refine lv_iload_n C.1 C.2.1 dX8_air_15 rfl (lv_at hl 1 rfl) ?_
    refine lv_iload_n C.1 C.2.1 dX8_air_16 rfl (lv_at hl 2 rfl) ?_
    obtain ⟨r_6, m_5, hc_4, h⟩ := doI_E h
    refine zr_cVI C hW (c_X4_put (i0 := 0) (x1 := x1) (x2 := x2) hc_4 id_9_0) k_X4_put (zr_recv C hW id_9_0 zco_9 rfl) w_486 ⟨Nat.le_of_ble_eq_true rfl, Nat.le_of_ble_eq_true rfl⟩ ⟨Nat.le_refl 0, Nat.le_refl 0⟩ rfl hl.1 rfl (Nat.le_of_ble_eq_true rfl) dX8_air_17 (fun H locs hW => ?_)
    exact ret_i h hq rfl hW dX8_air_20
  · have h := ite_t hc_7 h
    refine lv_ldc C.1 C.2.1 C.2.2.2.1 (C.2.2.2.2.1 _ w_408) dX8_air_8 ?_
    exact ret_i h hq rfl hW dX8_air_10
theorem c_X8_air {X : TX} {l : Launch} {fu : Nat} {x1 : Int32} {x2 : Int32} {m mE : Mem} {r : Int32} (h : f_X8_air fu x1 x2 m = some (r, mE))  : MetI X l yX8_air cX8_air 3 .int 2 [.ref (ad X 0 0), .int x1, .int x2] m r mE :=
  met_I (by decide) (Nat.le_of_ble_eq_true rfl) (fun p e s mi args below meth c ls Q C hq hW hl => w_X8_air C hq h  hW (lv_sub hl [0, 1, 2] rfl))
theorem k_X8_air : CalV yX8_air cX8_air 3 (some .int) RX8 2 := ⟨w_479, w_480, w_61, w_481, by decide +kernel⟩
theorem dX8_deal_0 : decode cX8_deal 0 = .ok (.iload_n 1, 1) := by decide +kernel
theorem dX8_deal_1 : decode cX8_deal 1 = .ok (.iconst 1, 1) := by decide +kernel
theorem dX8_deal_2 : decode cX8_deal 2 = .ok (.iconst 5, 1) := by decide +kernel
theorem dX8_deal_3 : decode cX8_deal 3 = .ok (.invokestatic 137, 3) := by decide +kernel
theorem dX8_deal_6 : decode cX8_deal 6 = .ok (.ifCond .ne 6, 3) := by decide +kernel
theorem dX8_deal_9 : decode cX8_deal 9 = .ok (.ldc 73, 2) := by decide +kernel
theorem dX8_deal_11 : decode cX8_deal 11 = .ok (.ireturn, 1) := by decide +kernel
theorem dX8_deal_12 : decode cX8_deal 12 = .ok (.iconst 0, 1) := by decide +kernel
theorem dX8_deal_13 : decode cX8_deal 13 = .ok (.istore_n 2, 1) := by decide +kernel
theorem dX8_deal_14 : decode cX8_deal 14 = .ok (.iconst 0, 1) := by decide +kernel
theorem dX8_deal_15 : decode cX8_deal 15 = .ok (.istore_n 3, 1) := by decide +kernel
theorem dX8_deal_16 : decode cX8_deal 16 = .ok (.iload_n 3, 1) := by decide +kernel
theorem dX8_deal_17 : decode cX8_deal 17 = .ok (.iload_n 1, 1) := by decide +kernel
theorem dX8_deal_18 : decode cX8_deal 18 = .ok (.if_icmp .ge 29, 3) := by decide +kernel
theorem dX8_deal_21 : decode cX8_deal 21 = .ok (.aload_n 0, 1) := by decide +kernel
theorem dX8_deal_22 : decode cX8_deal 22 = .ok (.getfield 28, 3) := by decide +kernel
theorem dX8_deal_25 : decode cX8_deal 25 = .ok (.invokevirtual 74, 3) := by decide +kernel
theorem dX8_deal_28 : decode cX8_deal 28 = .ok (.ifCond .eq 19, 3) := by decide +kernel
theorem dX8_deal_31 : decode cX8_deal 31 = .ok (.aload_n 0, 1) := by decide +kernel
theorem dX8_deal_32 : decode cX8_deal 32 = .ok (.getfield 28, 3) := by decide +kernel
theorem dX8_deal_35 : decode cX8_deal 35 = .ok (.invokevirtual 143, 3) := by decide +kernel
theorem dX8_deal_38 : decode cX8_deal 38 = .ok (.iinc 2 1, 3) := by decide +kernel
theorem dX8_deal_41 : decode cX8_deal 41 = .ok (.iinc 3 1, 3) := by decide +kernel
theorem dX8_deal_44 : decode cX8_deal 44 = .ok (.goto (-28), 3) := by decide +kernel
theorem dX8_deal_47 : decode cX8_deal 47 = .ok (.iload_n 2, 1) := by decide +kernel
theorem dX8_deal_48 : decode cX8_deal 48 = .ok (.ireturn, 1) := by decide +kernel
def f_X8_deal_16 (fu : Nat)  : Nat → Int32 → Int32 → Int32 → Mem → Option (Int32 × Mem)
  | 0, _, _, _, _ => none
  | n + 1, x1, x2, x3, m => if x1 ≤ x3 then (some (x2, m)) else (doI (f_X4_hasRoom fu 0 m) (fun r_3 m_2 => if r_3 = 0 then (some (x2, m_2)) else (doV (f_X4_seatDrawn fu 0 m_2) (fun m_5 => seqM (x2 + 1) (fun x_6 : Int32 => seqM (x3 + 1) (fun x_8 : Int32 => f_X8_deal_16 fu n x1 x_6 x_8 m_5))))))
set_option maxHeartbeats 4000000 in
set_option maxRecDepth 100000 in
theorem w_X8_deal_16 {X : TX} {p : Program} {l : Launch} {e : Env} {s : State} {mi : MethodId} {args : Array Value} {below : List Frame} {meth : Method} {c : Code} {Q : State → Prop} {r : Int32} {mE : Mem} (C : Cx X p s mi args c RX8 cX8_deal 4) (hq : RetI X p l e (rmD 2) s mi args below meth c cX8_deal .int Q r mE) {fu : Nat} : ∀ (n : Nat) {x1 : Int32} {x2 : Int32} {x3 : Int32} {m : Mem} {H : Heap} {locs : List Loc} {ls : Array Slot}, f_X8_deal_16 fu n x1 x2 x3 m = some (r, mE) → Wd X s m H locs → lv_has ls 4 [(0, .ref (ad X 0 0)), (1, .int x1), (2, .int x2), (3, .int x3)] → W p l e (rmD 2) s mi args below meth c H locs 0 0 Q (F0 mi 16 ls []) := by
  intro n
  induction n with
  | zero =>
    intro x1 x2 x3 m H locs ls h hW hl
    rw [f_X8_deal_16] at h
    cases h
  | succ n ih =>
    intro x1 x2 x3 m H locs ls h hW hl
    rw [f_X8_deal_16] at h
    refine lv_iload_n C.1 C.2.1 dX8_deal_16 rfl (lv_at hl 3 rfl) ?_
    refine lv_iload_n C.1 C.2.1 dX8_deal_17 rfl (lv_at hl 1 rfl) ?_
    refine lv_icmp_ge (tgt := 47) C.1 C.2.1 dX8_deal_18 (by decide) (fun hc_11 => ?_) (fun hc_11 => ?_)
    · have h := ite_t hc_11 h
      refine lv_iload_n C.1 C.2.1 dX8_deal_47 rfl (lv_at hl 2 rfl) ?_
      exact ret_i h hq rfl hW dX8_deal_48
    · have h := ite_f hc_11 h
      refine lv_aload_n C.1 C.2.1 dX8_deal_21 rfl (lv_at hl 0 rfl) ?_
      refine zg_X8_now C hW id_0 w_362 dX8_deal_22 ?_
      obtain ⟨r_3, m_2, hc_1, h⟩ := doI_E h
      refine zr_cVI C hW (c_X4_hasRoom (i0 := 0) hc_1 id_9_0) k_X4_hasRoom (zr_recv C hW id_9_0 zco_9 rfl) w_409 ⟨Nat.le_of_ble_eq_true rfl, Nat.le_of_ble_eq_true rfl⟩ ⟨Nat.le_refl 0, Nat.le_refl 0⟩ rfl hl.1 rfl (Nat.le_of_ble_eq_true rfl) dX8_deal_25 (fun H locs hW => ?_)
      refine lv_if_eq (tgt := 47) C.1 C.2.1 dX8_deal_28 (by decide) (fun hc_10 => ?_) (fun hc_10 => ?_)
      · have h := ite_t hc_10 h
        refine lv_iload_n C.1 C.2.1 dX8_deal_47 rfl (lv_at hl 2 rfl) ?_
        exact ret_i h hq rfl hW dX8_deal_48
      · have h := ite_f hc_10 h
        refine lv_aload_n C.1 C.2.1 dX8_deal_31 rfl (lv_at hl 0 rfl) ?_
        refine zg_X8_now C hW id_0 w_362 dX8_deal_32 ?_
        obtain ⟨m_5, hc_4, h⟩ := doV_E h
        refine zr_cVV C hW (c_X4_seatDrawn (i0 := 0) hc_4 id_9_0) k_X4_seatDrawn (zr_recv C hW id_9_0 zco_9 rfl) w_494 ⟨Nat.le_of_ble_eq_true rfl, Nat.le_of_ble_eq_true rfl⟩ ⟨Nat.le_refl 0, Nat.le_refl 0⟩ rfl hl.1 rfl (Nat.le_of_ble_eq_true rfl) dX8_deal_35 (fun H locs hW => ?_)
        obtain ⟨x_6, e_7, h⟩ := seqM_E h
        refine lv_iinc (v := x_6) (lv' := [(2, .int x_6), (0, .ref (ad X 0 0)), (1, .int x1), (3, .int x3)]) C.1 C.2.1 dX8_deal_38 hl (k := 2) rfl (by rw [e_7]; rfl) (by decide) rfl (fun ls hl => ?_)
        obtain ⟨x_8, e_9, h⟩ := seqM_E h
        refine lv_iinc (v := x_8) (lv' := [(3, .int x_8), (2, .int x_6), (0, .ref (ad X 0 0)), (1, .int x1)]) C.1 C.2.1 dX8_deal_41 hl (k := 3) rfl (by rw [e_9]; rfl) (by decide) rfl (fun ls hl => ?_)
        refine lv_goto (tgt := 16) C.1 C.2.1 dX8_deal_44 (by decide) ?_
        exact ih h  hW (lv_sub hl [2, 3, 1, 0] rfl)
def f_X8_deal (fu : Nat)  (x1 : Int32) (m : Mem) : Option (Int32 × Mem) := doI (f_X8_within fu x1 1 5 m) (fun r_3 m_2 => if r_3 = 0 then (some ((-1000000001), m_2)) else (f_X8_deal_16 fu fu x1 0 0 m_2))
set_option maxHeartbeats 4000000 in
set_option maxRecDepth 100000 in
theorem w_X8_deal {X : TX} {p : Program} {l : Launch} {e : Env} {s : State} {mi : MethodId} {args : Array Value} {below : List Frame} {meth : Method} {c : Code} {Q : State → Prop} {r : Int32} {mE : Mem} (C : Cx X p s mi args c RX8 cX8_deal 4) (hq : RetI X p l e (rmD 2) s mi args below meth c cX8_deal .int Q r mE) {fu : Nat} {x1 : Int32} {m : Mem} {H : Heap} {locs : List Loc} {ls : Array Slot} (h : f_X8_deal fu x1 m = some (r, mE))  (hW : Wd X s m H locs) (hl : lv_has ls 4 [(0, .ref (ad X 0 0)), (1, .int x1)]) : W p l e (rmD 2) s mi args below meth c H locs 0 0 Q (F0 mi 0 ls []) := by
  unfold f_X8_deal at h
  refine lv_iload_n C.1 C.2.1 dX8_deal_0 rfl (lv_at hl 1 rfl) ?_
  refine lv_iconst (v := 1) C.1 C.2.1 dX8_deal_1 rfl ?_
  refine lv_iconst (v := 5) C.1 C.2.1 dX8_deal_2 rfl ?_
  obtain ⟨r_3, m_2, hc_1, h⟩ := doI_E h
  refine zr_cSI C hW (c_X8_within (x0 := x1) (x1 := 1) (x2 := 5) hc_1 ) k_X8_within w_401 ⟨Nat.le_of_ble_eq_true rfl, Nat.le_of_ble_eq_true rfl⟩ ⟨Nat.le_refl 0, Nat.le_refl 0⟩ rfl hl.1 rfl (Nat.le_of_ble_eq_true rfl) dX8_deal_3 (fun H locs hW => ?_)
  refine lv_if_ne (tgt := 12) C.1 C.2.1 dX8_deal_6 (by decide) (fun hc_4 => ?_) (fun hc_4 => ?_)
  · have h := ite_f hc_4 h
    refine lv_iconst (v := 0) C.1 C.2.1 dX8_deal_12 rfl ?_
    refine lv_istore_n (lv' := [(2, .int 0), (0, .ref (ad X 0 0)), (1, .int x1)]) C.1 C.2.1 dX8_deal_13 rfl hl (by decide) rfl (fun ls hl => ?_)
    refine lv_iconst (v := 0) C.1 C.2.1 dX8_deal_14 rfl ?_
    refine lv_istore_n (lv' := [(3, .int 0), (2, .int 0), (0, .ref (ad X 0 0)), (1, .int x1)]) C.1 C.2.1 dX8_deal_15 rfl hl (by decide) rfl (fun ls hl => ?_)
    exact w_X8_deal_16 C hq  fu h  hW (lv_sub hl [2, 3, 1, 0] rfl)
  · have h := ite_t hc_4 h
    refine lv_ldc C.1 C.2.1 C.2.2.2.1 (C.2.2.2.2.1 _ w_408) dX8_deal_9 ?_
    exact ret_i h hq rfl hW dX8_deal_11
theorem c_X8_deal {X : TX} {l : Launch} {fu : Nat} {x1 : Int32} {m mE : Mem} {r : Int32} (h : f_X8_deal fu x1 m = some (r, mE))  : MetI X l yX8_deal cX8_deal 4 .int 2 [.ref (ad X 0 0), .int x1] m r mE :=
  met_I (by decide) (Nat.le_of_ble_eq_true rfl) (fun p e s mi args below meth c ls Q C hq hW hl => w_X8_deal C hq h  hW (lv_sub hl [0, 1] rfl))
theorem k_X8_deal : CalV yX8_deal cX8_deal 4 (some .int) RX8 1 := ⟨w_491, w_492, w_61, w_493, by decide +kernel⟩
theorem dX8_seed_0 : decode cX8_seed 0 = .ok (.aload_n 0, 1) := by decide +kernel
theorem dX8_seed_1 : decode cX8_seed 1 = .ok (.getfield 28, 3) := by decide +kernel
theorem dX8_seed_4 : decode cX8_seed 4 = .ok (.getfield 146, 3) := by decide +kernel
theorem dX8_seed_7 : decode cX8_seed 7 = .ok (.istore_n 2, 1) := by decide +kernel
theorem dX8_seed_8 : decode cX8_seed 8 = .ok (.aload_n 0, 1) := by decide +kernel
theorem dX8_seed_9 : decode cX8_seed 9 = .ok (.getfield 28, 3) := by decide +kernel
theorem dX8_seed_12 : decode cX8_seed 12 = .ok (.iload_n 1, 1) := by decide +kernel
theorem dX8_seed_13 : decode cX8_seed 13 = .ok (.putfield 146, 3) := by decide +kernel
theorem dX8_seed_16 : decode cX8_seed 16 = .ok (.iload_n 2, 1) := by decide +kernel
theorem dX8_seed_17 : decode cX8_seed 17 = .ok (.ireturn, 1) := by decide +kernel
def f_X8_seed (fu : Nat)  (x1 : Int32) (m : Mem) : Option (Int32 × Mem) := seqM (m (sf 0 0)) (fun x_1 : Int32 => seqM (upd m (sf 0 0) x1) (fun m_3 : Mem => some (x_1, m_3)))
set_option maxHeartbeats 4000000 in
set_option maxRecDepth 100000 in
theorem w_X8_seed {X : TX} {p : Program} {l : Launch} {e : Env} {s : State} {mi : MethodId} {args : Array Value} {below : List Frame} {meth : Method} {c : Code} {Q : State → Prop} {r : Int32} {mE : Mem} (C : Cx X p s mi args c RX8 cX8_seed 3) (hq : RetI X p l e (rmD 0) s mi args below meth c cX8_seed .int Q r mE) {fu : Nat} {x1 : Int32} {m : Mem} {H : Heap} {locs : List Loc} {ls : Array Slot} (h : f_X8_seed fu x1 m = some (r, mE))  (hW : Wd X s m H locs) (hl : lv_has ls 3 [(0, .ref (ad X 0 0)), (1, .int x1)]) : W p l e (rmD 0) s mi args below meth c H locs 0 0 Q (F0 mi 0 ls []) := by
  unfold f_X8_seed at h
  refine lv_aload_n C.1 C.2.1 dX8_seed_0 rfl (lv_at hl 0 rfl) ?_
  refine zg_X8_now C hW id_0 w_362 dX8_seed_1 ?_
  refine zg_X4_z C hW id_9_0 w_255 dX8_seed_4 ?_
  obtain ⟨x_1, e_2, h⟩ := seqM_E h
  refine lv_name e_2 ?_
  refine lv_istore_n (lv' := [(2, .int x_1), (0, .ref (ad X 0 0)), (1, .int x1)]) C.1 C.2.1 dX8_seed_7 rfl hl (by decide) rfl (fun ls hl => ?_)
  refine lv_aload_n C.1 C.2.1 dX8_seed_8 rfl (lv_at hl 1 rfl) ?_
  refine zg_X8_now C hW id_0 w_362 dX8_seed_9 ?_
  refine lv_iload_n C.1 C.2.1 dX8_seed_12 rfl (lv_at hl 2 rfl) ?_
  obtain ⟨m_3, e_4, h⟩ := seqM_E h
  refine zp_X4_z C hW id_9_0 w_255 e_4 dX8_seed_13 (fun H locs hW => ?_)
  refine lv_iload_n C.1 C.2.1 dX8_seed_16 rfl (lv_at hl 0 rfl) ?_
  exact ret_i h hq rfl hW dX8_seed_17
theorem c_X8_seed {X : TX} {l : Launch} {fu : Nat} {x1 : Int32} {m mE : Mem} {r : Int32} (h : f_X8_seed fu x1 m = some (r, mE))  : MetI X l yX8_seed cX8_seed 3 .int 0 [.ref (ad X 0 0), .int x1] m r mE :=
  met_I (by decide) (Nat.le_of_ble_eq_true rfl) (fun p e s mi args below meth c ls Q C hq hW hl => w_X8_seed C hq h  hW (lv_sub hl [0, 1] rfl))
theorem k_X8_seed : CalV yX8_seed cX8_seed 3 (some .int) RX8 1 := ⟨w_505, w_506, w_61, w_507, by decide +kernel⟩
theorem dX8_tenths_0 : decode cX8_tenths 0 = .ok (.iload_n 1, 1) := by decide +kernel
theorem dX8_tenths_1 : decode cX8_tenths 1 = .ok (.iconst 1, 1) := by decide +kernel
theorem dX8_tenths_2 : decode cX8_tenths 2 = .ok (.bipush 100, 2) := by decide +kernel
theorem dX8_tenths_4 : decode cX8_tenths 4 = .ok (.invokestatic 137, 3) := by decide +kernel
theorem dX8_tenths_7 : decode cX8_tenths 7 = .ok (.ifCond .ne 6, 3) := by decide +kernel
theorem dX8_tenths_10 : decode cX8_tenths 10 = .ok (.ldc 73, 2) := by decide +kernel
theorem dX8_tenths_12 : decode cX8_tenths 12 = .ok (.ireturn, 1) := by decide +kernel
theorem dX8_tenths_13 : decode cX8_tenths 13 = .ok (.aload_n 0, 1) := by decide +kernel
theorem dX8_tenths_14 : decode cX8_tenths 14 = .ok (.getfield 28, 3) := by decide +kernel
theorem dX8_tenths_17 : decode cX8_tenths 17 = .ok (.getfield 149, 3) := by decide +kernel
theorem dX8_tenths_20 : decode cX8_tenths 20 = .ok (.istore_n 2, 1) := by decide +kernel
theorem dX8_tenths_21 : decode cX8_tenths 21 = .ok (.aload_n 0, 1) := by decide +kernel
theorem dX8_tenths_22 : decode cX8_tenths 22 = .ok (.getfield 28, 3) := by decide +kernel
theorem dX8_tenths_25 : decode cX8_tenths 25 = .ok (.iload_n 1, 1) := by decide +kernel
theorem dX8_tenths_26 : decode cX8_tenths 26 = .ok (.sipush 9999, 3) := by decide +kernel
theorem dX8_tenths_29 : decode cX8_tenths 29 = .ok (.aload_n 0, 1) := by decide +kernel
theorem dX8_tenths_30 : decode cX8_tenths 30 = .ok (.getfield 28, 3) := by decide +kernel
theorem dX8_tenths_33 : decode cX8_tenths 33 = .ok (.getfield 152, 3) := by decide +kernel
theorem dX8_tenths_36 : decode cX8_tenths 36 = .ok (.isub, 1) := by decide +kernel
theorem dX8_tenths_37 : decode cX8_tenths 37 = .ok (.invokestatic 155, 3) := by decide +kernel
theorem dX8_tenths_40 : decode cX8_tenths 40 = .ok (.invokevirtual 160, 3) := by decide +kernel
theorem dX8_tenths_43 : decode cX8_tenths 43 = .ok (.aload_n 0, 1) := by decide +kernel
theorem dX8_tenths_44 : decode cX8_tenths 44 = .ok (.getfield 28, 3) := by decide +kernel
theorem dX8_tenths_47 : decode cX8_tenths 47 = .ok (.getfield 149, 3) := by decide +kernel
theorem dX8_tenths_50 : decode cX8_tenths 50 = .ok (.iload_n 2, 1) := by decide +kernel
theorem dX8_tenths_51 : decode cX8_tenths 51 = .ok (.isub, 1) := by decide +kernel
theorem dX8_tenths_52 : decode cX8_tenths 52 = .ok (.ireturn, 1) := by decide +kernel
def f_X8_tenths (fu : Nat)  (x1 : Int32) (m : Mem) : Option (Int32 × Mem) := doI (f_X8_within fu x1 1 100 m) (fun r_3 m_2 => if r_3 = 0 then (some ((-1000000001), m_2)) else (seqM (m_2 (sf 0 7)) (fun x_4 : Int32 => doV (f_X4_run fu 0 (if (9999 - (m_2 (sf 0 2))) < x1 then (9999 - (m_2 (sf 0 2))) else x1) m_2) (fun m_7 => some (((m_7 (sf 0 7)) - x_4), m_7)))))
set_option maxHeartbeats 4000000 in
set_option maxRecDepth 100000 in
theorem w_X8_tenths {X : TX} {p : Program} {l : Launch} {e : Env} {s : State} {mi : MethodId} {args : Array Value} {below : List Frame} {meth : Method} {c : Code} {Q : State → Prop} {r : Int32} {mE : Mem} (C : Cx X p s mi args c RX8 cX8_tenths 3) (hq : RetI X p l e (rmD 6) s mi args below meth c cX8_tenths .int Q r mE) {fu : Nat} {x1 : Int32} {m : Mem} {H : Heap} {locs : List Loc} {ls : Array Slot} (h : f_X8_tenths fu x1 m = some (r, mE))  (hW : Wd X s m H locs) (hl : lv_has ls 3 [(0, .ref (ad X 0 0)), (1, .int x1)]) : W p l e (rmD 6) s mi args below meth c H locs 0 0 Q (F0 mi 0 ls []) := by
  unfold f_X8_tenths at h
  refine lv_iload_n C.1 C.2.1 dX8_tenths_0 rfl (lv_at hl 1 rfl) ?_
  refine lv_iconst (v := 1) C.1 C.2.1 dX8_tenths_1 rfl ?_
  refine lv_bipush (v := 100) C.1 C.2.1 dX8_tenths_2 rfl ?_
  obtain ⟨r_3, m_2, hc_1, h⟩ := doI_E h
  refine zr_cSI C hW (c_X8_within (x0 := x1) (x1 := 1) (x2 := 100) hc_1 ) k_X8_within w_401 ⟨Nat.le_of_ble_eq_true rfl, Nat.le_of_ble_eq_true rfl⟩ ⟨Nat.le_refl 0, Nat.le_refl 0⟩ rfl hl.1 rfl (Nat.le_of_ble_eq_true rfl) dX8_tenths_4 (fun H locs hW => ?_)
  refine lv_if_ne (tgt := 13) C.1 C.2.1 dX8_tenths_7 (by decide) (fun hc_8 => ?_) (fun hc_8 => ?_)
  · have h := ite_f hc_8 h
    refine lv_aload_n C.1 C.2.1 dX8_tenths_13 rfl (lv_at hl 0 rfl) ?_
    refine zg_X8_now C hW id_0 w_362 dX8_tenths_14 ?_
    refine zg_X4_silent C hW id_9_0 w_237 dX8_tenths_17 ?_
    obtain ⟨x_4, e_5, h⟩ := seqM_E h
    refine lv_name e_5 ?_
    refine lv_istore_n (lv' := [(2, .int x_4), (0, .ref (ad X 0 0)), (1, .int x1)]) C.1 C.2.1 dX8_tenths_20 rfl hl (by decide) rfl (fun ls hl => ?_)
    refine lv_aload_n C.1 C.2.1 dX8_tenths_21 rfl (lv_at hl 1 rfl) ?_
    refine zg_X8_now C hW id_0 w_362 dX8_tenths_22 ?_
    refine lv_iload_n C.1 C.2.1 dX8_tenths_25 rfl (lv_at hl 2 rfl) ?_
    refine lv_sipush (v := 9999) C.1 C.2.1 dX8_tenths_26 rfl ?_
    refine lv_aload_n C.1 C.2.1 dX8_tenths_29 rfl (lv_at hl 1 rfl) ?_
    refine zg_X8_now C hW id_0 w_362 dX8_tenths_30 ?_
    refine zg_X4_tenth C hW id_9_0 w_253 dX8_tenths_33 ?_
    refine lv_isub C.1 C.2.1 dX8_tenths_36 ?_
    refine va_mmin C.1 C.2.1 (C.2.2.1.trans hl.1.symm) C.2.2.2.1 (C.2.2.2.2.1 _ w_512) (C.2.2.2.2.1 _ w_513) (C.2.2.2.2.1 _ w_71) (C.2.2.2.2.1 _ w_514) (Nat.le_of_ble_eq_true rfl) (Nat.le_of_ble_eq_true rfl) (Nat.le_refl 0) (Nat.le_refl 0) dX8_tenths_37 ?_
    obtain ⟨m_7, hc_6, h⟩ := doV_E h
    refine zr_cVV C hW (c_X4_run (i0 := 0) (x1 := (if (9999 - (m_2 (sf 0 2))) < x1 then (9999 - (m_2 (sf 0 2))) else x1)) hc_6 id_9_0) k_X4_run (zr_recv C hW id_9_0 zco_9 rfl) w_515 ⟨Nat.le_of_ble_eq_true rfl, Nat.le_of_ble_eq_true rfl⟩ ⟨Nat.le_refl 0, Nat.le_refl 0⟩ rfl hl.1 rfl (Nat.le_of_ble_eq_true rfl) dX8_tenths_40 (fun H locs hW => ?_)
    refine lv_aload_n C.1 C.2.1 dX8_tenths_43 rfl (lv_at hl 1 rfl) ?_
    refine zg_X8_now C hW id_0 w_362 dX8_tenths_44 ?_
    refine zg_X4_silent C hW id_9_0 w_237 dX8_tenths_47 ?_
    refine lv_iload_n C.1 C.2.1 dX8_tenths_50 rfl (lv_at hl 0 rfl) ?_
    refine lv_isub C.1 C.2.1 dX8_tenths_51 ?_
    exact ret_i h hq rfl hW dX8_tenths_52
  · have h := ite_t hc_8 h
    refine lv_ldc C.1 C.2.1 C.2.2.2.1 (C.2.2.2.2.1 _ w_408) dX8_tenths_10 ?_
    exact ret_i h hq rfl hW dX8_tenths_12
theorem c_X8_tenths {X : TX} {l : Launch} {fu : Nat} {x1 : Int32} {m mE : Mem} {r : Int32} (h : f_X8_tenths fu x1 m = some (r, mE))  : MetI X l yX8_tenths cX8_tenths 3 .int 6 [.ref (ad X 0 0), .int x1] m r mE :=
  met_I (by decide) (Nat.le_of_ble_eq_true rfl) (fun p e s mi args below meth c ls Q C hq hW hl => w_X8_tenths C hq h  hW (lv_sub hl [0, 1] rfl))
theorem k_X8_tenths : CalV yX8_tenths cX8_tenths 3 (some .int) RX8 1 := ⟨w_509, w_510, w_61, w_511, by decide +kernel⟩
theorem dX8_studio_0 : decode cX8_studio 0 = .ok (.iload_n 1, 1) := by decide +kernel
theorem dX8_studio_1 : decode cX8_studio 1 = .ok (.tableswitch 147 0 10 #[59, 67, 75, 83, 91, 99, 107, 115, 123, 131, 139], 59) := by decide +kernel
theorem dX8_studio_60 : decode cX8_studio 60 = .ok (.aload_n 0, 1) := by decide +kernel
theorem dX8_studio_61 : decode cX8_studio 61 = .ok (.getfield 28, 3) := by decide +kernel
theorem dX8_studio_64 : decode cX8_studio 64 = .ok (.getfield 164, 3) := by decide +kernel
theorem dX8_studio_67 : decode cX8_studio 67 = .ok (.ireturn, 1) := by decide +kernel
theorem dX8_studio_68 : decode cX8_studio 68 = .ok (.aload_n 0, 1) := by decide +kernel
theorem dX8_studio_69 : decode cX8_studio 69 = .ok (.getfield 28, 3) := by decide +kernel
theorem dX8_studio_72 : decode cX8_studio 72 = .ok (.getfield 167, 3) := by decide +kernel
theorem dX8_studio_75 : decode cX8_studio 75 = .ok (.ireturn, 1) := by decide +kernel
theorem dX8_studio_76 : decode cX8_studio 76 = .ok (.aload_n 0, 1) := by decide +kernel
theorem dX8_studio_77 : decode cX8_studio 77 = .ok (.getfield 28, 3) := by decide +kernel
theorem dX8_studio_80 : decode cX8_studio 80 = .ok (.getfield 149, 3) := by decide +kernel
theorem dX8_studio_83 : decode cX8_studio 83 = .ok (.ireturn, 1) := by decide +kernel
theorem dX8_studio_84 : decode cX8_studio 84 = .ok (.aload_n 0, 1) := by decide +kernel
theorem dX8_studio_85 : decode cX8_studio 85 = .ok (.getfield 28, 3) := by decide +kernel
theorem dX8_studio_88 : decode cX8_studio 88 = .ok (.getfield 170, 3) := by decide +kernel
theorem dX8_studio_91 : decode cX8_studio 91 = .ok (.ireturn, 1) := by decide +kernel
theorem dX8_studio_92 : decode cX8_studio 92 = .ok (.aload_n 0, 1) := by decide +kernel
theorem dX8_studio_93 : decode cX8_studio 93 = .ok (.getfield 28, 3) := by decide +kernel
theorem dX8_studio_96 : decode cX8_studio 96 = .ok (.getfield 173, 3) := by decide +kernel
theorem dX8_studio_99 : decode cX8_studio 99 = .ok (.ireturn, 1) := by decide +kernel
theorem dX8_studio_100 : decode cX8_studio 100 = .ok (.aload_n 0, 1) := by decide +kernel
theorem dX8_studio_101 : decode cX8_studio 101 = .ok (.getfield 28, 3) := by decide +kernel
theorem dX8_studio_104 : decode cX8_studio 104 = .ok (.getfield 176, 3) := by decide +kernel
theorem dX8_studio_107 : decode cX8_studio 107 = .ok (.ireturn, 1) := by decide +kernel
theorem dX8_studio_108 : decode cX8_studio 108 = .ok (.aload_n 0, 1) := by decide +kernel
theorem dX8_studio_109 : decode cX8_studio 109 = .ok (.getfield 28, 3) := by decide +kernel
theorem dX8_studio_112 : decode cX8_studio 112 = .ok (.getfield 179, 3) := by decide +kernel
theorem dX8_studio_115 : decode cX8_studio 115 = .ok (.ireturn, 1) := by decide +kernel
theorem dX8_studio_116 : decode cX8_studio 116 = .ok (.aload_n 0, 1) := by decide +kernel
theorem dX8_studio_117 : decode cX8_studio 117 = .ok (.getfield 28, 3) := by decide +kernel
theorem dX8_studio_120 : decode cX8_studio 120 = .ok (.getfield 182, 3) := by decide +kernel
theorem dX8_studio_123 : decode cX8_studio 123 = .ok (.ireturn, 1) := by decide +kernel
theorem dX8_studio_124 : decode cX8_studio 124 = .ok (.aload_n 0, 1) := by decide +kernel
theorem dX8_studio_125 : decode cX8_studio 125 = .ok (.getfield 28, 3) := by decide +kernel
theorem dX8_studio_128 : decode cX8_studio 128 = .ok (.getfield 185, 3) := by decide +kernel
theorem dX8_studio_131 : decode cX8_studio 131 = .ok (.ireturn, 1) := by decide +kernel
theorem dX8_studio_132 : decode cX8_studio 132 = .ok (.aload_n 0, 1) := by decide +kernel
theorem dX8_studio_133 : decode cX8_studio 133 = .ok (.getfield 28, 3) := by decide +kernel
theorem dX8_studio_136 : decode cX8_studio 136 = .ok (.getfield 112, 3) := by decide +kernel
theorem dX8_studio_139 : decode cX8_studio 139 = .ok (.ireturn, 1) := by decide +kernel
theorem dX8_studio_140 : decode cX8_studio 140 = .ok (.aload_n 0, 1) := by decide +kernel
theorem dX8_studio_141 : decode cX8_studio 141 = .ok (.getfield 28, 3) := by decide +kernel
theorem dX8_studio_144 : decode cX8_studio 144 = .ok (.invokevirtual 188, 3) := by decide +kernel
theorem dX8_studio_147 : decode cX8_studio 147 = .ok (.ireturn, 1) := by decide +kernel
theorem dX8_studio_148 : decode cX8_studio 148 = .ok (.ldc 73, 2) := by decide +kernel
theorem dX8_studio_150 : decode cX8_studio 150 = .ok (.ireturn, 1) := by decide +kernel
def f_X8_studio (fu : Nat)  (x1 : Int32) (m : Mem) : Option (Int32 × Mem) := if x1 = 0 then (some ((m (sf 0 5)), m)) else (if x1 = 1 then (some ((m (sf 0 6)), m)) else (if x1 = 2 then (some ((m (sf 0 7)), m)) else (if x1 = 3 then (some ((m (sf 0 8)), m)) else (if x1 = 4 then (some ((m (sf 0 9)), m)) else (if x1 = 5 then (some ((m (sf 0 10)), m)) else (if x1 = 6 then (some ((m (sf 0 11)), m)) else (if x1 = 7 then (some ((m (sf 0 12)), m)) else (if x1 = 8 then (some ((m (sf 0 13)), m)) else (if x1 = 9 then (some ((m (sf 0 14)), m)) else (if x1 = 10 then (doI (f_X4_speakers fu 0 m) (fun r_13 m_12 => some (r_13, m_12))) else (some ((-1000000001), m))))))))))))
set_option maxHeartbeats 4000000 in
set_option maxRecDepth 100000 in
theorem w_X8_studio {X : TX} {p : Program} {l : Launch} {e : Env} {s : State} {mi : MethodId} {args : Array Value} {below : List Frame} {meth : Method} {c : Code} {Q : State → Prop} {r : Int32} {mE : Mem} (C : Cx X p s mi args c RX8 cX8_studio 2) (hq : RetI X p l e (rmD 1) s mi args below meth c cX8_studio .int Q r mE) {fu : Nat} {x1 : Int32} {m : Mem} {H : Heap} {locs : List Loc} {ls : Array Slot} (h : f_X8_studio fu x1 m = some (r, mE))  (hW : Wd X s m H locs) (hl : lv_has ls 2 [(0, .ref (ad X 0 0)), (1, .int x1)]) : W p l e (rmD 1) s mi args below meth c H locs 0 0 Q (F0 mi 0 ls []) := by
  unfold f_X8_studio at h
  refine lv_iload_n C.1 C.2.1 dX8_studio_0 rfl (lv_at hl 1 rfl) ?_
  by_cases hc_1 : x1 = 0
  · have h := ite_t hc_1 h
    refine lv_tableIn (tgt := 60) C.1 C.2.1 dX8_studio_1 (by rw [hc_1]; decide) (by rw [hc_1]; decide) (by rw [hc_1]; rfl) (by decide) ?_
    refine lv_aload_n C.1 C.2.1 dX8_studio_60 rfl (lv_at hl 0 rfl) ?_
    refine zg_X8_now C hW id_0 w_362 dX8_studio_61 ?_
    refine zg_X4_listeners C hW id_9_0 w_229 dX8_studio_64 ?_
    exact ret_i h hq rfl hW dX8_studio_67
  · have h := ite_f hc_1 h
    by_cases hc_2 : x1 = 1
    · have h := ite_t hc_2 h
      refine lv_tableIn (tgt := 68) C.1 C.2.1 dX8_studio_1 (by rw [hc_2]; decide) (by rw [hc_2]; decide) (by rw [hc_2]; rfl) (by decide) ?_
      refine lv_aload_n C.1 C.2.1 dX8_studio_68 rfl (lv_at hl 0 rfl) ?_
      refine zg_X8_now C hW id_0 w_362 dX8_studio_69 ?_
      refine zg_X4_silence C hW id_9_0 w_235 dX8_studio_72 ?_
      exact ret_i h hq rfl hW dX8_studio_75
    · have h := ite_f hc_2 h
      by_cases hc_3 : x1 = 2
      · have h := ite_t hc_3 h
        refine lv_tableIn (tgt := 76) C.1 C.2.1 dX8_studio_1 (by rw [hc_3]; decide) (by rw [hc_3]; decide) (by rw [hc_3]; rfl) (by decide) ?_
        refine lv_aload_n C.1 C.2.1 dX8_studio_76 rfl (lv_at hl 0 rfl) ?_
        refine zg_X8_now C hW id_0 w_362 dX8_studio_77 ?_
        refine zg_X4_silent C hW id_9_0 w_237 dX8_studio_80 ?_
        exact ret_i h hq rfl hW dX8_studio_83
      · have h := ite_f hc_3 h
        by_cases hc_4 : x1 = 3
        · have h := ite_t hc_4 h
          refine lv_tableIn (tgt := 84) C.1 C.2.1 dX8_studio_1 (by rw [hc_4]; decide) (by rw [hc_4]; decide) (by rw [hc_4]; rfl) (by decide) ?_
          refine lv_aload_n C.1 C.2.1 dX8_studio_84 rfl (lv_at hl 0 rfl) ?_
          refine zg_X8_now C hW id_0 w_362 dX8_studio_85 ?_
          refine zg_X4_longestHole C hW id_9_0 w_239 dX8_studio_88 ?_
          exact ret_i h hq rfl hW dX8_studio_91
        · have h := ite_f hc_4 h
          by_cases hc_5 : x1 = 4
          · have h := ite_t hc_5 h
            refine lv_tableIn (tgt := 92) C.1 C.2.1 dX8_studio_1 (by rw [hc_5]; decide) (by rw [hc_5]; decide) (by rw [hc_5]; rfl) (by decide) ?_
            refine lv_aload_n C.1 C.2.1 dX8_studio_92 rfl (lv_at hl 0 rfl) ?_
            refine zg_X8_now C hW id_0 w_362 dX8_studio_93 ?_
            refine zg_X4_breaths C hW id_9_0 w_241 dX8_studio_96 ?_
            exact ret_i h hq rfl hW dX8_studio_99
          · have h := ite_f hc_5 h
            by_cases hc_6 : x1 = 5
            · have h := ite_t hc_6 h
              refine lv_tableIn (tgt := 100) C.1 C.2.1 dX8_studio_1 (by rw [hc_6]; decide) (by rw [hc_6]; decide) (by rw [hc_6]; rfl) (by decide) ?_
              refine lv_aload_n C.1 C.2.1 dX8_studio_100 rfl (lv_at hl 0 rfl) ?_
              refine zg_X8_now C hW id_0 w_362 dX8_studio_101 ?_
              refine zg_X4_taken C hW id_9_0 w_243 dX8_studio_104 ?_
              exact ret_i h hq rfl hW dX8_studio_107
            · have h := ite_f hc_6 h
              by_cases hc_7 : x1 = 6
              · have h := ite_t hc_7 h
                refine lv_tableIn (tgt := 108) C.1 C.2.1 dX8_studio_1 (by rw [hc_7]; decide) (by rw [hc_7]; decide) (by rw [hc_7]; rfl) (by decide) ?_
                refine lv_aload_n C.1 C.2.1 dX8_studio_108 rfl (lv_at hl 0 rfl) ?_
                refine zg_X8_now C hW id_0 w_362 dX8_studio_109 ?_
                refine zg_X4_crossed C hW id_9_0 w_245 dX8_studio_112 ?_
                exact ret_i h hq rfl hW dX8_studio_115
              · have h := ite_f hc_7 h
                by_cases hc_8 : x1 = 7
                · have h := ite_t hc_8 h
                  refine lv_tableIn (tgt := 116) C.1 C.2.1 dX8_studio_1 (by rw [hc_8]; decide) (by rw [hc_8]; decide) (by rw [hc_8]; rfl) (by decide) ?_
                  refine lv_aload_n C.1 C.2.1 dX8_studio_116 rfl (lv_at hl 0 rfl) ?_
                  refine zg_X8_now C hW id_0 w_362 dX8_studio_117 ?_
                  refine zg_X4_jingles C hW id_9_0 w_247 dX8_studio_120 ?_
                  exact ret_i h hq rfl hW dX8_studio_123
                · have h := ite_f hc_8 h
                  by_cases hc_9 : x1 = 8
                  · have h := ite_t hc_9 h
                    refine lv_tableIn (tgt := 124) C.1 C.2.1 dX8_studio_1 (by rw [hc_9]; decide) (by rw [hc_9]; decide) (by rw [hc_9]; rfl) (by decide) ?_
                    refine lv_aload_n C.1 C.2.1 dX8_studio_124 rfl (lv_at hl 0 rfl) ?_
                    refine zg_X8_now C hW id_0 w_362 dX8_studio_125 ?_
                    refine zg_X4_cuts C hW id_9_0 w_249 dX8_studio_128 ?_
                    exact ret_i h hq rfl hW dX8_studio_131
                  · have h := ite_f hc_9 h
                    by_cases hc_10 : x1 = 9
                    · have h := ite_t hc_10 h
                      refine lv_tableIn (tgt := 132) C.1 C.2.1 dX8_studio_1 (by rw [hc_10]; decide) (by rw [hc_10]; decide) (by rw [hc_10]; rfl) (by decide) ?_
                      refine lv_aload_n C.1 C.2.1 dX8_studio_132 rfl (lv_at hl 0 rfl) ?_
                      refine zg_X8_now C hW id_0 w_362 dX8_studio_133 ?_
                      refine zg_X4_last C hW id_9_0 w_251 dX8_studio_136 ?_
                      exact ret_i h hq rfl hW dX8_studio_139
                    · have h := ite_f hc_10 h
                      by_cases hc_14 : x1 = 10
                      · have h := ite_t hc_14 h
                        refine lv_tableIn (tgt := 140) C.1 C.2.1 dX8_studio_1 (by rw [hc_14]; decide) (by rw [hc_14]; decide) (by rw [hc_14]; rfl) (by decide) ?_
                        refine lv_aload_n C.1 C.2.1 dX8_studio_140 rfl (lv_at hl 0 rfl) ?_
                        refine zg_X8_now C hW id_0 w_362 dX8_studio_141 ?_
                        obtain ⟨r_13, m_12, hc_11, h⟩ := doI_E h
                        refine zr_cVI C hW (c_X4_speakers (i0 := 0) hc_11 id_9_0) k_X4_speakers (zr_recv C hW id_9_0 zco_9 rfl) w_581 ⟨Nat.le_of_ble_eq_true rfl, Nat.le_of_ble_eq_true rfl⟩ ⟨Nat.le_refl 0, Nat.le_refl 0⟩ rfl hl.1 rfl (Nat.le_of_ble_eq_true rfl) dX8_studio_144 (fun H locs hW => ?_)
                        exact ret_i h hq rfl hW dX8_studio_147
                      · have h := ite_f hc_14 h
                        have nhc_1 := ne_k (0) rfl hc_1
                        have nhc_2 := ne_k (1) rfl hc_2
                        have nhc_3 := ne_k (2) rfl hc_3
                        have nhc_4 := ne_k (3) rfl hc_4
                        have nhc_5 := ne_k (4) rfl hc_5
                        have nhc_6 := ne_k (5) rfl hc_6
                        have nhc_7 := ne_k (6) rfl hc_7
                        have nhc_8 := ne_k (7) rfl hc_8
                        have nhc_9 := ne_k (8) rfl hc_9
                        have nhc_10 := ne_k (9) rfl hc_10
                        have nhc_14 := ne_k (10) rfl hc_14
                        refine lv_tableOut (tgt := 148) C.1 C.2.1 dX8_studio_1 (by omega) (by decide) ?_
                        refine lv_ldc C.1 C.2.1 C.2.2.2.1 (C.2.2.2.2.1 _ w_408) dX8_studio_148 ?_
                        exact ret_i h hq rfl hW dX8_studio_150
theorem c_X8_studio {X : TX} {l : Launch} {fu : Nat} {x1 : Int32} {m mE : Mem} {r : Int32} (h : f_X8_studio fu x1 m = some (r, mE))  : MetI X l yX8_studio cX8_studio 2 .int 1 [.ref (ad X 0 0), .int x1] m r mE :=
  met_I (by decide) (Nat.le_of_ble_eq_true rfl) (fun p e s mi args below meth c ls Q C hq hW hl => w_X8_studio C hq h  hW (lv_sub hl [0, 1] rfl))
theorem k_X8_studio : CalV yX8_studio cX8_studio 2 (some .int) RX8 1 := ⟨w_578, w_579, w_61, w_580, by decide +kernel⟩
theorem dX8_behind_0 : decode cX8_behind 0 = .ok (.iload_n 1, 1) := by decide +kernel
theorem dX8_behind_1 : decode cX8_behind 1 = .ok (.iconst 0, 1) := by decide +kernel
theorem dX8_behind_2 : decode cX8_behind 2 = .ok (.bipush 100, 2) := by decide +kernel
theorem dX8_behind_4 : decode cX8_behind 4 = .ok (.invokestatic 137, 3) := by decide +kernel
theorem dX8_behind_7 : decode cX8_behind 7 = .ok (.ifCond .eq 20, 3) := by decide +kernel
theorem dX8_behind_10 : decode cX8_behind 10 = .ok (.iload_n 2, 1) := by decide +kernel
theorem dX8_behind_11 : decode cX8_behind 11 = .ok (.iconst 0, 1) := by decide +kernel
theorem dX8_behind_12 : decode cX8_behind 12 = .ok (.iconst 2, 1) := by decide +kernel
theorem dX8_behind_13 : decode cX8_behind 13 = .ok (.aload_n 0, 1) := by decide +kernel
theorem dX8_behind_14 : decode cX8_behind 14 = .ok (.getfield 28, 3) := by decide +kernel
theorem dX8_behind_17 : decode cX8_behind 17 = .ok (.getfield 191, 3) := by decide +kernel
theorem dX8_behind_20 : decode cX8_behind 20 = .ok (.iadd, 1) := by decide +kernel
theorem dX8_behind_21 : decode cX8_behind 21 = .ok (.invokestatic 137, 3) := by decide +kernel
theorem dX8_behind_24 : decode cX8_behind 24 = .ok (.ifCond .ne 6, 3) := by decide +kernel
theorem dX8_behind_27 : decode cX8_behind 27 = .ok (.ldc 73, 2) := by decide +kernel
theorem dX8_behind_29 : decode cX8_behind 29 = .ok (.ireturn, 1) := by decide +kernel
theorem dX8_behind_30 : decode cX8_behind 30 = .ok (.aload_n 0, 1) := by decide +kernel
theorem dX8_behind_31 : decode cX8_behind 31 = .ok (.getfield 32, 3) := by decide +kernel
theorem dX8_behind_34 : decode cX8_behind 34 = .ok (.aload_n 0, 1) := by decide +kernel
theorem dX8_behind_35 : decode cX8_behind 35 = .ok (.getfield 28, 3) := by decide +kernel
theorem dX8_behind_38 : decode cX8_behind 38 = .ok (.invokevirtual 194, 3) := by decide +kernel
theorem dX8_behind_41 : decode cX8_behind 41 = .ok (.aload_n 0, 1) := by decide +kernel
theorem dX8_behind_42 : decode cX8_behind 42 = .ok (.getfield 32, 3) := by decide +kernel
theorem dX8_behind_45 : decode cX8_behind 45 = .ok (.iload_n 1, 1) := by decide +kernel
theorem dX8_behind_46 : decode cX8_behind 46 = .ok (.invokevirtual 160, 3) := by decide +kernel
theorem dX8_behind_49 : decode cX8_behind 49 = .ok (.iload_n 2, 1) := by decide +kernel
theorem dX8_behind_50 : decode cX8_behind 50 = .ok (.tableswitch 50 0 2 #[26, 34, 42], 26) := by decide +kernel
theorem dX8_behind_76 : decode cX8_behind 76 = .ok (.aload_n 0, 1) := by decide +kernel
theorem dX8_behind_77 : decode cX8_behind 77 = .ok (.getfield 32, 3) := by decide +kernel
theorem dX8_behind_80 : decode cX8_behind 80 = .ok (.getfield 164, 3) := by decide +kernel
theorem dX8_behind_83 : decode cX8_behind 83 = .ok (.ireturn, 1) := by decide +kernel
theorem dX8_behind_84 : decode cX8_behind 84 = .ok (.aload_n 0, 1) := by decide +kernel
theorem dX8_behind_85 : decode cX8_behind 85 = .ok (.getfield 32, 3) := by decide +kernel
theorem dX8_behind_88 : decode cX8_behind 88 = .ok (.getfield 149, 3) := by decide +kernel
theorem dX8_behind_91 : decode cX8_behind 91 = .ok (.ireturn, 1) := by decide +kernel
theorem dX8_behind_92 : decode cX8_behind 92 = .ok (.aload_n 0, 1) := by decide +kernel
theorem dX8_behind_93 : decode cX8_behind 93 = .ok (.getfield 32, 3) := by decide +kernel
theorem dX8_behind_96 : decode cX8_behind 96 = .ok (.getfield 179, 3) := by decide +kernel
theorem dX8_behind_99 : decode cX8_behind 99 = .ok (.ireturn, 1) := by decide +kernel
theorem dX8_behind_100 : decode cX8_behind 100 = .ok (.aload_n 0, 1) := by decide +kernel
theorem dX8_behind_101 : decode cX8_behind 101 = .ok (.getfield 32, 3) := by decide +kernel
theorem dX8_behind_104 : decode cX8_behind 104 = .ok (.getfield 86, 3) := by decide +kernel
theorem dX8_behind_107 : decode cX8_behind 107 = .ok (.iload_n 2, 1) := by decide +kernel
theorem dX8_behind_108 : decode cX8_behind 108 = .ok (.iconst 3, 1) := by decide +kernel
theorem dX8_behind_109 : decode cX8_behind 109 = .ok (.isub, 1) := by decide +kernel
theorem dX8_behind_110 : decode cX8_behind 110 = .ok (.aaload, 1) := by decide +kernel
theorem dX8_behind_111 : decode cX8_behind 111 = .ok (.getfield 109, 3) := by decide +kernel
theorem dX8_behind_114 : decode cX8_behind 114 = .ok (.ireturn, 1) := by decide +kernel
def f_X8_behind (fu : Nat)  (x1 : Int32) (x2 : Int32) (m : Mem) : Option (Int32 × Mem) := doI (f_X8_within fu x1 0 100 m) (fun r_3 m_2 => if r_3 = 0 then (some ((-1000000001), m_2)) else (doI (f_X8_within fu x2 0 (2 + (m_2 (sf 0 1))) m_2) (fun r_6 m_5 => if r_6 = 0 then (some ((-1000000001), m_5)) else (doV (f_X4_become fu 1 0 m_5) (fun m_8 => doV (f_X4_run fu 1 x1 m_8) (fun m_10 => if x2 = 0 then (some ((m_10 (sf 1 5)), m_10)) else (if x2 = 1 then (some ((m_10 (sf 1 7)), m_10)) else (if x2 = 2 then (some ((m_10 (sf 1 11)), m_10)) else (chk (inb (x2 - 3) 5) (some ((m_10 (vf (10 * 1 + (x2 - 3).toNatClampNeg) 6)), m_10)))))))))))
set_option maxHeartbeats 4000000 in
set_option maxRecDepth 100000 in
theorem w_X8_behind {X : TX} {p : Program} {l : Launch} {e : Env} {s : State} {mi : MethodId} {args : Array Value} {below : List Frame} {meth : Method} {c : Code} {Q : State → Prop} {r : Int32} {mE : Mem} (C : Cx X p s mi args c RX8 cX8_behind 3) (hq : RetI X p l e (rmD 6) s mi args below meth c cX8_behind .int Q r mE) {fu : Nat} {x1 : Int32} {x2 : Int32} {m : Mem} {H : Heap} {locs : List Loc} {ls : Array Slot} (h : f_X8_behind fu x1 x2 m = some (r, mE))  (hW : Wd X s m H locs) (hl : lv_has ls 3 [(0, .ref (ad X 0 0)), (1, .int x1), (2, .int x2)]) : W p l e (rmD 6) s mi args below meth c H locs 0 0 Q (F0 mi 0 ls []) := by
  unfold f_X8_behind at h
  refine lv_iload_n C.1 C.2.1 dX8_behind_0 rfl (lv_at hl 1 rfl) ?_
  refine lv_iconst (v := 0) C.1 C.2.1 dX8_behind_1 rfl ?_
  refine lv_bipush (v := 100) C.1 C.2.1 dX8_behind_2 rfl ?_
  obtain ⟨r_3, m_2, hc_1, h⟩ := doI_E h
  refine zr_cSI C hW (c_X8_within (x0 := x1) (x1 := 0) (x2 := 100) hc_1 ) k_X8_within w_401 ⟨Nat.le_of_ble_eq_true rfl, Nat.le_of_ble_eq_true rfl⟩ ⟨Nat.le_refl 0, Nat.le_refl 0⟩ rfl hl.1 rfl (Nat.le_of_ble_eq_true rfl) dX8_behind_4 (fun H locs hW => ?_)
  refine lv_if_eq (tgt := 27) C.1 C.2.1 dX8_behind_7 (by decide) (fun hc_16 => ?_) (fun hc_16 => ?_)
  · have h := ite_t hc_16 h
    refine lv_ldc C.1 C.2.1 C.2.2.2.1 (C.2.2.2.2.1 _ w_408) dX8_behind_27 ?_
    exact ret_i h hq rfl hW dX8_behind_29
  · have h := ite_f hc_16 h
    refine lv_iload_n C.1 C.2.1 dX8_behind_10 rfl (lv_at hl 2 rfl) ?_
    refine lv_iconst (v := 0) C.1 C.2.1 dX8_behind_11 rfl ?_
    refine lv_iconst (v := 2) C.1 C.2.1 dX8_behind_12 rfl ?_
    refine lv_aload_n C.1 C.2.1 dX8_behind_13 rfl (lv_at hl 0 rfl) ?_
    refine zg_X8_now C hW id_0 w_362 dX8_behind_14 ?_
    refine zg_X4_many C hW id_9_0 w_227 dX8_behind_17 ?_
    refine lv_iadd C.1 C.2.1 dX8_behind_20 ?_
    obtain ⟨r_6, m_5, hc_4, h⟩ := doI_E h
    refine zr_cSI C hW (c_X8_within (x0 := x2) (x1 := 0) (x2 := (2 + (m_2 (sf 0 1)))) hc_4 ) k_X8_within w_401 ⟨Nat.le_of_ble_eq_true rfl, Nat.le_of_ble_eq_true rfl⟩ ⟨Nat.le_refl 0, Nat.le_refl 0⟩ rfl hl.1 rfl (Nat.le_of_ble_eq_true rfl) dX8_behind_21 (fun H locs hW => ?_)
    refine lv_if_ne (tgt := 30) C.1 C.2.1 dX8_behind_24 (by decide) (fun hc_15 => ?_) (fun hc_15 => ?_)
    · have h := ite_f hc_15 h
      refine lv_aload_n C.1 C.2.1 dX8_behind_30 rfl (lv_at hl 0 rfl) ?_
      refine zg_X8_thought C hW id_0 w_363 dX8_behind_31 ?_
      refine lv_aload_n C.1 C.2.1 dX8_behind_34 rfl (lv_at hl 0 rfl) ?_
      refine zg_X8_now C hW id_0 w_362 dX8_behind_35 ?_
      obtain ⟨m_8, hc_7, h⟩ := doV_E h
      refine zr_cVV C hW (c_X4_become (i0 := 1) (i1 := 0) hc_7 id_9_1 id_9_0) k_X4_become (zr_recv C hW id_9_1 zco_9 rfl) w_589 ⟨Nat.le_of_ble_eq_true rfl, Nat.le_of_ble_eq_true rfl⟩ ⟨Nat.le_refl 0, Nat.le_refl 0⟩ rfl hl.1 rfl (Nat.le_of_ble_eq_true rfl) dX8_behind_38 (fun H locs hW => ?_)
      refine lv_aload_n C.1 C.2.1 dX8_behind_41 rfl (lv_at hl 0 rfl) ?_
      refine zg_X8_thought C hW id_0 w_363 dX8_behind_42 ?_
      refine lv_iload_n C.1 C.2.1 dX8_behind_45 rfl (lv_at hl 1 rfl) ?_
      obtain ⟨m_10, hc_9, h⟩ := doV_E h
      refine zr_cVV C hW (c_X4_run (i0 := 1) (x1 := x1) hc_9 id_9_1) k_X4_run (zr_recv C hW id_9_1 zco_9 rfl) w_515 ⟨Nat.le_of_ble_eq_true rfl, Nat.le_of_ble_eq_true rfl⟩ ⟨Nat.le_refl 0, Nat.le_refl 0⟩ rfl hl.1 rfl (Nat.le_of_ble_eq_true rfl) dX8_behind_46 (fun H locs hW => ?_)
      refine lv_iload_n C.1 C.2.1 dX8_behind_49 rfl (lv_at hl 2 rfl) ?_
      by_cases hc_11 : x2 = 0
      · have h := ite_t hc_11 h
        refine lv_tableIn (tgt := 76) C.1 C.2.1 dX8_behind_50 (by rw [hc_11]; decide) (by rw [hc_11]; decide) (by rw [hc_11]; rfl) (by decide) ?_
        refine lv_aload_n C.1 C.2.1 dX8_behind_76 rfl (lv_at hl 0 rfl) ?_
        refine zg_X8_thought C hW id_0 w_363 dX8_behind_77 ?_
        refine zg_X4_listeners C hW id_9_1 w_229 dX8_behind_80 ?_
        exact ret_i h hq rfl hW dX8_behind_83
      · have h := ite_f hc_11 h
        by_cases hc_12 : x2 = 1
        · have h := ite_t hc_12 h
          refine lv_tableIn (tgt := 84) C.1 C.2.1 dX8_behind_50 (by rw [hc_12]; decide) (by rw [hc_12]; decide) (by rw [hc_12]; rfl) (by decide) ?_
          refine lv_aload_n C.1 C.2.1 dX8_behind_84 rfl (lv_at hl 0 rfl) ?_
          refine zg_X8_thought C hW id_0 w_363 dX8_behind_85 ?_
          refine zg_X4_silent C hW id_9_1 w_237 dX8_behind_88 ?_
          exact ret_i h hq rfl hW dX8_behind_91
        · have h := ite_f hc_12 h
          by_cases hc_13 : x2 = 2
          · have h := ite_t hc_13 h
            refine lv_tableIn (tgt := 92) C.1 C.2.1 dX8_behind_50 (by rw [hc_13]; decide) (by rw [hc_13]; decide) (by rw [hc_13]; rfl) (by decide) ?_
            refine lv_aload_n C.1 C.2.1 dX8_behind_92 rfl (lv_at hl 0 rfl) ?_
            refine zg_X8_thought C hW id_0 w_363 dX8_behind_93 ?_
            refine zg_X4_crossed C hW id_9_1 w_245 dX8_behind_96 ?_
            exact ret_i h hq rfl hW dX8_behind_99
          · have h := ite_f hc_13 h
            have nhc_11 := ne_k (0) rfl hc_11
            have nhc_12 := ne_k (1) rfl hc_12
            have nhc_13 := ne_k (2) rfl hc_13
            refine lv_tableOut (tgt := 100) C.1 C.2.1 dX8_behind_50 (by omega) (by decide) ?_
            refine lv_aload_n C.1 C.2.1 dX8_behind_100 rfl (lv_at hl 0 rfl) ?_
            refine zg_X8_thought C hW id_0 w_363 dX8_behind_101 ?_
            refine zg_X4_voices C hW id_9_1 w_225 dX8_behind_104 ?_
            refine lv_iload_n C.1 C.2.1 dX8_behind_107 rfl (lv_at hl 2 rfl) ?_
            refine lv_iconst (v := 3) C.1 C.2.1 dX8_behind_108 rfl ?_
            refine lv_isub C.1 C.2.1 dX8_behind_109 ?_
            obtain ⟨hb_14, h⟩ := chk_E h
            refine zaa_10 C hW (im_9_10 id_9_1) (inb_E hb_14) dX8_behind_110 ?_
            refine zg_X7_said C hW (ia_10 (im_9_10 id_9_1) (inb_E hb_14)) w_206 dX8_behind_111 ?_
            exact ret_i h hq rfl hW dX8_behind_114
    · have h := ite_t hc_15 h
      refine lv_ldc C.1 C.2.1 C.2.2.2.1 (C.2.2.2.2.1 _ w_408) dX8_behind_27 ?_
      exact ret_i h hq rfl hW dX8_behind_29
theorem c_X8_behind {X : TX} {l : Launch} {fu : Nat} {x1 : Int32} {x2 : Int32} {m mE : Mem} {r : Int32} (h : f_X8_behind fu x1 x2 m = some (r, mE))  : MetI X l yX8_behind cX8_behind 3 .int 6 [.ref (ad X 0 0), .int x1, .int x2] m r mE :=
  met_I (by decide) (Nat.le_of_ble_eq_true rfl) (fun p e s mi args below meth c ls Q C hq hW hl => w_X8_behind C hq h  hW (lv_sub hl [0, 1, 2] rfl))
theorem k_X8_behind : CalV yX8_behind cX8_behind 3 (some .int) RX8 2 := ⟨w_586, w_587, w_61, w_588, by decide +kernel⟩
theorem dX8_next_0 : decode cX8_next 0 = .ok (.iload_n 1, 1) := by decide +kernel
theorem dX8_next_1 : decode cX8_next 1 = .ok (.iconst 0, 1) := by decide +kernel
theorem dX8_next_2 : decode cX8_next 2 = .ok (.iconst 1, 1) := by decide +kernel
theorem dX8_next_3 : decode cX8_next 3 = .ok (.invokestatic 137, 3) := by decide +kernel
theorem dX8_next_6 : decode cX8_next 6 = .ok (.ifCond .ne 6, 3) := by decide +kernel
theorem dX8_next_9 : decode cX8_next 9 = .ok (.ldc 73, 2) := by decide +kernel
theorem dX8_next_11 : decode cX8_next 11 = .ok (.ireturn, 1) := by decide +kernel
theorem dX8_next_12 : decode cX8_next 12 = .ok (.aload_n 0, 1) := by decide +kernel
theorem dX8_next_13 : decode cX8_next 13 = .ok (.getfield 32, 3) := by decide +kernel
theorem dX8_next_16 : decode cX8_next 16 = .ok (.aload_n 0, 1) := by decide +kernel
theorem dX8_next_17 : decode cX8_next 17 = .ok (.getfield 28, 3) := by decide +kernel
theorem dX8_next_20 : decode cX8_next 20 = .ok (.invokevirtual 194, 3) := by decide +kernel
theorem dX8_next_23 : decode cX8_next 23 = .ok (.iconst 1, 1) := by decide +kernel
theorem dX8_next_24 : decode cX8_next 24 = .ok (.istore_n 2, 1) := by decide +kernel
theorem dX8_next_25 : decode cX8_next 25 = .ok (.iload_n 2, 1) := by decide +kernel
theorem dX8_next_26 : decode cX8_next 26 = .ok (.sipush 200, 3) := by decide +kernel
theorem dX8_next_29 : decode cX8_next 29 = .ok (.if_icmp .gt 43, 3) := by decide +kernel
theorem dX8_next_32 : decode cX8_next 32 = .ok (.aload_n 0, 1) := by decide +kernel
theorem dX8_next_33 : decode cX8_next 33 = .ok (.getfield 32, 3) := by decide +kernel
theorem dX8_next_36 : decode cX8_next 36 = .ok (.iconst 1, 1) := by decide +kernel
theorem dX8_next_37 : decode cX8_next 37 = .ok (.invokevirtual 160, 3) := by decide +kernel
theorem dX8_next_40 : decode cX8_next 40 = .ok (.aload_n 0, 1) := by decide +kernel
theorem dX8_next_41 : decode cX8_next 41 = .ok (.getfield 32, 3) := by decide +kernel
theorem dX8_next_44 : decode cX8_next 44 = .ok (.aload_n 0, 1) := by decide +kernel
theorem dX8_next_45 : decode cX8_next 45 = .ok (.getfield 28, 3) := by decide +kernel
theorem dX8_next_48 : decode cX8_next 48 = .ok (.invokevirtual 198, 3) := by decide +kernel
theorem dX8_next_51 : decode cX8_next 51 = .ok (.istore_n 3, 1) := by decide +kernel
theorem dX8_next_52 : decode cX8_next 52 = .ok (.iload_n 3, 1) := by decide +kernel
theorem dX8_next_53 : decode cX8_next 53 = .ok (.ifCond .lt 13, 3) := by decide +kernel
theorem dX8_next_56 : decode cX8_next 56 = .ok (.iload_n 1, 1) := by decide +kernel
theorem dX8_next_57 : decode cX8_next 57 = .ok (.ifCond .ne 7, 3) := by decide +kernel
theorem dX8_next_60 : decode cX8_next 60 = .ok (.iload_n 3, 1) := by decide +kernel
theorem dX8_next_61 : decode cX8_next 61 = .ok (.goto 4, 3) := by decide +kernel
theorem dX8_next_64 : decode cX8_next 64 = .ok (.iload_n 2, 1) := by decide +kernel
theorem dX8_next_65 : decode cX8_next 65 = .ok (.ireturn, 1) := by decide +kernel
theorem dX8_next_66 : decode cX8_next 66 = .ok (.iinc 2 1, 3) := by decide +kernel
theorem dX8_next_69 : decode cX8_next 69 = .ok (.goto (-44), 3) := by decide +kernel
theorem dX8_next_72 : decode cX8_next 72 = .ok (.ldc 202, 2) := by decide +kernel
theorem dX8_next_74 : decode cX8_next 74 = .ok (.ireturn, 1) := by decide +kernel
def f_X8_next_25 (fu : Nat)  : Nat → Int32 → Int32 → Mem → Option (Int32 × Mem)
  | 0, _, _, _ => none
  | n + 1, x1, x2, m => if 200 < x2 then (some ((-1000000005), m)) else (doV (f_X4_run fu 1 1 m) (fun m_2 => doI (f_X4_firstWhoSaidMore fu 1 0 m_2) (fun r_5 m_4 => if r_5 < 0 then (seqM (x2 + 1) (fun x_6 : Int32 => f_X8_next_25 fu n x1 x_6 m_4)) else (if x1 = 0 then (some (r_5, m_4)) else (some (x2, m_4))))))
set_option maxHeartbeats 4000000 in
set_option maxRecDepth 100000 in
theorem w_X8_next_25 {X : TX} {p : Program} {l : Launch} {e : Env} {s : State} {mi : MethodId} {args : Array Value} {below : List Frame} {meth : Method} {c : Code} {Q : State → Prop} {r : Int32} {mE : Mem} (C : Cx X p s mi args c RX8 cX8_next 4) (hq : RetI X p l e (rmD 6) s mi args below meth c cX8_next .int Q r mE) {fu : Nat} : ∀ (n : Nat) {x1 : Int32} {x2 : Int32} {m : Mem} {H : Heap} {locs : List Loc} {ls : Array Slot}, f_X8_next_25 fu n x1 x2 m = some (r, mE) → Wd X s m H locs → lv_has ls 4 [(0, .ref (ad X 0 0)), (1, .int x1), (2, .int x2)] → W p l e (rmD 6) s mi args below meth c H locs 0 0 Q (F0 mi 25 ls []) := by
  intro n
  induction n with
  | zero =>
    intro x1 x2 m H locs ls h hW hl
    rw [f_X8_next_25] at h
    cases h
  | succ n ih =>
    intro x1 x2 m H locs ls h hW hl
    rw [f_X8_next_25] at h
    refine lv_iload_n C.1 C.2.1 dX8_next_25 rfl (lv_at hl 2 rfl) ?_
    refine lv_sipush (v := 200) C.1 C.2.1 dX8_next_26 rfl ?_
    refine lv_icmp_gt (tgt := 72) C.1 C.2.1 dX8_next_29 (by decide) (fun hc_10 => ?_) (fun hc_10 => ?_)
    · have h := ite_t hc_10 h
      refine lv_ldc C.1 C.2.1 C.2.2.2.1 (C.2.2.2.2.1 _ w_605) dX8_next_72 ?_
      exact ret_i h hq rfl hW dX8_next_74
    · have h := ite_f hc_10 h
      refine lv_aload_n C.1 C.2.1 dX8_next_32 rfl (lv_at hl 0 rfl) ?_
      refine zg_X8_thought C hW id_0 w_363 dX8_next_33 ?_
      refine lv_iconst (v := 1) C.1 C.2.1 dX8_next_36 rfl ?_
      obtain ⟨m_2, hc_1, h⟩ := doV_E h
      refine zr_cVV C hW (c_X4_run (i0 := 1) (x1 := 1) hc_1 id_9_1) k_X4_run (zr_recv C hW id_9_1 zco_9 rfl) w_515 ⟨Nat.le_of_ble_eq_true rfl, Nat.le_of_ble_eq_true rfl⟩ ⟨Nat.le_refl 0, Nat.le_refl 0⟩ rfl hl.1 rfl (Nat.le_of_ble_eq_true rfl) dX8_next_37 (fun H locs hW => ?_)
      refine lv_aload_n C.1 C.2.1 dX8_next_40 rfl (lv_at hl 0 rfl) ?_
      refine zg_X8_thought C hW id_0 w_363 dX8_next_41 ?_
      refine lv_aload_n C.1 C.2.1 dX8_next_44 rfl (lv_at hl 0 rfl) ?_
      refine zg_X8_now C hW id_0 w_362 dX8_next_45 ?_
      obtain ⟨r_5, m_4, hc_3, h⟩ := doI_E h
      refine zr_cVI C hW (c_X4_firstWhoSaidMore (i0 := 1) (i1 := 0) hc_3 id_9_1 id_9_0) k_X4_firstWhoSaidMore (zr_recv C hW id_9_1 zco_9 rfl) w_601 ⟨Nat.le_of_ble_eq_true rfl, Nat.le_of_ble_eq_true rfl⟩ ⟨Nat.le_refl 0, Nat.le_refl 0⟩ rfl hl.1 rfl (Nat.le_of_ble_eq_true rfl) dX8_next_48 (fun H locs hW => ?_)
      refine lv_istore_n (lv' := [(3, .int r_5), (0, .ref (ad X 0 0)), (1, .int x1), (2, .int x2)]) C.1 C.2.1 dX8_next_51 rfl hl (by decide) rfl (fun ls hl => ?_)
      refine lv_iload_n C.1 C.2.1 dX8_next_52 rfl (lv_at hl 0 rfl) ?_
      refine lv_if_lt (tgt := 66) C.1 C.2.1 dX8_next_53 (by decide) (fun hc_9 => ?_) (fun hc_9 => ?_)
      · have h := ite_t hc_9 h
        obtain ⟨x_6, e_7, h⟩ := seqM_E h
        refine lv_iinc (v := x_6) (lv' := [(2, .int x_6), (3, .int r_5), (0, .ref (ad X 0 0)), (1, .int x1)]) C.1 C.2.1 dX8_next_66 hl (k := 3) rfl (by rw [e_7]; rfl) (by decide) rfl (fun ls hl => ?_)
        refine lv_goto (tgt := 25) C.1 C.2.1 dX8_next_69 (by decide) ?_
        exact ih h  hW (lv_sub hl [2, 3, 0] rfl)
      · have h := ite_f hc_9 h
        refine lv_iload_n C.1 C.2.1 dX8_next_56 rfl (lv_at hl 2 rfl) ?_
        refine lv_if_ne (tgt := 64) C.1 C.2.1 dX8_next_57 (by decide) (fun hc_8 => ?_) (fun hc_8 => ?_)
        · have h := ite_f hc_8 h
          refine lv_iload_n C.1 C.2.1 dX8_next_64 rfl (lv_at hl 3 rfl) ?_
          exact ret_i h hq rfl hW dX8_next_65
        · have h := ite_t hc_8 h
          refine lv_iload_n C.1 C.2.1 dX8_next_60 rfl (lv_at hl 0 rfl) ?_
          refine lv_goto (tgt := 65) C.1 C.2.1 dX8_next_61 (by decide) ?_
          exact ret_i h hq rfl hW dX8_next_65
def f_X8_next (fu : Nat)  (x1 : Int32) (m : Mem) : Option (Int32 × Mem) := doI (f_X8_within fu x1 0 1 m) (fun r_3 m_2 => if r_3 = 0 then (some ((-1000000001), m_2)) else (doV (f_X4_become fu 1 0 m_2) (fun m_5 => f_X8_next_25 fu fu x1 1 m_5)))
set_option maxHeartbeats 4000000 in
set_option maxRecDepth 100000 in
theorem w_X8_next {X : TX} {p : Program} {l : Launch} {e : Env} {s : State} {mi : MethodId} {args : Array Value} {below : List Frame} {meth : Method} {c : Code} {Q : State → Prop} {r : Int32} {mE : Mem} (C : Cx X p s mi args c RX8 cX8_next 4) (hq : RetI X p l e (rmD 6) s mi args below meth c cX8_next .int Q r mE) {fu : Nat} {x1 : Int32} {m : Mem} {H : Heap} {locs : List Loc} {ls : Array Slot} (h : f_X8_next fu x1 m = some (r, mE))  (hW : Wd X s m H locs) (hl : lv_has ls 4 [(0, .ref (ad X 0 0)), (1, .int x1)]) : W p l e (rmD 6) s mi args below meth c H locs 0 0 Q (F0 mi 0 ls []) := by
  unfold f_X8_next at h
  refine lv_iload_n C.1 C.2.1 dX8_next_0 rfl (lv_at hl 1 rfl) ?_
  refine lv_iconst (v := 0) C.1 C.2.1 dX8_next_1 rfl ?_
  refine lv_iconst (v := 1) C.1 C.2.1 dX8_next_2 rfl ?_
  obtain ⟨r_3, m_2, hc_1, h⟩ := doI_E h
  refine zr_cSI C hW (c_X8_within (x0 := x1) (x1 := 0) (x2 := 1) hc_1 ) k_X8_within w_401 ⟨Nat.le_of_ble_eq_true rfl, Nat.le_of_ble_eq_true rfl⟩ ⟨Nat.le_refl 0, Nat.le_refl 0⟩ rfl hl.1 rfl (Nat.le_of_ble_eq_true rfl) dX8_next_3 (fun H locs hW => ?_)
  refine lv_if_ne (tgt := 12) C.1 C.2.1 dX8_next_6 (by decide) (fun hc_6 => ?_) (fun hc_6 => ?_)
  · have h := ite_f hc_6 h
    refine lv_aload_n C.1 C.2.1 dX8_next_12 rfl (lv_at hl 0 rfl) ?_
    refine zg_X8_thought C hW id_0 w_363 dX8_next_13 ?_
    refine lv_aload_n C.1 C.2.1 dX8_next_16 rfl (lv_at hl 0 rfl) ?_
    refine zg_X8_now C hW id_0 w_362 dX8_next_17 ?_
    obtain ⟨m_5, hc_4, h⟩ := doV_E h
    refine zr_cVV C hW (c_X4_become (i0 := 1) (i1 := 0) hc_4 id_9_1 id_9_0) k_X4_become (zr_recv C hW id_9_1 zco_9 rfl) w_589 ⟨Nat.le_of_ble_eq_true rfl, Nat.le_of_ble_eq_true rfl⟩ ⟨Nat.le_refl 0, Nat.le_refl 0⟩ rfl hl.1 rfl (Nat.le_of_ble_eq_true rfl) dX8_next_20 (fun H locs hW => ?_)
    refine lv_iconst (v := 1) C.1 C.2.1 dX8_next_23 rfl ?_
    refine lv_istore_n (lv' := [(2, .int 1), (0, .ref (ad X 0 0)), (1, .int x1)]) C.1 C.2.1 dX8_next_24 rfl hl (by decide) rfl (fun ls hl => ?_)
    exact w_X8_next_25 C hq  fu h  hW (lv_sub hl [1, 2, 0] rfl)
  · have h := ite_t hc_6 h
    refine lv_ldc C.1 C.2.1 C.2.2.2.1 (C.2.2.2.2.1 _ w_408) dX8_next_9 ?_
    exact ret_i h hq rfl hW dX8_next_11
theorem c_X8_next {X : TX} {l : Launch} {fu : Nat} {x1 : Int32} {m mE : Mem} {r : Int32} (h : f_X8_next fu x1 m = some (r, mE))  : MetI X l yX8_next cX8_next 4 .int 6 [.ref (ad X 0 0), .int x1] m r mE :=
  met_I (by decide) (Nat.le_of_ble_eq_true rfl) (fun p e s mi args below meth c ls Q C hq hW hl => w_X8_next C hq h  hW (lv_sub hl [0, 1] rfl))
theorem k_X8_next : CalV yX8_next cX8_next 4 (some .int) RX8 1 := ⟨w_598, w_599, w_61, w_600, by decide +kernel⟩
theorem dX8_hole_0 : decode cX8_hole 0 = .ok (.iload_n 1, 1) := by decide +kernel
theorem dX8_hole_1 : decode cX8_hole 1 = .ok (.iconst 1, 1) := by decide +kernel
theorem dX8_hole_2 : decode cX8_hole 2 = .ok (.sipush 200, 3) := by decide +kernel
theorem dX8_hole_5 : decode cX8_hole 5 = .ok (.invokestatic 137, 3) := by decide +kernel
theorem dX8_hole_8 : decode cX8_hole 8 = .ok (.ifCond .ne 6, 3) := by decide +kernel
theorem dX8_hole_11 : decode cX8_hole 11 = .ok (.ldc 73, 2) := by decide +kernel
theorem dX8_hole_13 : decode cX8_hole 13 = .ok (.ireturn, 1) := by decide +kernel
theorem dX8_hole_14 : decode cX8_hole 14 = .ok (.aload_n 0, 1) := by decide +kernel
theorem dX8_hole_15 : decode cX8_hole 15 = .ok (.getfield 32, 3) := by decide +kernel
theorem dX8_hole_18 : decode cX8_hole 18 = .ok (.aload_n 0, 1) := by decide +kernel
theorem dX8_hole_19 : decode cX8_hole 19 = .ok (.getfield 28, 3) := by decide +kernel
theorem dX8_hole_22 : decode cX8_hole 22 = .ok (.invokevirtual 194, 3) := by decide +kernel
theorem dX8_hole_25 : decode cX8_hole 25 = .ok (.iconst 1, 1) := by decide +kernel
theorem dX8_hole_26 : decode cX8_hole 26 = .ok (.istore_n 2, 1) := by decide +kernel
theorem dX8_hole_27 : decode cX8_hole 27 = .ok (.iload_n 2, 1) := by decide +kernel
theorem dX8_hole_28 : decode cX8_hole 28 = .ok (.sipush 200, 3) := by decide +kernel
theorem dX8_hole_31 : decode cX8_hole 31 = .ok (.if_icmp .gt 36, 3) := by decide +kernel
theorem dX8_hole_34 : decode cX8_hole 34 = .ok (.aload_n 0, 1) := by decide +kernel
theorem dX8_hole_35 : decode cX8_hole 35 = .ok (.getfield 32, 3) := by decide +kernel
theorem dX8_hole_38 : decode cX8_hole 38 = .ok (.invokevirtual 203, 3) := by decide +kernel
theorem dX8_hole_41 : decode cX8_hole 41 = .ok (.aload_n 0, 1) := by decide +kernel
theorem dX8_hole_42 : decode cX8_hole 42 = .ok (.getfield 32, 3) := by decide +kernel
theorem dX8_hole_45 : decode cX8_hole 45 = .ok (.getfield 167, 3) := by decide +kernel
theorem dX8_hole_48 : decode cX8_hole 48 = .ok (.iload_n 1, 1) := by decide +kernel
theorem dX8_hole_49 : decode cX8_hole 49 = .ok (.if_icmp .lt 5, 3) := by decide +kernel
theorem dX8_hole_52 : decode cX8_hole 52 = .ok (.iload_n 2, 1) := by decide +kernel
theorem dX8_hole_53 : decode cX8_hole 53 = .ok (.ireturn, 1) := by decide +kernel
theorem dX8_hole_54 : decode cX8_hole 54 = .ok (.aload_n 0, 1) := by decide +kernel
theorem dX8_hole_55 : decode cX8_hole 55 = .ok (.getfield 32, 3) := by decide +kernel
theorem dX8_hole_58 : decode cX8_hole 58 = .ok (.invokevirtual 206, 3) := by decide +kernel
theorem dX8_hole_61 : decode cX8_hole 61 = .ok (.iinc 2 1, 3) := by decide +kernel
theorem dX8_hole_64 : decode cX8_hole 64 = .ok (.goto (-37), 3) := by decide +kernel
theorem dX8_hole_67 : decode cX8_hole 67 = .ok (.ldc 202, 2) := by decide +kernel
theorem dX8_hole_69 : decode cX8_hole 69 = .ok (.ireturn, 1) := by decide +kernel
def f_X8_hole_27 (fu : Nat)  : Nat → Int32 → Int32 → Mem → Option (Int32 × Mem)
  | 0, _, _, _ => none
  | n + 1, x1, x2, m => if 200 < x2 then (some ((-1000000005), m)) else (doV (f_X4_hear fu 1 m) (fun m_2 => if (m_2 (sf 1 6)) < x1 then (doV (f_X4_goOn fu 1 m_2) (fun m_4 => seqM (x2 + 1) (fun x_5 : Int32 => f_X8_hole_27 fu n x1 x_5 m_4))) else (some (x2, m_2))))
set_option maxHeartbeats 4000000 in
set_option maxRecDepth 100000 in
theorem w_X8_hole_27 {X : TX} {p : Program} {l : Launch} {e : Env} {s : State} {mi : MethodId} {args : Array Value} {below : List Frame} {meth : Method} {c : Code} {Q : State → Prop} {r : Int32} {mE : Mem} (C : Cx X p s mi args c RX8 cX8_hole 3) (hq : RetI X p l e (rmD 5) s mi args below meth c cX8_hole .int Q r mE) {fu : Nat} : ∀ (n : Nat) {x1 : Int32} {x2 : Int32} {m : Mem} {H : Heap} {locs : List Loc} {ls : Array Slot}, f_X8_hole_27 fu n x1 x2 m = some (r, mE) → Wd X s m H locs → lv_has ls 3 [(0, .ref (ad X 0 0)), (1, .int x1), (2, .int x2)] → W p l e (rmD 5) s mi args below meth c H locs 0 0 Q (F0 mi 27 ls []) := by
  intro n
  induction n with
  | zero =>
    intro x1 x2 m H locs ls h hW hl
    rw [f_X8_hole_27] at h
    cases h
  | succ n ih =>
    intro x1 x2 m H locs ls h hW hl
    rw [f_X8_hole_27] at h
    refine lv_iload_n C.1 C.2.1 dX8_hole_27 rfl (lv_at hl 2 rfl) ?_
    refine lv_sipush (v := 200) C.1 C.2.1 dX8_hole_28 rfl ?_
    refine lv_icmp_gt (tgt := 67) C.1 C.2.1 dX8_hole_31 (by decide) (fun hc_8 => ?_) (fun hc_8 => ?_)
    · have h := ite_t hc_8 h
      refine lv_ldc C.1 C.2.1 C.2.2.2.1 (C.2.2.2.2.1 _ w_605) dX8_hole_67 ?_
      exact ret_i h hq rfl hW dX8_hole_69
    · have h := ite_f hc_8 h
      refine lv_aload_n C.1 C.2.1 dX8_hole_34 rfl (lv_at hl 0 rfl) ?_
      refine zg_X8_thought C hW id_0 w_363 dX8_hole_35 ?_
      obtain ⟨m_2, hc_1, h⟩ := doV_E h
      refine zr_cVV C hW (c_X4_hear (i0 := 1) hc_1 id_9_1) k_X4_hear (zr_recv C hW id_9_1 zco_9 rfl) w_610 ⟨Nat.le_of_ble_eq_true rfl, Nat.le_of_ble_eq_true rfl⟩ ⟨Nat.le_refl 0, Nat.le_refl 0⟩ rfl hl.1 rfl (Nat.le_of_ble_eq_true rfl) dX8_hole_38 (fun H locs hW => ?_)
      refine lv_aload_n C.1 C.2.1 dX8_hole_41 rfl (lv_at hl 0 rfl) ?_
      refine zg_X8_thought C hW id_0 w_363 dX8_hole_42 ?_
      refine zg_X4_silence C hW id_9_1 w_235 dX8_hole_45 ?_
      refine lv_iload_n C.1 C.2.1 dX8_hole_48 rfl (lv_at hl 1 rfl) ?_
      refine lv_icmp_lt (tgt := 54) C.1 C.2.1 dX8_hole_49 (by decide) (fun hc_7 => ?_) (fun hc_7 => ?_)
      · have h := ite_t hc_7 h
        refine lv_aload_n C.1 C.2.1 dX8_hole_54 rfl (lv_at hl 0 rfl) ?_
        refine zg_X8_thought C hW id_0 w_363 dX8_hole_55 ?_
        obtain ⟨m_4, hc_3, h⟩ := doV_E h
        refine zr_cVV C hW (c_X4_goOn (i0 := 1) hc_3 id_9_1) k_X4_goOn (zr_recv C hW id_9_1 zco_9 rfl) w_611 ⟨Nat.le_of_ble_eq_true rfl, Nat.le_of_ble_eq_true rfl⟩ ⟨Nat.le_refl 0, Nat.le_refl 0⟩ rfl hl.1 rfl (Nat.le_of_ble_eq_true rfl) dX8_hole_58 (fun H locs hW => ?_)
        obtain ⟨x_5, e_6, h⟩ := seqM_E h
        refine lv_iinc (v := x_5) (lv' := [(2, .int x_5), (0, .ref (ad X 0 0)), (1, .int x1)]) C.1 C.2.1 dX8_hole_61 hl (k := 2) rfl (by rw [e_6]; rfl) (by decide) rfl (fun ls hl => ?_)
        refine lv_goto (tgt := 27) C.1 C.2.1 dX8_hole_64 (by decide) ?_
        exact ih h  hW (lv_sub hl [1, 2, 0] rfl)
      · have h := ite_f hc_7 h
        refine lv_iload_n C.1 C.2.1 dX8_hole_52 rfl (lv_at hl 2 rfl) ?_
        exact ret_i h hq rfl hW dX8_hole_53
def f_X8_hole (fu : Nat)  (x1 : Int32) (m : Mem) : Option (Int32 × Mem) := doI (f_X8_within fu x1 1 200 m) (fun r_3 m_2 => if r_3 = 0 then (some ((-1000000001), m_2)) else (doV (f_X4_become fu 1 0 m_2) (fun m_5 => f_X8_hole_27 fu fu x1 1 m_5)))
set_option maxHeartbeats 4000000 in
set_option maxRecDepth 100000 in
theorem w_X8_hole {X : TX} {p : Program} {l : Launch} {e : Env} {s : State} {mi : MethodId} {args : Array Value} {below : List Frame} {meth : Method} {c : Code} {Q : State → Prop} {r : Int32} {mE : Mem} (C : Cx X p s mi args c RX8 cX8_hole 3) (hq : RetI X p l e (rmD 5) s mi args below meth c cX8_hole .int Q r mE) {fu : Nat} {x1 : Int32} {m : Mem} {H : Heap} {locs : List Loc} {ls : Array Slot} (h : f_X8_hole fu x1 m = some (r, mE))  (hW : Wd X s m H locs) (hl : lv_has ls 3 [(0, .ref (ad X 0 0)), (1, .int x1)]) : W p l e (rmD 5) s mi args below meth c H locs 0 0 Q (F0 mi 0 ls []) := by
  unfold f_X8_hole at h
  refine lv_iload_n C.1 C.2.1 dX8_hole_0 rfl (lv_at hl 1 rfl) ?_
  refine lv_iconst (v := 1) C.1 C.2.1 dX8_hole_1 rfl ?_
  refine lv_sipush (v := 200) C.1 C.2.1 dX8_hole_2 rfl ?_
  obtain ⟨r_3, m_2, hc_1, h⟩ := doI_E h
  refine zr_cSI C hW (c_X8_within (x0 := x1) (x1 := 1) (x2 := 200) hc_1 ) k_X8_within w_401 ⟨Nat.le_of_ble_eq_true rfl, Nat.le_of_ble_eq_true rfl⟩ ⟨Nat.le_refl 0, Nat.le_refl 0⟩ rfl hl.1 rfl (Nat.le_of_ble_eq_true rfl) dX8_hole_5 (fun H locs hW => ?_)
  refine lv_if_ne (tgt := 14) C.1 C.2.1 dX8_hole_8 (by decide) (fun hc_6 => ?_) (fun hc_6 => ?_)
  · have h := ite_f hc_6 h
    refine lv_aload_n C.1 C.2.1 dX8_hole_14 rfl (lv_at hl 0 rfl) ?_
    refine zg_X8_thought C hW id_0 w_363 dX8_hole_15 ?_
    refine lv_aload_n C.1 C.2.1 dX8_hole_18 rfl (lv_at hl 0 rfl) ?_
    refine zg_X8_now C hW id_0 w_362 dX8_hole_19 ?_
    obtain ⟨m_5, hc_4, h⟩ := doV_E h
    refine zr_cVV C hW (c_X4_become (i0 := 1) (i1 := 0) hc_4 id_9_1 id_9_0) k_X4_become (zr_recv C hW id_9_1 zco_9 rfl) w_589 ⟨Nat.le_of_ble_eq_true rfl, Nat.le_of_ble_eq_true rfl⟩ ⟨Nat.le_refl 0, Nat.le_refl 0⟩ rfl hl.1 rfl (Nat.le_of_ble_eq_true rfl) dX8_hole_22 (fun H locs hW => ?_)
    refine lv_iconst (v := 1) C.1 C.2.1 dX8_hole_25 rfl ?_
    refine lv_istore_n (lv' := [(2, .int 1), (0, .ref (ad X 0 0)), (1, .int x1)]) C.1 C.2.1 dX8_hole_26 rfl hl (by decide) rfl (fun ls hl => ?_)
    exact w_X8_hole_27 C hq  fu h  hW (lv_sub hl [1, 2, 0] rfl)
  · have h := ite_t hc_6 h
    refine lv_ldc C.1 C.2.1 C.2.2.2.1 (C.2.2.2.2.1 _ w_408) dX8_hole_11 ?_
    exact ret_i h hq rfl hW dX8_hole_13
theorem c_X8_hole {X : TX} {l : Launch} {fu : Nat} {x1 : Int32} {m mE : Mem} {r : Int32} (h : f_X8_hole fu x1 m = some (r, mE))  : MetI X l yX8_hole cX8_hole 3 .int 5 [.ref (ad X 0 0), .int x1] m r mE :=
  met_I (by decide) (Nat.le_of_ble_eq_true rfl) (fun p e s mi args below meth c ls Q C hq hW hl => w_X8_hole C hq h  hW (lv_sub hl [0, 1] rfl))
theorem k_X8_hole : CalV yX8_hole cX8_hole 3 (some .int) RX8 1 := ⟨w_607, w_608, w_61, w_609, by decide +kernel⟩
theorem dX8_isBestAsked_0 : decode cX8_isBestAsked 0 = .ok (.iload_n 0, 1) := by decide +kernel
theorem dX8_isBestAsked_1 : decode cX8_isBestAsked 1 = .ok (.iconst 1, 1) := by decide +kernel
theorem dX8_isBestAsked_2 : decode cX8_isBestAsked 2 = .ok (.bipush 60, 2) := by decide +kernel
theorem dX8_isBestAsked_4 : decode cX8_isBestAsked 4 = .ok (.invokestatic 137, 3) := by decide +kernel
theorem dX8_isBestAsked_7 : decode cX8_isBestAsked 7 = .ok (.ifCond .eq 16, 3) := by decide +kernel
theorem dX8_isBestAsked_10 : decode cX8_isBestAsked 10 = .ok (.iload_n 1, 1) := by decide +kernel
theorem dX8_isBestAsked_11 : decode cX8_isBestAsked 11 = .ok (.iconst 0, 1) := by decide +kernel
theorem dX8_isBestAsked_12 : decode cX8_isBestAsked 12 = .ok (.iconst 1, 1) := by decide +kernel
theorem dX8_isBestAsked_13 : decode cX8_isBestAsked 13 = .ok (.invokestatic 137, 3) := by decide +kernel
theorem dX8_isBestAsked_16 : decode cX8_isBestAsked 16 = .ok (.ifCond .eq 7, 3) := by decide +kernel
theorem dX8_isBestAsked_19 : decode cX8_isBestAsked 19 = .ok (.iconst 1, 1) := by decide +kernel
theorem dX8_isBestAsked_20 : decode cX8_isBestAsked 20 = .ok (.goto 4, 3) := by decide +kernel
theorem dX8_isBestAsked_23 : decode cX8_isBestAsked 23 = .ok (.iconst 0, 1) := by decide +kernel
theorem dX8_isBestAsked_24 : decode cX8_isBestAsked 24 = .ok (.ireturn, 1) := by decide +kernel
def f_X8_isBestAsked (fu : Nat)  (x0 : Int32) (x1 : Int32) (m : Mem) : Option (Int32 × Mem) := doI (f_X8_within fu x0 1 60 m) (fun r_3 m_2 => if r_3 = 0 then (some (0, m_2)) else (doI (f_X8_within fu x1 0 1 m_2) (fun r_6 m_5 => if r_6 = 0 then (some (0, m_5)) else (some (1, m_5)))))
set_option maxHeartbeats 4000000 in
set_option maxRecDepth 100000 in
theorem w_X8_isBestAsked {X : TX} {p : Program} {l : Launch} {e : Env} {s : State} {mi : MethodId} {args : Array Value} {below : List Frame} {meth : Method} {c : Code} {Q : State → Prop} {r : Int32} {mE : Mem} (C : Cx X p s mi args c RX8 cX8_isBestAsked 2) (hq : RetI X p l e (rmD 1) s mi args below meth c cX8_isBestAsked .boolean Q r mE) {fu : Nat} {x0 : Int32} {x1 : Int32} {m : Mem} {H : Heap} {locs : List Loc} {ls : Array Slot} (h : f_X8_isBestAsked fu x0 x1 m = some (r, mE))  (hW : Wd X s m H locs) (hl : lv_has ls 2 [(0, .int x0), (1, .int x1)]) : W p l e (rmD 1) s mi args below meth c H locs 0 0 Q (F0 mi 0 ls []) := by
  unfold f_X8_isBestAsked at h
  refine lv_iload_n C.1 C.2.1 dX8_isBestAsked_0 rfl (lv_at hl 0 rfl) ?_
  refine lv_iconst (v := 1) C.1 C.2.1 dX8_isBestAsked_1 rfl ?_
  refine lv_bipush (v := 60) C.1 C.2.1 dX8_isBestAsked_2 rfl ?_
  obtain ⟨r_3, m_2, hc_1, h⟩ := doI_E h
  refine zr_cSI C hW (c_X8_within (x0 := x0) (x1 := 1) (x2 := 60) hc_1 ) k_X8_within w_401 ⟨Nat.le_of_ble_eq_true rfl, Nat.le_of_ble_eq_true rfl⟩ ⟨Nat.le_refl 0, Nat.le_refl 0⟩ rfl hl.1 rfl (Nat.le_of_ble_eq_true rfl) dX8_isBestAsked_4 (fun H locs hW => ?_)
  refine lv_if_eq (tgt := 23) C.1 C.2.1 dX8_isBestAsked_7 (by decide) (fun hc_8 => ?_) (fun hc_8 => ?_)
  · have h := ite_t hc_8 h
    refine lv_iconst (v := 0) C.1 C.2.1 dX8_isBestAsked_23 rfl ?_
    exact ret_i h hq rfl hW dX8_isBestAsked_24
  · have h := ite_f hc_8 h
    refine lv_iload_n C.1 C.2.1 dX8_isBestAsked_10 rfl (lv_at hl 1 rfl) ?_
    refine lv_iconst (v := 0) C.1 C.2.1 dX8_isBestAsked_11 rfl ?_
    refine lv_iconst (v := 1) C.1 C.2.1 dX8_isBestAsked_12 rfl ?_
    obtain ⟨r_6, m_5, hc_4, h⟩ := doI_E h
    refine zr_cSI C hW (c_X8_within (x0 := x1) (x1 := 0) (x2 := 1) hc_4 ) k_X8_within w_401 ⟨Nat.le_of_ble_eq_true rfl, Nat.le_of_ble_eq_true rfl⟩ ⟨Nat.le_refl 0, Nat.le_refl 0⟩ rfl hl.1 rfl (Nat.le_of_ble_eq_true rfl) dX8_isBestAsked_13 (fun H locs hW => ?_)
    refine lv_if_eq (tgt := 23) C.1 C.2.1 dX8_isBestAsked_16 (by decide) (fun hc_7 => ?_) (fun hc_7 => ?_)
    · have h := ite_t hc_7 h
      refine lv_iconst (v := 0) C.1 C.2.1 dX8_isBestAsked_23 rfl ?_
      exact ret_i h hq rfl hW dX8_isBestAsked_24
    · have h := ite_f hc_7 h
      refine lv_iconst (v := 1) C.1 C.2.1 dX8_isBestAsked_19 rfl ?_
      refine lv_goto (tgt := 24) C.1 C.2.1 dX8_isBestAsked_20 (by decide) ?_
      exact ret_i h hq rfl hW dX8_isBestAsked_24
theorem c_X8_isBestAsked {X : TX} {l : Launch} {fu : Nat} {x0 : Int32} {x1 : Int32} {m mE : Mem} {r : Int32} (h : f_X8_isBestAsked fu x0 x1 m = some (r, mE))  : MetI X l yX8_isBestAsked cX8_isBestAsked 2 .boolean 1 [.int x0, .int x1] m r mE :=
  met_I (by decide) (Nat.le_of_ble_eq_true rfl) (fun p e s mi args below meth c ls Q C hq hW hl => w_X8_isBestAsked C hq h  hW (lv_sub hl [0, 1] rfl))
theorem k_X8_isBestAsked : CalS yX8_isBestAsked cX8_isBestAsked 2 (some .boolean) 2 := ⟨w_617, w_61, w_618, by decide +kernel⟩
theorem dX8_patience_0 : decode cX8_patience 0 = .ok (.aload_n 0, 1) := by decide +kernel
theorem dX8_patience_1 : decode cX8_patience 1 = .ok (.getfield 28, 3) := by decide +kernel
theorem dX8_patience_4 : decode cX8_patience 4 = .ok (.iload_n 1, 1) := by decide +kernel
theorem dX8_patience_5 : decode cX8_patience 5 = .ok (.invokevirtual 83, 3) := by decide +kernel
theorem dX8_patience_8 : decode cX8_patience 8 = .ok (.ifCond .eq 11, 3) := by decide +kernel
theorem dX8_patience_11 : decode cX8_patience 11 = .ok (.iload_n 2, 1) := by decide +kernel
theorem dX8_patience_12 : decode cX8_patience 12 = .ok (.iload_n 3, 1) := by decide +kernel
theorem dX8_patience_13 : decode cX8_patience 13 = .ok (.invokestatic 209, 3) := by decide +kernel
theorem dX8_patience_16 : decode cX8_patience 16 = .ok (.ifCond .ne 6, 3) := by decide +kernel
theorem dX8_patience_19 : decode cX8_patience 19 = .ok (.ldc 73, 2) := by decide +kernel
theorem dX8_patience_21 : decode cX8_patience 21 = .ok (.ireturn, 1) := by decide +kernel
theorem dX8_patience_22 : decode cX8_patience 22 = .ok (.aload_n 0, 1) := by decide +kernel
theorem dX8_patience_23 : decode cX8_patience 23 = .ok (.getfield 41, 3) := by decide +kernel
theorem dX8_patience_26 : decode cX8_patience 26 = .ok (.invokevirtual 212, 3) := by decide +kernel
theorem dX8_patience_29 : decode cX8_patience 29 = .ok (.iconst 1, 1) := by decide +kernel
theorem dX8_patience_30 : decode cX8_patience 30 = .ok (.istore 4, 2) := by decide +kernel
theorem dX8_patience_32 : decode cX8_patience 32 = .ok (.iload 4, 2) := by decide +kernel
theorem dX8_patience_34 : decode cX8_patience 34 = .ok (.bipush 60, 2) := by decide +kernel
theorem dX8_patience_36 : decode cX8_patience 36 = .ok (.if_icmp .gt 58, 3) := by decide +kernel
theorem dX8_patience_39 : decode cX8_patience 39 = .ok (.aload_n 0, 1) := by decide +kernel
theorem dX8_patience_40 : decode cX8_patience 40 = .ok (.getfield 32, 3) := by decide +kernel
theorem dX8_patience_43 : decode cX8_patience 43 = .ok (.aload_n 0, 1) := by decide +kernel
theorem dX8_patience_44 : decode cX8_patience 44 = .ok (.getfield 28, 3) := by decide +kernel
theorem dX8_patience_47 : decode cX8_patience 47 = .ok (.invokevirtual 194, 3) := by decide +kernel
theorem dX8_patience_50 : decode cX8_patience 50 = .ok (.aload_n 0, 1) := by decide +kernel
theorem dX8_patience_51 : decode cX8_patience 51 = .ok (.getfield 32, 3) := by decide +kernel
theorem dX8_patience_54 : decode cX8_patience 54 = .ok (.getfield 86, 3) := by decide +kernel
theorem dX8_patience_57 : decode cX8_patience 57 = .ok (.iload_n 1, 1) := by decide +kernel
theorem dX8_patience_58 : decode cX8_patience 58 = .ok (.aaload, 1) := by decide +kernel
theorem dX8_patience_59 : decode cX8_patience 59 = .ok (.iload 4, 2) := by decide +kernel
theorem dX8_patience_61 : decode cX8_patience 61 = .ok (.putfield 94, 3) := by decide +kernel
theorem dX8_patience_64 : decode cX8_patience 64 = .ok (.aload_n 0, 1) := by decide +kernel
theorem dX8_patience_65 : decode cX8_patience 65 = .ok (.getfield 32, 3) := by decide +kernel
theorem dX8_patience_68 : decode cX8_patience 68 = .ok (.iload_n 2, 1) := by decide +kernel
theorem dX8_patience_69 : decode cX8_patience 69 = .ok (.invokevirtual 160, 3) := by decide +kernel
theorem dX8_patience_72 : decode cX8_patience 72 = .ok (.aload_n 0, 1) := by decide +kernel
theorem dX8_patience_73 : decode cX8_patience 73 = .ok (.getfield 41, 3) := by decide +kernel
theorem dX8_patience_76 : decode cX8_patience 76 = .ok (.iload 4, 2) := by decide +kernel
theorem dX8_patience_78 : decode cX8_patience 78 = .ok (.aload_n 0, 1) := by decide +kernel
theorem dX8_patience_79 : decode cX8_patience 79 = .ok (.getfield 32, 3) := by decide +kernel
theorem dX8_patience_82 : decode cX8_patience 82 = .ok (.getfield 164, 3) := by decide +kernel
theorem dX8_patience_85 : decode cX8_patience 85 = .ok (.invokevirtual 215, 3) := by decide +kernel
theorem dX8_patience_88 : decode cX8_patience 88 = .ok (.iinc 4 1, 3) := by decide +kernel
theorem dX8_patience_91 : decode cX8_patience 91 = .ok (.goto (-59), 3) := by decide +kernel
theorem dX8_patience_94 : decode cX8_patience 94 = .ok (.aload_n 0, 1) := by decide +kernel
theorem dX8_patience_95 : decode cX8_patience 95 = .ok (.getfield 41, 3) := by decide +kernel
theorem dX8_patience_98 : decode cX8_patience 98 = .ok (.iload_n 3, 1) := by decide +kernel
theorem dX8_patience_99 : decode cX8_patience 99 = .ok (.invokevirtual 219, 3) := by decide +kernel
theorem dX8_patience_102 : decode cX8_patience 102 = .ok (.ireturn, 1) := by decide +kernel
def f_X8_patience_32 (fu : Nat)  : Nat → Int32 → Int32 → Int32 → Int32 → Mem → Option (Int32 × Mem)
  | 0, _, _, _, _, _ => none
  | n + 1, x1, x2, x3, x4, m => if 60 < x4 then (doI (f_X0_answer fu x3 m) (fun r_3 m_2 => some (r_3, m_2))) else (doV (f_X4_become fu 1 0 m) (fun m_5 => chk (inb x1 5) (seqM (upd m_5 (vf (10 * 1 + x1.toNatClampNeg) 1) x4) (fun m_7 : Mem => doV (f_X4_run fu 1 x2 m_7) (fun m_10 => doV (f_X0_weigh fu x4 (m_10 (sf 1 5)) m_10) (fun m_12 => seqM (x4 + 1) (fun x_13 : Int32 => f_X8_patience_32 fu n x1 x2 x3 x_13 m_12)))))))
set_option maxHeartbeats 4000000 in
set_option maxRecDepth 100000 in
theorem w_X8_patience_32 {X : TX} {p : Program} {l : Launch} {e : Env} {s : State} {mi : MethodId} {args : Array Value} {below : List Frame} {meth : Method} {c : Code} {Q : State → Prop} {r : Int32} {mE : Mem} (C : Cx X p s mi args c RX8 cX8_patience 5) (hq : RetI X p l e (rmD 6) s mi args below meth c cX8_patience .int Q r mE) {fu : Nat} : ∀ (n : Nat) {x1 : Int32} {x2 : Int32} {x3 : Int32} {x4 : Int32} {m : Mem} {H : Heap} {locs : List Loc} {ls : Array Slot}, f_X8_patience_32 fu n x1 x2 x3 x4 m = some (r, mE) → Wd X s m H locs → lv_has ls 5 [(0, .ref (ad X 0 0)), (1, .int x1), (2, .int x2), (3, .int x3), (4, .int x4)] → W p l e (rmD 6) s mi args below meth c H locs 0 0 Q (F0 mi 32 ls []) := by
  intro n
  induction n with
  | zero =>
    intro x1 x2 x3 x4 m H locs ls h hW hl
    rw [f_X8_patience_32] at h
    cases h
  | succ n ih =>
    intro x1 x2 x3 x4 m H locs ls h hW hl
    rw [f_X8_patience_32] at h
    refine lv_iload C.1 C.2.1 dX8_patience_32 (lv_at hl 4 rfl) ?_
    refine lv_bipush (v := 60) C.1 C.2.1 dX8_patience_34 rfl ?_
    refine lv_icmp_gt (tgt := 94) C.1 C.2.1 dX8_patience_36 (by decide) (fun hc_15 => ?_) (fun hc_15 => ?_)
    · have h := ite_t hc_15 h
      refine lv_aload_n C.1 C.2.1 dX8_patience_94 rfl (lv_at hl 0 rfl) ?_
      refine zg_X8_best C hW id_0 w_366 dX8_patience_95 ?_
      refine lv_iload_n C.1 C.2.1 dX8_patience_98 rfl (lv_at hl 3 rfl) ?_
      obtain ⟨r_3, m_2, hc_1, h⟩ := doI_E h
      refine zr_cVI C hW (c_X0_answer (x1 := x3) hc_1 ) k_X0_answer (zr_recv C hW id_13 zco_13 rfl) w_627 ⟨Nat.le_of_ble_eq_true rfl, Nat.le_of_ble_eq_true rfl⟩ ⟨Nat.le_refl 0, Nat.le_refl 0⟩ rfl hl.1 rfl (Nat.le_of_ble_eq_true rfl) dX8_patience_99 (fun H locs hW => ?_)
      exact ret_i h hq rfl hW dX8_patience_102
    · have h := ite_f hc_15 h
      refine lv_aload_n C.1 C.2.1 dX8_patience_39 rfl (lv_at hl 0 rfl) ?_
      refine zg_X8_thought C hW id_0 w_363 dX8_patience_40 ?_
      refine lv_aload_n C.1 C.2.1 dX8_patience_43 rfl (lv_at hl 0 rfl) ?_
      refine zg_X8_now C hW id_0 w_362 dX8_patience_44 ?_
      obtain ⟨m_5, hc_4, h⟩ := doV_E h
      refine zr_cVV C hW (c_X4_become (i0 := 1) (i1 := 0) hc_4 id_9_1 id_9_0) k_X4_become (zr_recv C hW id_9_1 zco_9 rfl) w_589 ⟨Nat.le_of_ble_eq_true rfl, Nat.le_of_ble_eq_true rfl⟩ ⟨Nat.le_refl 0, Nat.le_refl 0⟩ rfl hl.1 rfl (Nat.le_of_ble_eq_true rfl) dX8_patience_47 (fun H locs hW => ?_)
      refine lv_aload_n C.1 C.2.1 dX8_patience_50 rfl (lv_at hl 0 rfl) ?_
      refine zg_X8_thought C hW id_0 w_363 dX8_patience_51 ?_
      refine zg_X4_voices C hW id_9_1 w_225 dX8_patience_54 ?_
      refine lv_iload_n C.1 C.2.1 dX8_patience_57 rfl (lv_at hl 1 rfl) ?_
      obtain ⟨hb_6, h⟩ := chk_E h
      refine zaa_10 C hW (im_9_10 id_9_1) (inb_E hb_6) dX8_patience_58 ?_
      refine lv_iload C.1 C.2.1 dX8_patience_59 (lv_at hl 4 rfl) ?_
      obtain ⟨m_7, e_8, h⟩ := seqM_E h
      refine zp_X7_wait C hW (ia_10 (im_9_10 id_9_1) (inb_E hb_6)) w_192 e_8 dX8_patience_61 (fun H locs hW => ?_)
      refine lv_aload_n C.1 C.2.1 dX8_patience_64 rfl (lv_at hl 0 rfl) ?_
      refine zg_X8_thought C hW id_0 w_363 dX8_patience_65 ?_
      refine lv_iload_n C.1 C.2.1 dX8_patience_68 rfl (lv_at hl 2 rfl) ?_
      obtain ⟨m_10, hc_9, h⟩ := doV_E h
      refine zr_cVV C hW (c_X4_run (i0 := 1) (x1 := x2) hc_9 id_9_1) k_X4_run (zr_recv C hW id_9_1 zco_9 rfl) w_515 ⟨Nat.le_of_ble_eq_true rfl, Nat.le_of_ble_eq_true rfl⟩ ⟨Nat.le_refl 0, Nat.le_refl 0⟩ rfl hl.1 rfl (Nat.le_of_ble_eq_true rfl) dX8_patience_69 (fun H locs hW => ?_)
      refine lv_aload_n C.1 C.2.1 dX8_patience_72 rfl (lv_at hl 0 rfl) ?_
      refine zg_X8_best C hW id_0 w_366 dX8_patience_73 ?_
      refine lv_iload C.1 C.2.1 dX8_patience_76 (lv_at hl 4 rfl) ?_
      refine lv_aload_n C.1 C.2.1 dX8_patience_78 rfl (lv_at hl 0 rfl) ?_
      refine zg_X8_thought C hW id_0 w_363 dX8_patience_79 ?_
      refine zg_X4_listeners C hW id_9_1 w_229 dX8_patience_82 ?_
      obtain ⟨m_12, hc_11, h⟩ := doV_E h
      refine zr_cVV C hW (c_X0_weigh (x1 := x4) (x2 := (m_10 (sf 1 5))) hc_11 ) k_X0_weigh (zr_recv C hW id_13 zco_13 rfl) w_623 ⟨Nat.le_of_ble_eq_true rfl, Nat.le_of_ble_eq_true rfl⟩ ⟨Nat.le_refl 0, Nat.le_refl 0⟩ rfl hl.1 rfl (Nat.le_of_ble_eq_true rfl) dX8_patience_85 (fun H locs hW => ?_)
      obtain ⟨x_13, e_14, h⟩ := seqM_E h
      refine lv_iinc (v := x_13) (lv' := [(4, .int x_13), (0, .ref (ad X 0 0)), (1, .int x1), (2, .int x2), (3, .int x3)]) C.1 C.2.1 dX8_patience_88 hl (k := 4) rfl (by rw [e_14]; rfl) (by decide) rfl (fun ls hl => ?_)
      refine lv_goto (tgt := 32) C.1 C.2.1 dX8_patience_91 (by decide) ?_
      exact ih h  hW (lv_sub hl [1, 2, 3, 4, 0] rfl)
def f_X8_patience (fu : Nat)  (x1 : Int32) (x2 : Int32) (x3 : Int32) (m : Mem) : Option (Int32 × Mem) := doI (f_X4_has fu 0 x1 m) (fun r_3 m_2 => if r_3 = 0 then (some ((-1000000001), m_2)) else (doI (f_X8_isBestAsked fu x2 x3 m_2) (fun r_6 m_5 => if r_6 = 0 then (some ((-1000000001), m_5)) else (doV (f_X0_clear fu  m_5) (fun m_8 => f_X8_patience_32 fu fu x1 x2 x3 1 m_8)))))
set_option maxHeartbeats 4000000 in
set_option maxRecDepth 100000 in
theorem w_X8_patience {X : TX} {p : Program} {l : Launch} {e : Env} {s : State} {mi : MethodId} {args : Array Value} {below : List Frame} {meth : Method} {c : Code} {Q : State → Prop} {r : Int32} {mE : Mem} (C : Cx X p s mi args c RX8 cX8_patience 5) (hq : RetI X p l e (rmD 6) s mi args below meth c cX8_patience .int Q r mE) {fu : Nat} {x1 : Int32} {x2 : Int32} {x3 : Int32} {m : Mem} {H : Heap} {locs : List Loc} {ls : Array Slot} (h : f_X8_patience fu x1 x2 x3 m = some (r, mE))  (hW : Wd X s m H locs) (hl : lv_has ls 5 [(0, .ref (ad X 0 0)), (1, .int x1), (2, .int x2), (3, .int x3)]) : W p l e (rmD 6) s mi args below meth c H locs 0 0 Q (F0 mi 0 ls []) := by
  unfold f_X8_patience at h
  refine lv_aload_n C.1 C.2.1 dX8_patience_0 rfl (lv_at hl 0 rfl) ?_
  refine zg_X8_now C hW id_0 w_362 dX8_patience_1 ?_
  refine lv_iload_n C.1 C.2.1 dX8_patience_4 rfl (lv_at hl 1 rfl) ?_
  obtain ⟨r_3, m_2, hc_1, h⟩ := doI_E h
  refine zr_cVI C hW (c_X4_has (i0 := 0) (x1 := x1) hc_1 id_9_0) k_X4_has (zr_recv C hW id_9_0 zco_9 rfl) w_422 ⟨Nat.le_of_ble_eq_true rfl, Nat.le_of_ble_eq_true rfl⟩ ⟨Nat.le_refl 0, Nat.le_refl 0⟩ rfl hl.1 rfl (Nat.le_of_ble_eq_true rfl) dX8_patience_5 (fun H locs hW => ?_)
  refine lv_if_eq (tgt := 19) C.1 C.2.1 dX8_patience_8 (by decide) (fun hc_10 => ?_) (fun hc_10 => ?_)
  · have h := ite_t hc_10 h
    refine lv_ldc C.1 C.2.1 C.2.2.2.1 (C.2.2.2.2.1 _ w_408) dX8_patience_19 ?_
    exact ret_i h hq rfl hW dX8_patience_21
  · have h := ite_f hc_10 h
    refine lv_iload_n C.1 C.2.1 dX8_patience_11 rfl (lv_at hl 2 rfl) ?_
    refine lv_iload_n C.1 C.2.1 dX8_patience_12 rfl (lv_at hl 3 rfl) ?_
    obtain ⟨r_6, m_5, hc_4, h⟩ := doI_E h
    refine zr_cSI C hW (c_X8_isBestAsked (x0 := x2) (x1 := x3) hc_4 ) k_X8_isBestAsked w_616 ⟨Nat.le_of_ble_eq_true rfl, Nat.le_of_ble_eq_true rfl⟩ ⟨Nat.le_refl 0, Nat.le_refl 0⟩ rfl hl.1 rfl (Nat.le_of_ble_eq_true rfl) dX8_patience_13 (fun H locs hW => ?_)
    refine lv_if_ne (tgt := 22) C.1 C.2.1 dX8_patience_16 (by decide) (fun hc_9 => ?_) (fun hc_9 => ?_)
    · have h := ite_f hc_9 h
      refine lv_aload_n C.1 C.2.1 dX8_patience_22 rfl (lv_at hl 0 rfl) ?_
      refine zg_X8_best C hW id_0 w_366 dX8_patience_23 ?_
      obtain ⟨m_8, hc_7, h⟩ := doV_E h
      refine zr_cVV C hW (c_X0_clear  hc_7 ) k_X0_clear (zr_recv C hW id_13 zco_13 rfl) w_619 ⟨Nat.le_of_ble_eq_true rfl, Nat.le_of_ble_eq_true rfl⟩ ⟨Nat.le_refl 0, Nat.le_refl 0⟩ rfl hl.1 rfl (Nat.le_of_ble_eq_true rfl) dX8_patience_26 (fun H locs hW => ?_)
      refine lv_iconst (v := 1) C.1 C.2.1 dX8_patience_29 rfl ?_
      refine lv_istore (lv' := [(4, .int 1), (0, .ref (ad X 0 0)), (1, .int x1), (2, .int x2), (3, .int x3)]) C.1 C.2.1 dX8_patience_30 hl (by decide) rfl (fun ls hl => ?_)
      exact w_X8_patience_32 C hq  fu h  hW (lv_sub hl [1, 2, 3, 4, 0] rfl)
    · have h := ite_t hc_9 h
      refine lv_ldc C.1 C.2.1 C.2.2.2.1 (C.2.2.2.2.1 _ w_408) dX8_patience_19 ?_
      exact ret_i h hq rfl hW dX8_patience_21
theorem c_X8_patience {X : TX} {l : Launch} {fu : Nat} {x1 : Int32} {x2 : Int32} {x3 : Int32} {m mE : Mem} {r : Int32} (h : f_X8_patience fu x1 x2 x3 m = some (r, mE))  : MetI X l yX8_patience cX8_patience 5 .int 6 [.ref (ad X 0 0), .int x1, .int x2, .int x3] m r mE :=
  met_I (by decide) (Nat.le_of_ble_eq_true rfl) (fun p e s mi args below meth c ls Q C hq hW hl => w_X8_patience C hq h  hW (lv_sub hl [0, 1, 2, 3] rfl))
theorem k_X8_patience : CalV yX8_patience cX8_patience 5 (some .int) RX8 3 := ⟨w_613, w_614, w_61, w_615, by decide +kernel⟩
theorem dX8_device_0 : decode cX8_device 0 = .ok (.iload_n 1, 1) := by decide +kernel
theorem dX8_device_1 : decode cX8_device 1 = .ok (.iload_n 2, 1) := by decide +kernel
theorem dX8_device_2 : decode cX8_device 2 = .ok (.invokestatic 209, 3) := by decide +kernel
theorem dX8_device_5 : decode cX8_device 5 = .ok (.ifCond .ne 6, 3) := by decide +kernel
theorem dX8_device_8 : decode cX8_device 8 = .ok (.ldc 73, 2) := by decide +kernel
theorem dX8_device_10 : decode cX8_device 10 = .ok (.ireturn, 1) := by decide +kernel
theorem dX8_device_11 : decode cX8_device 11 = .ok (.aload_n 0, 1) := by decide +kernel
theorem dX8_device_12 : decode cX8_device 12 = .ok (.getfield 41, 3) := by decide +kernel
theorem dX8_device_15 : decode cX8_device 15 = .ok (.invokevirtual 212, 3) := by decide +kernel
theorem dX8_device_18 : decode cX8_device 18 = .ok (.iconst 5, 1) := by decide +kernel
theorem dX8_device_19 : decode cX8_device 19 = .ok (.istore_n 3, 1) := by decide +kernel
theorem dX8_device_20 : decode cX8_device 20 = .ok (.iload_n 3, 1) := by decide +kernel
theorem dX8_device_21 : decode cX8_device 21 = .ok (.sipush 200, 3) := by decide +kernel
theorem dX8_device_24 : decode cX8_device 24 = .ok (.if_icmp .gt 51, 3) := by decide +kernel
theorem dX8_device_27 : decode cX8_device 27 = .ok (.aload_n 0, 1) := by decide +kernel
theorem dX8_device_28 : decode cX8_device 28 = .ok (.getfield 32, 3) := by decide +kernel
theorem dX8_device_31 : decode cX8_device 31 = .ok (.aload_n 0, 1) := by decide +kernel
theorem dX8_device_32 : decode cX8_device 32 = .ok (.getfield 28, 3) := by decide +kernel
theorem dX8_device_35 : decode cX8_device 35 = .ok (.invokevirtual 194, 3) := by decide +kernel
theorem dX8_device_38 : decode cX8_device 38 = .ok (.aload_n 0, 1) := by decide +kernel
theorem dX8_device_39 : decode cX8_device 39 = .ok (.getfield 32, 3) := by decide +kernel
theorem dX8_device_42 : decode cX8_device 42 = .ok (.iload_n 3, 1) := by decide +kernel
theorem dX8_device_43 : decode cX8_device 43 = .ok (.putfield 223, 3) := by decide +kernel
theorem dX8_device_46 : decode cX8_device 46 = .ok (.aload_n 0, 1) := by decide +kernel
theorem dX8_device_47 : decode cX8_device 47 = .ok (.getfield 32, 3) := by decide +kernel
theorem dX8_device_50 : decode cX8_device 50 = .ok (.iload_n 1, 1) := by decide +kernel
theorem dX8_device_51 : decode cX8_device 51 = .ok (.invokevirtual 160, 3) := by decide +kernel
theorem dX8_device_54 : decode cX8_device 54 = .ok (.aload_n 0, 1) := by decide +kernel
theorem dX8_device_55 : decode cX8_device 55 = .ok (.getfield 41, 3) := by decide +kernel
theorem dX8_device_58 : decode cX8_device 58 = .ok (.iload_n 3, 1) := by decide +kernel
theorem dX8_device_59 : decode cX8_device 59 = .ok (.aload_n 0, 1) := by decide +kernel
theorem dX8_device_60 : decode cX8_device 60 = .ok (.getfield 32, 3) := by decide +kernel
theorem dX8_device_63 : decode cX8_device 63 = .ok (.getfield 164, 3) := by decide +kernel
theorem dX8_device_66 : decode cX8_device 66 = .ok (.invokevirtual 215, 3) := by decide +kernel
theorem dX8_device_69 : decode cX8_device 69 = .ok (.iinc 3 5, 3) := by decide +kernel
theorem dX8_device_72 : decode cX8_device 72 = .ok (.goto (-52), 3) := by decide +kernel
theorem dX8_device_75 : decode cX8_device 75 = .ok (.aload_n 0, 1) := by decide +kernel
theorem dX8_device_76 : decode cX8_device 76 = .ok (.getfield 41, 3) := by decide +kernel
theorem dX8_device_79 : decode cX8_device 79 = .ok (.iload_n 2, 1) := by decide +kernel
theorem dX8_device_80 : decode cX8_device 80 = .ok (.invokevirtual 219, 3) := by decide +kernel
theorem dX8_device_83 : decode cX8_device 83 = .ok (.ireturn, 1) := by decide +kernel
def f_X8_device_20 (fu : Nat)  : Nat → Int32 → Int32 → Int32 → Mem → Option (Int32 × Mem)
  | 0, _, _, _, _ => none
  | n + 1, x1, x2, x3, m => if 200 < x3 then (doI (f_X0_answer fu x2 m) (fun r_3 m_2 => some (r_3, m_2))) else (doV (f_X4_become fu 1 0 m) (fun m_5 => seqM (upd m_5 (sf 1 3) x3) (fun m_6 : Mem => doV (f_X4_run fu 1 x1 m_6) (fun m_9 => doV (f_X0_weigh fu x3 (m_9 (sf 1 5)) m_9) (fun m_11 => seqM (x3 + 5) (fun x_12 : Int32 => f_X8_device_20 fu n x1 x2 x_12 m_11))))))
set_option maxHeartbeats 4000000 in
set_option maxRecDepth 100000 in
theorem w_X8_device_20 {X : TX} {p : Program} {l : Launch} {e : Env} {s : State} {mi : MethodId} {args : Array Value} {below : List Frame} {meth : Method} {c : Code} {Q : State → Prop} {r : Int32} {mE : Mem} (C : Cx X p s mi args c RX8 cX8_device 4) (hq : RetI X p l e (rmD 6) s mi args below meth c cX8_device .int Q r mE) {fu : Nat} : ∀ (n : Nat) {x1 : Int32} {x2 : Int32} {x3 : Int32} {m : Mem} {H : Heap} {locs : List Loc} {ls : Array Slot}, f_X8_device_20 fu n x1 x2 x3 m = some (r, mE) → Wd X s m H locs → lv_has ls 4 [(0, .ref (ad X 0 0)), (1, .int x1), (2, .int x2), (3, .int x3)] → W p l e (rmD 6) s mi args below meth c H locs 0 0 Q (F0 mi 20 ls []) := by
  intro n
  induction n with
  | zero =>
    intro x1 x2 x3 m H locs ls h hW hl
    rw [f_X8_device_20] at h
    cases h
  | succ n ih =>
    intro x1 x2 x3 m H locs ls h hW hl
    rw [f_X8_device_20] at h
    refine lv_iload_n C.1 C.2.1 dX8_device_20 rfl (lv_at hl 3 rfl) ?_
    refine lv_sipush (v := 200) C.1 C.2.1 dX8_device_21 rfl ?_
    refine lv_icmp_gt (tgt := 75) C.1 C.2.1 dX8_device_24 (by decide) (fun hc_14 => ?_) (fun hc_14 => ?_)
    · have h := ite_t hc_14 h
      refine lv_aload_n C.1 C.2.1 dX8_device_75 rfl (lv_at hl 0 rfl) ?_
      refine zg_X8_best C hW id_0 w_366 dX8_device_76 ?_
      refine lv_iload_n C.1 C.2.1 dX8_device_79 rfl (lv_at hl 2 rfl) ?_
      obtain ⟨r_3, m_2, hc_1, h⟩ := doI_E h
      refine zr_cVI C hW (c_X0_answer (x1 := x2) hc_1 ) k_X0_answer (zr_recv C hW id_13 zco_13 rfl) w_627 ⟨Nat.le_of_ble_eq_true rfl, Nat.le_of_ble_eq_true rfl⟩ ⟨Nat.le_refl 0, Nat.le_refl 0⟩ rfl hl.1 rfl (Nat.le_of_ble_eq_true rfl) dX8_device_80 (fun H locs hW => ?_)
      exact ret_i h hq rfl hW dX8_device_83
    · have h := ite_f hc_14 h
      refine lv_aload_n C.1 C.2.1 dX8_device_27 rfl (lv_at hl 0 rfl) ?_
      refine zg_X8_thought C hW id_0 w_363 dX8_device_28 ?_
      refine lv_aload_n C.1 C.2.1 dX8_device_31 rfl (lv_at hl 0 rfl) ?_
      refine zg_X8_now C hW id_0 w_362 dX8_device_32 ?_
      obtain ⟨m_5, hc_4, h⟩ := doV_E h
      refine zr_cVV C hW (c_X4_become (i0 := 1) (i1 := 0) hc_4 id_9_1 id_9_0) k_X4_become (zr_recv C hW id_9_1 zco_9 rfl) w_589 ⟨Nat.le_of_ble_eq_true rfl, Nat.le_of_ble_eq_true rfl⟩ ⟨Nat.le_refl 0, Nat.le_refl 0⟩ rfl hl.1 rfl (Nat.le_of_ble_eq_true rfl) dX8_device_35 (fun H locs hW => ?_)
      refine lv_aload_n C.1 C.2.1 dX8_device_38 rfl (lv_at hl 0 rfl) ?_
      refine zg_X8_thought C hW id_0 w_363 dX8_device_39 ?_
      refine lv_iload_n C.1 C.2.1 dX8_device_42 rfl (lv_at hl 3 rfl) ?_
      obtain ⟨m_6, e_7, h⟩ := seqM_E h
      refine zp_X4_cut C hW id_9_1 w_231 e_7 dX8_device_43 (fun H locs hW => ?_)
      refine lv_aload_n C.1 C.2.1 dX8_device_46 rfl (lv_at hl 0 rfl) ?_
      refine zg_X8_thought C hW id_0 w_363 dX8_device_47 ?_
      refine lv_iload_n C.1 C.2.1 dX8_device_50 rfl (lv_at hl 1 rfl) ?_
      obtain ⟨m_9, hc_8, h⟩ := doV_E h
      refine zr_cVV C hW (c_X4_run (i0 := 1) (x1 := x1) hc_8 id_9_1) k_X4_run (zr_recv C hW id_9_1 zco_9 rfl) w_515 ⟨Nat.le_of_ble_eq_true rfl, Nat.le_of_ble_eq_true rfl⟩ ⟨Nat.le_refl 0, Nat.le_refl 0⟩ rfl hl.1 rfl (Nat.le_of_ble_eq_true rfl) dX8_device_51 (fun H locs hW => ?_)
      refine lv_aload_n C.1 C.2.1 dX8_device_54 rfl (lv_at hl 0 rfl) ?_
      refine zg_X8_best C hW id_0 w_366 dX8_device_55 ?_
      refine lv_iload_n C.1 C.2.1 dX8_device_58 rfl (lv_at hl 3 rfl) ?_
      refine lv_aload_n C.1 C.2.1 dX8_device_59 rfl (lv_at hl 0 rfl) ?_
      refine zg_X8_thought C hW id_0 w_363 dX8_device_60 ?_
      refine zg_X4_listeners C hW id_9_1 w_229 dX8_device_63 ?_
      obtain ⟨m_11, hc_10, h⟩ := doV_E h
      refine zr_cVV C hW (c_X0_weigh (x1 := x3) (x2 := (m_9 (sf 1 5))) hc_10 ) k_X0_weigh (zr_recv C hW id_13 zco_13 rfl) w_623 ⟨Nat.le_of_ble_eq_true rfl, Nat.le_of_ble_eq_true rfl⟩ ⟨Nat.le_refl 0, Nat.le_refl 0⟩ rfl hl.1 rfl (Nat.le_of_ble_eq_true rfl) dX8_device_66 (fun H locs hW => ?_)
      obtain ⟨x_12, e_13, h⟩ := seqM_E h
      refine lv_iinc (v := x_12) (lv' := [(3, .int x_12), (0, .ref (ad X 0 0)), (1, .int x1), (2, .int x2)]) C.1 C.2.1 dX8_device_69 hl (k := 3) rfl (by rw [e_13]; rfl) (by decide) rfl (fun ls hl => ?_)
      refine lv_goto (tgt := 20) C.1 C.2.1 dX8_device_72 (by decide) ?_
      exact ih h  hW (lv_sub hl [1, 2, 3, 0] rfl)
def f_X8_device (fu : Nat)  (x1 : Int32) (x2 : Int32) (m : Mem) : Option (Int32 × Mem) := doI (f_X8_isBestAsked fu x1 x2 m) (fun r_3 m_2 => if r_3 = 0 then (some ((-1000000001), m_2)) else (doV (f_X0_clear fu  m_2) (fun m_5 => f_X8_device_20 fu fu x1 x2 5 m_5)))
set_option maxHeartbeats 4000000 in
set_option maxRecDepth 100000 in
theorem w_X8_device {X : TX} {p : Program} {l : Launch} {e : Env} {s : State} {mi : MethodId} {args : Array Value} {below : List Frame} {meth : Method} {c : Code} {Q : State → Prop} {r : Int32} {mE : Mem} (C : Cx X p s mi args c RX8 cX8_device 4) (hq : RetI X p l e (rmD 6) s mi args below meth c cX8_device .int Q r mE) {fu : Nat} {x1 : Int32} {x2 : Int32} {m : Mem} {H : Heap} {locs : List Loc} {ls : Array Slot} (h : f_X8_device fu x1 x2 m = some (r, mE))  (hW : Wd X s m H locs) (hl : lv_has ls 4 [(0, .ref (ad X 0 0)), (1, .int x1), (2, .int x2)]) : W p l e (rmD 6) s mi args below meth c H locs 0 0 Q (F0 mi 0 ls []) := by
  unfold f_X8_device at h
  refine lv_iload_n C.1 C.2.1 dX8_device_0 rfl (lv_at hl 1 rfl) ?_
  refine lv_iload_n C.1 C.2.1 dX8_device_1 rfl (lv_at hl 2 rfl) ?_
  obtain ⟨r_3, m_2, hc_1, h⟩ := doI_E h
  refine zr_cSI C hW (c_X8_isBestAsked (x0 := x1) (x1 := x2) hc_1 ) k_X8_isBestAsked w_616 ⟨Nat.le_of_ble_eq_true rfl, Nat.le_of_ble_eq_true rfl⟩ ⟨Nat.le_refl 0, Nat.le_refl 0⟩ rfl hl.1 rfl (Nat.le_of_ble_eq_true rfl) dX8_device_2 (fun H locs hW => ?_)
  refine lv_if_ne (tgt := 11) C.1 C.2.1 dX8_device_5 (by decide) (fun hc_6 => ?_) (fun hc_6 => ?_)
  · have h := ite_f hc_6 h
    refine lv_aload_n C.1 C.2.1 dX8_device_11 rfl (lv_at hl 0 rfl) ?_
    refine zg_X8_best C hW id_0 w_366 dX8_device_12 ?_
    obtain ⟨m_5, hc_4, h⟩ := doV_E h
    refine zr_cVV C hW (c_X0_clear  hc_4 ) k_X0_clear (zr_recv C hW id_13 zco_13 rfl) w_619 ⟨Nat.le_of_ble_eq_true rfl, Nat.le_of_ble_eq_true rfl⟩ ⟨Nat.le_refl 0, Nat.le_refl 0⟩ rfl hl.1 rfl (Nat.le_of_ble_eq_true rfl) dX8_device_15 (fun H locs hW => ?_)
    refine lv_iconst (v := 5) C.1 C.2.1 dX8_device_18 rfl ?_
    refine lv_istore_n (lv' := [(3, .int 5), (0, .ref (ad X 0 0)), (1, .int x1), (2, .int x2)]) C.1 C.2.1 dX8_device_19 rfl hl (by decide) rfl (fun ls hl => ?_)
    exact w_X8_device_20 C hq  fu h  hW (lv_sub hl [1, 2, 3, 0] rfl)
  · have h := ite_t hc_6 h
    refine lv_ldc C.1 C.2.1 C.2.2.2.1 (C.2.2.2.2.1 _ w_408) dX8_device_8 ?_
    exact ret_i h hq rfl hW dX8_device_10
theorem c_X8_device {X : TX} {l : Launch} {fu : Nat} {x1 : Int32} {x2 : Int32} {m mE : Mem} {r : Int32} (h : f_X8_device fu x1 x2 m = some (r, mE))  : MetI X l yX8_device cX8_device 4 .int 6 [.ref (ad X 0 0), .int x1, .int x2] m r mE :=
  met_I (by decide) (Nat.le_of_ble_eq_true rfl) (fun p e s mi args below meth c ls Q C hq hW hl => w_X8_device C hq h  hW (lv_sub hl [0, 1, 2] rfl))
theorem k_X8_device : CalV yX8_device cX8_device 4 (some .int) RX8 2 := ⟨w_632, w_633, w_61, w_634, by decide +kernel⟩
theorem dX8_filler_0 : decode cX8_filler 0 = .ok (.iload_n 1, 1) := by decide +kernel
theorem dX8_filler_1 : decode cX8_filler 1 = .ok (.iload_n 2, 1) := by decide +kernel
theorem dX8_filler_2 : decode cX8_filler 2 = .ok (.invokestatic 209, 3) := by decide +kernel
theorem dX8_filler_5 : decode cX8_filler 5 = .ok (.ifCond .ne 6, 3) := by decide +kernel
theorem dX8_filler_8 : decode cX8_filler 8 = .ok (.ldc 73, 2) := by decide +kernel
theorem dX8_filler_10 : decode cX8_filler 10 = .ok (.ireturn, 1) := by decide +kernel
theorem dX8_filler_11 : decode cX8_filler 11 = .ok (.aload_n 0, 1) := by decide +kernel
theorem dX8_filler_12 : decode cX8_filler 12 = .ok (.getfield 41, 3) := by decide +kernel
theorem dX8_filler_15 : decode cX8_filler 15 = .ok (.invokevirtual 212, 3) := by decide +kernel
theorem dX8_filler_18 : decode cX8_filler 18 = .ok (.iconst 0, 1) := by decide +kernel
theorem dX8_filler_19 : decode cX8_filler 19 = .ok (.istore_n 3, 1) := by decide +kernel
theorem dX8_filler_20 : decode cX8_filler 20 = .ok (.iload_n 3, 1) := by decide +kernel
theorem dX8_filler_21 : decode cX8_filler 21 = .ok (.bipush 60, 2) := by decide +kernel
theorem dX8_filler_23 : decode cX8_filler 23 = .ok (.if_icmp .gt 51, 3) := by decide +kernel
theorem dX8_filler_26 : decode cX8_filler 26 = .ok (.aload_n 0, 1) := by decide +kernel
theorem dX8_filler_27 : decode cX8_filler 27 = .ok (.getfield 32, 3) := by decide +kernel
theorem dX8_filler_30 : decode cX8_filler 30 = .ok (.aload_n 0, 1) := by decide +kernel
theorem dX8_filler_31 : decode cX8_filler 31 = .ok (.getfield 28, 3) := by decide +kernel
theorem dX8_filler_34 : decode cX8_filler 34 = .ok (.invokevirtual 194, 3) := by decide +kernel
theorem dX8_filler_37 : decode cX8_filler 37 = .ok (.aload_n 0, 1) := by decide +kernel
theorem dX8_filler_38 : decode cX8_filler 38 = .ok (.getfield 32, 3) := by decide +kernel
theorem dX8_filler_41 : decode cX8_filler 41 = .ok (.iload_n 3, 1) := by decide +kernel
theorem dX8_filler_42 : decode cX8_filler 42 = .ok (.putfield 226, 3) := by decide +kernel
theorem dX8_filler_45 : decode cX8_filler 45 = .ok (.aload_n 0, 1) := by decide +kernel
theorem dX8_filler_46 : decode cX8_filler 46 = .ok (.getfield 32, 3) := by decide +kernel
theorem dX8_filler_49 : decode cX8_filler 49 = .ok (.iload_n 1, 1) := by decide +kernel
theorem dX8_filler_50 : decode cX8_filler 50 = .ok (.invokevirtual 160, 3) := by decide +kernel
theorem dX8_filler_53 : decode cX8_filler 53 = .ok (.aload_n 0, 1) := by decide +kernel
theorem dX8_filler_54 : decode cX8_filler 54 = .ok (.getfield 41, 3) := by decide +kernel
theorem dX8_filler_57 : decode cX8_filler 57 = .ok (.iload_n 3, 1) := by decide +kernel
theorem dX8_filler_58 : decode cX8_filler 58 = .ok (.aload_n 0, 1) := by decide +kernel
theorem dX8_filler_59 : decode cX8_filler 59 = .ok (.getfield 32, 3) := by decide +kernel
theorem dX8_filler_62 : decode cX8_filler 62 = .ok (.getfield 164, 3) := by decide +kernel
theorem dX8_filler_65 : decode cX8_filler 65 = .ok (.invokevirtual 215, 3) := by decide +kernel
theorem dX8_filler_68 : decode cX8_filler 68 = .ok (.iinc 3 1, 3) := by decide +kernel
theorem dX8_filler_71 : decode cX8_filler 71 = .ok (.goto (-51), 3) := by decide +kernel
theorem dX8_filler_74 : decode cX8_filler 74 = .ok (.aload_n 0, 1) := by decide +kernel
theorem dX8_filler_75 : decode cX8_filler 75 = .ok (.getfield 41, 3) := by decide +kernel
theorem dX8_filler_78 : decode cX8_filler 78 = .ok (.iload_n 2, 1) := by decide +kernel
theorem dX8_filler_79 : decode cX8_filler 79 = .ok (.invokevirtual 219, 3) := by decide +kernel
theorem dX8_filler_82 : decode cX8_filler 82 = .ok (.ireturn, 1) := by decide +kernel
def f_X8_filler_20 (fu : Nat)  : Nat → Int32 → Int32 → Int32 → Mem → Option (Int32 × Mem)
  | 0, _, _, _, _ => none
  | n + 1, x1, x2, x3, m => if 60 < x3 then (doI (f_X0_answer fu x2 m) (fun r_3 m_2 => some (r_3, m_2))) else (doV (f_X4_become fu 1 0 m) (fun m_5 => seqM (upd m_5 (sf 1 4) x3) (fun m_6 : Mem => doV (f_X4_run fu 1 x1 m_6) (fun m_9 => doV (f_X0_weigh fu x3 (m_9 (sf 1 5)) m_9) (fun m_11 => seqM (x3 + 1) (fun x_12 : Int32 => f_X8_filler_20 fu n x1 x2 x_12 m_11))))))
set_option maxHeartbeats 4000000 in
set_option maxRecDepth 100000 in
theorem w_X8_filler_20 {X : TX} {p : Program} {l : Launch} {e : Env} {s : State} {mi : MethodId} {args : Array Value} {below : List Frame} {meth : Method} {c : Code} {Q : State → Prop} {r : Int32} {mE : Mem} (C : Cx X p s mi args c RX8 cX8_filler 4) (hq : RetI X p l e (rmD 6) s mi args below meth c cX8_filler .int Q r mE) {fu : Nat} : ∀ (n : Nat) {x1 : Int32} {x2 : Int32} {x3 : Int32} {m : Mem} {H : Heap} {locs : List Loc} {ls : Array Slot}, f_X8_filler_20 fu n x1 x2 x3 m = some (r, mE) → Wd X s m H locs → lv_has ls 4 [(0, .ref (ad X 0 0)), (1, .int x1), (2, .int x2), (3, .int x3)] → W p l e (rmD 6) s mi args below meth c H locs 0 0 Q (F0 mi 20 ls []) := by
  intro n
  induction n with
  | zero =>
    intro x1 x2 x3 m H locs ls h hW hl
    rw [f_X8_filler_20] at h
    cases h
  | succ n ih =>
    intro x1 x2 x3 m H locs ls h hW hl
    rw [f_X8_filler_20] at h
    refine lv_iload_n C.1 C.2.1 dX8_filler_20 rfl (lv_at hl 3 rfl) ?_
    refine lv_bipush (v := 60) C.1 C.2.1 dX8_filler_21 rfl ?_
    refine lv_icmp_gt (tgt := 74) C.1 C.2.1 dX8_filler_23 (by decide) (fun hc_14 => ?_) (fun hc_14 => ?_)
    · have h := ite_t hc_14 h
      refine lv_aload_n C.1 C.2.1 dX8_filler_74 rfl (lv_at hl 0 rfl) ?_
      refine zg_X8_best C hW id_0 w_366 dX8_filler_75 ?_
      refine lv_iload_n C.1 C.2.1 dX8_filler_78 rfl (lv_at hl 2 rfl) ?_
      obtain ⟨r_3, m_2, hc_1, h⟩ := doI_E h
      refine zr_cVI C hW (c_X0_answer (x1 := x2) hc_1 ) k_X0_answer (zr_recv C hW id_13 zco_13 rfl) w_627 ⟨Nat.le_of_ble_eq_true rfl, Nat.le_of_ble_eq_true rfl⟩ ⟨Nat.le_refl 0, Nat.le_refl 0⟩ rfl hl.1 rfl (Nat.le_of_ble_eq_true rfl) dX8_filler_79 (fun H locs hW => ?_)
      exact ret_i h hq rfl hW dX8_filler_82
    · have h := ite_f hc_14 h
      refine lv_aload_n C.1 C.2.1 dX8_filler_26 rfl (lv_at hl 0 rfl) ?_
      refine zg_X8_thought C hW id_0 w_363 dX8_filler_27 ?_
      refine lv_aload_n C.1 C.2.1 dX8_filler_30 rfl (lv_at hl 0 rfl) ?_
      refine zg_X8_now C hW id_0 w_362 dX8_filler_31 ?_
      obtain ⟨m_5, hc_4, h⟩ := doV_E h
      refine zr_cVV C hW (c_X4_become (i0 := 1) (i1 := 0) hc_4 id_9_1 id_9_0) k_X4_become (zr_recv C hW id_9_1 zco_9 rfl) w_589 ⟨Nat.le_of_ble_eq_true rfl, Nat.le_of_ble_eq_true rfl⟩ ⟨Nat.le_refl 0, Nat.le_refl 0⟩ rfl hl.1 rfl (Nat.le_of_ble_eq_true rfl) dX8_filler_34 (fun H locs hW => ?_)
      refine lv_aload_n C.1 C.2.1 dX8_filler_37 rfl (lv_at hl 0 rfl) ?_
      refine zg_X8_thought C hW id_0 w_363 dX8_filler_38 ?_
      refine lv_iload_n C.1 C.2.1 dX8_filler_41 rfl (lv_at hl 3 rfl) ?_
      obtain ⟨m_6, e_7, h⟩ := seqM_E h
      refine zp_X4_fill C hW id_9_1 w_233 e_7 dX8_filler_42 (fun H locs hW => ?_)
      refine lv_aload_n C.1 C.2.1 dX8_filler_45 rfl (lv_at hl 0 rfl) ?_
      refine zg_X8_thought C hW id_0 w_363 dX8_filler_46 ?_
      refine lv_iload_n C.1 C.2.1 dX8_filler_49 rfl (lv_at hl 1 rfl) ?_
      obtain ⟨m_9, hc_8, h⟩ := doV_E h
      refine zr_cVV C hW (c_X4_run (i0 := 1) (x1 := x1) hc_8 id_9_1) k_X4_run (zr_recv C hW id_9_1 zco_9 rfl) w_515 ⟨Nat.le_of_ble_eq_true rfl, Nat.le_of_ble_eq_true rfl⟩ ⟨Nat.le_refl 0, Nat.le_refl 0⟩ rfl hl.1 rfl (Nat.le_of_ble_eq_true rfl) dX8_filler_50 (fun H locs hW => ?_)
      refine lv_aload_n C.1 C.2.1 dX8_filler_53 rfl (lv_at hl 0 rfl) ?_
      refine zg_X8_best C hW id_0 w_366 dX8_filler_54 ?_
      refine lv_iload_n C.1 C.2.1 dX8_filler_57 rfl (lv_at hl 3 rfl) ?_
      refine lv_aload_n C.1 C.2.1 dX8_filler_58 rfl (lv_at hl 0 rfl) ?_
      refine zg_X8_thought C hW id_0 w_363 dX8_filler_59 ?_
      refine zg_X4_listeners C hW id_9_1 w_229 dX8_filler_62 ?_
      obtain ⟨m_11, hc_10, h⟩ := doV_E h
      refine zr_cVV C hW (c_X0_weigh (x1 := x3) (x2 := (m_9 (sf 1 5))) hc_10 ) k_X0_weigh (zr_recv C hW id_13 zco_13 rfl) w_623 ⟨Nat.le_of_ble_eq_true rfl, Nat.le_of_ble_eq_true rfl⟩ ⟨Nat.le_refl 0, Nat.le_refl 0⟩ rfl hl.1 rfl (Nat.le_of_ble_eq_true rfl) dX8_filler_65 (fun H locs hW => ?_)
      obtain ⟨x_12, e_13, h⟩ := seqM_E h
      refine lv_iinc (v := x_12) (lv' := [(3, .int x_12), (0, .ref (ad X 0 0)), (1, .int x1), (2, .int x2)]) C.1 C.2.1 dX8_filler_68 hl (k := 3) rfl (by rw [e_13]; rfl) (by decide) rfl (fun ls hl => ?_)
      refine lv_goto (tgt := 20) C.1 C.2.1 dX8_filler_71 (by decide) ?_
      exact ih h  hW (lv_sub hl [1, 2, 3, 0] rfl)
def f_X8_filler (fu : Nat)  (x1 : Int32) (x2 : Int32) (m : Mem) : Option (Int32 × Mem) := doI (f_X8_isBestAsked fu x1 x2 m) (fun r_3 m_2 => if r_3 = 0 then (some ((-1000000001), m_2)) else (doV (f_X0_clear fu  m_2) (fun m_5 => f_X8_filler_20 fu fu x1 x2 0 m_5)))
set_option maxHeartbeats 4000000 in
set_option maxRecDepth 100000 in
theorem w_X8_filler {X : TX} {p : Program} {l : Launch} {e : Env} {s : State} {mi : MethodId} {args : Array Value} {below : List Frame} {meth : Method} {c : Code} {Q : State → Prop} {r : Int32} {mE : Mem} (C : Cx X p s mi args c RX8 cX8_filler 4) (hq : RetI X p l e (rmD 6) s mi args below meth c cX8_filler .int Q r mE) {fu : Nat} {x1 : Int32} {x2 : Int32} {m : Mem} {H : Heap} {locs : List Loc} {ls : Array Slot} (h : f_X8_filler fu x1 x2 m = some (r, mE))  (hW : Wd X s m H locs) (hl : lv_has ls 4 [(0, .ref (ad X 0 0)), (1, .int x1), (2, .int x2)]) : W p l e (rmD 6) s mi args below meth c H locs 0 0 Q (F0 mi 0 ls []) := by
  unfold f_X8_filler at h
  refine lv_iload_n C.1 C.2.1 dX8_filler_0 rfl (lv_at hl 1 rfl) ?_
  refine lv_iload_n C.1 C.2.1 dX8_filler_1 rfl (lv_at hl 2 rfl) ?_
  obtain ⟨r_3, m_2, hc_1, h⟩ := doI_E h
  refine zr_cSI C hW (c_X8_isBestAsked (x0 := x1) (x1 := x2) hc_1 ) k_X8_isBestAsked w_616 ⟨Nat.le_of_ble_eq_true rfl, Nat.le_of_ble_eq_true rfl⟩ ⟨Nat.le_refl 0, Nat.le_refl 0⟩ rfl hl.1 rfl (Nat.le_of_ble_eq_true rfl) dX8_filler_2 (fun H locs hW => ?_)
  refine lv_if_ne (tgt := 11) C.1 C.2.1 dX8_filler_5 (by decide) (fun hc_6 => ?_) (fun hc_6 => ?_)
  · have h := ite_f hc_6 h
    refine lv_aload_n C.1 C.2.1 dX8_filler_11 rfl (lv_at hl 0 rfl) ?_
    refine zg_X8_best C hW id_0 w_366 dX8_filler_12 ?_
    obtain ⟨m_5, hc_4, h⟩ := doV_E h
    refine zr_cVV C hW (c_X0_clear  hc_4 ) k_X0_clear (zr_recv C hW id_13 zco_13 rfl) w_619 ⟨Nat.le_of_ble_eq_true rfl, Nat.le_of_ble_eq_true rfl⟩ ⟨Nat.le_refl 0, Nat.le_refl 0⟩ rfl hl.1 rfl (Nat.le_of_ble_eq_true rfl) dX8_filler_15 (fun H locs hW => ?_)
    refine lv_iconst (v := 0) C.1 C.2.1 dX8_filler_18 rfl ?_
    refine lv_istore_n (lv' := [(3, .int 0), (0, .ref (ad X 0 0)), (1, .int x1), (2, .int x2)]) C.1 C.2.1 dX8_filler_19 rfl hl (by decide) rfl (fun ls hl => ?_)
    exact w_X8_filler_20 C hq  fu h  hW (lv_sub hl [1, 2, 3, 0] rfl)
  · have h := ite_t hc_6 h
    refine lv_ldc C.1 C.2.1 C.2.2.2.1 (C.2.2.2.2.1 _ w_408) dX8_filler_8 ?_
    exact ret_i h hq rfl hW dX8_filler_10
theorem c_X8_filler {X : TX} {l : Launch} {fu : Nat} {x1 : Int32} {x2 : Int32} {m mE : Mem} {r : Int32} (h : f_X8_filler fu x1 x2 m = some (r, mE))  : MetI X l yX8_filler cX8_filler 4 .int 6 [.ref (ad X 0 0), .int x1, .int x2] m r mE :=
  met_I (by decide) (Nat.le_of_ble_eq_true rfl) (fun p e s mi args below meth c ls Q C hq hW hl => w_X8_filler C hq h  hW (lv_sub hl [0, 1, 2] rfl))
theorem k_X8_filler : CalV yX8_filler cX8_filler 4 (some .int) RX8 2 := ⟨w_636, w_637, w_61, w_638, by decide +kernel⟩
