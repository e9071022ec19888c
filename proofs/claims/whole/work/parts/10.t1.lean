theorem dX8_within_0 : decode cX8_within 0 = .ok (.iload_n 0, 1) := by decide +kernel
theorem dX8_within_1 : decode cX8_within 1 = .ok (.iload_n 1, 1) := by decide +kernel
theorem dX8_within_2 : decode cX8_within 2 = .ok (.if_icmp .lt 12, 3) := by decide +kernel
theorem dX8_within_5 : decode cX8_within 5 = .ok (.iload_n 0, 1) := by decide +kernel
theorem dX8_within_6 : decode cX8_within 6 = .ok (.iload_n 2, 1) := by decide +kernel
theorem dX8_within_7 : decode cX8_within 7 = .ok (.if_icmp .gt 7, 3) := by decide +kernel
theorem dX8_within_10 : decode cX8_within 10 = .ok (.iconst 1, 1) := by decide +kernel
theorem dX8_within_11 : decode cX8_within 11 = .ok (.goto 4, 3) := by decide +kernel
theorem dX8_within_14 : decode cX8_within 14 = .ok (.iconst 0, 1) := by decide +kernel
theorem dX8_within_15 : decode cX8_within 15 = .ok (.ireturn, 1) := by decide +kernel
def f_X8_within (fu : Nat)  (x0 : Int32) (x1 : Int32) (x2 : Int32) (m : Mem) : Option (Int32 × Mem) := if x0 < x1 then (some (0, m)) else (if x2 < x0 then (some (0, m)) else (some (1, m)))
set_option maxHeartbeats 4000000 in
set_option maxRecDepth 100000 in
theorem w_X8_within {X : TX} {p : Program} {l : Launch} {e : Env} {s : State} {mi : MethodId} {args : Array Value} {below : List Frame} {meth : Method} {c : Code} {Q : State → Prop} {r : Int32} {mE : Mem} (C : Cx X p s mi args c RX8 cX8_within 3) (hq : RetI X p l e (rmD 0) s mi args below meth c cX8_within .boolean Q r mE) {fu : Nat} {x0 : Int32} {x1 : Int32} {x2 : Int32} {m : Mem} {H : Heap} {locs : List Loc} {ls : Array Slot} (h : f_X8_within fu x0 x1 x2 m = some (r, mE))  (hW : Wd X s m H locs) (hl : lv_has ls 3 [(0, .int x0), (1, .int x1), (2, .int x2)]) : W p l e (rmD 0) s mi args below meth c H locs 0 0 Q (F0 mi 0 ls []) := by
  unfold f_X8_within at h
  refine lv_iload_n C.1 C.2.1 dX8_within_0 rfl (lv_at hl 0 rfl) ?_
  refine lv_iload_n C.1 C.2.1 dX8_within_1 rfl (lv_at hl 1 rfl) ?_
  refine lv_icmp_lt (tgt := 14) C.1 C.2.1 dX8_within_2 (by decide) (fun hc_2 => ?_) (fun hc_2 => ?_)
  · have h := ite_t hc_2 h
    refine lv_iconst (v := 0) C.1 C.2.1 dX8_within_14 rfl ?_
    exact ret_i h hq rfl hW dX8_within_15
  · have h := ite_f hc_2 h
    refine lv_iload_n C.1 C.2.1 dX8_within_5 rfl (lv_at hl 0 rfl) ?_
    refine lv_iload_n C.1 C.2.1 dX8_within_6 rfl (lv_at hl 2 rfl) ?_
    refine lv_icmp_gt (tgt := 14) C.1 C.2.1 dX8_within_7 (by decide) (fun hc_1 => ?_) (fun hc_1 => ?_)
    · have h := ite_t hc_1 h
      refine lv_iconst (v := 0) C.1 C.2.1 dX8_within_14 rfl ?_
      exact ret_i h hq rfl hW dX8_within_15
    · have h := ite_f hc_1 h
      refine lv_iconst (v := 1) C.1 C.2.1 dX8_within_10 rfl ?_
      refine lv_goto (tgt := 15) C.1 C.2.1 dX8_within_11 (by decide) ?_
      exact ret_i h hq rfl hW dX8_within_15
theorem c_X8_within {X : TX} {l : Launch} {fu : Nat} {x0 : Int32} {x1 : Int32} {x2 : Int32} {m mE : Mem} {r : Int32} (h : f_X8_within fu x0 x1 x2 m = some (r, mE))  : MetI X l yX8_within cX8_within 3 .boolean 0 [.int x0, .int x1, .int x2] m r mE :=
  met_I (by decide) (Nat.le_of_ble_eq_true rfl) (fun p e s mi args below meth c ls Q C hq hW hl => w_X8_within C hq h  hW (lv_sub hl [0, 1, 2] rfl))
theorem k_X8_within : CalS yX8_within cX8_within 3 (some .boolean) 3 := ⟨w_402, w_61, w_403, by decide +kernel⟩
theorem dX7_allows_0 : decode cX7_allows 0 = .ok (.iload_n 0, 1) := by decide +kernel
theorem dX7_allows_1 : decode cX7_allows 1 = .ok (.tableswitch 51 1 3 #[27, 35, 43], 27) := by decide +kernel
theorem dX7_allows_28 : decode cX7_allows 28 = .ok (.iload_n 1, 1) := by decide +kernel
theorem dX7_allows_29 : decode cX7_allows 29 = .ok (.iconst 1, 1) := by decide +kernel
theorem dX7_allows_30 : decode cX7_allows 30 = .ok (.bipush 60, 2) := by decide +kernel
theorem dX7_allows_32 : decode cX7_allows 32 = .ok (.invokestatic 9, 3) := by decide +kernel
theorem dX7_allows_35 : decode cX7_allows 35 = .ok (.ireturn, 1) := by decide +kernel
theorem dX7_allows_36 : decode cX7_allows 36 = .ok (.iload_n 1, 1) := by decide +kernel
theorem dX7_allows_37 : decode cX7_allows 37 = .ok (.iconst 1, 1) := by decide +kernel
theorem dX7_allows_38 : decode cX7_allows 38 = .ok (.bipush 60, 2) := by decide +kernel
theorem dX7_allows_40 : decode cX7_allows 40 = .ok (.invokestatic 9, 3) := by decide +kernel
theorem dX7_allows_43 : decode cX7_allows 43 = .ok (.ireturn, 1) := by decide +kernel
theorem dX7_allows_44 : decode cX7_allows 44 = .ok (.iload_n 1, 1) := by decide +kernel
theorem dX7_allows_45 : decode cX7_allows 45 = .ok (.iconst 0, 1) := by decide +kernel
theorem dX7_allows_46 : decode cX7_allows 46 = .ok (.bipush 40, 2) := by decide +kernel
theorem dX7_allows_48 : decode cX7_allows 48 = .ok (.invokestatic 9, 3) := by decide +kernel
theorem dX7_allows_51 : decode cX7_allows 51 = .ok (.ireturn, 1) := by decide +kernel
theorem dX7_allows_52 : decode cX7_allows 52 = .ok (.iconst 0, 1) := by decide +kernel
theorem dX7_allows_53 : decode cX7_allows 53 = .ok (.ireturn, 1) := by decide +kernel
def f_X7_allows (fu : Nat)  (x0 : Int32) (x1 : Int32) (m : Mem) : Option (Int32 × Mem) := if x0 = 1 then (doI (f_X8_within fu x1 1 60 m) (fun r_3 m_2 => chk (isB r_3) (some (r_3, m_2)))) else (if x0 = 2 then (doI (f_X8_within fu x1 1 60 m) (fun r_8 m_7 => chk (isB r_8) (some (r_8, m_7)))) else (if x0 = 3 then (doI (f_X8_within fu x1 0 40 m) (fun r_13 m_12 => chk (isB r_13) (some (r_13, m_12)))) else (some (0, m))))
set_option maxHeartbeats 4000000 in
set_option maxRecDepth 100000 in
theorem w_X7_allows {X : TX} {p : Program} {l : Launch} {e : Env} {s : State} {mi : MethodId} {args : Array Value} {below : List Frame} {meth : Method} {c : Code} {Q : State → Prop} {r : Int32} {mE : Mem} (C : Cx X p s mi args c RX7 cX7_allows 2) (hq : RetI X p l e (rmD 1) s mi args below meth c cX7_allows .boolean Q r mE) {fu : Nat} {x0 : Int32} {x1 : Int32} {m : Mem} {H : Heap} {locs : List Loc} {ls : Array Slot} (h : f_X7_allows fu x0 x1 m = some (r, mE))  (hW : Wd X s m H locs) (hl : lv_has ls 2 [(0, .int x0), (1, .int x1)]) : W p l e (rmD 1) s mi args below meth c H locs 0 0 Q (F0 mi 0 ls []) := by
  unfold f_X7_allows at h
  refine lv_iload_n C.1 C.2.1 dX7_allows_0 rfl (lv_at hl 0 rfl) ?_
  by_cases hc_5 : x0 = 1
  · have h := ite_t hc_5 h
    refine lv_tableIn (tgt := 28) C.1 C.2.1 dX7_allows_1 (by rw [hc_5]; decide) (by rw [hc_5]; decide) (by rw [hc_5]; rfl) (by decide) ?_
    refine lv_iload_n C.1 C.2.1 dX7_allows_28 rfl (lv_at hl 1 rfl) ?_
    refine lv_iconst (v := 1) C.1 C.2.1 dX7_allows_29 rfl ?_
    refine lv_bipush (v := 60) C.1 C.2.1 dX7_allows_30 rfl ?_
    obtain ⟨r_3, m_2, hc_1, h⟩ := doI_E h
    refine zr_cNI C hW (c_X8_within (x0 := x1) (x1 := 1) (x2 := 60) hc_1 ) k_X8_within C.2.2.2.2.2.1.2.1 ⟨Nat.le_of_ble_eq_true rfl, Nat.le_of_ble_eq_true rfl⟩ ⟨Nat.le_refl 0, Nat.le_refl 0⟩ rfl hl.1 rfl (Nat.le_of_ble_eq_true rfl) dX7_allows_32 (fun H locs hW => ?_)
    obtain ⟨hb_4, h⟩ := chk_E h
    exact ret_i h hq (nar_B (isB_E hb_4)) hW dX7_allows_35
  · have h := ite_f hc_5 h
    by_cases hc_10 : x0 = 2
    · have h := ite_t hc_10 h
      refine lv_tableIn (tgt := 36) C.1 C.2.1 dX7_allows_1 (by rw [hc_10]; decide) (by rw [hc_10]; decide) (by rw [hc_10]; rfl) (by decide) ?_
      refine lv_iload_n C.1 C.2.1 dX7_allows_36 rfl (lv_at hl 1 rfl) ?_
      refine lv_iconst (v := 1) C.1 C.2.1 dX7_allows_37 rfl ?_
      refine lv_bipush (v := 60) C.1 C.2.1 dX7_allows_38 rfl ?_
      obtain ⟨r_8, m_7, hc_6, h⟩ := doI_E h
      refine zr_cNI C hW (c_X8_within (x0 := x1) (x1 := 1) (x2 := 60) hc_6 ) k_X8_within C.2.2.2.2.2.1.2.1 ⟨Nat.le_of_ble_eq_true rfl, Nat.le_of_ble_eq_true rfl⟩ ⟨Nat.le_refl 0, Nat.le_refl 0⟩ rfl hl.1 rfl (Nat.le_of_ble_eq_true rfl) dX7_allows_40 (fun H locs hW => ?_)
      obtain ⟨hb_9, h⟩ := chk_E h
      exact ret_i h hq (nar_B (isB_E hb_9)) hW dX7_allows_43
    · have h := ite_f hc_10 h
      by_cases hc_15 : x0 = 3
      · have h := ite_t hc_15 h
        refine lv_tableIn (tgt := 44) C.1 C.2.1 dX7_allows_1 (by rw [hc_15]; decide) (by rw [hc_15]; decide) (by rw [hc_15]; rfl) (by decide) ?_
        refine lv_iload_n C.1 C.2.1 dX7_allows_44 rfl (lv_at hl 1 rfl) ?_
        refine lv_iconst (v := 0) C.1 C.2.1 dX7_allows_45 rfl ?_
        refine lv_bipush (v := 40) C.1 C.2.1 dX7_allows_46 rfl ?_
        obtain ⟨r_13, m_12, hc_11, h⟩ := doI_E h
        refine zr_cNI C hW (c_X8_within (x0 := x1) (x1 := 0) (x2 := 40) hc_11 ) k_X8_within C.2.2.2.2.2.1.2.1 ⟨Nat.le_of_ble_eq_true rfl, Nat.le_of_ble_eq_true rfl⟩ ⟨Nat.le_refl 0, Nat.le_refl 0⟩ rfl hl.1 rfl (Nat.le_of_ble_eq_true rfl) dX7_allows_48 (fun H locs hW => ?_)
        obtain ⟨hb_14, h⟩ := chk_E h
        exact ret_i h hq (nar_B (isB_E hb_14)) hW dX7_allows_51
      · have h := ite_f hc_15 h
        have nhc_5 := ne_k (1) rfl hc_5
        have nhc_10 := ne_k (2) rfl hc_10
        have nhc_15 := ne_k (3) rfl hc_15
        refine lv_tableOut (tgt := 52) C.1 C.2.1 dX7_allows_1 (by omega) (by decide) ?_
        refine lv_iconst (v := 0) C.1 C.2.1 dX7_allows_52 rfl ?_
        exact ret_i h hq rfl hW dX7_allows_53
theorem c_X7_allows {X : TX} {l : Launch} {fu : Nat} {x0 : Int32} {x1 : Int32} {m mE : Mem} {r : Int32} (h : f_X7_allows fu x0 x1 m = some (r, mE))  : MetI X l yX7_allows cX7_allows 2 .boolean 1 [.int x0, .int x1] m r mE :=
  met_I (by decide) (Nat.le_of_ble_eq_true rfl) (fun p e s mi args below meth c ls Q C hq hW hl => w_X7_allows C hq h  hW (lv_sub hl [0, 1] rfl))
theorem k_X7_allows : CalS yX7_allows cX7_allows 2 (some .boolean) 2 := ⟨w_405, w_66, w_406, by decide +kernel⟩
theorem dX7_waits_0 : decode cX7_waits 0 = .ok (.aload_n 0, 1) := by decide +kernel
theorem dX7_waits_1 : decode cX7_waits 1 = .ok (.getfield 13, 3) := by decide +kernel
theorem dX7_waits_4 : decode cX7_waits 4 = .ok (.aload_n 0, 1) := by decide +kernel
theorem dX7_waits_5 : decode cX7_waits 5 = .ok (.getfield 31, 3) := by decide +kernel
theorem dX7_waits_8 : decode cX7_waits 8 = .ok (.iadd, 1) := by decide +kernel
theorem dX7_waits_9 : decode cX7_waits 9 = .ok (.iload_n 1, 1) := by decide +kernel
theorem dX7_waits_10 : decode cX7_waits 10 = .ok (.ifCond .eq 10, 3) := by decide +kernel
theorem dX7_waits_13 : decode cX7_waits 13 = .ok (.aload_n 0, 1) := by decide +kernel
theorem dX7_waits_14 : decode cX7_waits 14 = .ok (.getfield 22, 3) := by decide +kernel
theorem dX7_waits_17 : decode cX7_waits 17 = .ok (.goto 4, 3) := by decide +kernel
theorem dX7_waits_20 : decode cX7_waits 20 = .ok (.iconst 0, 1) := by decide +kernel
theorem dX7_waits_21 : decode cX7_waits 21 = .ok (.iadd, 1) := by decide +kernel
theorem dX7_waits_22 : decode cX7_waits 22 = .ok (.istore_n 2, 1) := by decide +kernel
theorem dX7_waits_23 : decode cX7_waits 23 = .ok (.aload_n 0, 1) := by decide +kernel
theorem dX7_waits_24 : decode cX7_waits 24 = .ok (.getfield 25, 3) := by decide +kernel
theorem dX7_waits_27 : decode cX7_waits 27 = .ok (.tableswitch 61 1 4 #[29, 51, 37, 55], 29) := by decide +kernel
theorem dX7_waits_56 : decode cX7_waits 56 = .ok (.iconst 1, 1) := by decide +kernel
theorem dX7_waits_57 : decode cX7_waits 57 = .ok (.iload_n 2, 1) := by decide +kernel
theorem dX7_waits_58 : decode cX7_waits 58 = .ok (.iconst 2, 1) := by decide +kernel
theorem dX7_waits_59 : decode cX7_waits 59 = .ok (.isub, 1) := by decide +kernel
theorem dX7_waits_60 : decode cX7_waits 60 = .ok (.invokestatic 41, 3) := by decide +kernel
theorem dX7_waits_63 : decode cX7_waits 63 = .ok (.ireturn, 1) := by decide +kernel
theorem dX7_waits_64 : decode cX7_waits 64 = .ok (.iconst 1, 1) := by decide +kernel
theorem dX7_waits_65 : decode cX7_waits 65 = .ok (.iconst 1, 1) := by decide +kernel
theorem dX7_waits_66 : decode cX7_waits 66 = .ok (.iload_n 2, 1) := by decide +kernel
theorem dX7_waits_67 : decode cX7_waits 67 = .ok (.iconst 2, 1) := by decide +kernel
theorem dX7_waits_68 : decode cX7_waits 68 = .ok (.isub, 1) := by decide +kernel
theorem dX7_waits_69 : decode cX7_waits 69 = .ok (.invokestatic 41, 3) := by decide +kernel
theorem dX7_waits_72 : decode cX7_waits 72 = .ok (.iconst 2, 1) := by decide +kernel
theorem dX7_waits_73 : decode cX7_waits 73 = .ok (.idiv, 1) := by decide +kernel
theorem dX7_waits_74 : decode cX7_waits 74 = .ok (.invokestatic 41, 3) := by decide +kernel
theorem dX7_waits_77 : decode cX7_waits 77 = .ok (.ireturn, 1) := by decide +kernel
theorem dX7_waits_78 : decode cX7_waits 78 = .ok (.iload_n 2, 1) := by decide +kernel
theorem dX7_waits_79 : decode cX7_waits 79 = .ok (.iconst 3, 1) := by decide +kernel
theorem dX7_waits_80 : decode cX7_waits 80 = .ok (.iadd, 1) := by decide +kernel
theorem dX7_waits_81 : decode cX7_waits 81 = .ok (.ireturn, 1) := by decide +kernel
theorem dX7_waits_82 : decode cX7_waits 82 = .ok (.iconst 2, 1) := by decide +kernel
theorem dX7_waits_83 : decode cX7_waits 83 = .ok (.iload_n 2, 1) := by decide +kernel
theorem dX7_waits_84 : decode cX7_waits 84 = .ok (.iconst 3, 1) := by decide +kernel
theorem dX7_waits_85 : decode cX7_waits 85 = .ok (.iadd, 1) := by decide +kernel
theorem dX7_waits_86 : decode cX7_waits 86 = .ok (.imul, 1) := by decide +kernel
theorem dX7_waits_87 : decode cX7_waits 87 = .ok (.ireturn, 1) := by decide +kernel
theorem dX7_waits_88 : decode cX7_waits 88 = .ok (.iload_n 2, 1) := by decide +kernel
theorem dX7_waits_89 : decode cX7_waits 89 = .ok (.ireturn, 1) := by decide +kernel
def f_X7_waits_21 (fu : Nat)  (i0 : Nat) (y0 : Int32) (y1 : Int32) (m : Mem) : Option (Int32 × Mem) := seqM (y0 + y1) (fun x_1 : Int32 => seqM (m (vf i0 0)) (fun x_3 : Int32 => if x_3 = 1 then (some ((if 1 < (x_1 - 2) then (x_1 - 2) else 1), m)) else (if x_3 = 2 then (some ((x_1 + 3), m)) else (if x_3 = 3 then (some ((if 1 < ((if 1 < (x_1 - 2) then (x_1 - 2) else 1) / 2) then ((if 1 < (x_1 - 2) then (x_1 - 2) else 1) / 2) else 1), m)) else (if x_3 = 4 then (some ((2 * (x_1 + 3)), m)) else (some (x_1, m)))))))
set_option maxHeartbeats 4000000 in
set_option maxRecDepth 100000 in
theorem w_X7_waits_21 {X : TX} {p : Program} {l : Launch} {e : Env} {s : State} {mi : MethodId} {args : Array Value} {below : List Frame} {meth : Method} {c : Code} {Q : State → Prop} {r : Int32} {mE : Mem} (C : Cx X p s mi args c RX7 cX7_waits 3) (hq : RetI X p l e (rmD 1) s mi args below meth c cX7_waits .int Q r mE) {fu : Nat} {i0 : Nat} {y0 : Int32} {y1 : Int32} {m : Mem} {H : Heap} {locs : List Loc} {ls : Array Slot} (h : f_X7_waits_21 fu i0 y0 y1 m = some (r, mE)) (g_i0 : (11, i0) ∈ ids) (hW : Wd X s m H locs) (hl : lv_has ls 3 [(0, .ref (ad X 11 i0))]) : W p l e (rmD 1) s mi args below meth c H locs 0 0 Q (F0 mi 21 ls [.int y1, .int y0]) := by
  unfold f_X7_waits_21 at h
  refine lv_iadd C.1 C.2.1 dX7_waits_21 ?_
  obtain ⟨x_1, e_2, h⟩ := seqM_E h
  refine lv_name e_2 ?_
  refine lv_istore_n (lv' := [(2, .int x_1), (0, .ref (ad X 11 i0))]) C.1 C.2.1 dX7_waits_22 rfl hl (by decide) rfl (fun ls hl => ?_)
  refine lv_aload_n C.1 C.2.1 dX7_waits_23 rfl (lv_at hl 1 rfl) ?_
  refine zg_X7_kind C hW g_i0 w_189 dX7_waits_24 ?_
  obtain ⟨x_3, e_4, h⟩ := seqM_E h
  refine lv_name e_4 ?_
  by_cases hc_5 : x_3 = 1
  · have h := ite_t hc_5 h
    refine lv_tableIn (tgt := 56) C.1 C.2.1 dX7_waits_27 (by rw [hc_5]; decide) (by rw [hc_5]; decide) (by rw [hc_5]; rfl) (by decide) ?_
    refine lv_iconst (v := 1) C.1 C.2.1 dX7_waits_56 rfl ?_
    refine lv_iload_n C.1 C.2.1 dX7_waits_57 rfl (lv_at hl 0 rfl) ?_
    refine lv_iconst (v := 2) C.1 C.2.1 dX7_waits_58 rfl ?_
    refine lv_isub C.1 C.2.1 dX7_waits_59 ?_
    refine va_mmax C.1 C.2.1 (C.2.2.1.trans hl.1.symm) C.2.2.2.1 (C.2.2.2.2.1 _ w_430) (C.2.2.2.2.1 _ w_431) (C.2.2.2.2.1 _ w_71) (C.2.2.2.2.1 _ w_432) (Nat.le_of_ble_eq_true rfl) (Nat.le_of_ble_eq_true rfl) (Nat.le_refl 0) (Nat.le_refl 0) dX7_waits_60 ?_
    exact ret_i h hq rfl hW dX7_waits_63
  · have h := ite_f hc_5 h
    by_cases hc_6 : x_3 = 2
    · have h := ite_t hc_6 h
      refine lv_tableIn (tgt := 78) C.1 C.2.1 dX7_waits_27 (by rw [hc_6]; decide) (by rw [hc_6]; decide) (by rw [hc_6]; rfl) (by decide) ?_
      refine lv_iload_n C.1 C.2.1 dX7_waits_78 rfl (lv_at hl 0 rfl) ?_
      refine lv_iconst (v := 3) C.1 C.2.1 dX7_waits_79 rfl ?_
      refine lv_iadd C.1 C.2.1 dX7_waits_80 ?_
      exact ret_i h hq rfl hW dX7_waits_81
    · have h := ite_f hc_6 h
      by_cases hc_7 : x_3 = 3
      · have h := ite_t hc_7 h
        refine lv_tableIn (tgt := 64) C.1 C.2.1 dX7_waits_27 (by rw [hc_7]; decide) (by rw [hc_7]; decide) (by rw [hc_7]; rfl) (by decide) ?_
        refine lv_iconst (v := 1) C.1 C.2.1 dX7_waits_64 rfl ?_
        refine lv_iconst (v := 1) C.1 C.2.1 dX7_waits_65 rfl ?_
        refine lv_iload_n C.1 C.2.1 dX7_waits_66 rfl (lv_at hl 0 rfl) ?_
        refine lv_iconst (v := 2) C.1 C.2.1 dX7_waits_67 rfl ?_
        refine lv_isub C.1 C.2.1 dX7_waits_68 ?_
        refine va_mmax C.1 C.2.1 (C.2.2.1.trans hl.1.symm) C.2.2.2.1 (C.2.2.2.2.1 _ w_430) (C.2.2.2.2.1 _ w_431) (C.2.2.2.2.1 _ w_71) (C.2.2.2.2.1 _ w_432) (Nat.le_of_ble_eq_true rfl) (Nat.le_of_ble_eq_true rfl) (Nat.le_refl 0) (Nat.le_refl 0) dX7_waits_69 ?_
        refine lv_iconst (v := 2) C.1 C.2.1 dX7_waits_72 rfl ?_
        refine lv_idiv C.1 C.2.1 dX7_waits_73 (by decide) ?_
        refine va_mmax C.1 C.2.1 (C.2.2.1.trans hl.1.symm) C.2.2.2.1 (C.2.2.2.2.1 _ w_430) (C.2.2.2.2.1 _ w_431) (C.2.2.2.2.1 _ w_71) (C.2.2.2.2.1 _ w_432) (Nat.le_of_ble_eq_true rfl) (Nat.le_of_ble_eq_true rfl) (Nat.le_refl 0) (Nat.le_refl 0) dX7_waits_74 ?_
        exact ret_i h hq rfl hW dX7_waits_77
      · have h := ite_f hc_7 h
        by_cases hc_8 : x_3 = 4
        · have h := ite_t hc_8 h
          refine lv_tableIn (tgt := 82) C.1 C.2.1 dX7_waits_27 (by rw [hc_8]; decide) (by rw [hc_8]; decide) (by rw [hc_8]; rfl) (by decide) ?_
          refine lv_iconst (v := 2) C.1 C.2.1 dX7_waits_82 rfl ?_
          refine lv_iload_n C.1 C.2.1 dX7_waits_83 rfl (lv_at hl 0 rfl) ?_
          refine lv_iconst (v := 3) C.1 C.2.1 dX7_waits_84 rfl ?_
          refine lv_iadd C.1 C.2.1 dX7_waits_85 ?_
          refine lv_imul C.1 C.2.1 dX7_waits_86 ?_
          exact ret_i h hq rfl hW dX7_waits_87
        · have h := ite_f hc_8 h
          have nhc_5 := ne_k (1) rfl hc_5
          have nhc_6 := ne_k (2) rfl hc_6
          have nhc_7 := ne_k (3) rfl hc_7
          have nhc_8 := ne_k (4) rfl hc_8
          refine lv_tableOut (tgt := 88) C.1 C.2.1 dX7_waits_27 (by omega) (by decide) ?_
          refine lv_iload_n C.1 C.2.1 dX7_waits_88 rfl (lv_at hl 0 rfl) ?_
          exact ret_i h hq rfl hW dX7_waits_89
def f_X7_waits (fu : Nat)  (i0 : Nat) (x1 : Int32) (m : Mem) : Option (Int32 × Mem) := if x1 = 0 then (f_X7_waits_21 fu i0 ((m (vf i0 1)) + (m (vf i0 5))) 0 m) else (f_X7_waits_21 fu i0 ((m (vf i0 1)) + (m (vf i0 5))) (m (vf i0 3)) m)
set_option maxHeartbeats 4000000 in
set_option maxRecDepth 100000 in
theorem w_X7_waits {X : TX} {p : Program} {l : Launch} {e : Env} {s : State} {mi : MethodId} {args : Array Value} {below : List Frame} {meth : Method} {c : Code} {Q : State → Prop} {r : Int32} {mE : Mem} (C : Cx X p s mi args c RX7 cX7_waits 3) (hq : RetI X p l e (rmD 1) s mi args below meth c cX7_waits .int Q r mE) {fu : Nat} {i0 : Nat} {x1 : Int32} {m : Mem} {H : Heap} {locs : List Loc} {ls : Array Slot} (h : f_X7_waits fu i0 x1 m = some (r, mE)) (g_i0 : (11, i0) ∈ ids) (hW : Wd X s m H locs) (hl : lv_has ls 3 [(0, .ref (ad X 11 i0)), (1, .int x1)]) : W p l e (rmD 1) s mi args below meth c H locs 0 0 Q (F0 mi 0 ls []) := by
  unfold f_X7_waits at h
  refine lv_aload_n C.1 C.2.1 dX7_waits_0 rfl (lv_at hl 0 rfl) ?_
  refine zg_X7_wait C hW g_i0 w_191 dX7_waits_1 ?_
  refine lv_aload_n C.1 C.2.1 dX7_waits_4 rfl (lv_at hl 0 rfl) ?_
  refine zg_X7_back C hW g_i0 w_204 dX7_waits_5 ?_
  refine lv_iadd C.1 C.2.1 dX7_waits_8 ?_
  refine lv_iload_n C.1 C.2.1 dX7_waits_9 rfl (lv_at hl 1 rfl) ?_
  refine lv_if_eq (tgt := 20) C.1 C.2.1 dX7_waits_10 (by decide) (fun hc_1 => ?_) (fun hc_1 => ?_)
  · have h := ite_t hc_1 h
    refine lv_iconst (v := 0) C.1 C.2.1 dX7_waits_20 rfl ?_
    exact w_X7_waits_21 C hq  h g_i0 hW (lv_sub hl [0] rfl)
  · have h := ite_f hc_1 h
    refine lv_aload_n C.1 C.2.1 dX7_waits_13 rfl (lv_at hl 0 rfl) ?_
    refine zg_X7_pause C hW g_i0 w_197 dX7_waits_14 ?_
    refine lv_goto (tgt := 21) C.1 C.2.1 dX7_waits_17 (by decide) ?_
    exact w_X7_waits_21 C hq  h g_i0 hW (lv_sub hl [0] rfl)
theorem c_X7_waits {X : TX} {l : Launch} {fu : Nat} {i0 : Nat} {x1 : Int32} {m mE : Mem} {r : Int32} (h : f_X7_waits fu i0 x1 m = some (r, mE)) (g_i0 : (11, i0) ∈ ids) : MetI X l yX7_waits cX7_waits 3 .int 1 [.ref (ad X 11 i0), .int x1] m r mE :=
  met_I (by decide) (Nat.le_of_ble_eq_true rfl) (fun p e s mi args below meth c ls Q C hq hW hl => w_X7_waits C hq h g_i0 hW (lv_sub hl [0, 1] rfl))
theorem k_X7_waits : CalV yX7_waits cX7_waits 3 (some .int) RX7 1 := ⟨w_427, w_428, w_66, w_429, by decide +kernel⟩
theorem dX7_become_0 : decode cX7_become 0 = .ok (.aload_n 0, 1) := by decide +kernel
theorem dX7_become_1 : decode cX7_become 1 = .ok (.aload_n 1, 1) := by decide +kernel
theorem dX7_become_2 : decode cX7_become 2 = .ok (.getfield 25, 3) := by decide +kernel
theorem dX7_become_5 : decode cX7_become 5 = .ok (.putfield 25, 3) := by decide +kernel
theorem dX7_become_8 : decode cX7_become 8 = .ok (.aload_n 0, 1) := by decide +kernel
theorem dX7_become_9 : decode cX7_become 9 = .ok (.aload_n 1, 1) := by decide +kernel
theorem dX7_become_10 : decode cX7_become 10 = .ok (.getfield 13, 3) := by decide +kernel
theorem dX7_become_13 : decode cX7_become 13 = .ok (.putfield 13, 3) := by decide +kernel
theorem dX7_become_16 : decode cX7_become 16 = .ok (.aload_n 0, 1) := by decide +kernel
theorem dX7_become_17 : decode cX7_become 17 = .ok (.aload_n 1, 1) := by decide +kernel
theorem dX7_become_18 : decode cX7_become 18 = .ok (.getfield 19, 3) := by decide +kernel
theorem dX7_become_21 : decode cX7_become 21 = .ok (.putfield 19, 3) := by decide +kernel
theorem dX7_become_24 : decode cX7_become 24 = .ok (.aload_n 0, 1) := by decide +kernel
theorem dX7_become_25 : decode cX7_become 25 = .ok (.aload_n 1, 1) := by decide +kernel
theorem dX7_become_26 : decode cX7_become 26 = .ok (.getfield 22, 3) := by decide +kernel
theorem dX7_become_29 : decode cX7_become 29 = .ok (.putfield 22, 3) := by decide +kernel
theorem dX7_become_32 : decode cX7_become 32 = .ok (.aload_n 0, 1) := by decide +kernel
theorem dX7_become_33 : decode cX7_become 33 = .ok (.aload_n 1, 1) := by decide +kernel
theorem dX7_become_34 : decode cX7_become 34 = .ok (.getfield 28, 3) := by decide +kernel
theorem dX7_become_37 : decode cX7_become 37 = .ok (.putfield 28, 3) := by decide +kernel
theorem dX7_become_40 : decode cX7_become 40 = .ok (.aload_n 0, 1) := by decide +kernel
theorem dX7_become_41 : decode cX7_become 41 = .ok (.aload_n 1, 1) := by decide +kernel
theorem dX7_become_42 : decode cX7_become 42 = .ok (.getfield 31, 3) := by decide +kernel
theorem dX7_become_45 : decode cX7_become 45 = .ok (.putfield 31, 3) := by decide +kernel
theorem dX7_become_48 : decode cX7_become 48 = .ok (.aload_n 0, 1) := by decide +kernel
theorem dX7_become_49 : decode cX7_become 49 = .ok (.aload_n 1, 1) := by decide +kernel
theorem dX7_become_50 : decode cX7_become 50 = .ok (.getfield 34, 3) := by decide +kernel
theorem dX7_become_53 : decode cX7_become 53 = .ok (.putfield 34, 3) := by decide +kernel
theorem dX7_become_56 : decode cX7_become 56 = .ok (.return_, 1) := by decide +kernel
def f_X7_become (fu : Nat)  (i0 : Nat) (i1 : Nat) (m : Mem) : Option Mem := seqM (upd m (vf i0 0) (m (vf i1 0))) (fun m_1 : Mem => seqM (upd m_1 (vf i0 1) (m_1 (vf i1 1))) (fun m_3 : Mem => seqM (upd m_3 (vf i0 2) (m_3 (vf i1 2))) (fun m_5 : Mem => seqM (upd m_5 (vf i0 3) (m_5 (vf i1 3))) (fun m_7 : Mem => seqM (upd m_7 (vf i0 4) (m_7 (vf i1 4))) (fun m_9 : Mem => seqM (upd m_9 (vf i0 5) (m_9 (vf i1 5))) (fun m_11 : Mem => seqM (upd m_11 (vf i0 6) (m_11 (vf i1 6))) (fun m_13 : Mem => some m_13)))))))
set_option maxHeartbeats 4000000 in
set_option maxRecDepth 100000 in
theorem w_X7_become {X : TX} {p : Program} {l : Launch} {e : Env} {s : State} {mi : MethodId} {args : Array Value} {below : List Frame} {meth : Method} {c : Code} {Q : State → Prop} {mE : Mem} (C : Cx X p s mi args c RX7 cX7_become 2) (hq : RetV X p l e (rmD 0) s mi args below meth c cX7_become Q mE) {fu : Nat} {i0 : Nat} {i1 : Nat} {m : Mem} {H : Heap} {locs : List Loc} {ls : Array Slot} (h : f_X7_become fu i0 i1 m = some mE) (g_i0 : (11, i0) ∈ ids) (g_i1 : (11, i1) ∈ ids) (hW : Wd X s m H locs) (hl : lv_has ls 2 [(0, .ref (ad X 11 i0)), (1, .ref (ad X 11 i1))]) : W p l e (rmD 0) s mi args below meth c H locs 0 0 Q (F0 mi 0 ls []) := by
  unfold f_X7_become at h
  refine lv_aload_n C.1 C.2.1 dX7_become_0 rfl (lv_at hl 0 rfl) ?_
  refine lv_aload_n C.1 C.2.1 dX7_become_1 rfl (lv_at hl 1 rfl) ?_
  refine zg_X7_kind C hW g_i1 w_189 dX7_become_2 ?_
  obtain ⟨m_1, e_2, h⟩ := seqM_E h
  refine zp_X7_kind C hW g_i0 w_189 e_2 dX7_become_5 (fun H locs hW => ?_)
  refine lv_aload_n C.1 C.2.1 dX7_become_8 rfl (lv_at hl 0 rfl) ?_
  refine lv_aload_n C.1 C.2.1 dX7_become_9 rfl (lv_at hl 1 rfl) ?_
  refine zg_X7_wait C hW g_i1 w_191 dX7_become_10 ?_
  obtain ⟨m_3, e_4, h⟩ := seqM_E h
  refine zp_X7_wait C hW g_i0 w_191 e_4 dX7_become_13 (fun H locs hW => ?_)
  refine lv_aload_n C.1 C.2.1 dX7_become_16 rfl (lv_at hl 0 rfl) ?_
  refine lv_aload_n C.1 C.2.1 dX7_become_17 rfl (lv_at hl 1 rfl) ?_
  refine zg_X7_talk C hW g_i1 w_194 dX7_become_18 ?_
  obtain ⟨m_5, e_6, h⟩ := seqM_E h
  refine zp_X7_talk C hW g_i0 w_194 e_6 dX7_become_21 (fun H locs hW => ?_)
  refine lv_aload_n C.1 C.2.1 dX7_become_24 rfl (lv_at hl 0 rfl) ?_
  refine lv_aload_n C.1 C.2.1 dX7_become_25 rfl (lv_at hl 1 rfl) ?_
  refine zg_X7_pause C hW g_i1 w_197 dX7_become_26 ?_
  obtain ⟨m_7, e_8, h⟩ := seqM_E h
  refine zp_X7_pause C hW g_i0 w_197 e_8 dX7_become_29 (fun H locs hW => ?_)
  refine lv_aload_n C.1 C.2.1 dX7_become_32 rfl (lv_at hl 0 rfl) ?_
  refine lv_aload_n C.1 C.2.1 dX7_become_33 rfl (lv_at hl 1 rfl) ?_
  refine zg_X7_left C hW g_i1 w_201 dX7_become_34 ?_
  obtain ⟨m_9, e_10, h⟩ := seqM_E h
  refine zp_X7_left C hW g_i0 w_201 e_10 dX7_become_37 (fun H locs hW => ?_)
  refine lv_aload_n C.1 C.2.1 dX7_become_40 rfl (lv_at hl 0 rfl) ?_
  refine lv_aload_n C.1 C.2.1 dX7_become_41 rfl (lv_at hl 1 rfl) ?_
  refine zg_X7_back C hW g_i1 w_204 dX7_become_42 ?_
  obtain ⟨m_11, e_12, h⟩ := seqM_E h
  refine zp_X7_back C hW g_i0 w_204 e_12 dX7_become_45 (fun H locs hW => ?_)
  refine lv_aload_n C.1 C.2.1 dX7_become_48 rfl (lv_at hl 0 rfl) ?_
  refine lv_aload_n C.1 C.2.1 dX7_become_49 rfl (lv_at hl 1 rfl) ?_
  refine zg_X7_said C hW g_i1 w_207 dX7_become_50 ?_
  obtain ⟨m_13, e_14, h⟩ := seqM_E h
  refine zp_X7_said C hW g_i0 w_207 e_14 dX7_become_53 (fun H locs hW => ?_)
  exact ret_v h hq hW dX7_become_56
theorem c_X7_become {X : TX} {l : Launch} {fu : Nat} {i0 : Nat} {i1 : Nat} {m mE : Mem} (h : f_X7_become fu i0 i1 m = some mE) (g_i0 : (11, i0) ∈ ids) (g_i1 : (11, i1) ∈ ids) : MetV X l yX7_become cX7_become 2 0 [.ref (ad X 11 i0), .ref (ad X 11 i1)] m mE :=
  met_V (by decide) (Nat.le_of_ble_eq_true rfl) (fun p e s mi args below meth c ls Q C hq hW hl => w_X7_become C hq h g_i0 g_i1 hW (lv_sub hl [0, 1] rfl))
theorem k_X7_become : CalV yX7_become cX7_become 2 none RX7 1 := ⟨w_594, w_595, w_66, w_596, by decide +kernel⟩
theorem dX7_talks_0 : decode cX7_talks 0 = .ok (.aload_n 0, 1) := by decide +kernel
theorem dX7_talks_1 : decode cX7_talks 1 = .ok (.getfield 25, 3) := by decide +kernel
theorem dX7_talks_4 : decode cX7_talks 4 = .ok (.tableswitch 50 2 5 #[39, 32, 39, 48], 32) := by decide +kernel
theorem dX7_talks_36 : decode cX7_talks 36 = .ok (.aload_n 0, 1) := by decide +kernel
theorem dX7_talks_37 : decode cX7_talks 37 = .ok (.getfield 19, 3) := by decide +kernel
theorem dX7_talks_40 : decode cX7_talks 40 = .ok (.iconst 5, 1) := by decide +kernel
theorem dX7_talks_41 : decode cX7_talks 41 = .ok (.iadd, 1) := by decide +kernel
theorem dX7_talks_42 : decode cX7_talks 42 = .ok (.ireturn, 1) := by decide +kernel
theorem dX7_talks_43 : decode cX7_talks 43 = .ok (.aload_n 0, 1) := by decide +kernel
theorem dX7_talks_44 : decode cX7_talks 44 = .ok (.getfield 19, 3) := by decide +kernel
theorem dX7_talks_47 : decode cX7_talks 47 = .ok (.iconst 2, 1) := by decide +kernel
theorem dX7_talks_48 : decode cX7_talks 48 = .ok (.idiv, 1) := by decide +kernel
theorem dX7_talks_49 : decode cX7_talks 49 = .ok (.iconst 1, 1) := by decide +kernel
theorem dX7_talks_50 : decode cX7_talks 50 = .ok (.iadd, 1) := by decide +kernel
theorem dX7_talks_51 : decode cX7_talks 51 = .ok (.ireturn, 1) := by decide +kernel
theorem dX7_talks_52 : decode cX7_talks 52 = .ok (.iconst 1, 1) := by decide +kernel
theorem dX7_talks_53 : decode cX7_talks 53 = .ok (.ireturn, 1) := by decide +kernel
theorem dX7_talks_54 : decode cX7_talks 54 = .ok (.aload_n 0, 1) := by decide +kernel
theorem dX7_talks_55 : decode cX7_talks 55 = .ok (.getfield 19, 3) := by decide +kernel
theorem dX7_talks_58 : decode cX7_talks 58 = .ok (.ireturn, 1) := by decide +kernel
def f_X7_talks_43 (fu : Nat)  (i0 : Nat) (m : Mem) : Option (Int32 × Mem) := some ((((m (vf i0 2)) / 2) + 1), m)
set_option maxHeartbeats 4000000 in
set_option maxRecDepth 100000 in
theorem w_X7_talks_43 {X : TX} {p : Program} {l : Launch} {e : Env} {s : State} {mi : MethodId} {args : Array Value} {below : List Frame} {meth : Method} {c : Code} {Q : State → Prop} {r : Int32} {mE : Mem} (C : Cx X p s mi args c RX7 cX7_talks 1) (hq : RetI X p l e (rmD 0) s mi args below meth c cX7_talks .int Q r mE) {fu : Nat} {i0 : Nat} {m : Mem} {H : Heap} {locs : List Loc} {ls : Array Slot} (h : f_X7_talks_43 fu i0 m = some (r, mE)) (g_i0 : (11, i0) ∈ ids) (hW : Wd X s m H locs) (hl : lv_has ls 1 [(0, .ref (ad X 11 i0))]) : W p l e (rmD 0) s mi args below meth c H locs 0 0 Q (F0 mi 43 ls []) := by
  unfold f_X7_talks_43 at h
  refine lv_aload_n C.1 C.2.1 dX7_talks_43 rfl (lv_at hl 0 rfl) ?_
  refine zg_X7_talk C hW g_i0 w_194 dX7_talks_44 ?_
  refine lv_iconst (v := 2) C.1 C.2.1 dX7_talks_47 rfl ?_
  refine lv_idiv C.1 C.2.1 dX7_talks_48 (by decide) ?_
  refine lv_iconst (v := 1) C.1 C.2.1 dX7_talks_49 rfl ?_
  refine lv_iadd C.1 C.2.1 dX7_talks_50 ?_
  exact ret_i h hq rfl hW dX7_talks_51
def f_X7_talks (fu : Nat)  (i0 : Nat) (m : Mem) : Option (Int32 × Mem) := seqM (m (vf i0 0)) (fun x_1 : Int32 => if x_1 = 2 then (f_X7_talks_43 fu i0 m) else (if x_1 = 3 then (some (((m (vf i0 2)) + 5), m)) else (if x_1 = 4 then (f_X7_talks_43 fu i0 m) else (if x_1 = 5 then (some (1, m)) else (some ((m (vf i0 2)), m))))))
set_option maxHeartbeats 4000000 in
set_option maxRecDepth 100000 in
theorem w_X7_talks {X : TX} {p : Program} {l : Launch} {e : Env} {s : State} {mi : MethodId} {args : Array Value} {below : List Frame} {meth : Method} {c : Code} {Q : State → Prop} {r : Int32} {mE : Mem} (C : Cx X p s mi args c RX7 cX7_talks 1) (hq : RetI X p l e (rmD 0) s mi args below meth c cX7_talks .int Q r mE) {fu : Nat} {i0 : Nat} {m : Mem} {H : Heap} {locs : List Loc} {ls : Array Slot} (h : f_X7_talks fu i0 m = some (r, mE)) (g_i0 : (11, i0) ∈ ids) (hW : Wd X s m H locs) (hl : lv_has ls 1 [(0, .ref (ad X 11 i0))]) : W p l e (rmD 0) s mi args below meth c H locs 0 0 Q (F0 mi 0 ls []) := by
  unfold f_X7_talks at h
  refine lv_aload_n C.1 C.2.1 dX7_talks_0 rfl (lv_at hl 0 rfl) ?_
  refine zg_X7_kind C hW g_i0 w_189 dX7_talks_1 ?_
  obtain ⟨x_1, e_2, h⟩ := seqM_E h
  refine lv_name e_2 ?_
  by_cases hc_3 : x_1 = 2
  · have h := ite_t hc_3 h
    refine lv_tableIn (tgt := 43) C.1 C.2.1 dX7_talks_4 (by rw [hc_3]; decide) (by rw [hc_3]; decide) (by rw [hc_3]; rfl) (by decide) ?_
    exact w_X7_talks_43 C hq  h g_i0 hW (lv_sub hl [0] rfl)
  · have h := ite_f hc_3 h
    by_cases hc_4 : x_1 = 3
    · have h := ite_t hc_4 h
      refine lv_tableIn (tgt := 36) C.1 C.2.1 dX7_talks_4 (by rw [hc_4]; decide) (by rw [hc_4]; decide) (by rw [hc_4]; rfl) (by decide) ?_
      refine lv_aload_n C.1 C.2.1 dX7_talks_36 rfl (lv_at hl 0 rfl) ?_
      refine zg_X7_talk C hW g_i0 w_194 dX7_talks_37 ?_
      refine lv_iconst (v := 5) C.1 C.2.1 dX7_talks_40 rfl ?_
      refine lv_iadd C.1 C.2.1 dX7_talks_41 ?_
      exact ret_i h hq rfl hW dX7_talks_42
    · have h := ite_f hc_4 h
      by_cases hc_5 : x_1 = 4
      · have h := ite_t hc_5 h
        refine lv_tableIn (tgt := 43) C.1 C.2.1 dX7_talks_4 (by rw [hc_5]; decide) (by rw [hc_5]; decide) (by rw [hc_5]; rfl) (by decide) ?_
        exact w_X7_talks_43 C hq  h g_i0 hW (lv_sub hl [0] rfl)
      · have h := ite_f hc_5 h
        by_cases hc_6 : x_1 = 5
        · have h := ite_t hc_6 h
          refine lv_tableIn (tgt := 52) C.1 C.2.1 dX7_talks_4 (by rw [hc_6]; decide) (by rw [hc_6]; decide) (by rw [hc_6]; rfl) (by decide) ?_
          refine lv_iconst (v := 1) C.1 C.2.1 dX7_talks_52 rfl ?_
          exact ret_i h hq rfl hW dX7_talks_53
        · have h := ite_f hc_6 h
          have nhc_3 := ne_k (2) rfl hc_3
          have nhc_4 := ne_k (3) rfl hc_4
          have nhc_5 := ne_k (4) rfl hc_5
          have nhc_6 := ne_k (5) rfl hc_6
          refine lv_tableOut (tgt := 54) C.1 C.2.1 dX7_talks_4 (by omega) (by decide) ?_
          refine lv_aload_n C.1 C.2.1 dX7_talks_54 rfl (lv_at hl 0 rfl) ?_
          refine zg_X7_talk C hW g_i0 w_194 dX7_talks_55 ?_
          exact ret_i h hq rfl hW dX7_talks_58
theorem c_X7_talks {X : TX} {l : Launch} {fu : Nat} {i0 : Nat} {m mE : Mem} {r : Int32} (h : f_X7_talks fu i0 m = some (r, mE)) (g_i0 : (11, i0) ∈ ids) : MetI X l yX7_talks cX7_talks 1 .int 0 [.ref (ad X 11 i0)] m r mE :=
  met_I (by decide) (Nat.le_of_ble_eq_true rfl) (fun p e s mi args below meth c ls Q C hq hW hl => w_X7_talks C hq h g_i0 hW (lv_sub hl [0] rfl))
theorem k_X7_talks : CalV yX7_talks cX7_talks 1 (some .int) RX7 0 := ⟨w_434, w_435, w_66, w_436, by decide +kernel⟩
theorem dX7_isReady_0 : decode cX7_isReady 0 = .ok (.aload_n 0, 1) := by decide +kernel
theorem dX7_isReady_1 : decode cX7_isReady 1 = .ok (.getfield 25, 3) := by decide +kernel
theorem dX7_isReady_4 : decode cX7_isReady 4 = .ok (.iconst 5, 1) := by decide +kernel
theorem dX7_isReady_5 : decode cX7_isReady 5 = .ok (.if_icmp .eq 16, 3) := by decide +kernel
theorem dX7_isReady_8 : decode cX7_isReady 8 = .ok (.iload_n 1, 1) := by decide +kernel
theorem dX7_isReady_9 : decode cX7_isReady 9 = .ok (.aload_n 0, 1) := by decide +kernel
theorem dX7_isReady_10 : decode cX7_isReady 10 = .ok (.iload_n 2, 1) := by decide +kernel
theorem dX7_isReady_11 : decode cX7_isReady 11 = .ok (.invokevirtual 47, 3) := by decide +kernel
theorem dX7_isReady_14 : decode cX7_isReady 14 = .ok (.if_icmp .lt 7, 3) := by decide +kernel
theorem dX7_isReady_17 : decode cX7_isReady 17 = .ok (.iconst 1, 1) := by decide +kernel
theorem dX7_isReady_18 : decode cX7_isReady 18 = .ok (.goto 4, 3) := by decide +kernel
theorem dX7_isReady_21 : decode cX7_isReady 21 = .ok (.iconst 0, 1) := by decide +kernel
theorem dX7_isReady_22 : decode cX7_isReady 22 = .ok (.ireturn, 1) := by decide +kernel
def f_X7_isReady (fu : Nat)  (i0 : Nat) (x1 : Int32) (x2 : Int32) (m : Mem) : Option (Int32 × Mem) := if (m (vf i0 0)) = 5 then (some (0, m)) else (doI (f_X7_waits fu i0 x2 m) (fun r_3 m_2 => if x1 < r_3 then (some (0, m_2)) else (some (1, m_2))))
set_option maxHeartbeats 4000000 in
set_option maxRecDepth 100000 in
theorem w_X7_isReady {X : TX} {p : Program} {l : Launch} {e : Env} {s : State} {mi : MethodId} {args : Array Value} {below : List Frame} {meth : Method} {c : Code} {Q : State → Prop} {r : Int32} {mE : Mem} (C : Cx X p s mi args c RX7 cX7_isReady 3) (hq : RetI X p l e (rmD 2) s mi args below meth c cX7_isReady .boolean Q r mE) {fu : Nat} {i0 : Nat} {x1 : Int32} {x2 : Int32} {m : Mem} {H : Heap} {locs : List Loc} {ls : Array Slot} (h : f_X7_isReady fu i0 x1 x2 m = some (r, mE)) (g_i0 : (11, i0) ∈ ids) (hW : Wd X s m H locs) (hl : lv_has ls 3 [(0, .ref (ad X 11 i0)), (1, .int x1), (2, .int x2)]) : W p l e (rmD 2) s mi args below meth c H locs 0 0 Q (F0 mi 0 ls []) := by
  unfold f_X7_isReady at h
  refine lv_aload_n C.1 C.2.1 dX7_isReady_0 rfl (lv_at hl 0 rfl) ?_
  refine zg_X7_kind C hW g_i0 w_189 dX7_isReady_1 ?_
  refine lv_iconst (v := 5) C.1 C.2.1 dX7_isReady_4 rfl ?_
  refine lv_icmp_eq (tgt := 21) C.1 C.2.1 dX7_isReady_5 (by decide) (fun hc_5 => ?_) (fun hc_5 => ?_)
  · have h := ite_t hc_5 h
    refine lv_iconst (v := 0) C.1 C.2.1 dX7_isReady_21 rfl ?_
    exact ret_i h hq rfl hW dX7_isReady_22
  · have h := ite_f hc_5 h
    refine lv_iload_n C.1 C.2.1 dX7_isReady_8 rfl (lv_at hl 1 rfl) ?_
    refine lv_aload_n C.1 C.2.1 dX7_isReady_9 rfl (lv_at hl 0 rfl) ?_
    refine lv_iload_n C.1 C.2.1 dX7_isReady_10 rfl (lv_at hl 2 rfl) ?_
    obtain ⟨r_3, m_2, hc_1, h⟩ := doI_E h
    refine zr_cVI C hW (c_X7_waits (i0 := i0) (x1 := x2) hc_1 g_i0) k_X7_waits (zr_recv C hW g_i0 zco_11 rfl) w_536 ⟨Nat.le_of_ble_eq_true rfl, Nat.le_of_ble_eq_true rfl⟩ ⟨Nat.le_refl 0, Nat.le_refl 0⟩ rfl hl.1 rfl (Nat.le_of_ble_eq_true rfl) dX7_isReady_11 (fun H locs hW => ?_)
    refine lv_icmp_lt (tgt := 21) C.1 C.2.1 dX7_isReady_14 (by decide) (fun hc_4 => ?_) (fun hc_4 => ?_)
    · have h := ite_t hc_4 h
      refine lv_iconst (v := 0) C.1 C.2.1 dX7_isReady_21 rfl ?_
      exact ret_i h hq rfl hW dX7_isReady_22
    · have h := ite_f hc_4 h
      refine lv_iconst (v := 1) C.1 C.2.1 dX7_isReady_17 rfl ?_
      refine lv_goto (tgt := 22) C.1 C.2.1 dX7_isReady_18 (by decide) ?_
      exact ret_i h hq rfl hW dX7_isReady_22
theorem c_X7_isReady {X : TX} {l : Launch} {fu : Nat} {i0 : Nat} {x1 : Int32} {x2 : Int32} {m mE : Mem} {r : Int32} (h : f_X7_isReady fu i0 x1 x2 m = some (r, mE)) (g_i0 : (11, i0) ∈ ids) : MetI X l yX7_isReady cX7_isReady 3 .boolean 2 [.ref (ad X 11 i0), .int x1, .int x2] m r mE :=
  met_I (by decide) (Nat.le_of_ble_eq_true rfl) (fun p e s mi args below meth c ls Q C hq hW hl => w_X7_isReady C hq h g_i0 hW (lv_sub hl [0, 1, 2] rfl))
theorem k_X7_isReady : CalV yX7_isReady cX7_isReady 3 (some .boolean) RX7 2 := ⟨w_533, w_534, w_66, w_535, by decide +kernel⟩
theorem dX4_hear_0 : decode cX4_hear 0 = .ok (.iconst 1, 1) := by decide +kernel
theorem dX4_hear_1 : decode cX4_hear 1 = .ok (.istore_n 1, 1) := by decide +kernel
theorem dX4_hear_2 : decode cX4_hear 2 = .ok (.iconst 0, 1) := by decide +kernel
theorem dX4_hear_3 : decode cX4_hear 3 = .ok (.istore_n 2, 1) := by decide +kernel
theorem dX4_hear_4 : decode cX4_hear 4 = .ok (.iload_n 2, 1) := by decide +kernel
theorem dX4_hear_5 : decode cX4_hear 5 = .ok (.aload_n 0, 1) := by decide +kernel
theorem dX4_hear_6 : decode cX4_hear 6 = .ok (.getfield 39, 3) := by decide +kernel
theorem dX4_hear_9 : decode cX4_hear 9 = .ok (.if_icmp .ge 57, 3) := by decide +kernel
theorem dX4_hear_12 : decode cX4_hear 12 = .ok (.aload_n 0, 1) := by decide +kernel
theorem dX4_hear_13 : decode cX4_hear 13 = .ok (.getfield 11, 3) := by decide +kernel
theorem dX4_hear_16 : decode cX4_hear 16 = .ok (.iload_n 2, 1) := by decide +kernel
theorem dX4_hear_17 : decode cX4_hear 17 = .ok (.aaload, 1) := by decide +kernel
theorem dX4_hear_18 : decode cX4_hear 18 = .ok (.astore_n 3, 1) := by decide +kernel
theorem dX4_hear_19 : decode cX4_hear 19 = .ok (.aload_n 3, 1) := by decide +kernel
theorem dX4_hear_20 : decode cX4_hear 20 = .ok (.getfield 91, 3) := by decide +kernel
theorem dX4_hear_23 : decode cX4_hear 23 = .ok (.iconst 1, 1) := by decide +kernel
theorem dX4_hear_24 : decode cX4_hear 24 = .ok (.if_icmp .le 18, 3) := by decide +kernel
theorem dX4_hear_27 : decode cX4_hear 27 = .ok (.aload_n 3, 1) := by decide +kernel
theorem dX4_hear_28 : decode cX4_hear 28 = .ok (.dup, 1) := by decide +kernel
theorem dX4_hear_29 : decode cX4_hear 29 = .ok (.getfield 91, 3) := by decide +kernel
theorem dX4_hear_32 : decode cX4_hear 32 = .ok (.iconst 1, 1) := by decide +kernel
theorem dX4_hear_33 : decode cX4_hear 33 = .ok (.isub, 1) := by decide +kernel
theorem dX4_hear_34 : decode cX4_hear 34 = .ok (.putfield 91, 3) := by decide +kernel
theorem dX4_hear_37 : decode cX4_hear 37 = .ok (.iconst 0, 1) := by decide +kernel
theorem dX4_hear_38 : decode cX4_hear 38 = .ok (.istore_n 1, 1) := by decide +kernel
theorem dX4_hear_39 : decode cX4_hear 39 = .ok (.goto 21, 3) := by decide +kernel
theorem dX4_hear_42 : decode cX4_hear 42 = .ok (.aload_n 3, 1) := by decide +kernel
theorem dX4_hear_43 : decode cX4_hear 43 = .ok (.getfield 91, 3) := by decide +kernel
theorem dX4_hear_46 : decode cX4_hear 46 = .ok (.iconst 1, 1) := by decide +kernel
theorem dX4_hear_47 : decode cX4_hear 47 = .ok (.if_icmp .ne 13, 3) := by decide +kernel
theorem dX4_hear_50 : decode cX4_hear 50 = .ok (.aload_n 3, 1) := by decide +kernel
theorem dX4_hear_51 : decode cX4_hear 51 = .ok (.iconst 0, 1) := by decide +kernel
theorem dX4_hear_52 : decode cX4_hear 52 = .ok (.putfield 91, 3) := by decide +kernel
theorem dX4_hear_55 : decode cX4_hear 55 = .ok (.aload_n 0, 1) := by decide +kernel
theorem dX4_hear_56 : decode cX4_hear 56 = .ok (.iload_n 2, 1) := by decide +kernel
theorem dX4_hear_57 : decode cX4_hear 57 = .ok (.putfield 25, 3) := by decide +kernel
theorem dX4_hear_60 : decode cX4_hear 60 = .ok (.iinc 2 1, 3) := by decide +kernel
theorem dX4_hear_63 : decode cX4_hear 63 = .ok (.goto (-59), 3) := by decide +kernel
theorem dX4_hear_66 : decode cX4_hear 66 = .ok (.iload_n 1, 1) := by decide +kernel
theorem dX4_hear_67 : decode cX4_hear 67 = .ok (.ifCond .eq 41, 3) := by decide +kernel
theorem dX4_hear_70 : decode cX4_hear 70 = .ok (.aload_n 0, 1) := by decide +kernel
theorem dX4_hear_71 : decode cX4_hear 71 = .ok (.dup, 1) := by decide +kernel
theorem dX4_hear_72 : decode cX4_hear 72 = .ok (.getfield 49, 3) := by decide +kernel
theorem dX4_hear_75 : decode cX4_hear 75 = .ok (.iconst 1, 1) := by decide +kernel
theorem dX4_hear_76 : decode cX4_hear 76 = .ok (.iadd, 1) := by decide +kernel
theorem dX4_hear_77 : decode cX4_hear 77 = .ok (.putfield 49, 3) := by decide +kernel
theorem dX4_hear_80 : decode cX4_hear 80 = .ok (.aload_n 0, 1) := by decide +kernel
theorem dX4_hear_81 : decode cX4_hear 81 = .ok (.dup, 1) := by decide +kernel
theorem dX4_hear_82 : decode cX4_hear 82 = .ok (.getfield 52, 3) := by decide +kernel
theorem dX4_hear_85 : decode cX4_hear 85 = .ok (.iconst 1, 1) := by decide +kernel
theorem dX4_hear_86 : decode cX4_hear 86 = .ok (.iadd, 1) := by decide +kernel
theorem dX4_hear_87 : decode cX4_hear 87 = .ok (.putfield 52, 3) := by decide +kernel
theorem dX4_hear_90 : decode cX4_hear 90 = .ok (.aload_n 0, 1) := by decide +kernel
theorem dX4_hear_91 : decode cX4_hear 91 = .ok (.aload_n 0, 1) := by decide +kernel
theorem dX4_hear_92 : decode cX4_hear 92 = .ok (.getfield 55, 3) := by decide +kernel
theorem dX4_hear_95 : decode cX4_hear 95 = .ok (.aload_n 0, 1) := by decide +kernel
theorem dX4_hear_96 : decode cX4_hear 96 = .ok (.getfield 49, 3) := by decide +kernel
theorem dX4_hear_99 : decode cX4_hear 99 = .ok (.invokestatic 119, 3) := by decide +kernel
theorem dX4_hear_102 : decode cX4_hear 102 = .ok (.putfield 55, 3) := by decide +kernel
theorem dX4_hear_105 : decode cX4_hear 105 = .ok (.goto 8, 3) := by decide +kernel
theorem dX4_hear_108 : decode cX4_hear 108 = .ok (.aload_n 0, 1) := by decide +kernel
theorem dX4_hear_109 : decode cX4_hear 109 = .ok (.iconst 0, 1) := by decide +kernel
theorem dX4_hear_110 : decode cX4_hear 110 = .ok (.putfield 49, 3) := by decide +kernel
theorem dX4_hear_113 : decode cX4_hear 113 = .ok (.return_, 1) := by decide +kernel
def f_X4_hear_60 (fu : Nat) (k_4 : Nat → Int32 → Int32 → Mem → Option Mem) (i0 : Nat) (x1 : Int32) (x2 : Int32) (m : Mem) : Option Mem := seqM (x2 + 1) (fun x_1 : Int32 => k_4 i0 x1 x_1 m)
set_option maxHeartbeats 4000000 in
set_option maxRecDepth 100000 in
theorem w_X4_hear_60 {X : TX} {p : Program} {l : Launch} {e : Env} {s : State} {mi : MethodId} {args : Array Value} {below : List Frame} {meth : Method} {c : Code} {Q : State → Prop} {mE : Mem} (C : Cx X p s mi args c RX4 cX4_hear 4) (hq : RetV X p l e (rmD 1) s mi args below meth c cX4_hear Q mE) {fu : Nat} {k_4 : Nat → Int32 → Int32 → Mem → Option Mem} (hk_4 : ∀ {i0 : Nat} {x1 : Int32} {x2 : Int32} {m : Mem} {H : Heap} {locs : List Loc} {ls : Array Slot}, k_4 i0 x1 x2 m = some mE → (9, i0) ∈ ids → Wd X s m H locs → lv_has ls 4 [(0, .ref (ad X 9 i0)), (1, .int x1), (2, .int x2)] → W p l e (rmD 1) s mi args below meth c H locs 0 0 Q (F0 mi 4 ls [])) {i0 : Nat} {x1 : Int32} {x2 : Int32} {m : Mem} {H : Heap} {locs : List Loc} {ls : Array Slot} (h : f_X4_hear_60 fu k_4 i0 x1 x2 m = some mE) (g_i0 : (9, i0) ∈ ids) (hW : Wd X s m H locs) (hl : lv_has ls 4 [(0, .ref (ad X 9 i0)), (1, .int x1), (2, .int x2)]) : W p l e (rmD 1) s mi args below meth c H locs 0 0 Q (F0 mi 60 ls []) := by
  unfold f_X4_hear_60 at h
  obtain ⟨x_1, e_2, h⟩ := seqM_E h
  refine lv_iinc (v := x_1) (lv' := [(2, .int x_1), (0, .ref (ad X 9 i0)), (1, .int x1)]) C.1 C.2.1 dX4_hear_60 hl (k := 2) rfl (by rw [e_2]; rfl) (by decide) rfl (fun ls hl => ?_)
  refine lv_goto (tgt := 4) C.1 C.2.1 dX4_hear_63 (by decide) ?_
  exact hk_4 h g_i0 hW (lv_sub hl [1, 2, 0] rfl)
def f_X4_hear_4 (fu : Nat)  : Nat → Nat → Int32 → Int32 → Mem → Option Mem
  | 0, _, _, _, _ => none
  | n + 1, i0, x1, x2, m => if (m (sf i0 1)) ≤ x2 then (if x1 = 0 then (seqM (upd m (sf i0 6) 0) (fun m_1 : Mem => some m_1)) else (seqM (upd m (sf i0 6) ((m (sf i0 6)) + 1)) (fun m_3 : Mem => seqM (upd m_3 (sf i0 7) ((m_3 (sf i0 7)) + 1)) (fun m_5 : Mem => seqM (upd m_5 (sf i0 8) (if (m_5 (sf i0 8)) < (m_5 (sf i0 6)) then (m_5 (sf i0 6)) else (m_5 (sf i0 8)))) (fun m_7 : Mem => some m_7))))) else (chk (inb x2 5) (if (m (vf (10 * i0 + x2.toNatClampNeg) 4)) ≤ 1 then (if (m (vf (10 * i0 + x2.toNatClampNeg) 4)) = 1 then (seqM (upd m (vf (10 * i0 + x2.toNatClampNeg) 4) 0) (fun m_11 : Mem => seqM (upd m_11 (sf i0 14) x2) (fun m_13 : Mem => f_X4_hear_60 fu (f_X4_hear_4 fu n) i0 x1 x2 m_13))) else (f_X4_hear_60 fu (f_X4_hear_4 fu n) i0 x1 x2 m)) else (seqM (upd m (vf (10 * i0 + x2.toNatClampNeg) 4) ((m (vf (10 * i0 + x2.toNatClampNeg) 4)) - 1)) (fun m_16 : Mem => f_X4_hear_60 fu (f_X4_hear_4 fu n) i0 0 x2 m_16))))
set_option maxHeartbeats 4000000 in
set_option maxRecDepth 100000 in
theorem w_X4_hear_4 {X : TX} {p : Program} {l : Launch} {e : Env} {s : State} {mi : MethodId} {args : Array Value} {below : List Frame} {meth : Method} {c : Code} {Q : State → Prop} {mE : Mem} (C : Cx X p s mi args c RX4 cX4_hear 4) (hq : RetV X p l e (rmD 1) s mi args below meth c cX4_hear Q mE) {fu : Nat} : ∀ (n : Nat) {i0 : Nat} {x1 : Int32} {x2 : Int32} {m : Mem} {H : Heap} {locs : List Loc} {ls : Array Slot}, f_X4_hear_4 fu n i0 x1 x2 m = some mE → (9, i0) ∈ ids → Wd X s m H locs → lv_has ls 4 [(0, .ref (ad X 9 i0)), (1, .int x1), (2, .int x2)] → W p l e (rmD 1) s mi args below meth c H locs 0 0 Q (F0 mi 4 ls []) := by
  intro n
  induction n with
  | zero =>
    intro i0 x1 x2 m H locs ls h g_i0 hW hl
    rw [f_X4_hear_4] at h
    cases h
  | succ n ih =>
    intro i0 x1 x2 m H locs ls h g_i0 hW hl
    rw [f_X4_hear_4] at h
    refine lv_iload_n C.1 C.2.1 dX4_hear_4 rfl (lv_at hl 2 rfl) ?_
    refine lv_aload_n C.1 C.2.1 dX4_hear_5 rfl (lv_at hl 0 rfl) ?_
    refine zg_X4_many C hW g_i0 w_226 dX4_hear_6 ?_
    refine lv_icmp_ge (tgt := 66) C.1 C.2.1 dX4_hear_9 (by decide) (fun hc_19 => ?_) (fun hc_19 => ?_)
    · have h := ite_t hc_19 h
      refine lv_iload_n C.1 C.2.1 dX4_hear_66 rfl (lv_at hl 1 rfl) ?_
      refine lv_if_eq (tgt := 108) C.1 C.2.1 dX4_hear_67 (by decide) (fun hc_9 => ?_) (fun hc_9 => ?_)
      · have h := ite_t hc_9 h
        refine lv_aload_n C.1 C.2.1 dX4_hear_108 rfl (lv_at hl 0 rfl) ?_
        refine lv_iconst (v := 0) C.1 C.2.1 dX4_hear_109 rfl ?_
        obtain ⟨m_1, e_2, h⟩ := seqM_E h
        refine zp_X4_silence C hW g_i0 w_234 e_2 dX4_hear_110 (fun H locs hW => ?_)
        exact ret_v h hq hW dX4_hear_113
      · have h := ite_f hc_9 h
        refine lv_aload_n C.1 C.2.1 dX4_hear_70 rfl (lv_at hl 0 rfl) ?_
        refine lv_dup C.1 C.2.1 dX4_hear_71 rfl ?_
        refine zg_X4_silence C hW g_i0 w_234 dX4_hear_72 ?_
        refine lv_iconst (v := 1) C.1 C.2.1 dX4_hear_75 rfl ?_
        refine lv_iadd C.1 C.2.1 dX4_hear_76 ?_
        obtain ⟨m_3, e_4, h⟩ := seqM_E h
        refine zp_X4_silence C hW g_i0 w_234 e_4 dX4_hear_77 (fun H locs hW => ?_)
        refine lv_aload_n C.1 C.2.1 dX4_hear_80 rfl (lv_at hl 0 rfl) ?_
        refine lv_dup C.1 C.2.1 dX4_hear_81 rfl ?_
        refine zg_X4_silent C hW g_i0 w_236 dX4_hear_82 ?_
        refine lv_iconst (v := 1) C.1 C.2.1 dX4_hear_85 rfl ?_
        refine lv_iadd C.1 C.2.1 dX4_hear_86 ?_
        obtain ⟨m_5, e_6, h⟩ := seqM_E h
        refine zp_X4_silent C hW g_i0 w_236 e_6 dX4_hear_87 (fun H locs hW => ?_)
        refine lv_aload_n C.1 C.2.1 dX4_hear_90 rfl (lv_at hl 0 rfl) ?_
        refine lv_aload_n C.1 C.2.1 dX4_hear_91 rfl (lv_at hl 0 rfl) ?_
        refine zg_X4_longestHole C hW g_i0 w_238 dX4_hear_92 ?_
        refine lv_aload_n C.1 C.2.1 dX4_hear_95 rfl (lv_at hl 0 rfl) ?_
        refine zg_X4_silence C hW g_i0 w_234 dX4_hear_96 ?_
        refine va_mmax C.1 C.2.1 (C.2.2.1.trans hl.1.symm) C.2.2.2.1 (C.2.2.2.2.1 _ w_523) (C.2.2.2.2.1 _ w_431) (C.2.2.2.2.1 _ w_71) (C.2.2.2.2.1 _ w_432) (Nat.le_of_ble_eq_true rfl) (Nat.le_of_ble_eq_true rfl) (Nat.le_refl 0) (Nat.le_refl 0) dX4_hear_99 ?_
        obtain ⟨m_7, e_8, h⟩ := seqM_E h
        refine zp_X4_longestHole C hW g_i0 w_238 e_8 dX4_hear_102 (fun H locs hW => ?_)
        refine lv_goto (tgt := 113) C.1 C.2.1 dX4_hear_105 (by decide) ?_
        exact ret_v h hq hW dX4_hear_113
    · have h := ite_f hc_19 h
      refine lv_aload_n C.1 C.2.1 dX4_hear_12 rfl (lv_at hl 0 rfl) ?_
      refine zg_X4_voices C hW g_i0 w_224 dX4_hear_13 ?_
      refine lv_iload_n C.1 C.2.1 dX4_hear_16 rfl (lv_at hl 2 rfl) ?_
      obtain ⟨hb_10, h⟩ := chk_E h
      refine zaa_10 C hW (im_9_10 g_i0) (inb_E hb_10) dX4_hear_17 ?_
      refine lv_astore_n (lv' := [(3, .ref (ad X 11 (10 * i0 + x2.toNatClampNeg))), (0, .ref (ad X 9 i0)), (1, .int x1), (2, .int x2)]) C.1 C.2.1 dX4_hear_18 rfl hl (by decide) rfl (fun ls hl => ?_)
      refine lv_aload_n C.1 C.2.1 dX4_hear_19 rfl (lv_at hl 0 rfl) ?_
      refine zg_X7_left C hW (ia_10 (im_9_10 g_i0) (inb_E hb_10)) w_202 dX4_hear_20 ?_
      refine lv_iconst (v := 1) C.1 C.2.1 dX4_hear_23 rfl ?_
      refine lv_icmp_le (tgt := 42) C.1 C.2.1 dX4_hear_24 (by decide) (fun hc_18 => ?_) (fun hc_18 => ?_)
      · have h := ite_t hc_18 h
        refine lv_aload_n C.1 C.2.1 dX4_hear_42 rfl (lv_at hl 0 rfl) ?_
        refine zg_X7_left C hW (ia_10 (im_9_10 g_i0) (inb_E hb_10)) w_202 dX4_hear_43 ?_
        refine lv_iconst (v := 1) C.1 C.2.1 dX4_hear_46 rfl ?_
        refine lv_icmp_ne (tgt := 60) C.1 C.2.1 dX4_hear_47 (by decide) (fun hc_15 => ?_) (fun hc_15 => ?_)
        · have h := ite_f hc_15 h
          exact w_X4_hear_60 C hq ih h g_i0 hW (lv_sub hl [1, 2, 3] rfl)
        · have h := ite_t hc_15 h
          refine lv_aload_n C.1 C.2.1 dX4_hear_50 rfl (lv_at hl 0 rfl) ?_
          refine lv_iconst (v := 0) C.1 C.2.1 dX4_hear_51 rfl ?_
          obtain ⟨m_11, e_12, h⟩ := seqM_E h
          refine zp_X7_left C hW (ia_10 (im_9_10 g_i0) (inb_E hb_10)) w_202 e_12 dX4_hear_52 (fun H locs hW => ?_)
          refine lv_aload_n C.1 C.2.1 dX4_hear_55 rfl (lv_at hl 1 rfl) ?_
          refine lv_iload_n C.1 C.2.1 dX4_hear_56 rfl (lv_at hl 3 rfl) ?_
          obtain ⟨m_13, e_14, h⟩ := seqM_E h
          refine zp_X4_last C hW g_i0 w_250 e_14 dX4_hear_57 (fun H locs hW => ?_)
          exact w_X4_hear_60 C hq ih h g_i0 hW (lv_sub hl [1, 2, 3] rfl)
      · have h := ite_f hc_18 h
        refine lv_aload_n C.1 C.2.1 dX4_hear_27 rfl (lv_at hl 0 rfl) ?_
        refine lv_dup C.1 C.2.1 dX4_hear_28 rfl ?_
        refine zg_X7_left C hW (ia_10 (im_9_10 g_i0) (inb_E hb_10)) w_202 dX4_hear_29 ?_
        refine lv_iconst (v := 1) C.1 C.2.1 dX4_hear_32 rfl ?_
        refine lv_isub C.1 C.2.1 dX4_hear_33 ?_
        obtain ⟨m_16, e_17, h⟩ := seqM_E h
        refine zp_X7_left C hW (ia_10 (im_9_10 g_i0) (inb_E hb_10)) w_202 e_17 dX4_hear_34 (fun H locs hW => ?_)
        refine lv_iconst (v := 0) C.1 C.2.1 dX4_hear_37 rfl ?_
        refine lv_istore_n (lv' := [(1, .int 0), (3, .ref (ad X 11 (10 * i0 + x2.toNatClampNeg))), (0, .ref (ad X 9 i0)), (2, .int x2)]) C.1 C.2.1 dX4_hear_38 rfl hl (by decide) rfl (fun ls hl => ?_)
        refine lv_goto (tgt := 60) C.1 C.2.1 dX4_hear_39 (by decide) ?_
        exact w_X4_hear_60 C hq ih h g_i0 hW (lv_sub hl [2, 0, 3] rfl)
def f_X4_hear (fu : Nat)  (i0 : Nat) (m : Mem) : Option Mem := f_X4_hear_4 fu fu i0 1 0 m
set_option maxHeartbeats 4000000 in
set_option maxRecDepth 100000 in
theorem w_X4_hear {X : TX} {p : Program} {l : Launch} {e : Env} {s : State} {mi : MethodId} {args : Array Value} {below : List Frame} {meth : Method} {c : Code} {Q : State → Prop} {mE : Mem} (C : Cx X p s mi args c RX4 cX4_hear 4) (hq : RetV X p l e (rmD 1) s mi args below meth c cX4_hear Q mE) {fu : Nat} {i0 : Nat} {m : Mem} {H : Heap} {locs : List Loc} {ls : Array Slot} (h : f_X4_hear fu i0 m = some mE) (g_i0 : (9, i0) ∈ ids) (hW : Wd X s m H locs) (hl : lv_has ls 4 [(0, .ref (ad X 9 i0))]) : W p l e (rmD 1) s mi args below meth c H locs 0 0 Q (F0 mi 0 ls []) := by
  unfold f_X4_hear at h
  refine lv_iconst (v := 1) C.1 C.2.1 dX4_hear_0 rfl ?_
  refine lv_istore_n (lv' := [(1, .int 1), (0, .ref (ad X 9 i0))]) C.1 C.2.1 dX4_hear_1 rfl hl (by decide) rfl (fun ls hl => ?_)
  refine lv_iconst (v := 0) C.1 C.2.1 dX4_hear_2 rfl ?_
  refine lv_istore_n (lv' := [(2, .int 0), (1, .int 1), (0, .ref (ad X 9 i0))]) C.1 C.2.1 dX4_hear_3 rfl hl (by decide) rfl (fun ls hl => ?_)
  exact w_X4_hear_4 C hq  fu h g_i0 hW (lv_sub hl [2, 1, 0] rfl)
theorem c_X4_hear {X : TX} {l : Launch} {fu : Nat} {i0 : Nat} {m mE : Mem} (h : f_X4_hear fu i0 m = some mE) (g_i0 : (9, i0) ∈ ids) : MetV X l yX4_hear cX4_hear 4 1 [.ref (ad X 9 i0)] m mE :=
  met_V (by decide) (Nat.le_of_ble_eq_true rfl) (fun p e s mi args below meth c ls Q C hq hW hl => w_X4_hear C hq h g_i0 hW (lv_sub hl [0] rfl))
theorem k_X4_hear : CalV yX4_hear cX4_hear 4 none RX4 0 := ⟨w_520, w_521, w_65, w_522, by decide +kernel⟩
