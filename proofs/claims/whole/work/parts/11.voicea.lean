theorem dX8_within_0 : decode cX8_within 0 = .ok (.iload_n 0, 1) := by decide +kernel
theorem dX8_within_1 : decode cX8_within 1 = .ok (.iload_n 1, 1) := by decide +kernel
theorem dX8_within_2 : decode cX8_within 2 = .ok (.if_icmp .lt 12, 3) := by decide +kernel
theorem dX8_within_5 : decode cX8_within 5 = .ok (.iload_n 0, 1) := by decide +kernel
theorem dX8_within_6 : decode cX8_within 6 = .ok (.iload_n 2, 1) := by decide +kernel
theorem dX8_within_7 : decode cX8_within 7 = .ok (.if_icmp .gt 7, 3) := by decide +kernel
theorem dX8_within_10 : decode cX8_within 10 = .ok (.iconst 1, 1) := by decide +kernel
theorem dX8_within_11 : decode cX8_within 11 = .ok (.goto 4, 3) := by decide +kernel
theorem dX8_within_14 : decode cX8_within 14 = .ok (.iconst 0, 1) := by decide +kernel
theorem dX8_within_15 : decode cX8_within 15 = .ok (.ireturn, 1) := by decide +kernel
def f_X8_within (fu : Nat)  (x0 : Int32) (x1 : Int32) (x2 : Int32) (m : Mem) : Option (Int32 × Mem) := if x0 < x1 then (some (0, m)) else (if x2 < x0 then (some (0, m)) else (some (1, m)))
set_option maxHeartbeats 4000000 in
set_option maxRecDepth 100000 in
theorem w_X8_within {X : TX} {p : Program} {l : Launch} {e : Env} {s : State} {mi : MethodId} {args : Array Value} {below : List Frame} {meth : Method} {c : Code} {Q : State → Prop} {r : Int32} {mE : Mem} (C : Cx X p s mi args c RX8 cX8_within 3) (hq : RetI X p l e (rmD 0) s mi args below meth c cX8_within .boolean Q r mE) {fu : Nat} {x0 : Int32} {x1 : Int32} {x2 : Int32} {m : Mem} {H : Heap} {locs : List Loc} {ls : Array Slot} (h : f_X8_within fu x0 x1 x2 m = some (r, mE))  (hW : Wd X s m H locs) (hl : lv_has ls 3 [(0, .int x0), (1, .int x1), (2, .int x2)]) : W p l e (rmD 0) s mi args below meth c H locs 0 0 Q (F0 mi 0 ls []) := by
  unfold f_X8_within at h
  refine lv_iload_n C.1 C.2.1 dX8_within_0 rfl (lv_at hl 0 rfl) ?_
  refine lv_iload_n C.1 C.2.1 dX8_within_1 rfl (lv_at hl 1 rfl) ?_
  refine lv_icmp_lt (tgt := 14) C.1 C.2.1 dX8_within_2 (by decide) (fun hc_2 => ?_) (fun hc_2 => ?_)
  · have h := ite_t hc_2 h
    refine lv_iconst (v := 0) C.1 C.2.1 dX8_within_14 rfl ?_
    exact ret_i h hq rfl hW dX8_within_15
  · have h := ite_f hc_2 h
    refine lv_iload_n C.1 C.2.1 dX8_within_5 rfl (lv_at hl 0 rfl) ?_
    refine lv_iload_n C.1 C.2.1 dX8_within_6 rfl (lv_at hl 2 rfl) ?_
    refine lv_icmp_gt (tgt := 14) C.1 C.2.1 dX8_within_7 (by decide) (fun hc_1 => ?_) (fun hc_1 => ?_)
    · have h := ite_t hc_1 h
      refine lv_iconst (v := 0) C.1 C.2.1 dX8_within_14 rfl ?_
      exact ret_i h hq rfl hW dX8_within_15
    · have h := ite_f hc_1 h
      refine lv_iconst (v := 1) C.1 C.2.1 dX8_within_10 rfl ?_
      refine lv_goto (tgt := 15) C.1 C.2.1 dX8_within_11 (by decide) ?_
      exact ret_i h hq rfl hW dX8_within_15
theorem c_X8_within {X : TX} {l : Launch} {fu : Nat} {x0 : Int32} {x1 : Int32} {x2 : Int32} {m mE : Mem} {r : Int32} (h : f_X8_within fu x0 x1 x2 m = some (r, mE))  : MetI X l yX8_within cX8_within 3 .boolean 0 [.int x0, .int x1, .int x2] m r mE :=
  met_I (by decide) (Nat.le_of_ble_eq_true rfl) (fun p e s mi args below meth c ls Q C hq hW hl => w_X8_within C hq h  hW (lv_sub hl [0, 1, 2] rfl))
theorem k_X8_within : CalS yX8_within cX8_within 3 (some .boolean) 3 := ⟨w_402, w_61, w_403, by decide +kernel⟩
theorem dX7_allows_0 : decode cX7_allows 0 = .ok (.iload_n 0, 1) := by decide +kernel
theorem dX7_allows_1 : decode cX7_allows 1 = .ok (.tableswitch 51 1 3 #[27, 35, 43], 27) := by decide +kernel
theorem dX7_allows_28 : decode cX7_allows 28 = .ok (.iload_n 1, 1) := by decide +kernel
theorem dX7_allows_29 : decode cX7_allows 29 = .ok (.iconst 1, 1) := by decide +kernel
theorem dX7_allows_30 : decode cX7_allows 30 = .ok (.bipush 60, 2) := by decide +kernel
theorem dX7_allows_32 : decode cX7_allows 32 = .ok (.invokestatic 9, 3) := by decide +kernel
theorem dX7_allows_35 : decode cX7_allows 35 = .ok (.ireturn, 1) := by decide +kernel
theorem dX7_allows_36 : decode cX7_allows 36 = .ok (.iload_n 1, 1) := by decide +kernel
theorem dX7_allows_37 : decode cX7_allows 37 = .ok (.iconst 1, 1) := by decide +kernel
theorem dX7_allows_38 : decode cX7_allows 38 = .ok (.bipush 60, 2) := by decide +kernel
theorem dX7_allows_40 : decode cX7_allows 40 = .ok (.invokestatic 9, 3) := by decide +kernel
theorem dX7_allows_43 : decode cX7_allows 43 = .ok (.ireturn, 1) := by decide +kernel
theorem dX7_allows_44 : decode cX7_allows 44 = .ok (.iload_n 1, 1) := by decide +kernel
theorem dX7_allows_45 : decode cX7_allows 45 = .ok (.iconst 0, 1) := by decide +kernel
theorem dX7_allows_46 : decode cX7_allows 46 = .ok (.bipush 40, 2) := by decide +kernel
theorem dX7_allows_48 : decode cX7_allows 48 = .ok (.invokestatic 9, 3) := by decide +kernel
theorem dX7_allows_51 : decode cX7_allows 51 = .ok (.ireturn, 1) := by decide +kernel
theorem dX7_allows_52 : decode cX7_allows 52 = .ok (.iconst 0, 1) := by decide +kernel
theorem dX7_allows_53 : decode cX7_allows 53 = .ok (.ireturn, 1) := by decide +kernel
def f_X7_allows (fu : Nat)  (x0 : Int32) (x1 : Int32) (m : Mem) : Option (Int32 × Mem) := if x0 = 1 then (doI (f_X8_within fu x1 1 60 m) (fun r_3 m_2 => chk (isB r_3) (some (r_3, m_2)))) else (if x0 = 2 then (doI (f_X8_within fu x1 1 60 m) (fun r_8 m_7 => chk (isB r_8) (some (r_8, m_7)))) else (if x0 = 3 then (doI (f_X8_within fu x1 0 40 m) (fun r_13 m_12 => chk (isB r_13) (some (r_13, m_12)))) else (some (0, m))))
set_option maxHeartbeats 4000000 in
set_option maxRecDepth 100000 in
theorem w_X7_allows {X : TX} {p : Program} {l : Launch} {e : Env} {s : State} {mi : MethodId} {args : Array Value} {below : List Frame} {meth : Method} {c : Code} {Q : State → Prop} {r : Int32} {mE : Mem} (C : Cx X p s mi args c RX7 cX7_allows 2) (hq : RetI X p l e (rmD 1) s mi args below meth c cX7_allows .boolean Q r mE) {fu : Nat} {x0 : Int32} {x1 : Int32} {m : Mem} {H : Heap} {locs : List Loc} {ls : Array Slot} (h : f_X7_allows fu x0 x1 m = some (r, mE))  (hW : Wd X s m H locs) (hl : lv_has ls 2 [(0, .int x0), (1, .int x1)]) : W p l e (rmD 1) s mi args below meth c H locs 0 0 Q (F0 mi 0 ls []) := by
  unfold f_X7_allows at h
  refine lv_iload_n C.1 C.2.1 dX7_allows_0 rfl (lv_at hl 0 rfl) ?_
  by_cases hc_5 : x0 = 1
  · have h := ite_t hc_5 h
    refine lv_tableIn (tgt := 28) C.1 C.2.1 dX7_allows_1 (by rw [hc_5]; decide) (by rw [hc_5]; decide) (by rw [hc_5]; rfl) (by decide) ?_
    refine lv_iload_n C.1 C.2.1 dX7_allows_28 rfl (lv_at hl 1 rfl) ?_
    refine lv_iconst (v := 1) C.1 C.2.1 dX7_allows_29 rfl ?_
    refine lv_bipush (v := 60) C.1 C.2.1 dX7_allows_30 rfl ?_
    obtain ⟨r_3, m_2, hc_1, h⟩ := doI_E h
    refine zr_cNI C hW (c_X8_within (x0 := x1) (x1 := 1) (x2 := 60) hc_1 ) k_X8_within C.2.2.2.2.2.1.2.1 ⟨Nat.le_of_ble_eq_true rfl, Nat.le_of_ble_eq_true rfl⟩ ⟨Nat.le_refl 0, Nat.le_refl 0⟩ rfl hl.1 rfl (Nat.le_of_ble_eq_true rfl) dX7_allows_32 (fun H locs hW => ?_)
    obtain ⟨hb_4, h⟩ := chk_E h
    exact ret_i h hq (nar_B (isB_E hb_4)) hW dX7_allows_35
  · have h := ite_f hc_5 h
    by_cases hc_10 : x0 = 2
    · have h := ite_t hc_10 h
      refine lv_tableIn (tgt := 36) C.1 C.2.1 dX7_allows_1 (by rw [hc_10]; decide) (by rw [hc_10]; decide) (by rw [hc_10]; rfl) (by decide) ?_
      refine lv_iload_n C.1 C.2.1 dX7_allows_36 rfl (lv_at hl 1 rfl) ?_
      refine lv_iconst (v := 1) C.1 C.2.1 dX7_allows_37 rfl ?_
      refine lv_bipush (v := 60) C.1 C.2.1 dX7_allows_38 rfl ?_
      obtain ⟨r_8, m_7, hc_6, h⟩ := doI_E h
      refine zr_cNI C hW (c_X8_within (x0 := x1) (x1 := 1) (x2 := 60) hc_6 ) k_X8_within C.2.2.2.2.2.1.2.1 ⟨Nat.le_of_ble_eq_true rfl, Nat.le_of_ble_eq_true rfl⟩ ⟨Nat.le_refl 0, Nat.le_refl 0⟩ rfl hl.1 rfl (Nat.le_of_ble_eq_true rfl) dX7_allows_40 (fun H locs hW => ?_)
      obtain ⟨hb_9, h⟩ := chk_E h
      exact ret_i h hq (nar_B (isB_E hb_9)) hW dX7_allows_43
    · have h := ite_f hc_10 h
      by_cases hc_15 : x0 = 3
      · have h := ite_t hc_15 h
        refine lv_tableIn (tgt := 44) C.1 C.2.1 dX7_allows_1 (by rw [hc_15]; decide) (by rw [hc_15]; decide) (by rw [hc_15]; rfl) (by decide) ?_
        refine lv_iload_n C.1 C.2.1 dX7_allows_44 rfl (lv_at hl 1 rfl) ?_
        refine lv_iconst (v := 0) C.1 C.2.1 dX7_allows_45 rfl ?_
        refine lv_bipush (v := 40) C.1 C.2.1 dX7_allows_46 rfl ?_
        obtain ⟨r_13, m_12, hc_11, h⟩ := doI_E h
        refine zr_cNI C hW (c_X8_within (x0 := x1) (x1 := 0) (x2 := 40) hc_11 ) k_X8_within C.2.2.2.2.2.1.2.1 ⟨Nat.le_of_ble_eq_true rfl, Nat.le_of_ble_eq_true rfl⟩ ⟨Nat.le_refl 0, Nat.le_refl 0⟩ rfl hl.1 rfl (Nat.le_of_ble_eq_true rfl) dX7_allows_48 (fun H locs hW => ?_)
        obtain ⟨hb_14, h⟩ := chk_E h
        exact ret_i h hq (nar_B (isB_E hb_14)) hW dX7_allows_51
      · have h := ite_f hc_15 h
        have nhc_5 := ne_k (1) rfl hc_5
        have nhc_10 := ne_k (2) rfl hc_10
        have nhc_15 := ne_k (3) rfl hc_15
        refine lv_tableOut (tgt := 52) C.1 C.2.1 dX7_allows_1 (by omega) (by decide) ?_
        refine lv_iconst (v := 0) C.1 C.2.1 dX7_allows_52 rfl ?_
        exact ret_i h hq rfl hW dX7_allows_53
theorem c_X7_allows {X : TX} {l : Launch} {fu : Nat} {x0 : Int32} {x1 : Int32} {m mE : Mem} {r : Int32} (h : f_X7_allows fu x0 x1 m = some (r, mE))  : MetI X l yX7_allows cX7_allows 2 .boolean 1 [.int x0, .int x1] m r mE :=
  met_I (by decide) (Nat.le_of_ble_eq_true rfl) (fun p e s mi args below meth c ls Q C hq hW hl => w_X7_allows C hq h  hW (lv_sub hl [0, 1] rfl))
theorem k_X7_allows : CalS yX7_allows cX7_allows 2 (some .boolean) 2 := ⟨w_405, w_66, w_406, by decide +kernel⟩
theorem dX7_put_0 : decode cX7_put 0 = .ok (.iload_n 1, 1) := by decide +kernel
theorem dX7_put_1 : decode cX7_put 1 = .ok (.iconst 1, 1) := by decide +kernel
theorem dX7_put_2 : decode cX7_put 2 = .ok (.if_icmp .ne 16, 3) := by decide +kernel
theorem dX7_put_5 : decode cX7_put 5 = .ok (.aload_n 0, 1) := by decide +kernel
theorem dX7_put_6 : decode cX7_put 6 = .ok (.getfield 13, 3) := by decide +kernel
theorem dX7_put_9 : decode cX7_put 9 = .ok (.istore_n 3, 1) := by decide +kernel
theorem dX7_put_10 : decode cX7_put 10 = .ok (.aload_n 0, 1) := by decide +kernel
theorem dX7_put_11 : decode cX7_put 11 = .ok (.iload_n 2, 1) := by decide +kernel
theorem dX7_put_12 : decode cX7_put 12 = .ok (.putfield 13, 3) := by decide +kernel
theorem dX7_put_15 : decode cX7_put 15 = .ok (.goto 31, 3) := by decide +kernel
theorem dX7_put_18 : decode cX7_put 18 = .ok (.iload_n 1, 1) := by decide +kernel
theorem dX7_put_19 : decode cX7_put 19 = .ok (.iconst 2, 1) := by decide +kernel
theorem dX7_put_20 : decode cX7_put 20 = .ok (.if_icmp .ne 16, 3) := by decide +kernel
theorem dX7_put_23 : decode cX7_put 23 = .ok (.aload_n 0, 1) := by decide +kernel
theorem dX7_put_24 : decode cX7_put 24 = .ok (.getfield 19, 3) := by decide +kernel
theorem dX7_put_27 : decode cX7_put 27 = .ok (.istore_n 3, 1) := by decide +kernel
theorem dX7_put_28 : decode cX7_put 28 = .ok (.aload_n 0, 1) := by decide +kernel
theorem dX7_put_29 : decode cX7_put 29 = .ok (.iload_n 2, 1) := by decide +kernel
theorem dX7_put_30 : decode cX7_put 30 = .ok (.putfield 19, 3) := by decide +kernel
theorem dX7_put_33 : decode cX7_put 33 = .ok (.goto 13, 3) := by decide +kernel
theorem dX7_put_36 : decode cX7_put 36 = .ok (.aload_n 0, 1) := by decide +kernel
theorem dX7_put_37 : decode cX7_put 37 = .ok (.getfield 22, 3) := by decide +kernel
theorem dX7_put_40 : decode cX7_put 40 = .ok (.istore_n 3, 1) := by decide +kernel
theorem dX7_put_41 : decode cX7_put 41 = .ok (.aload_n 0, 1) := by decide +kernel
theorem dX7_put_42 : decode cX7_put 42 = .ok (.iload_n 2, 1) := by decide +kernel
theorem dX7_put_43 : decode cX7_put 43 = .ok (.putfield 22, 3) := by decide +kernel
theorem dX7_put_46 : decode cX7_put 46 = .ok (.iload_n 3, 1) := by decide +kernel
theorem dX7_put_47 : decode cX7_put 47 = .ok (.ireturn, 1) := by decide +kernel
def f_X7_put (fu : Nat)  (i0 : Nat) (x1 : Int32) (x2 : Int32) (m : Mem) : Option (Int32 × Mem) := if x1 = 1 then (seqM (m (vf i0 1)) (fun x_10 : Int32 => seqM (upd m (vf i0 1) x2) (fun m_12 : Mem => some (x_10, m_12)))) else (if x1 = 2 then (seqM (m (vf i0 2)) (fun x_5 : Int32 => seqM (upd m (vf i0 2) x2) (fun m_7 : Mem => some (x_5, m_7)))) else (seqM (m (vf i0 3)) (fun x_1 : Int32 => seqM (upd m (vf i0 3) x2) (fun m_3 : Mem => some (x_1, m_3)))))
set_option maxHeartbeats 4000000 in
set_option maxRecDepth 100000 in
theorem w_X7_put {X : TX} {p : Program} {l : Launch} {e : Env} {s : State} {mi : MethodId} {args : Array Value} {below : List Frame} {meth : Method} {c : Code} {Q : State → Prop} {r : Int32} {mE : Mem} (C : Cx X p s mi args c RX7 cX7_put 4) (hq : RetI X p l e (rmD 0) s mi args below meth c cX7_put .int Q r mE) {fu : Nat} {i0 : Nat} {x1 : Int32} {x2 : Int32} {m : Mem} {H : Heap} {locs : List Loc} {ls : Array Slot} (h : f_X7_put fu i0 x1 x2 m = some (r, mE)) (g_i0 : (11, i0) ∈ ids) (hW : Wd X s m H locs) (hl : lv_has ls 4 [(0, .ref (ad X 11 i0)), (1, .int x1), (2, .int x2)]) : W p l e (rmD 0) s mi args below meth c H locs 0 0 Q (F0 mi 0 ls []) := by
  unfold f_X7_put at h
  refine lv_iload_n C.1 C.2.1 dX7_put_0 rfl (lv_at hl 1 rfl) ?_
  refine lv_iconst (v := 1) C.1 C.2.1 dX7_put_1 rfl ?_
  refine lv_icmp_ne (tgt := 18) C.1 C.2.1 dX7_put_2 (by decide) (fun hc_14 => ?_) (fun hc_14 => ?_)
  · have h := ite_f hc_14 h
    refine lv_iload_n C.1 C.2.1 dX7_put_18 rfl (lv_at hl 1 rfl) ?_
    refine lv_iconst (v := 2) C.1 C.2.1 dX7_put_19 rfl ?_
    refine lv_icmp_ne (tgt := 36) C.1 C.2.1 dX7_put_20 (by decide) (fun hc_9 => ?_) (fun hc_9 => ?_)
    · have h := ite_f hc_9 h
      refine lv_aload_n C.1 C.2.1 dX7_put_36 rfl (lv_at hl 0 rfl) ?_
      refine zg_X7_pause C hW g_i0 w_197 dX7_put_37 ?_
      obtain ⟨x_1, e_2, h⟩ := seqM_E h
      refine lv_name e_2 ?_
      refine lv_istore_n (lv' := [(3, .int x_1), (0, .ref (ad X 11 i0)), (1, .int x1), (2, .int x2)]) C.1 C.2.1 dX7_put_40 rfl hl (by decide) rfl (fun ls hl => ?_)
      refine lv_aload_n C.1 C.2.1 dX7_put_41 rfl (lv_at hl 1 rfl) ?_
      refine lv_iload_n C.1 C.2.1 dX7_put_42 rfl (lv_at hl 3 rfl) ?_
      obtain ⟨m_3, e_4, h⟩ := seqM_E h
      refine zp_X7_pause C hW g_i0 w_197 e_4 dX7_put_43 (fun H locs hW => ?_)
      refine lv_iload_n C.1 C.2.1 dX7_put_46 rfl (lv_at hl 0 rfl) ?_
      exact ret_i h hq rfl hW dX7_put_47
    · have h := ite_t hc_9 h
      refine lv_aload_n C.1 C.2.1 dX7_put_23 rfl (lv_at hl 0 rfl) ?_
      refine zg_X7_talk C hW g_i0 w_194 dX7_put_24 ?_
      obtain ⟨x_5, e_6, h⟩ := seqM_E h
      refine lv_name e_6 ?_
      refine lv_istore_n (lv' := [(3, .int x_5), (0, .ref (ad X 11 i0)), (1, .int x1), (2, .int x2)]) C.1 C.2.1 dX7_put_27 rfl hl (by decide) rfl (fun ls hl => ?_)
      refine lv_aload_n C.1 C.2.1 dX7_put_28 rfl (lv_at hl 1 rfl) ?_
      refine lv_iload_n C.1 C.2.1 dX7_put_29 rfl (lv_at hl 3 rfl) ?_
      obtain ⟨m_7, e_8, h⟩ := seqM_E h
      refine zp_X7_talk C hW g_i0 w_194 e_8 dX7_put_30 (fun H locs hW => ?_)
      refine lv_goto (tgt := 46) C.1 C.2.1 dX7_put_33 (by decide) ?_
      refine lv_iload_n C.1 C.2.1 dX7_put_46 rfl (lv_at hl 0 rfl) ?_
      exact ret_i h hq rfl hW dX7_put_47
  · have h := ite_t hc_14 h
    refine lv_aload_n C.1 C.2.1 dX7_put_5 rfl (lv_at hl 0 rfl) ?_
    refine zg_X7_wait C hW g_i0 w_191 dX7_put_6 ?_
    obtain ⟨x_10, e_11, h⟩ := seqM_E h
    refine lv_name e_11 ?_
    refine lv_istore_n (lv' := [(3, .int x_10), (0, .ref (ad X 11 i0)), (1, .int x1), (2, .int x2)]) C.1 C.2.1 dX7_put_9 rfl hl (by decide) rfl (fun ls hl => ?_)
    refine lv_aload_n C.1 C.2.1 dX7_put_10 rfl (lv_at hl 1 rfl) ?_
    refine lv_iload_n C.1 C.2.1 dX7_put_11 rfl (lv_at hl 3 rfl) ?_
    obtain ⟨m_12, e_13, h⟩ := seqM_E h
    refine zp_X7_wait C hW g_i0 w_191 e_13 dX7_put_12 (fun H locs hW => ?_)
    refine lv_goto (tgt := 46) C.1 C.2.1 dX7_put_15 (by decide) ?_
    refine lv_iload_n C.1 C.2.1 dX7_put_46 rfl (lv_at hl 0 rfl) ?_
    exact ret_i h hq rfl hW dX7_put_47
theorem c_X7_put {X : TX} {l : Launch} {fu : Nat} {i0 : Nat} {x1 : Int32} {x2 : Int32} {m mE : Mem} {r : Int32} (h : f_X7_put fu i0 x1 x2 m = some (r, mE)) (g_i0 : (11, i0) ∈ ids) : MetI X l yX7_put cX7_put 4 .int 0 [.ref (ad X 11 i0), .int x1, .int x2] m r mE :=
  met_I (by decide) (Nat.le_of_ble_eq_true rfl) (fun p e s mi args below meth c ls Q C hq hW hl => w_X7_put C hq h g_i0 hW (lv_sub hl [0, 1, 2] rfl))
theorem k_X7_put : CalV yX7_put cX7_put 4 (some .int) RX7 2 := ⟨w_467, w_468, w_66, w_469, by decide +kernel⟩
theorem dX7_become_0 : decode cX7_become 0 = .ok (.aload_n 0, 1) := by decide +kernel
theorem dX7_become_1 : decode cX7_become 1 = .ok (.aload_n 1, 1) := by decide +kernel
theorem dX7_become_2 : decode cX7_become 2 = .ok (.getfield 25, 3) := by decide +kernel
theorem dX7_become_5 : decode cX7_become 5 = .ok (.putfield 25, 3) := by decide +kernel
theorem dX7_become_8 : decode cX7_become 8 = .ok (.aload_n 0, 1) := by decide +kernel
theorem dX7_become_9 : decode cX7_become 9 = .ok (.aload_n 1, 1) := by decide +kernel
theorem dX7_become_10 : decode cX7_become 10 = .ok (.getfield 13, 3) := by decide +kernel
theorem dX7_become_13 : decode cX7_become 13 = .ok (.putfield 13, 3) := by decide +kernel
theorem dX7_become_16 : decode cX7_become 16 = .ok (.aload_n 0, 1) := by decide +kernel
theorem dX7_become_17 : decode cX7_become 17 = .ok (.aload_n 1, 1) := by decide +kernel
theorem dX7_become_18 : decode cX7_become 18 = .ok (.getfield 19, 3) := by decide +kernel
theorem dX7_become_21 : decode cX7_become 21 = .ok (.putfield 19, 3) := by decide +kernel
theorem dX7_become_24 : decode cX7_become 24 = .ok (.aload_n 0, 1) := by decide +kernel
theorem dX7_become_25 : decode cX7_become 25 = .ok (.aload_n 1, 1) := by decide +kernel
theorem dX7_become_26 : decode cX7_become 26 = .ok (.getfield 22, 3) := by decide +kernel
theorem dX7_become_29 : decode cX7_become 29 = .ok (.putfield 22, 3) := by decide +kernel
theorem dX7_become_32 : decode cX7_become 32 = .ok (.aload_n 0, 1) := by decide +kernel
theorem dX7_become_33 : decode cX7_become 33 = .ok (.aload_n 1, 1) := by decide +kernel
theorem dX7_become_34 : decode cX7_become 34 = .ok (.getfield 28, 3) := by decide +kernel
theorem dX7_become_37 : decode cX7_become 37 = .ok (.putfield 28, 3) := by decide +kernel
theorem dX7_become_40 : decode cX7_become 40 = .ok (.aload_n 0, 1) := by decide +kernel
theorem dX7_become_41 : decode cX7_become 41 = .ok (.aload_n 1, 1) := by decide +kernel
theorem dX7_become_42 : decode cX7_become 42 = .ok (.getfield 31, 3) := by decide +kernel
theorem dX7_become_45 : decode cX7_become 45 = .ok (.putfield 31, 3) := by decide +kernel
theorem dX7_become_48 : decode cX7_become 48 = .ok (.aload_n 0, 1) := by decide +kernel
theorem dX7_become_49 : decode cX7_become 49 = .ok (.aload_n 1, 1) := by decide +kernel
theorem dX7_become_50 : decode cX7_become 50 = .ok (.getfield 34, 3) := by decide +kernel
theorem dX7_become_53 : decode cX7_become 53 = .ok (.putfield 34, 3) := by decide +kernel
theorem dX7_become_56 : decode cX7_become 56 = .ok (.return_, 1) := by decide +kernel
def f_X7_become (fu : Nat)  (i0 : Nat) (i1 : Nat) (m : Mem) : Option Mem := seqM (upd m (vf i0 0) (m (vf i1 0))) (fun m_1 : Mem => seqM (upd m_1 (vf i0 1) (m_1 (vf i1 1))) (fun m_3 : Mem => seqM (upd m_3 (vf i0 2) (m_3 (vf i1 2))) (fun m_5 : Mem => seqM (upd m_5 (vf i0 3) (m_5 (vf i1 3))) (fun m_7 : Mem => seqM (upd m_7 (vf i0 4) (m_7 (vf i1 4))) (fun m_9 : Mem => seqM (upd m_9 (vf i0 5) (m_9 (vf i1 5))) (fun m_11 : Mem => seqM (upd m_11 (vf i0 6) (m_11 (vf i1 6))) (fun m_13 : Mem => some m_13)))))))
set_option maxHeartbeats 4000000 in
set_option maxRecDepth 100000 in
theorem w_X7_become {X : TX} {p : Program} {l : Launch} {e : Env} {s : State} {mi : MethodId} {args : Array Value} {below : List Frame} {meth : Method} {c : Code} {Q : State → Prop} {mE : Mem} (C : Cx X p s mi args c RX7 cX7_become 2) (hq : RetV X p l e (rmD 0) s mi args below meth c cX7_become Q mE) {fu : Nat} {i0 : Nat} {i1 : Nat} {m : Mem} {H : Heap} {locs : List Loc} {ls : Array Slot} (h : f_X7_become fu i0 i1 m = some mE) (g_i0 : (11, i0) ∈ ids) (g_i1 : (11, i1) ∈ ids) (hW : Wd X s m H locs) (hl : lv_has ls 2 [(0, .ref (ad X 11 i0)), (1, .ref (ad X 11 i1))]) : W p l e (rmD 0) s mi args below meth c H locs 0 0 Q (F0 mi 0 ls []) := by
  unfold f_X7_become at h
  refine lv_aload_n C.1 C.2.1 dX7_become_0 rfl (lv_at hl 0 rfl) ?_
  refine lv_aload_n C.1 C.2.1 dX7_become_1 rfl (lv_at hl 1 rfl) ?_
  refine zg_X7_kind C hW g_i1 w_189 dX7_become_2 ?_
  obtain ⟨m_1, e_2, h⟩ := seqM_E h
  refine zp_X7_kind C hW g_i0 w_189 e_2 dX7_become_5 (fun H locs hW => ?_)
  refine lv_aload_n C.1 C.2.1 dX7_become_8 rfl (lv_at hl 0 rfl) ?_
  refine lv_aload_n C.1 C.2.1 dX7_become_9 rfl (lv_at hl 1 rfl) ?_
  refine zg_X7_wait C hW g_i1 w_191 dX7_become_10 ?_
  obtain ⟨m_3, e_4, h⟩ := seqM_E h
  refine zp_X7_wait C hW g_i0 w_191 e_4 dX7_become_13 (fun H locs hW => ?_)
  refine lv_aload_n C.1 C.2.1 dX7_become_16 rfl (lv_at hl 0 rfl) ?_
  refine lv_aload_n C.1 C.2.1 dX7_become_17 rfl (lv_at hl 1 rfl) ?_
  refine zg_X7_talk C hW g_i1 w_194 dX7_become_18 ?_
  obtain ⟨m_5, e_6, h⟩ := seqM_E h
  refine zp_X7_talk C hW g_i0 w_194 e_6 dX7_become_21 (fun H locs hW => ?_)
  refine lv_aload_n C.1 C.2.1 dX7_become_24 rfl (lv_at hl 0 rfl) ?_
  refine lv_aload_n C.1 C.2.1 dX7_become_25 rfl (lv_at hl 1 rfl) ?_
  refine zg_X7_pause C hW g_i1 w_197 dX7_become_26 ?_
  obtain ⟨m_7, e_8, h⟩ := seqM_E h
  refine zp_X7_pause C hW g_i0 w_197 e_8 dX7_become_29 (fun H locs hW => ?_)
  refine lv_aload_n C.1 C.2.1 dX7_become_32 rfl (lv_at hl 0 rfl) ?_
  refine lv_aload_n C.1 C.2.1 dX7_become_33 rfl (lv_at hl 1 rfl) ?_
  refine zg_X7_left C hW g_i1 w_201 dX7_become_34 ?_
  obtain ⟨m_9, e_10, h⟩ := seqM_E h
  refine zp_X7_left C hW g_i0 w_201 e_10 dX7_become_37 (fun H locs hW => ?_)
  refine lv_aload_n C.1 C.2.1 dX7_become_40 rfl (lv_at hl 0 rfl) ?_
  refine lv_aload_n C.1 C.2.1 dX7_become_41 rfl (lv_at hl 1 rfl) ?_
  refine zg_X7_back C hW g_i1 w_204 dX7_become_42 ?_
  obtain ⟨m_11, e_12, h⟩ := seqM_E h
  refine zp_X7_back C hW g_i0 w_204 e_12 dX7_become_45 (fun H locs hW => ?_)
  refine lv_aload_n C.1 C.2.1 dX7_become_48 rfl (lv_at hl 0 rfl) ?_
  refine lv_aload_n C.1 C.2.1 dX7_become_49 rfl (lv_at hl 1 rfl) ?_
  refine zg_X7_said C hW g_i1 w_207 dX7_become_50 ?_
  obtain ⟨m_13, e_14, h⟩ := seqM_E h
  refine zp_X7_said C hW g_i0 w_207 e_14 dX7_become_53 (fun H locs hW => ?_)
  exact ret_v h hq hW dX7_become_56
theorem c_X7_become {X : TX} {l : Launch} {fu : Nat} {i0 : Nat} {i1 : Nat} {m mE : Mem} (h : f_X7_become fu i0 i1 m = some mE) (g_i0 : (11, i0) ∈ ids) (g_i1 : (11, i1) ∈ ids) : MetV X l yX7_become cX7_become 2 0 [.ref (ad X 11 i0), .ref (ad X 11 i1)] m mE :=
  met_V (by decide) (Nat.le_of_ble_eq_true rfl) (fun p e s mi args below meth c ls Q C hq hW hl => w_X7_become C hq h g_i0 g_i1 hW (lv_sub hl [0, 1] rfl))
theorem k_X7_become : CalV yX7_become cX7_become 2 none RX7 1 := ⟨w_594, w_595, w_66, w_596, by decide +kernel⟩
theorem dX7_aboveHer_0 : decode cX7_aboveHer 0 = .ok (.aload_n 0, 1) := by decide +kernel
theorem dX7_aboveHer_1 : decode cX7_aboveHer 1 = .ok (.getfield 25, 3) := by decide +kernel
theorem dX7_aboveHer_4 : decode cX7_aboveHer 4 = .ok (.lookupswitch 32 #[(3, 28), (4, 30)], 28) := by decide +kernel
theorem dX7_aboveHer_32 : decode cX7_aboveHer 32 = .ok (.iconst 1, 1) := by decide +kernel
theorem dX7_aboveHer_33 : decode cX7_aboveHer 33 = .ok (.ireturn, 1) := by decide +kernel
theorem dX7_aboveHer_34 : decode cX7_aboveHer 34 = .ok (.iconst 2, 1) := by decide +kernel
theorem dX7_aboveHer_35 : decode cX7_aboveHer 35 = .ok (.ireturn, 1) := by decide +kernel
theorem dX7_aboveHer_36 : decode cX7_aboveHer 36 = .ok (.iconst 0, 1) := by decide +kernel
theorem dX7_aboveHer_37 : decode cX7_aboveHer 37 = .ok (.ireturn, 1) := by decide +kernel
def f_X7_aboveHer (fu : Nat)  (i0 : Nat) (m : Mem) : Option (Int32 × Mem) := seqM (m (vf i0 0)) (fun x_1 : Int32 => if x_1 = 3 then (some (1, m)) else (if x_1 = 4 then (some (2, m)) else (some (0, m))))
set_option maxHeartbeats 4000000 in
set_option maxRecDepth 100000 in
theorem w_X7_aboveHer {X : TX} {p : Program} {l : Launch} {e : Env} {s : State} {mi : MethodId} {args : Array Value} {below : List Frame} {meth : Method} {c : Code} {Q : State → Prop} {r : Int32} {mE : Mem} (C : Cx X p s mi args c RX7 cX7_aboveHer 1) (hq : RetI X p l e (rmD 0) s mi args below meth c cX7_aboveHer .int Q r mE) {fu : Nat} {i0 : Nat} {m : Mem} {H : Heap} {locs : List Loc} {ls : Array Slot} (h : f_X7_aboveHer fu i0 m = some (r, mE)) (g_i0 : (11, i0) ∈ ids) (hW : Wd X s m H locs) (hl : lv_has ls 1 [(0, .ref (ad X 11 i0))]) : W p l e (rmD 0) s mi args below meth c H locs 0 0 Q (F0 mi 0 ls []) := by
  unfold f_X7_aboveHer at h
  refine lv_aload_n C.1 C.2.1 dX7_aboveHer_0 rfl (lv_at hl 0 rfl) ?_
  refine zg_X7_kind C hW g_i0 w_189 dX7_aboveHer_1 ?_
  obtain ⟨x_1, e_2, h⟩ := seqM_E h
  refine lv_name e_2 ?_
  by_cases hc_3 : x_1 = 3
  · have h := ite_t hc_3 h
    refine lv_lookup (tgt := 32) (off := 28) C.1 C.2.1 dX7_aboveHer_4 (by decide) (by first | (rw [hc_3]; done) | (rw [hc_3]; decide) | (rw [hc_3]; rfl)) (by decide) ?_
    refine lv_iconst (v := 1) C.1 C.2.1 dX7_aboveHer_32 rfl ?_
    exact ret_i h hq rfl hW dX7_aboveHer_33
  · have h := ite_f hc_3 h
    by_cases hc_4 : x_1 = 4
    · have h := ite_t hc_4 h
      refine lv_lookup (tgt := 34) (off := 30) C.1 C.2.1 dX7_aboveHer_4 (by decide) (by first | (rw [hc_4]; done) | (rw [hc_4]; decide) | (rw [hc_4]; rfl)) (by decide) ?_
      refine lv_iconst (v := 2) C.1 C.2.1 dX7_aboveHer_34 rfl ?_
      exact ret_i h hq rfl hW dX7_aboveHer_35
    · have h := ite_f hc_4 h
      have nhc_3 := ne_k (3) rfl hc_3
      have nhc_4 := ne_k (4) rfl hc_4
      refine lv_lookup (tgt := 36) (off := 32) C.1 C.2.1 dX7_aboveHer_4 (by decide) (by show Op.lookupswitch.offset [(3, 28), (4, 30)] 32 _ = _; rw [Op.lookupswitch.offset_cons, if_neg nhc_3.symm, Op.lookupswitch.offset_cons, if_neg nhc_4.symm, Op.lookupswitch.offset_nil]) (by decide) ?_
      refine lv_iconst (v := 0) C.1 C.2.1 dX7_aboveHer_36 rfl ?_
      exact ret_i h hq rfl hW dX7_aboveHer_37
theorem c_X7_aboveHer {X : TX} {l : Launch} {fu : Nat} {i0 : Nat} {m mE : Mem} {r : Int32} (h : f_X7_aboveHer fu i0 m = some (r, mE)) (g_i0 : (11, i0) ∈ ids) : MetI X l yX7_aboveHer cX7_aboveHer 1 .int 0 [.ref (ad X 11 i0)] m r mE :=
  met_I (by decide) (Nat.le_of_ble_eq_true rfl) (fun p e s mi args below meth c ls Q C hq hW hl => w_X7_aboveHer C hq h g_i0 hW (lv_sub hl [0] rfl))
theorem k_X7_aboveHer : CalV yX7_aboveHer cX7_aboveHer 1 (some .int) RX7 0 := ⟨w_455, w_0, w_66, w_456, by decide +kernel⟩
theorem dX7_isOf_0 : decode cX7_isOf 0 = .ok (.aload_n 0, 1) := by decide +kernel
theorem dX7_isOf_1 : decode cX7_isOf 1 = .ok (.getfield 25, 3) := by decide +kernel
theorem dX7_isOf_4 : decode cX7_isOf 4 = .ok (.iload_n 1, 1) := by decide +kernel
theorem dX7_isOf_5 : decode cX7_isOf 5 = .ok (.if_icmp .eq 15, 3) := by decide +kernel
theorem dX7_isOf_8 : decode cX7_isOf 8 = .ok (.aload_n 0, 1) := by decide +kernel
theorem dX7_isOf_9 : decode cX7_isOf 9 = .ok (.invokevirtual 37, 3) := by decide +kernel
theorem dX7_isOf_12 : decode cX7_isOf 12 = .ok (.iload_n 1, 1) := by decide +kernel
theorem dX7_isOf_13 : decode cX7_isOf 13 = .ok (.if_icmp .eq 7, 3) := by decide +kernel
theorem dX7_isOf_16 : decode cX7_isOf 16 = .ok (.iload_n 1, 1) := by decide +kernel
theorem dX7_isOf_17 : decode cX7_isOf 17 = .ok (.ifCond .ne 7, 3) := by decide +kernel
theorem dX7_isOf_20 : decode cX7_isOf 20 = .ok (.iconst 1, 1) := by decide +kernel
theorem dX7_isOf_21 : decode cX7_isOf 21 = .ok (.goto 4, 3) := by decide +kernel
theorem dX7_isOf_24 : decode cX7_isOf 24 = .ok (.iconst 0, 1) := by decide +kernel
theorem dX7_isOf_25 : decode cX7_isOf 25 = .ok (.ireturn, 1) := by decide +kernel
def f_X7_isOf_20 (fu : Nat)   (m : Mem) : Option (Int32 × Mem) := some (1, m)
set_option maxHeartbeats 4000000 in
set_option maxRecDepth 100000 in
theorem w_X7_isOf_20 {X : TX} {p : Program} {l : Launch} {e : Env} {s : State} {mi : MethodId} {args : Array Value} {below : List Frame} {meth : Method} {c : Code} {Q : State → Prop} {r : Int32} {mE : Mem} (C : Cx X p s mi args c RX7 cX7_isOf 2) (hq : RetI X p l e (rmD 1) s mi args below meth c cX7_isOf .boolean Q r mE) {fu : Nat}  {m : Mem} {H : Heap} {locs : List Loc} {ls : Array Slot} (h : f_X7_isOf_20 fu  m = some (r, mE))  (hW : Wd X s m H locs) (hl : lv_has ls 2 []) : W p l e (rmD 1) s mi args below meth c H locs 0 0 Q (F0 mi 20 ls []) := by
  unfold f_X7_isOf_20 at h
  refine lv_iconst (v := 1) C.1 C.2.1 dX7_isOf_20 rfl ?_
  refine lv_goto (tgt := 25) C.1 C.2.1 dX7_isOf_21 (by decide) ?_
  exact ret_i h hq rfl hW dX7_isOf_25
def f_X7_isOf (fu : Nat)  (i0 : Nat) (x1 : Int32) (m : Mem) : Option (Int32 × Mem) := if (m (vf i0 0)) = x1 then (f_X7_isOf_20 fu m) else (doI (f_X7_aboveHer fu i0 m) (fun r_3 m_2 => if r_3 = x1 then (f_X7_isOf_20 fu m_2) else (if x1 = 0 then (f_X7_isOf_20 fu m_2) else (some (0, m_2)))))
set_option maxHeartbeats 4000000 in
set_option maxRecDepth 100000 in
theorem w_X7_isOf {X : TX} {p : Program} {l : Launch} {e : Env} {s : State} {mi : MethodId} {args : Array Value} {below : List Frame} {meth : Method} {c : Code} {Q : State → Prop} {r : Int32} {mE : Mem} (C : Cx X p s mi args c RX7 cX7_isOf 2) (hq : RetI X p l e (rmD 1) s mi args below meth c cX7_isOf .boolean Q r mE) {fu : Nat} {i0 : Nat} {x1 : Int32} {m : Mem} {H : Heap} {locs : List Loc} {ls : Array Slot} (h : f_X7_isOf fu i0 x1 m = some (r, mE)) (g_i0 : (11, i0) ∈ ids) (hW : Wd X s m H locs) (hl : lv_has ls 2 [(0, .ref (ad X 11 i0)), (1, .int x1)]) : W p l e (rmD 1) s mi args below meth c H locs 0 0 Q (F0 mi 0 ls []) := by
  unfold f_X7_isOf at h
  refine lv_aload_n C.1 C.2.1 dX7_isOf_0 rfl (lv_at hl 0 rfl) ?_
  refine zg_X7_kind C hW g_i0 w_189 dX7_isOf_1 ?_
  refine lv_iload_n C.1 C.2.1 dX7_isOf_4 rfl (lv_at hl 1 rfl) ?_
  refine lv_icmp_eq (tgt := 20) C.1 C.2.1 dX7_isOf_5 (by decide) (fun hc_6 => ?_) (fun hc_6 => ?_)
  · have h := ite_t hc_6 h
    exact w_X7_isOf_20 C hq  h  hW (lv_sub hl [] rfl)
  · have h := ite_f hc_6 h
    refine lv_aload_n C.1 C.2.1 dX7_isOf_8 rfl (lv_at hl 0 rfl) ?_
    obtain ⟨r_3, m_2, hc_1, h⟩ := doI_E h
    refine zr_cVI C hW (c_X7_aboveHer (i0 := i0) hc_1 g_i0) k_X7_aboveHer (zr_recv C hW g_i0 zco_11 rfl) w_453 ⟨Nat.le_of_ble_eq_true rfl, Nat.le_of_ble_eq_true rfl⟩ ⟨Nat.le_refl 0, Nat.le_refl 0⟩ rfl hl.1 rfl (Nat.le_of_ble_eq_true rfl) dX7_isOf_9 (fun H locs hW => ?_)
    refine lv_iload_n C.1 C.2.1 dX7_isOf_12 rfl (lv_at hl 1 rfl) ?_
    refine lv_icmp_eq (tgt := 20) C.1 C.2.1 dX7_isOf_13 (by decide) (fun hc_5 => ?_) (fun hc_5 => ?_)
    · have h := ite_t hc_5 h
      exact w_X7_isOf_20 C hq  h  hW (lv_sub hl [] rfl)
    · have h := ite_f hc_5 h
      refine lv_iload_n C.1 C.2.1 dX7_isOf_16 rfl (lv_at hl 1 rfl) ?_
      refine lv_if_ne (tgt := 24) C.1 C.2.1 dX7_isOf_17 (by decide) (fun hc_4 => ?_) (fun hc_4 => ?_)
      · have h := ite_f hc_4 h
        refine lv_iconst (v := 0) C.1 C.2.1 dX7_isOf_24 rfl ?_
        exact ret_i h hq rfl hW dX7_isOf_25
      · have h := ite_t hc_4 h
        exact w_X7_isOf_20 C hq  h  hW (lv_sub hl [] rfl)
theorem c_X7_isOf {X : TX} {l : Launch} {fu : Nat} {i0 : Nat} {x1 : Int32} {m mE : Mem} {r : Int32} (h : f_X7_isOf fu i0 x1 m = some (r, mE)) (g_i0 : (11, i0) ∈ ids) : MetI X l yX7_isOf cX7_isOf 2 .boolean 1 [.ref (ad X 11 i0), .int x1] m r mE :=
  met_I (by decide) (Nat.le_of_ble_eq_true rfl) (fun p e s mi args below meth c ls Q C hq hW hl => w_X7_isOf C hq h g_i0 hW (lv_sub hl [0, 1] rfl))
theorem k_X7_isOf : CalV yX7_isOf cX7_isOf 2 (some .boolean) RX7 1 := ⟨w_450, w_451, w_66, w_452, by decide +kernel⟩
theorem dX7_waits_0 : decode cX7_waits 0 = .ok (.aload_n 0, 1) := by decide +kernel
theorem dX7_waits_1 : decode cX7_waits 1 = .ok (.getfield 13, 3) := by decide +kernel
theorem dX7_waits_4 : decode cX7_waits 4 = .ok (.aload_n 0, 1) := by decide +kernel
theorem dX7_waits_5 : decode cX7_waits 5 = .ok (.getfield 31, 3) := by decide +kernel
theorem dX7_waits_8 : decode cX7_waits 8 = .ok (.iadd, 1) := by decide +kernel
theorem dX7_waits_9 : decode cX7_waits 9 = .ok (.iload_n 1, 1) := by decide +kernel
theorem dX7_waits_10 : decode cX7_waits 10 = .ok (.ifCond .eq 10, 3) := by decide +kernel
theorem dX7_waits_13 : decode cX7_waits 13 = .ok (.aload_n 0, 1) := by decide +kernel
theorem dX7_waits_14 : decode cX7_waits 14 = .ok (.getfield 22, 3) := by decide +kernel
theorem dX7_waits_17 : decode cX7_waits 17 = .ok (.goto 4, 3) := by decide +kernel
theorem dX7_waits_20 : decode cX7_waits 20 = .ok (.iconst 0, 1) := by decide +kernel
theorem dX7_waits_21 : decode cX7_waits 21 = .ok (.iadd, 1) := by decide +kernel
theorem dX7_waits_22 : decode cX7_waits 22 = .ok (.istore_n 2, 1) := by decide +kernel
theorem dX7_waits_23 : decode cX7_waits 23 = .ok (.aload_n 0, 1) := by decide +kernel
theorem dX7_waits_24 : decode cX7_waits 24 = .ok (.getfield 25, 3) := by decide +kernel
theorem dX7_waits_27 : decode cX7_waits 27 = .ok (.tableswitch 61 1 4 #[29, 51, 37, 55], 29) := by decide +kernel
theorem dX7_waits_56 : decode cX7_waits 56 = .ok (.iconst 1, 1) := by decide +kernel
theorem dX7_waits_57 : decode cX7_waits 57 = .ok (.iload_n 2, 1) := by decide +kernel
theorem dX7_waits_58 : decode cX7_waits 58 = .ok (.iconst 2, 1) := by decide +kernel
theorem dX7_waits_59 : decode cX7_waits 59 = .ok (.isub, 1) := by decide +kernel
theorem dX7_waits_60 : decode cX7_waits 60 = .ok (.invokestatic 41, 3) := by decide +kernel
theorem dX7_waits_63 : decode cX7_waits 63 = .ok (.ireturn, 1) := by decide +kernel
theorem dX7_waits_64 : decode cX7_waits 64 = .ok (.iconst 1, 1) := by decide +kernel
theorem dX7_waits_65 : decode cX7_waits 65 = .ok (.iconst 1, 1) := by decide +kernel
theorem dX7_waits_66 : decode cX7_waits 66 = .ok (.iload_n 2, 1) := by decide +kernel
theorem dX7_waits_67 : decode cX7_waits 67 = .ok (.iconst 2, 1) := by decide +kernel
theorem dX7_waits_68 : decode cX7_waits 68 = .ok (.isub, 1) := by decide +kernel
theorem dX7_waits_69 : decode cX7_waits 69 = .ok (.invokestatic 41, 3) := by decide +kernel
theorem dX7_waits_72 : decode cX7_waits 72 = .ok (.iconst 2, 1) := by decide +kernel
theorem dX7_waits_73 : decode cX7_waits 73 = .ok (.idiv, 1) := by decide +kernel
theorem dX7_waits_74 : decode cX7_waits 74 = .ok (.invokestatic 41, 3) := by decide +kernel
theorem dX7_waits_77 : decode cX7_waits 77 = .ok (.ireturn, 1) := by decide +kernel
theorem dX7_waits_78 : decode cX7_waits 78 = .ok (.iload_n 2, 1) := by decide +kernel
theorem dX7_waits_79 : decode cX7_waits 79 = .ok (.iconst 3, 1) := by decide +kernel
theorem dX7_waits_80 : decode cX7_waits 80 = .ok (.iadd, 1) := by decide +kernel
theorem dX7_waits_81 : decode cX7_waits 81 = .ok (.ireturn, 1) := by decide +kernel
theorem dX7_waits_82 : decode cX7_waits 82 = .ok (.iconst 2, 1) := by decide +kernel
theorem dX7_waits_83 : decode cX7_waits 83 = .ok (.iload_n 2, 1) := by decide +kernel
theorem dX7_waits_84 : decode cX7_waits 84 = .ok (.iconst 3, 1) := by decide +kernel
theorem dX7_waits_85 : decode cX7_waits 85 = .ok (.iadd, 1) := by decide +kernel
theorem dX7_waits_86 : decode cX7_waits 86 = .ok (.imul, 1) := by decide +kernel
theorem dX7_waits_87 : decode cX7_waits 87 = .ok (.ireturn, 1) := by decide +kernel
theorem dX7_waits_88 : decode cX7_waits 88 = .ok (.iload_n 2, 1) := by decide +kernel
theorem dX7_waits_89 : decode cX7_waits 89 = .ok (.ireturn, 1) := by decide +kernel
def f_X7_waits_21 (fu : Nat)  (i0 : Nat) (y0 : Int32) (y1 : Int32) (m : Mem) : Option (Int32 × Mem) := seqM (y0 + y1) (fun x_1 : Int32 => seqM (m (vf i0 0)) (fun x_3 : Int32 => if x_3 = 1 then (some ((if 1 < (x_1 - 2) then (x_1 - 2) else 1), m)) else (if x_3 = 2 then (some ((x_1 + 3), m)) else (if x_3 = 3 then (some ((if 1 < ((if 1 < (x_1 - 2) then (x_1 - 2) else 1) / 2) then ((if 1 < (x_1 - 2) then (x_1 - 2) else 1) / 2) else 1), m)) else (if x_3 = 4 then (some ((2 * (x_1 + 3)), m)) else (some (x_1, m)))))))
set_option maxHeartbeats 4000000 in
set_option maxRecDepth 100000 in
theorem w_X7_waits_21 {X : TX} {p : Program} {l : Launch} {e : Env} {s : State} {mi : MethodId} {args : Array Value} {below : List Frame} {meth : Method} {c : Code} {Q : State → Prop} {r : Int32} {mE : Mem} (C : Cx X p s mi args c RX7 cX7_waits 3) (hq : RetI X p l e (rmD 1) s mi args below meth c cX7_waits .int Q r mE) {fu : Nat} {i0 : Nat} {y0 : Int32} {y1 : Int32} {m : Mem} {H : Heap} {locs : List Loc} {ls : Array Slot} (h : f_X7_waits_21 fu i0 y0 y1 m = some (r, mE)) (g_i0 : (11, i0) ∈ ids) (hW : Wd X s m H locs) (hl : lv_has ls 3 [(0, .ref (ad X 11 i0))]) : W p l e (rmD 1) s mi args below meth c H locs 0 0 Q (F0 mi 21 ls [.int y1, .int y0]) := by
  unfold f_X7_waits_21 at h
  refine lv_iadd C.1 C.2.1 dX7_waits_21 ?_
  obtain ⟨x_1, e_2, h⟩ := seqM_E h
  refine lv_name e_2 ?_
  refine lv_istore_n (lv' := [(2, .int x_1), (0, .ref (ad X 11 i0))]) C.1 C.2.1 dX7_waits_22 rfl hl (by decide) rfl (fun ls hl => ?_)
  refine lv_aload_n C.1 C.2.1 dX7_waits_23 rfl (lv_at hl 1 rfl) ?_
  refine zg_X7_kind C hW g_i0 w_189 dX7_waits_24 ?_
  obtain ⟨x_3, e_4, h⟩ := seqM_E h
  refine lv_name e_4 ?_
  by_cases hc_5 : x_3 = 1
  · have h := ite_t hc_5 h
    refine lv_tableIn (tgt := 56) C.1 C.2.1 dX7_waits_27 (by rw [hc_5]; decide) (by rw [hc_5]; decide) (by rw [hc_5]; rfl) (by decide) ?_
    refine lv_iconst (v := 1) C.1 C.2.1 dX7_waits_56 rfl ?_
    refine lv_iload_n C.1 C.2.1 dX7_waits_57 rfl (lv_at hl 0 rfl) ?_
    refine lv_iconst (v := 2) C.1 C.2.1 dX7_waits_58 rfl ?_
    refine lv_isub C.1 C.2.1 dX7_waits_59 ?_
    refine va_mmax C.1 C.2.1 (C.2.2.1.trans hl.1.symm) C.2.2.2.1 (C.2.2.2.2.1 _ w_430) (C.2.2.2.2.1 _ w_431) (C.2.2.2.2.1 _ w_71) (C.2.2.2.2.1 _ w_432) (Nat.le_of_ble_eq_true rfl) (Nat.le_of_ble_eq_true rfl) (Nat.le_refl 0) (Nat.le_refl 0) dX7_waits_60 ?_
    exact ret_i h hq rfl hW dX7_waits_63
  · have h := ite_f hc_5 h
    by_cases hc_6 : x_3 = 2
    · have h := ite_t hc_6 h
      refine lv_tableIn (tgt := 78) C.1 C.2.1 dX7_waits_27 (by rw [hc_6]; decide) (by rw [hc_6]; decide) (by rw [hc_6]; rfl) (by decide) ?_
      refine lv_iload_n C.1 C.2.1 dX7_waits_78 rfl (lv_at hl 0 rfl) ?_
      refine lv_iconst (v := 3) C.1 C.2.1 dX7_waits_79 rfl ?_
      refine lv_iadd C.1 C.2.1 dX7_waits_80 ?_
      exact ret_i h hq rfl hW dX7_waits_81
    · have h := ite_f hc_6 h
      by_cases hc_7 : x_3 = 3
      · have h := ite_t hc_7 h
        refine lv_tableIn (tgt := 64) C.1 C.2.1 dX7_waits_27 (by rw [hc_7]; decide) (by rw [hc_7]; decide) (by rw [hc_7]; rfl) (by decide) ?_
        refine lv_iconst (v := 1) C.1 C.2.1 dX7_waits_64 rfl ?_
        refine lv_iconst (v := 1) C.1 C.2.1 dX7_waits_65 rfl ?_
        refine lv_iload_n C.1 C.2.1 dX7_waits_66 rfl (lv_at hl 0 rfl) ?_
        refine lv_iconst (v := 2) C.1 C.2.1 dX7_waits_67 rfl ?_
        refine lv_isub C.1 C.2.1 dX7_waits_68 ?_
        refine va_mmax C.1 C.2.1 (C.2.2.1.trans hl.1.symm) C.2.2.2.1 (C.2.2.2.2.1 _ w_430) (C.2.2.2.2.1 _ w_431) (C.2.2.2.2.1 _ w_71) (C.2.2.2.2.1 _ w_432) (Nat.le_of_ble_eq_true rfl) (Nat.le_of_ble_eq_true rfl) (Nat.le_refl 0) (Nat.le_refl 0) dX7_waits_69 ?_
        refine lv_iconst (v := 2) C.1 C.2.1 dX7_waits_72 rfl ?_
        refine lv_idiv C.1 C.2.1 dX7_waits_73 (by decide) ?_
        refine va_mmax C.1 C.2.1 (C.2.2.1.trans hl.1.symm) C.2.2.2.1 (C.2.2.2.2.1 _ w_430) (C.2.2.2.2.1 _ w_431) (C.2.2.2.2.1 _ w_71) (C.2.2.2.2.1 _ w_432) (Nat.le_of_ble_eq_true rfl) (Nat.le_of_ble_eq_true rfl) (Nat.le_refl 0) (Nat.le_refl 0) dX7_waits_74 ?_
        exact ret_i h hq rfl hW dX7_waits_77
      · have h := ite_f hc_7 h
        by_cases hc_8 : x_3 = 4
        · have h := ite_t hc_8 h
          refine lv_tableIn (tgt := 82) C.1 C.2.1 dX7_waits_27 (by rw [hc_8]; decide) (by rw [hc_8]; decide) (by rw [hc_8]; rfl) (by decide) ?_
          refine lv_iconst (v := 2) C.1 C.2.1 dX7_waits_82 rfl ?_
          refine lv_iload_n C.1 C.2.1 dX7_waits_83 rfl (lv_at hl 0 rfl) ?_
          refine lv_iconst (v := 3) C.1 C.2.1 dX7_waits_84 rfl ?_
          refine lv_iadd C.1 C.2.1 dX7_waits_85 ?_
          refine lv_imul C.1 C.2.1 dX7_waits_86 ?_
          exact ret_i h hq rfl hW dX7_waits_87
        · have h := ite_f hc_8 h
          have nhc_5 := ne_k (1) rfl hc_5
          have nhc_6 := ne_k (2) rfl hc_6
          have nhc_7 := ne_k (3) rfl hc_7
          have nhc_8 := ne_k (4) rfl hc_8
          refine lv_tableOut (tgt := 88) C.1 C.2.1 dX7_waits_27 (by omega) (by decide) ?_
          refine lv_iload_n C.1 C.2.1 dX7_waits_88 rfl (lv_at hl 0 rfl) ?_
          exact ret_i h hq rfl hW dX7_waits_89
def f_X7_waits (fu : Nat)  (i0 : Nat) (x1 : Int32) (m : Mem) : Option (Int32 × Mem) := if x1 = 0 then (f_X7_waits_21 fu i0 ((m (vf i0 1)) + (m (vf i0 5))) 0 m) else (f_X7_waits_21 fu i0 ((m (vf i0 1)) + (m (vf i0 5))) (m (vf i0 3)) m)
set_option maxHeartbeats 4000000 in
set_option maxRecDepth 100000 in
theorem w_X7_waits {X : TX} {p : Program} {l : Launch} {e : Env} {s : State} {mi : MethodId} {args : Array Value} {below : List Frame} {meth : Method} {c : Code} {Q : State → Prop} {r : Int32} {mE : Mem} (C : Cx X p s mi args c RX7 cX7_waits 3) (hq : RetI X p l e (rmD 1) s mi args below meth c cX7_waits .int Q r mE) {fu : Nat} {i0 : Nat} {x1 : Int32} {m : Mem} {H : Heap} {locs : List Loc} {ls : Array Slot} (h : f_X7_waits fu i0 x1 m = some (r, mE)) (g_i0 : (11, i0) ∈ ids) (hW : Wd X s m H locs) (hl : lv_has ls 3 [(0, .ref (ad X 11 i0)), (1, .int x1)]) : W p l e (rmD 1) s mi args below meth c H locs 0 0 Q (F0 mi 0 ls []) := by
  unfold f_X7_waits at h
  refine lv_aload_n C.1 C.2.1 dX7_waits_0 rfl (lv_at hl 0 rfl) ?_
  refine zg_X7_wait C hW g_i0 w_191 dX7_waits_1 ?_
  refine lv_aload_n C.1 C.2.1 dX7_waits_4 rfl (lv_at hl 0 rfl) ?_
  refine zg_X7_back C hW g_i0 w_204 dX7_waits_5 ?_
  refine lv_iadd C.1 C.2.1 dX7_waits_8 ?_
  refine lv_iload_n C.1 C.2.1 dX7_waits_9 rfl (lv_at hl 1 rfl) ?_
  refine lv_if_eq (tgt := 20) C.1 C.2.1 dX7_waits_10 (by decide) (fun hc_1 => ?_) (fun hc_1 => ?_)
  · have h := ite_t hc_1 h
    refine lv_iconst (v := 0) C.1 C.2.1 dX7_waits_20 rfl ?_
    exact w_X7_waits_21 C hq  h g_i0 hW (lv_sub hl [0] rfl)
  · have h := ite_f hc_1 h
    refine lv_aload_n C.1 C.2.1 dX7_waits_13 rfl (lv_at hl 0 rfl) ?_
    refine zg_X7_pause C hW g_i0 w_197 dX7_waits_14 ?_
    refine lv_goto (tgt := 21) C.1 C.2.1 dX7_waits_17 (by decide) ?_
    exact w_X7_waits_21 C hq  h g_i0 hW (lv_sub hl [0] rfl)
theorem c_X7_waits {X : TX} {l : Launch} {fu : Nat} {i0 : Nat} {x1 : Int32} {m mE : Mem} {r : Int32} (h : f_X7_waits fu i0 x1 m = some (r, mE)) (g_i0 : (11, i0) ∈ ids) : MetI X l yX7_waits cX7_waits 3 .int 1 [.ref (ad X 11 i0), .int x1] m r mE :=
  met_I (by decide) (Nat.le_of_ble_eq_true rfl) (fun p e s mi args below meth c ls Q C hq hW hl => w_X7_waits C hq h g_i0 hW (lv_sub hl [0, 1] rfl))
theorem k_X7_waits : CalV yX7_waits cX7_waits 3 (some .int) RX7 1 := ⟨w_427, w_428, w_66, w_429, by decide +kernel⟩
theorem dX7_isReady_0 : decode cX7_isReady 0 = .ok (.aload_n 0, 1) := by decide +kernel
theorem dX7_isReady_1 : decode cX7_isReady 1 = .ok (.getfield 25, 3) := by decide +kernel
theorem dX7_isReady_4 : decode cX7_isReady 4 = .ok (.iconst 5, 1) := by decide +kernel
theorem dX7_isReady_5 : decode cX7_isReady 5 = .ok (.if_icmp .eq 16, 3) := by decide +kernel
theorem dX7_isReady_8 : decode cX7_isReady 8 = .ok (.iload_n 1, 1) := by decide +kernel
theorem dX7_isReady_9 : decode cX7_isReady 9 = .ok (.aload_n 0, 1) := by decide +kernel
theorem dX7_isReady_10 : decode cX7_isReady 10 = .ok (.iload_n 2, 1) := by decide +kernel
theorem dX7_isReady_11 : decode cX7_isReady 11 = .ok (.invokevirtual 47, 3) := by decide +kernel
theorem dX7_isReady_14 : decode cX7_isReady 14 = .ok (.if_icmp .lt 7, 3) := by decide +kernel
theorem dX7_isReady_17 : decode cX7_isReady 17 = .ok (.iconst 1, 1) := by decide +kernel
theorem dX7_isReady_18 : decode cX7_isReady 18 = .ok (.goto 4, 3) := by decide +kernel
theorem dX7_isReady_21 : decode cX7_isReady 21 = .ok (.iconst 0, 1) := by decide +kernel
theorem dX7_isReady_22 : decode cX7_isReady 22 = .ok (.ireturn, 1) := by decide +kernel
def f_X7_isReady (fu : Nat)  (i0 : Nat) (x1 : Int32) (x2 : Int32) (m : Mem) : Option (Int32 × Mem) := if (m (vf i0 0)) = 5 then (some (0, m)) else (doI (f_X7_waits fu i0 x2 m) (fun r_3 m_2 => if x1 < r_3 then (some (0, m_2)) else (some (1, m_2))))
set_option maxHeartbeats 4000000 in
set_option maxRecDepth 100000 in
theorem w_X7_isReady {X : TX} {p : Program} {l : Launch} {e : Env} {s : State} {mi : MethodId} {args : Array Value} {below : List Frame} {meth : Method} {c : Code} {Q : State → Prop} {r : Int32} {mE : Mem} (C : Cx X p s mi args c RX7 cX7_isReady 3) (hq : RetI X p l e (rmD 2) s mi args below meth c cX7_isReady .boolean Q r mE) {fu : Nat} {i0 : Nat} {x1 : Int32} {x2 : Int32} {m : Mem} {H : Heap} {locs : List Loc} {ls : Array Slot} (h : f_X7_isReady fu i0 x1 x2 m = some (r, mE)) (g_i0 : (11, i0) ∈ ids) (hW : Wd X s m H locs) (hl : lv_has ls 3 [(0, .ref (ad X 11 i0)), (1, .int x1), (2, .int x2)]) : W p l e (rmD 2) s mi args below meth c H locs 0 0 Q (F0 mi 0 ls []) := by
  unfold f_X7_isReady at h
  refine lv_aload_n C.1 C.2.1 dX7_isReady_0 rfl (lv_at hl 0 rfl) ?_
  refine zg_X7_kind C hW g_i0 w_189 dX7_isReady_1 ?_
  refine lv_iconst (v := 5) C.1 C.2.1 dX7_isReady_4 rfl ?_
  refine lv_icmp_eq (tgt := 21) C.1 C.2.1 dX7_isReady_5 (by decide) (fun hc_5 => ?_) (fun hc_5 => ?_)
  · have h := ite_t hc_5 h
    refine lv_iconst (v := 0) C.1 C.2.1 dX7_isReady_21 rfl ?_
    exact ret_i h hq rfl hW dX7_isReady_22
  · have h := ite_f hc_5 h
    refine lv_iload_n C.1 C.2.1 dX7_isReady_8 rfl (lv_at hl 1 rfl) ?_
    refine lv_aload_n C.1 C.2.1 dX7_isReady_9 rfl (lv_at hl 0 rfl) ?_
    refine lv_iload_n C.1 C.2.1 dX7_isReady_10 rfl (lv_at hl 2 rfl) ?_
    obtain ⟨r_3, m_2, hc_1, h⟩ := doI_E h
    refine zr_cVI C hW (c_X7_waits (i0 := i0) (x1 := x2) hc_1 g_i0) k_X7_waits (zr_recv C hW g_i0 zco_11 rfl) w_536 ⟨Nat.le_of_ble_eq_true rfl, Nat.le_of_ble_eq_true rfl⟩ ⟨Nat.le_refl 0, Nat.le_refl 0⟩ rfl hl.1 rfl (Nat.le_of_ble_eq_true rfl) dX7_isReady_11 (fun H locs hW => ?_)
    refine lv_icmp_lt (tgt := 21) C.1 C.2.1 dX7_isReady_14 (by decide) (fun hc_4 => ?_) (fun hc_4 => ?_)
    · have h := ite_t hc_4 h
      refine lv_iconst (v := 0) C.1 C.2.1 dX7_isReady_21 rfl ?_
      exact ret_i h hq rfl hW dX7_isReady_22
    · have h := ite_f hc_4 h
      refine lv_iconst (v := 1) C.1 C.2.1 dX7_isReady_17 rfl ?_
      refine lv_goto (tgt := 22) C.1 C.2.1 dX7_isReady_18 (by decide) ?_
      exact ret_i h hq rfl hW dX7_isReady_22
theorem c_X7_isReady {X : TX} {l : Launch} {fu : Nat} {i0 : Nat} {x1 : Int32} {x2 : Int32} {m mE : Mem} {r : Int32} (h : f_X7_isReady fu i0 x1 x2 m = some (r, mE)) (g_i0 : (11, i0) ∈ ids) : MetI X l yX7_isReady cX7_isReady 3 .boolean 2 [.ref (ad X 11 i0), .int x1, .int x2] m r mE :=
  met_I (by decide) (Nat.le_of_ble_eq_true rfl) (fun p e s mi args below meth c ls Q C hq hW hl => w_X7_isReady C hq h g_i0 hW (lv_sub hl [0, 1, 2] rfl))
theorem k_X7_isReady : CalV yX7_isReady cX7_isReady 3 (some .boolean) RX7 2 := ⟨w_533, w_534, w_66, w_535, by decide +kernel⟩
theorem dX7_talks_0 : decode cX7_talks 0 = .ok (.aload_n 0, 1) := by decide +kernel
theorem dX7_talks_1 : decode cX7_talks 1 = .ok (.getfield 25, 3) := by decide +kernel
theorem dX7_talks_4 : decode cX7_talks 4 = .ok (.tableswitch 50 2 5 #[39, 32, 39, 48], 32) := by decide +kernel
theorem dX7_talks_36 : decode cX7_talks 36 = .ok (.aload_n 0, 1) := by decide +kernel
theorem dX7_talks_37 : decode cX7_talks 37 = .ok (.getfield 19, 3) := by decide +kernel
theorem dX7_talks_40 : decode cX7_talks 40 = .ok (.iconst 5, 1) := by decide +kernel
theorem dX7_talks_41 : decode cX7_talks 41 = .ok (.iadd, 1) := by decide +kernel
theorem dX7_talks_42 : decode cX7_talks 42 = .ok (.ireturn, 1) := by decide +kernel
theorem dX7_talks_43 : decode cX7_talks 43 = .ok (.aload_n 0, 1) := by decide +kernel
theorem dX7_talks_44 : decode cX7_talks 44 = .ok (.getfield 19, 3) := by decide +kernel
theorem dX7_talks_47 : decode cX7_talks 47 = .ok (.iconst 2, 1) := by decide +kernel
theorem dX7_talks_48 : decode cX7_talks 48 = .ok (.idiv, 1) := by decide +kernel
theorem dX7_talks_49 : decode cX7_talks 49 = .ok (.iconst 1, 1) := by decide +kernel
theorem dX7_talks_50 : decode cX7_talks 50 = .ok (.iadd, 1) := by decide +kernel
theorem dX7_talks_51 : decode cX7_talks 51 = .ok (.ireturn, 1) := by decide +kernel
theorem dX7_talks_52 : decode cX7_talks 52 = .ok (.iconst 1, 1) := by decide +kernel
theorem dX7_talks_53 : decode cX7_talks 53 = .ok (.ireturn, 1) := by decide +kernel
theorem dX7_talks_54 : decode cX7_talks 54 = .ok (.aload_n 0, 1) := by decide +kernel
theorem dX7_talks_55 : decode cX7_talks 55 = .ok (.getfield 19, 3) := by decide +kernel
theorem dX7_talks_58 : decode cX7_talks 58 = .ok (.ireturn, 1) := by decide +kernel
def f_X7_talks_43 (fu : Nat)  (i0 : Nat) (m : Mem) : Option (Int32 × Mem) := some ((((m (vf i0 2)) / 2) + 1), m)
set_option maxHeartbeats 4000000 in
set_option maxRecDepth 100000 in
theorem w_X7_talks_43 {X : TX} {p : Program} {l : Launch} {e : Env} {s : State} {mi : MethodId} {args : Array Value} {below : List Frame} {meth : Method} {c : Code} {Q : State → Prop} {r : Int32} {mE : Mem} (C : Cx X p s mi args c RX7 cX7_talks 1) (hq : RetI X p l e (rmD 0) s mi args below meth c cX7_talks .int Q r mE) {fu : Nat} {i0 : Nat} {m : Mem} {H : Heap} {locs : List Loc} {ls : Array Slot} (h : f_X7_talks_43 fu i0 m = some (r, mE)) (g_i0 : (11, i0) ∈ ids) (hW : Wd X s m H locs) (hl : lv_has ls 1 [(0, .ref (ad X 11 i0))]) : W p l e (rmD 0) s mi args below meth c H locs 0 0 Q (F0 mi 43 ls []) := by
  unfold f_X7_talks_43 at h
  refine lv_aload_n C.1 C.2.1 dX7_talks_43 rfl (lv_at hl 0 rfl) ?_
  refine zg_X7_talk C hW g_i0 w_194 dX7_talks_44 ?_
  refine lv_iconst (v := 2) C.1 C.2.1 dX7_talks_47 rfl ?_
  refine lv_idiv C.1 C.2.1 dX7_talks_48 (by decide) ?_
  refine lv_iconst (v := 1) C.1 C.2.1 dX7_talks_49 rfl ?_
  refine lv_iadd C.1 C.2.1 dX7_talks_50 ?_
  exact ret_i h hq rfl hW dX7_talks_51
def f_X7_talks (fu : Nat)  (i0 : Nat) (m : Mem) : Option (Int32 × Mem) := seqM (m (vf i0 0)) (fun x_1 : Int32 => if x_1 = 2 then (f_X7_talks_43 fu i0 m) else (if x_1 = 3 then (some (((m (vf i0 2)) + 5), m)) else (if x_1 = 4 then (f_X7_talks_43 fu i0 m) else (if x_1 = 5 then (some (1, m)) else (some ((m (vf i0 2)), m))))))
set_option maxHeartbeats 4000000 in
set_option maxRecDepth 100000 in
theorem w_X7_talks {X : TX} {p : Program} {l : Launch} {e : Env} {s : State} {mi : MethodId} {args : Array Value} {below : List Frame} {meth : Method} {c : Code} {Q : State → Prop} {r : Int32} {mE : Mem} (C : Cx X p s mi args c RX7 cX7_talks 1) (hq : RetI X p l e (rmD 0) s mi args below meth c cX7_talks .int Q r mE) {fu : Nat} {i0 : Nat} {m : Mem} {H : Heap} {locs : List Loc} {ls : Array Slot} (h : f_X7_talks fu i0 m = some (r, mE)) (g_i0 : (11, i0) ∈ ids) (hW : Wd X s m H locs) (hl : lv_has ls 1 [(0, .ref (ad X 11 i0))]) : W p l e (rmD 0) s mi args below meth c H locs 0 0 Q (F0 mi 0 ls []) := by
  unfold f_X7_talks at h
  refine lv_aload_n C.1 C.2.1 dX7_talks_0 rfl (lv_at hl 0 rfl) ?_
  refine zg_X7_kind C hW g_i0 w_189 dX7_talks_1 ?_
  obtain ⟨x_1, e_2, h⟩ := seqM_E h
  refine lv_name e_2 ?_
  by_cases hc_3 : x_1 = 2
  · have h := ite_t hc_3 h
    refine lv_tableIn (tgt := 43) C.1 C.2.1 dX7_talks_4 (by rw [hc_3]; decide) (by rw [hc_3]; decide) (by rw [hc_3]; rfl) (by decide) ?_
    exact w_X7_talks_43 C hq  h g_i0 hW (lv_sub hl [0] rfl)
  · have h := ite_f hc_3 h
    by_cases hc_4 : x_1 = 3
    · have h := ite_t hc_4 h
      refine lv_tableIn (tgt := 36) C.1 C.2.1 dX7_talks_4 (by rw [hc_4]; decide) (by rw [hc_4]; decide) (by rw [hc_4]; rfl) (by decide) ?_
      refine lv_aload_n C.1 C.2.1 dX7_talks_36 rfl (lv_at hl 0 rfl) ?_
      refine zg_X7_talk C hW g_i0 w_194 dX7_talks_37 ?_
      refine lv_iconst (v := 5) C.1 C.2.1 dX7_talks_40 rfl ?_
      refine lv_iadd C.1 C.2.1 dX7_talks_41 ?_
      exact ret_i h hq rfl hW dX7_talks_42
    · have h := ite_f hc_4 h
      by_cases hc_5 : x_1 = 4
      · have h := ite_t hc_5 h
        refine lv_tableIn (tgt := 43) C.1 C.2.1 dX7_talks_4 (by rw [hc_5]; decide) (by rw [hc_5]; decide) (by rw [hc_5]; rfl) (by decide) ?_
        exact w_X7_talks_43 C hq  h g_i0 hW (lv_sub hl [0] rfl)
      · have h := ite_f hc_5 h
        by_cases hc_6 : x_1 = 5
        · have h := ite_t hc_6 h
          refine lv_tableIn (tgt := 52) C.1 C.2.1 dX7_talks_4 (by rw [hc_6]; decide) (by rw [hc_6]; decide) (by rw [hc_6]; rfl) (by decide) ?_
          refine lv_iconst (v := 1) C.1 C.2.1 dX7_talks_52 rfl ?_
          exact ret_i h hq rfl hW dX7_talks_53
        · have h := ite_f hc_6 h
          have nhc_3 := ne_k (2) rfl hc_3
          have nhc_4 := ne_k (3) rfl hc_4
          have nhc_5 := ne_k (4) rfl hc_5
          have nhc_6 := ne_k (5) rfl hc_6
          refine lv_tableOut (tgt := 54) C.1 C.2.1 dX7_talks_4 (by omega) (by decide) ?_
          refine lv_aload_n C.1 C.2.1 dX7_talks_54 rfl (lv_at hl 0 rfl) ?_
          refine zg_X7_talk C hW g_i0 w_194 dX7_talks_55 ?_
          exact ret_i h hq rfl hW dX7_talks_58
theorem c_X7_talks {X : TX} {l : Launch} {fu : Nat} {i0 : Nat} {m mE : Mem} {r : Int32} (h : f_X7_talks fu i0 m = some (r, mE)) (g_i0 : (11, i0) ∈ ids) : MetI X l yX7_talks cX7_talks 1 .int 0 [.ref (ad X 11 i0)] m r mE :=
  met_I (by decide) (Nat.le_of_ble_eq_true rfl) (fun p e s mi args below meth c ls Q C hq hW hl => w_X7_talks C hq h g_i0 hW (lv_sub hl [0] rfl))
theorem k_X7_talks : CalV yX7_talks cX7_talks 1 (some .int) RX7 0 := ⟨w_434, w_435, w_66, w_436, by decide +kernel⟩
theorem dX7_yields_0 : decode cX7_yields 0 = .ok (.aload_n 0, 1) := by decide +kernel
theorem dX7_yields_1 : decode cX7_yields 1 = .ok (.getfield 25, 3) := by decide +kernel
theorem dX7_yields_4 : decode cX7_yields 4 = .ok (.iconst 1, 1) := by decide +kernel
theorem dX7_yields_5 : decode cX7_yields 5 = .ok (.if_icmp .eq 15, 3) := by decide +kernel
theorem dX7_yields_8 : decode cX7_yields 8 = .ok (.aload_n 0, 1) := by decide +kernel
theorem dX7_yields_9 : decode cX7_yields 9 = .ok (.getfield 25, 3) := by decide +kernel
theorem dX7_yields_12 : decode cX7_yields 12 = .ok (.iconst 3, 1) := by decide +kernel
theorem dX7_yields_13 : decode cX7_yields 13 = .ok (.if_icmp .eq 7, 3) := by decide +kernel
theorem dX7_yields_16 : decode cX7_yields 16 = .ok (.iconst 1, 1) := by decide +kernel
theorem dX7_yields_17 : decode cX7_yields 17 = .ok (.goto 4, 3) := by decide +kernel
theorem dX7_yields_20 : decode cX7_yields 20 = .ok (.iconst 0, 1) := by decide +kernel
theorem dX7_yields_21 : decode cX7_yields 21 = .ok (.ireturn, 1) := by decide +kernel
def f_X7_yields (fu : Nat)  (i0 : Nat) (m : Mem) : Option (Int32 × Mem) := if (m (vf i0 0)) = 1 then (some (0, m)) else (if (m (vf i0 0)) = 3 then (some (0, m)) else (some (1, m)))
set_option maxHeartbeats 4000000 in
set_option maxRecDepth 100000 in
theorem w_X7_yields {X : TX} {p : Program} {l : Launch} {e : Env} {s : State} {mi : MethodId} {args : Array Value} {below : List Frame} {meth : Method} {c : Code} {Q : State → Prop} {r : Int32} {mE : Mem} (C : Cx X p s mi args c RX7 cX7_yields 1) (hq : RetI X p l e (rmD 0) s mi args below meth c cX7_yields .boolean Q r mE) {fu : Nat} {i0 : Nat} {m : Mem} {H : Heap} {locs : List Loc} {ls : Array Slot} (h : f_X7_yields fu i0 m = some (r, mE)) (g_i0 : (11, i0) ∈ ids) (hW : Wd X s m H locs) (hl : lv_has ls 1 [(0, .ref (ad X 11 i0))]) : W p l e (rmD 0) s mi args below meth c H locs 0 0 Q (F0 mi 0 ls []) := by
  unfold f_X7_yields at h
  refine lv_aload_n C.1 C.2.1 dX7_yields_0 rfl (lv_at hl 0 rfl) ?_
  refine zg_X7_kind C hW g_i0 w_189 dX7_yields_1 ?_
  refine lv_iconst (v := 1) C.1 C.2.1 dX7_yields_4 rfl ?_
  refine lv_icmp_eq (tgt := 20) C.1 C.2.1 dX7_yields_5 (by decide) (fun hc_2 => ?_) (fun hc_2 => ?_)
  · have h := ite_t hc_2 h
    refine lv_iconst (v := 0) C.1 C.2.1 dX7_yields_20 rfl ?_
    exact ret_i h hq rfl hW dX7_yields_21
  · have h := ite_f hc_2 h
    refine lv_aload_n C.1 C.2.1 dX7_yields_8 rfl (lv_at hl 0 rfl) ?_
    refine zg_X7_kind C hW g_i0 w_189 dX7_yields_9 ?_
    refine lv_iconst (v := 3) C.1 C.2.1 dX7_yields_12 rfl ?_
    refine lv_icmp_eq (tgt := 20) C.1 C.2.1 dX7_yields_13 (by decide) (fun hc_1 => ?_) (fun hc_1 => ?_)
    · have h := ite_t hc_1 h
      refine lv_iconst (v := 0) C.1 C.2.1 dX7_yields_20 rfl ?_
      exact ret_i h hq rfl hW dX7_yields_21
    · have h := ite_f hc_1 h
      refine lv_iconst (v := 1) C.1 C.2.1 dX7_yields_16 rfl ?_
      refine lv_goto (tgt := 21) C.1 C.2.1 dX7_yields_17 (by decide) ?_
      exact ret_i h hq rfl hW dX7_yields_21
theorem c_X7_yields {X : TX} {l : Launch} {fu : Nat} {i0 : Nat} {m mE : Mem} {r : Int32} (h : f_X7_yields fu i0 m = some (r, mE)) (g_i0 : (11, i0) ∈ ids) : MetI X l yX7_yields cX7_yields 1 .boolean 0 [.ref (ad X 11 i0)] m r mE :=
  met_I (by decide) (Nat.le_of_ble_eq_true rfl) (fun p e s mi args below meth c ls Q C hq hW hl => w_X7_yields C hq h g_i0 hW (lv_sub hl [0] rfl))
theorem k_X7_yields : CalV yX7_yields cX7_yields 1 (some .boolean) RX7 0 := ⟨w_438, w_439, w_66, w_440, by decide +kernel⟩
theorem dX7_worth_0 : decode cX7_worth 0 = .ok (.aload_n 0, 1) := by decide +kernel
theorem dX7_worth_1 : decode cX7_worth 1 = .ok (.getfield 25, 3) := by decide +kernel
theorem dX7_worth_4 : decode cX7_worth 4 = .ok (.tableswitch 75 1 5 #[36, 54, 44, 62, 73], 36) := by decide +kernel
theorem dX7_worth_40 : decode cX7_worth 40 = .ok (.aload_n 0, 1) := by decide +kernel
theorem dX7_worth_41 : decode cX7_worth 41 = .ok (.getfield 19, 3) := by decide +kernel
theorem dX7_worth_44 : decode cX7_worth 44 = .ok (.bipush 9, 2) := by decide +kernel
theorem dX7_worth_46 : decode cX7_worth 46 = .ok (.iadd, 1) := by decide +kernel
theorem dX7_worth_47 : decode cX7_worth 47 = .ok (.ireturn, 1) := by decide +kernel
theorem dX7_worth_48 : decode cX7_worth 48 = .ok (.iconst 2, 1) := by decide +kernel
theorem dX7_worth_49 : decode cX7_worth 49 = .ok (.aload_n 0, 1) := by decide +kernel
theorem dX7_worth_50 : decode cX7_worth 50 = .ok (.getfield 19, 3) := by decide +kernel
theorem dX7_worth_53 : decode cX7_worth 53 = .ok (.bipush 9, 2) := by decide +kernel
theorem dX7_worth_55 : decode cX7_worth 55 = .ok (.iadd, 1) := by decide +kernel
theorem dX7_worth_56 : decode cX7_worth 56 = .ok (.imul, 1) := by decide +kernel
theorem dX7_worth_57 : decode cX7_worth 57 = .ok (.ireturn, 1) := by decide +kernel
theorem dX7_worth_58 : decode cX7_worth 58 = .ok (.bipush 99, 2) := by decide +kernel
theorem dX7_worth_60 : decode cX7_worth 60 = .ok (.aload_n 0, 1) := by decide +kernel
theorem dX7_worth_61 : decode cX7_worth 61 = .ok (.getfield 19, 3) := by decide +kernel
theorem dX7_worth_64 : decode cX7_worth 64 = .ok (.isub, 1) := by decide +kernel
theorem dX7_worth_65 : decode cX7_worth 65 = .ok (.ireturn, 1) := by decide +kernel
theorem dX7_worth_66 : decode cX7_worth 66 = .ok (.bipush 99, 2) := by decide +kernel
theorem dX7_worth_68 : decode cX7_worth 68 = .ok (.aload_n 0, 1) := by decide +kernel
theorem dX7_worth_69 : decode cX7_worth 69 = .ok (.getfield 19, 3) := by decide +kernel
theorem dX7_worth_72 : decode cX7_worth 72 = .ok (.isub, 1) := by decide +kernel
theorem dX7_worth_73 : decode cX7_worth 73 = .ok (.bipush 7, 2) := by decide +kernel
theorem dX7_worth_75 : decode cX7_worth 75 = .ok (.isub, 1) := by decide +kernel
theorem dX7_worth_76 : decode cX7_worth 76 = .ok (.ireturn, 1) := by decide +kernel
theorem dX7_worth_77 : decode cX7_worth 77 = .ok (.iconst 3, 1) := by decide +kernel
theorem dX7_worth_78 : decode cX7_worth 78 = .ok (.ireturn, 1) := by decide +kernel
theorem dX7_worth_79 : decode cX7_worth 79 = .ok (.aload_n 0, 1) := by decide +kernel
theorem dX7_worth_80 : decode cX7_worth 80 = .ok (.getfield 19, 3) := by decide +kernel
theorem dX7_worth_83 : decode cX7_worth 83 = .ok (.ireturn, 1) := by decide +kernel
def f_X7_worth (fu : Nat)  (i0 : Nat) (m : Mem) : Option (Int32 × Mem) := seqM (m (vf i0 0)) (fun x_1 : Int32 => if x_1 = 1 then (some (((m (vf i0 2)) + 9), m)) else (if x_1 = 2 then (some ((99 - (m (vf i0 2))), m)) else (if x_1 = 3 then (some ((2 * ((m (vf i0 2)) + 9)), m)) else (if x_1 = 4 then (some (((99 - (m (vf i0 2))) - 7), m)) else (if x_1 = 5 then (some (3, m)) else (some ((m (vf i0 2)), m)))))))
set_option maxHeartbeats 4000000 in
set_option maxRecDepth 100000 in
theorem w_X7_worth {X : TX} {p : Program} {l : Launch} {e : Env} {s : State} {mi : MethodId} {args : Array Value} {below : List Frame} {meth : Method} {c : Code} {Q : State → Prop} {r : Int32} {mE : Mem} (C : Cx X p s mi args c RX7 cX7_worth 1) (hq : RetI X p l e (rmD 0) s mi args below meth c cX7_worth .int Q r mE) {fu : Nat} {i0 : Nat} {m : Mem} {H : Heap} {locs : List Loc} {ls : Array Slot} (h : f_X7_worth fu i0 m = some (r, mE)) (g_i0 : (11, i0) ∈ ids) (hW : Wd X s m H locs) (hl : lv_has ls 1 [(0, .ref (ad X 11 i0))]) : W p l e (rmD 0) s mi args below meth c H locs 0 0 Q (F0 mi 0 ls []) := by
  unfold f_X7_worth at h
  refine lv_aload_n C.1 C.2.1 dX7_worth_0 rfl (lv_at hl 0 rfl) ?_
  refine zg_X7_kind C hW g_i0 w_189 dX7_worth_1 ?_
  obtain ⟨x_1, e_2, h⟩ := seqM_E h
  refine lv_name e_2 ?_
  by_cases hc_3 : x_1 = 1
  · have h := ite_t hc_3 h
    refine lv_tableIn (tgt := 40) C.1 C.2.1 dX7_worth_4 (by rw [hc_3]; decide) (by rw [hc_3]; decide) (by rw [hc_3]; rfl) (by decide) ?_
    refine lv_aload_n C.1 C.2.1 dX7_worth_40 rfl (lv_at hl 0 rfl) ?_
    refine zg_X7_talk C hW g_i0 w_194 dX7_worth_41 ?_
    refine lv_bipush (v := 9) C.1 C.2.1 dX7_worth_44 rfl ?_
    refine lv_iadd C.1 C.2.1 dX7_worth_46 ?_
    exact ret_i h hq rfl hW dX7_worth_47
  · have h := ite_f hc_3 h
    by_cases hc_4 : x_1 = 2
    · have h := ite_t hc_4 h
      refine lv_tableIn (tgt := 58) C.1 C.2.1 dX7_worth_4 (by rw [hc_4]; decide) (by rw [hc_4]; decide) (by rw [hc_4]; rfl) (by decide) ?_
      refine lv_bipush (v := 99) C.1 C.2.1 dX7_worth_58 rfl ?_
      refine lv_aload_n C.1 C.2.1 dX7_worth_60 rfl (lv_at hl 0 rfl) ?_
      refine zg_X7_talk C hW g_i0 w_194 dX7_worth_61 ?_
      refine lv_isub C.1 C.2.1 dX7_worth_64 ?_
      exact ret_i h hq rfl hW dX7_worth_65
    · have h := ite_f hc_4 h
      by_cases hc_5 : x_1 = 3
      · have h := ite_t hc_5 h
        refine lv_tableIn (tgt := 48) C.1 C.2.1 dX7_worth_4 (by rw [hc_5]; decide) (by rw [hc_5]; decide) (by rw [hc_5]; rfl) (by decide) ?_
        refine lv_iconst (v := 2) C.1 C.2.1 dX7_worth_48 rfl ?_
        refine lv_aload_n C.1 C.2.1 dX7_worth_49 rfl (lv_at hl 0 rfl) ?_
        refine zg_X7_talk C hW g_i0 w_194 dX7_worth_50 ?_
        refine lv_bipush (v := 9) C.1 C.2.1 dX7_worth_53 rfl ?_
        refine lv_iadd C.1 C.2.1 dX7_worth_55 ?_
        refine lv_imul C.1 C.2.1 dX7_worth_56 ?_
        exact ret_i h hq rfl hW dX7_worth_57
      · have h := ite_f hc_5 h
        by_cases hc_6 : x_1 = 4
        · have h := ite_t hc_6 h
          refine lv_tableIn (tgt := 66) C.1 C.2.1 dX7_worth_4 (by rw [hc_6]; decide) (by rw [hc_6]; decide) (by rw [hc_6]; rfl) (by decide) ?_
          refine lv_bipush (v := 99) C.1 C.2.1 dX7_worth_66 rfl ?_
          refine lv_aload_n C.1 C.2.1 dX7_worth_68 rfl (lv_at hl 0 rfl) ?_
          refine zg_X7_talk C hW g_i0 w_194 dX7_worth_69 ?_
          refine lv_isub C.1 C.2.1 dX7_worth_72 ?_
          refine lv_bipush (v := 7) C.1 C.2.1 dX7_worth_73 rfl ?_
          refine lv_isub C.1 C.2.1 dX7_worth_75 ?_
          exact ret_i h hq rfl hW dX7_worth_76
        · have h := ite_f hc_6 h
          by_cases hc_7 : x_1 = 5
          · have h := ite_t hc_7 h
            refine lv_tableIn (tgt := 77) C.1 C.2.1 dX7_worth_4 (by rw [hc_7]; decide) (by rw [hc_7]; decide) (by rw [hc_7]; rfl) (by decide) ?_
            refine lv_iconst (v := 3) C.1 C.2.1 dX7_worth_77 rfl ?_
            exact ret_i h hq rfl hW dX7_worth_78
          · have h := ite_f hc_7 h
            have nhc_3 := ne_k (1) rfl hc_3
            have nhc_4 := ne_k (2) rfl hc_4
            have nhc_5 := ne_k (3) rfl hc_5
            have nhc_6 := ne_k (4) rfl hc_6
            have nhc_7 := ne_k (5) rfl hc_7
            refine lv_tableOut (tgt := 79) C.1 C.2.1 dX7_worth_4 (by omega) (by decide) ?_
            refine lv_aload_n C.1 C.2.1 dX7_worth_79 rfl (lv_at hl 0 rfl) ?_
            refine zg_X7_talk C hW g_i0 w_194 dX7_worth_80 ?_
            exact ret_i h hq rfl hW dX7_worth_83
theorem c_X7_worth {X : TX} {l : Launch} {fu : Nat} {i0 : Nat} {m mE : Mem} {r : Int32} (h : f_X7_worth fu i0 m = some (r, mE)) (g_i0 : (11, i0) ∈ ids) : MetI X l yX7_worth cX7_worth 1 .int 0 [.ref (ad X 11 i0)] m r mE :=
  met_I (by decide) (Nat.le_of_ble_eq_true rfl) (fun p e s mi args below meth c ls Q C hq hW hl => w_X7_worth C hq h g_i0 hW (lv_sub hl [0] rfl))
theorem k_X7_worth : CalV yX7_worth cX7_worth 1 (some .int) RX7 0 := ⟨w_442, w_443, w_66, w_444, by decide +kernel⟩
