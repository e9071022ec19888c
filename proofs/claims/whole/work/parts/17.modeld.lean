theorem dX9_isLetter_0 : decode cX9_isLetter 0 = .ok (.iload_n 1, 1) := by decide +kernel
theorem dX9_isLetter_1 : decode cX9_isLetter 1 = .ok (.aload_n 0, 1) := by decide +kernel
theorem dX9_isLetter_2 : decode cX9_isLetter 2 = .ok (.getfield 192, 3) := by decide +kernel
theorem dX9_isLetter_5 : decode cX9_isLetter 5 = .ok (.if_icmp .ge 29, 3) := by decide +kernel
theorem dX9_isLetter_8 : decode cX9_isLetter 8 = .ok (.aload_n 0, 1) := by decide +kernel
theorem dX9_isLetter_9 : decode cX9_isLetter 9 = .ok (.getfield 26, 3) := by decide +kernel
theorem dX9_isLetter_12 : decode cX9_isLetter 12 = .ok (.iload_n 1, 1) := by decide +kernel
theorem dX9_isLetter_13 : decode cX9_isLetter 13 = .ok (.iaload, 1) := by decide +kernel
theorem dX9_isLetter_14 : decode cX9_isLetter 14 = .ok (.bipush 97, 2) := by decide +kernel
theorem dX9_isLetter_16 : decode cX9_isLetter 16 = .ok (.if_icmp .lt 18, 3) := by decide +kernel
theorem dX9_isLetter_19 : decode cX9_isLetter 19 = .ok (.aload_n 0, 1) := by decide +kernel
theorem dX9_isLetter_20 : decode cX9_isLetter 20 = .ok (.getfield 26, 3) := by decide +kernel
theorem dX9_isLetter_23 : decode cX9_isLetter 23 = .ok (.iload_n 1, 1) := by decide +kernel
theorem dX9_isLetter_24 : decode cX9_isLetter 24 = .ok (.iaload, 1) := by decide +kernel
theorem dX9_isLetter_25 : decode cX9_isLetter 25 = .ok (.bipush 122, 2) := by decide +kernel
theorem dX9_isLetter_27 : decode cX9_isLetter 27 = .ok (.if_icmp .gt 7, 3) := by decide +kernel
theorem dX9_isLetter_30 : decode cX9_isLetter 30 = .ok (.iconst 1, 1) := by decide +kernel
theorem dX9_isLetter_31 : decode cX9_isLetter 31 = .ok (.goto 4, 3) := by decide +kernel
theorem dX9_isLetter_34 : decode cX9_isLetter 34 = .ok (.iconst 0, 1) := by decide +kernel
theorem dX9_isLetter_35 : decode cX9_isLetter 35 = .ok (.ireturn, 1) := by decide +kernel
def f_X9_isLetter (fu : Nat)  (x1 : Int32) (m : Mem) : Option (Int32 × Mem) := if (m 3002) ≤ x1 then (some (0, m)) else (chk (inb x1 96) (if (m (3200 + x1.toNatClampNeg)) < 97 then (some (0, m)) else (chk (inb x1 96) (if 122 < (m (3200 + x1.toNatClampNeg)) then (some (0, m)) else (some (1, m))))))
set_option maxHeartbeats 4000000 in
set_option maxRecDepth 100000 in
theorem w_X9_isLetter {X : TX} {p : Program} {l : Launch} {e : Env} {s : State} {mi : MethodId} {args : Array Value} {below : List Frame} {meth : Method} {c : Code} {Q : State → Prop} {r : Int32} {mE : Mem} (C : Cx X p s mi args c RX9 cX9_isLetter 2) (hq : RetI X p l e (rmD 0) s mi args below meth c cX9_isLetter .boolean Q r mE) {fu : Nat} {x1 : Int32} {m : Mem} {H : Heap} {locs : List Loc} {ls : Array Slot} (h : f_X9_isLetter fu x1 m = some (r, mE))  (hW : Wd X s m H locs) (hl : lv_has ls 2 [(0, .ref (ad X 20 0)), (1, .int x1)]) : W p l e (rmD 0) s mi args below meth c H locs 0 0 Q (F0 mi 0 ls []) := by
  unfold f_X9_isLetter at h
  refine lv_iload_n C.1 C.2.1 dX9_isLetter_0 rfl (lv_at hl 1 rfl) ?_
  refine lv_aload_n C.1 C.2.1 dX9_isLetter_1 rfl (lv_at hl 0 rfl) ?_
  refine zg_X9_taped C hW id_20 w_1012 dX9_isLetter_2 ?_
  refine lv_icmp_ge (tgt := 34) C.1 C.2.1 dX9_isLetter_5 (by decide) (fun hc_5 => ?_) (fun hc_5 => ?_)
  · have h := ite_t hc_5 h
    refine lv_iconst (v := 0) C.1 C.2.1 dX9_isLetter_34 rfl ?_
    exact ret_i h hq rfl hW dX9_isLetter_35
  · have h := ite_f hc_5 h
    refine lv_aload_n C.1 C.2.1 dX9_isLetter_8 rfl (lv_at hl 0 rfl) ?_
    refine zg_X9_tape C hW id_20 w_1011 dX9_isLetter_9 ?_
    refine lv_iload_n C.1 C.2.1 dX9_isLetter_12 rfl (lv_at hl 1 rfl) ?_
    obtain ⟨hb_1, h⟩ := chk_E h
    refine zal_24 C hW id_24 (inb_E hb_1) dX9_isLetter_13 ?_
    refine lv_bipush (v := 97) C.1 C.2.1 dX9_isLetter_14 rfl ?_
    refine lv_icmp_lt (tgt := 34) C.1 C.2.1 dX9_isLetter_16 (by decide) (fun hc_4 => ?_) (fun hc_4 => ?_)
    · have h := ite_t hc_4 h
      refine lv_iconst (v := 0) C.1 C.2.1 dX9_isLetter_34 rfl ?_
      exact ret_i h hq rfl hW dX9_isLetter_35
    · have h := ite_f hc_4 h
      refine lv_aload_n C.1 C.2.1 dX9_isLetter_19 rfl (lv_at hl 0 rfl) ?_
      refine zg_X9_tape C hW id_20 w_1011 dX9_isLetter_20 ?_
      refine lv_iload_n C.1 C.2.1 dX9_isLetter_23 rfl (lv_at hl 1 rfl) ?_
      obtain ⟨hb_2, h⟩ := chk_E h
      refine zal_24 C hW id_24 (inb_E hb_2) dX9_isLetter_24 ?_
      refine lv_bipush (v := 122) C.1 C.2.1 dX9_isLetter_25 rfl ?_
      refine lv_icmp_gt (tgt := 34) C.1 C.2.1 dX9_isLetter_27 (by decide) (fun hc_3 => ?_) (fun hc_3 => ?_)
      · have h := ite_t hc_3 h
        refine lv_iconst (v := 0) C.1 C.2.1 dX9_isLetter_34 rfl ?_
        exact ret_i h hq rfl hW dX9_isLetter_35
      · have h := ite_f hc_3 h
        refine lv_iconst (v := 1) C.1 C.2.1 dX9_isLetter_30 rfl ?_
        refine lv_goto (tgt := 35) C.1 C.2.1 dX9_isLetter_31 (by decide) ?_
        exact ret_i h hq rfl hW dX9_isLetter_35
theorem c_X9_isLetter {X : TX} {l : Launch} {fu : Nat} {x1 : Int32} {m mE : Mem} {r : Int32} (h : f_X9_isLetter fu x1 m = some (r, mE))  : MetI X l yX9_isLetter cX9_isLetter 2 .boolean 0 [.ref (ad X 20 0), .int x1] m r mE :=
  met_I (by decide) (Nat.le_of_ble_eq_true rfl) (fun p e s mi args below meth c ls Q C hq hW hl => w_X9_isLetter C hq h  hW (lv_sub hl [0, 1] rfl))
theorem k_X9_isLetter : CalV yX9_isLetter cX9_isLetter 2 (some .boolean) RX9 1 := ⟨w_1350, w_51, w_70, w_1351, by decide +kernel⟩
theorem dX9_isFigure_0 : decode cX9_isFigure 0 = .ok (.iload_n 1, 1) := by decide +kernel
theorem dX9_isFigure_1 : decode cX9_isFigure 1 = .ok (.aload_n 0, 1) := by decide +kernel
theorem dX9_isFigure_2 : decode cX9_isFigure 2 = .ok (.getfield 192, 3) := by decide +kernel
theorem dX9_isFigure_5 : decode cX9_isFigure 5 = .ok (.if_icmp .ge 29, 3) := by decide +kernel
theorem dX9_isFigure_8 : decode cX9_isFigure 8 = .ok (.aload_n 0, 1) := by decide +kernel
theorem dX9_isFigure_9 : decode cX9_isFigure 9 = .ok (.getfield 26, 3) := by decide +kernel
theorem dX9_isFigure_12 : decode cX9_isFigure 12 = .ok (.iload_n 1, 1) := by decide +kernel
theorem dX9_isFigure_13 : decode cX9_isFigure 13 = .ok (.iaload, 1) := by decide +kernel
theorem dX9_isFigure_14 : decode cX9_isFigure 14 = .ok (.bipush 48, 2) := by decide +kernel
theorem dX9_isFigure_16 : decode cX9_isFigure 16 = .ok (.if_icmp .lt 18, 3) := by decide +kernel
theorem dX9_isFigure_19 : decode cX9_isFigure 19 = .ok (.aload_n 0, 1) := by decide +kernel
theorem dX9_isFigure_20 : decode cX9_isFigure 20 = .ok (.getfield 26, 3) := by decide +kernel
theorem dX9_isFigure_23 : decode cX9_isFigure 23 = .ok (.iload_n 1, 1) := by decide +kernel
theorem dX9_isFigure_24 : decode cX9_isFigure 24 = .ok (.iaload, 1) := by decide +kernel
theorem dX9_isFigure_25 : decode cX9_isFigure 25 = .ok (.bipush 57, 2) := by decide +kernel
theorem dX9_isFigure_27 : decode cX9_isFigure 27 = .ok (.if_icmp .gt 7, 3) := by decide +kernel
theorem dX9_isFigure_30 : decode cX9_isFigure 30 = .ok (.iconst 1, 1) := by decide +kernel
theorem dX9_isFigure_31 : decode cX9_isFigure 31 = .ok (.goto 4, 3) := by decide +kernel
theorem dX9_isFigure_34 : decode cX9_isFigure 34 = .ok (.iconst 0, 1) := by decide +kernel
theorem dX9_isFigure_35 : decode cX9_isFigure 35 = .ok (.ireturn, 1) := by decide +kernel
def f_X9_isFigure (fu : Nat)  (x1 : Int32) (m : Mem) : Option (Int32 × Mem) := if (m 3002) ≤ x1 then (some (0, m)) else (chk (inb x1 96) (if (m (3200 + x1.toNatClampNeg)) < 48 then (some (0, m)) else (chk (inb x1 96) (if 57 < (m (3200 + x1.toNatClampNeg)) then (some (0, m)) else (some (1, m))))))
set_option maxHeartbeats 4000000 in
set_option maxRecDepth 100000 in
theorem w_X9_isFigure {X : TX} {p : Program} {l : Launch} {e : Env} {s : State} {mi : MethodId} {args : Array Value} {below : List Frame} {meth : Method} {c : Code} {Q : State → Prop} {r : Int32} {mE : Mem} (C : Cx X p s mi args c RX9 cX9_isFigure 2) (hq : RetI X p l e (rmD 0) s mi args below meth c cX9_isFigure .boolean Q r mE) {fu : Nat} {x1 : Int32} {m : Mem} {H : Heap} {locs : List Loc} {ls : Array Slot} (h : f_X9_isFigure fu x1 m = some (r, mE))  (hW : Wd X s m H locs) (hl : lv_has ls 2 [(0, .ref (ad X 20 0)), (1, .int x1)]) : W p l e (rmD 0) s mi args below meth c H locs 0 0 Q (F0 mi 0 ls []) := by
  unfold f_X9_isFigure at h
  refine lv_iload_n C.1 C.2.1 dX9_isFigure_0 rfl (lv_at hl 1 rfl) ?_
  refine lv_aload_n C.1 C.2.1 dX9_isFigure_1 rfl (lv_at hl 0 rfl) ?_
  refine zg_X9_taped C hW id_20 w_1012 dX9_isFigure_2 ?_
  refine lv_icmp_ge (tgt := 34) C.1 C.2.1 dX9_isFigure_5 (by decide) (fun hc_5 => ?_) (fun hc_5 => ?_)
  · have h := ite_t hc_5 h
    refine lv_iconst (v := 0) C.1 C.2.1 dX9_isFigure_34 rfl ?_
    exact ret_i h hq rfl hW dX9_isFigure_35
  · have h := ite_f hc_5 h
    refine lv_aload_n C.1 C.2.1 dX9_isFigure_8 rfl (lv_at hl 0 rfl) ?_
    refine zg_X9_tape C hW id_20 w_1011 dX9_isFigure_9 ?_
    refine lv_iload_n C.1 C.2.1 dX9_isFigure_12 rfl (lv_at hl 1 rfl) ?_
    obtain ⟨hb_1, h⟩ := chk_E h
    refine zal_24 C hW id_24 (inb_E hb_1) dX9_isFigure_13 ?_
    refine lv_bipush (v := 48) C.1 C.2.1 dX9_isFigure_14 rfl ?_
    refine lv_icmp_lt (tgt := 34) C.1 C.2.1 dX9_isFigure_16 (by decide) (fun hc_4 => ?_) (fun hc_4 => ?_)
    · have h := ite_t hc_4 h
      refine lv_iconst (v := 0) C.1 C.2.1 dX9_isFigure_34 rfl ?_
      exact ret_i h hq rfl hW dX9_isFigure_35
    · have h := ite_f hc_4 h
      refine lv_aload_n C.1 C.2.1 dX9_isFigure_19 rfl (lv_at hl 0 rfl) ?_
      refine zg_X9_tape C hW id_20 w_1011 dX9_isFigure_20 ?_
      refine lv_iload_n C.1 C.2.1 dX9_isFigure_23 rfl (lv_at hl 1 rfl) ?_
      obtain ⟨hb_2, h⟩ := chk_E h
      refine zal_24 C hW id_24 (inb_E hb_2) dX9_isFigure_24 ?_
      refine lv_bipush (v := 57) C.1 C.2.1 dX9_isFigure_25 rfl ?_
      refine lv_icmp_gt (tgt := 34) C.1 C.2.1 dX9_isFigure_27 (by decide) (fun hc_3 => ?_) (fun hc_3 => ?_)
      · have h := ite_t hc_3 h
        refine lv_iconst (v := 0) C.1 C.2.1 dX9_isFigure_34 rfl ?_
        exact ret_i h hq rfl hW dX9_isFigure_35
      · have h := ite_f hc_3 h
        refine lv_iconst (v := 1) C.1 C.2.1 dX9_isFigure_30 rfl ?_
        refine lv_goto (tgt := 35) C.1 C.2.1 dX9_isFigure_31 (by decide) ?_
        exact ret_i h hq rfl hW dX9_isFigure_35
theorem c_X9_isFigure {X : TX} {l : Launch} {fu : Nat} {x1 : Int32} {m mE : Mem} {r : Int32} (h : f_X9_isFigure fu x1 m = some (r, mE))  : MetI X l yX9_isFigure cX9_isFigure 2 .boolean 0 [.ref (ad X 20 0), .int x1] m r mE :=
  met_I (by decide) (Nat.le_of_ble_eq_true rfl) (fun p e s mi args below meth c ls Q C hq hW hl => w_X9_isFigure C hq h  hW (lv_sub hl [0, 1] rfl))
theorem k_X9_isFigure : CalV yX9_isFigure cX9_isFigure 2 (some .boolean) RX9 1 := ⟨w_1354, w_52, w_70, w_1355, by decide +kernel⟩
theorem dX9_go_0 : decode cX9_go 0 = .ok (.aload_n 0, 1) := by decide +kernel
theorem dX9_go_1 : decode cX9_go 1 = .ok (.getfield 195, 3) := by decide +kernel
theorem dX9_go_4 : decode cX9_go 4 = .ok (.aload_n 0, 1) := by decide +kernel
theorem dX9_go_5 : decode cX9_go 5 = .ok (.getfield 192, 3) := by decide +kernel
theorem dX9_go_8 : decode cX9_go 8 = .ok (.if_icmp .ge 30, 3) := by decide +kernel
theorem dX9_go_11 : decode cX9_go 11 = .ok (.aload_n 0, 1) := by decide +kernel
theorem dX9_go_12 : decode cX9_go 12 = .ok (.getfield 26, 3) := by decide +kernel
theorem dX9_go_15 : decode cX9_go 15 = .ok (.aload_n 0, 1) := by decide +kernel
theorem dX9_go_16 : decode cX9_go 16 = .ok (.getfield 195, 3) := by decide +kernel
theorem dX9_go_19 : decode cX9_go 19 = .ok (.iaload, 1) := by decide +kernel
theorem dX9_go_20 : decode cX9_go 20 = .ok (.bipush 32, 2) := by decide +kernel
theorem dX9_go_22 : decode cX9_go 22 = .ok (.if_icmp .ne 16, 3) := by decide +kernel
theorem dX9_go_25 : decode cX9_go 25 = .ok (.aload_n 0, 1) := by decide +kernel
theorem dX9_go_26 : decode cX9_go 26 = .ok (.dup, 1) := by decide +kernel
theorem dX9_go_27 : decode cX9_go 27 = .ok (.getfield 195, 3) := by decide +kernel
theorem dX9_go_30 : decode cX9_go 30 = .ok (.iconst 1, 1) := by decide +kernel
theorem dX9_go_31 : decode cX9_go 31 = .ok (.iadd, 1) := by decide +kernel
theorem dX9_go_32 : decode cX9_go 32 = .ok (.putfield 195, 3) := by decide +kernel
theorem dX9_go_35 : decode cX9_go 35 = .ok (.goto (-35), 3) := by decide +kernel
theorem dX9_go_38 : decode cX9_go 38 = .ok (.aload_n 0, 1) := by decide +kernel
theorem dX9_go_39 : decode cX9_go 39 = .ok (.aload_n 0, 1) := by decide +kernel
theorem dX9_go_40 : decode cX9_go 40 = .ok (.getfield 195, 3) := by decide +kernel
theorem dX9_go_43 : decode cX9_go 43 = .ok (.putfield 198, 3) := by decide +kernel
theorem dX9_go_46 : decode cX9_go 46 = .ok (.aload_n 0, 1) := by decide +kernel
theorem dX9_go_47 : decode cX9_go 47 = .ok (.getfield 198, 3) := by decide +kernel
theorem dX9_go_50 : decode cX9_go 50 = .ok (.aload_n 0, 1) := by decide +kernel
theorem dX9_go_51 : decode cX9_go 51 = .ok (.getfield 201, 3) := by decide +kernel
theorem dX9_go_54 : decode cX9_go 54 = .ok (.if_icmp .ne 7, 3) := by decide +kernel
theorem dX9_go_57 : decode cX9_go 57 = .ok (.iconst 1, 1) := by decide +kernel
theorem dX9_go_58 : decode cX9_go 58 = .ok (.goto 4, 3) := by decide +kernel
theorem dX9_go_61 : decode cX9_go 61 = .ok (.iconst 0, 1) := by decide +kernel
theorem dX9_go_62 : decode cX9_go 62 = .ok (.istore_n 1, 1) := by decide +kernel
theorem dX9_go_63 : decode cX9_go 63 = .ok (.aload_n 0, 1) := by decide +kernel
theorem dX9_go_64 : decode cX9_go 64 = .ok (.getfield 198, 3) := by decide +kernel
theorem dX9_go_67 : decode cX9_go 67 = .ok (.aload_n 0, 1) := by decide +kernel
theorem dX9_go_68 : decode cX9_go 68 = .ok (.getfield 192, 3) := by decide +kernel
theorem dX9_go_71 : decode cX9_go 71 = .ok (.if_icmp .ne 11, 3) := by decide +kernel
theorem dX9_go_74 : decode cX9_go 74 = .ok (.aload_n 0, 1) := by decide +kernel
theorem dX9_go_75 : decode cX9_go 75 = .ok (.iconst 0, 1) := by decide +kernel
theorem dX9_go_76 : decode cX9_go 76 = .ok (.putfield 204, 3) := by decide +kernel
theorem dX9_go_79 : decode cX9_go 79 = .ok (.goto 224, 3) := by decide +kernel
theorem dX9_go_82 : decode cX9_go 82 = .ok (.aload_n 0, 1) := by decide +kernel
theorem dX9_go_83 : decode cX9_go 83 = .ok (.aload_n 0, 1) := by decide +kernel
theorem dX9_go_84 : decode cX9_go 84 = .ok (.getfield 198, 3) := by decide +kernel
theorem dX9_go_87 : decode cX9_go 87 = .ok (.invokevirtual 207, 3) := by decide +kernel
theorem dX9_go_90 : decode cX9_go 90 = .ok (.ifCond .eq 64, 3) := by decide +kernel
theorem dX9_go_93 : decode cX9_go 93 = .ok (.aload_n 0, 1) := by decide +kernel
theorem dX9_go_94 : decode cX9_go 94 = .ok (.aload_n 0, 1) := by decide +kernel
theorem dX9_go_95 : decode cX9_go 95 = .ok (.getfield 195, 3) := by decide +kernel
theorem dX9_go_98 : decode cX9_go 98 = .ok (.invokevirtual 207, 3) := by decide +kernel
theorem dX9_go_101 : decode cX9_go 101 = .ok (.ifCond .eq 16, 3) := by decide +kernel
theorem dX9_go_104 : decode cX9_go 104 = .ok (.aload_n 0, 1) := by decide +kernel
theorem dX9_go_105 : decode cX9_go 105 = .ok (.dup, 1) := by decide +kernel
theorem dX9_go_106 : decode cX9_go 106 = .ok (.getfield 195, 3) := by decide +kernel
theorem dX9_go_109 : decode cX9_go 109 = .ok (.iconst 1, 1) := by decide +kernel
theorem dX9_go_110 : decode cX9_go 110 = .ok (.iadd, 1) := by decide +kernel
theorem dX9_go_111 : decode cX9_go 111 = .ok (.putfield 195, 3) := by decide +kernel
theorem dX9_go_114 : decode cX9_go 114 = .ok (.goto (-21), 3) := by decide +kernel
theorem dX9_go_117 : decode cX9_go 117 = .ok (.aload_n 0, 1) := by decide +kernel
theorem dX9_go_118 : decode cX9_go 118 = .ok (.iload_n 1, 1) := by decide +kernel
theorem dX9_go_119 : decode cX9_go 119 = .ok (.ifCond .eq 7, 3) := by decide +kernel
theorem dX9_go_122 : decode cX9_go 122 = .ok (.iconst 4, 1) := by decide +kernel
theorem dX9_go_123 : decode cX9_go 123 = .ok (.goto 4, 3) := by decide +kernel
theorem dX9_go_126 : decode cX9_go 126 = .ok (.iconst 1, 1) := by decide +kernel
theorem dX9_go_127 : decode cX9_go 127 = .ok (.putfield 204, 3) := by decide +kernel
theorem dX9_go_130 : decode cX9_go 130 = .ok (.aload_n 0, 1) := by decide +kernel
theorem dX9_go_131 : decode cX9_go 131 = .ok (.aload_n 0, 1) := by decide +kernel
theorem dX9_go_132 : decode cX9_go 132 = .ok (.getfield 26, 3) := by decide +kernel
theorem dX9_go_135 : decode cX9_go 135 = .ok (.aload_n 0, 1) := by decide +kernel
theorem dX9_go_136 : decode cX9_go 136 = .ok (.getfield 198, 3) := by decide +kernel
theorem dX9_go_139 : decode cX9_go 139 = .ok (.iaload, 1) := by decide +kernel
theorem dX9_go_140 : decode cX9_go 140 = .ok (.putfield 210, 3) := by decide +kernel
theorem dX9_go_143 : decode cX9_go 143 = .ok (.aload_n 0, 1) := by decide +kernel
theorem dX9_go_144 : decode cX9_go 144 = .ok (.aload_n 0, 1) := by decide +kernel
theorem dX9_go_145 : decode cX9_go 145 = .ok (.getfield 195, 3) := by decide +kernel
theorem dX9_go_148 : decode cX9_go 148 = .ok (.putfield 201, 3) := by decide +kernel
theorem dX9_go_151 : decode cX9_go 151 = .ok (.goto 152, 3) := by decide +kernel
theorem dX9_go_154 : decode cX9_go 154 = .ok (.aload_n 0, 1) := by decide +kernel
theorem dX9_go_155 : decode cX9_go 155 = .ok (.aload_n 0, 1) := by decide +kernel
theorem dX9_go_156 : decode cX9_go 156 = .ok (.getfield 198, 3) := by decide +kernel
theorem dX9_go_159 : decode cX9_go 159 = .ok (.invokevirtual 213, 3) := by decide +kernel
theorem dX9_go_162 : decode cX9_go 162 = .ok (.ifCond .eq 113, 3) := by decide +kernel
theorem dX9_go_165 : decode cX9_go 165 = .ok (.aload_n 0, 1) := by decide +kernel
theorem dX9_go_166 : decode cX9_go 166 = .ok (.iconst 0, 1) := by decide +kernel
theorem dX9_go_167 : decode cX9_go 167 = .ok (.putfield 210, 3) := by decide +kernel
theorem dX9_go_170 : decode cX9_go 170 = .ok (.aload_n 0, 1) := by decide +kernel
theorem dX9_go_171 : decode cX9_go 171 = .ok (.aload_n 0, 1) := by decide +kernel
theorem dX9_go_172 : decode cX9_go 172 = .ok (.getfield 195, 3) := by decide +kernel
theorem dX9_go_175 : decode cX9_go 175 = .ok (.invokevirtual 213, 3) := by decide +kernel
theorem dX9_go_178 : decode cX9_go 178 = .ok (.ifCond .eq 60, 3) := by decide +kernel
theorem dX9_go_181 : decode cX9_go 181 = .ok (.aload_n 0, 1) := by decide +kernel
theorem dX9_go_182 : decode cX9_go 182 = .ok (.aload_n 0, 1) := by decide +kernel
theorem dX9_go_183 : decode cX9_go 183 = .ok (.getfield 195, 3) := by decide +kernel
theorem dX9_go_186 : decode cX9_go 186 = .ok (.aload_n 0, 1) := by decide +kernel
theorem dX9_go_187 : decode cX9_go 187 = .ok (.getfield 198, 3) := by decide +kernel
theorem dX9_go_190 : decode cX9_go 190 = .ok (.isub, 1) := by decide +kernel
theorem dX9_go_191 : decode cX9_go 191 = .ok (.iconst 4, 1) := by decide +kernel
theorem dX9_go_192 : decode cX9_go 192 = .ok (.if_icmp .ge 26, 3) := by decide +kernel
theorem dX9_go_195 : decode cX9_go 195 = .ok (.bipush 10, 2) := by decide +kernel
theorem dX9_go_197 : decode cX9_go 197 = .ok (.aload_n 0, 1) := by decide +kernel
theorem dX9_go_198 : decode cX9_go 198 = .ok (.getfield 210, 3) := by decide +kernel
theorem dX9_go_201 : decode cX9_go 201 = .ok (.imul, 1) := by decide +kernel
theorem dX9_go_202 : decode cX9_go 202 = .ok (.aload_n 0, 1) := by decide +kernel
theorem dX9_go_203 : decode cX9_go 203 = .ok (.getfield 26, 3) := by decide +kernel
theorem dX9_go_206 : decode cX9_go 206 = .ok (.aload_n 0, 1) := by decide +kernel
theorem dX9_go_207 : decode cX9_go 207 = .ok (.getfield 195, 3) := by decide +kernel
theorem dX9_go_210 : decode cX9_go 210 = .ok (.iaload, 1) := by decide +kernel
theorem dX9_go_211 : decode cX9_go 211 = .ok (.iadd, 1) := by decide +kernel
theorem dX9_go_212 : decode cX9_go 212 = .ok (.bipush 48, 2) := by decide +kernel
theorem dX9_go_214 : decode cX9_go 214 = .ok (.isub, 1) := by decide +kernel
theorem dX9_go_215 : decode cX9_go 215 = .ok (.goto 7, 3) := by decide +kernel
theorem dX9_go_218 : decode cX9_go 218 = .ok (.aload_n 0, 1) := by decide +kernel
theorem dX9_go_219 : decode cX9_go 219 = .ok (.getfield 210, 3) := by decide +kernel
theorem dX9_go_222 : decode cX9_go 222 = .ok (.putfield 210, 3) := by decide +kernel
theorem dX9_go_225 : decode cX9_go 225 = .ok (.aload_n 0, 1) := by decide +kernel
theorem dX9_go_226 : decode cX9_go 226 = .ok (.dup, 1) := by decide +kernel
theorem dX9_go_227 : decode cX9_go 227 = .ok (.getfield 195, 3) := by decide +kernel
theorem dX9_go_230 : decode cX9_go 230 = .ok (.iconst 1, 1) := by decide +kernel
theorem dX9_go_231 : decode cX9_go 231 = .ok (.iadd, 1) := by decide +kernel
theorem dX9_go_232 : decode cX9_go 232 = .ok (.putfield 195, 3) := by decide +kernel
theorem dX9_go_235 : decode cX9_go 235 = .ok (.goto (-65), 3) := by decide +kernel
theorem dX9_go_238 : decode cX9_go 238 = .ok (.aload_n 0, 1) := by decide +kernel
theorem dX9_go_239 : decode cX9_go 239 = .ok (.iload_n 1, 1) := by decide +kernel
theorem dX9_go_240 : decode cX9_go 240 = .ok (.ifCond .ne 16, 3) := by decide +kernel
theorem dX9_go_243 : decode cX9_go 243 = .ok (.aload_n 0, 1) := by decide +kernel
theorem dX9_go_244 : decode cX9_go 244 = .ok (.getfield 195, 3) := by decide +kernel
theorem dX9_go_247 : decode cX9_go 247 = .ok (.aload_n 0, 1) := by decide +kernel
theorem dX9_go_248 : decode cX9_go 248 = .ok (.getfield 198, 3) := by decide +kernel
theorem dX9_go_251 : decode cX9_go 251 = .ok (.isub, 1) := by decide +kernel
theorem dX9_go_252 : decode cX9_go 252 = .ok (.iconst 4, 1) := by decide +kernel
theorem dX9_go_253 : decode cX9_go 253 = .ok (.if_icmp .le 7, 3) := by decide +kernel
theorem dX9_go_256 : decode cX9_go 256 = .ok (.iconst 4, 1) := by decide +kernel
theorem dX9_go_257 : decode cX9_go 257 = .ok (.goto 4, 3) := by decide +kernel
theorem dX9_go_260 : decode cX9_go 260 = .ok (.iconst 2, 1) := by decide +kernel
theorem dX9_go_261 : decode cX9_go 261 = .ok (.putfield 204, 3) := by decide +kernel
theorem dX9_go_264 : decode cX9_go 264 = .ok (.aload_n 0, 1) := by decide +kernel
theorem dX9_go_265 : decode cX9_go 265 = .ok (.aload_n 0, 1) := by decide +kernel
theorem dX9_go_266 : decode cX9_go 266 = .ok (.getfield 195, 3) := by decide +kernel
theorem dX9_go_269 : decode cX9_go 269 = .ok (.putfield 201, 3) := by decide +kernel
theorem dX9_go_272 : decode cX9_go 272 = .ok (.goto 31, 3) := by decide +kernel
theorem dX9_go_275 : decode cX9_go 275 = .ok (.aload_n 0, 1) := by decide +kernel
theorem dX9_go_276 : decode cX9_go 276 = .ok (.iconst 3, 1) := by decide +kernel
theorem dX9_go_277 : decode cX9_go 277 = .ok (.putfield 204, 3) := by decide +kernel
theorem dX9_go_280 : decode cX9_go 280 = .ok (.aload_n 0, 1) := by decide +kernel
theorem dX9_go_281 : decode cX9_go 281 = .ok (.aload_n 0, 1) := by decide +kernel
theorem dX9_go_282 : decode cX9_go 282 = .ok (.getfield 26, 3) := by decide +kernel
theorem dX9_go_285 : decode cX9_go 285 = .ok (.aload_n 0, 1) := by decide +kernel
theorem dX9_go_286 : decode cX9_go 286 = .ok (.getfield 198, 3) := by decide +kernel
theorem dX9_go_289 : decode cX9_go 289 = .ok (.iaload, 1) := by decide +kernel
theorem dX9_go_290 : decode cX9_go 290 = .ok (.putfield 210, 3) := by decide +kernel
theorem dX9_go_293 : decode cX9_go 293 = .ok (.aload_n 0, 1) := by decide +kernel
theorem dX9_go_294 : decode cX9_go 294 = .ok (.dup, 1) := by decide +kernel
theorem dX9_go_295 : decode cX9_go 295 = .ok (.getfield 195, 3) := by decide +kernel
theorem dX9_go_298 : decode cX9_go 298 = .ok (.iconst 1, 1) := by decide +kernel
theorem dX9_go_299 : decode cX9_go 299 = .ok (.iadd, 1) := by decide +kernel
theorem dX9_go_300 : decode cX9_go 300 = .ok (.putfield 195, 3) := by decide +kernel
theorem dX9_go_303 : decode cX9_go 303 = .ok (.return_, 1) := by decide +kernel
def f_X9_go_127 (fu : Nat)  (y1 : Int32) (m : Mem) : Option Mem := seqM (upd m 3005 y1) (fun m_1 : Mem => chk (inb (m_1 3004) 96) (seqM (upd m_1 3006 (m_1 (3200 + (m_1 3004).toNatClampNeg))) (fun m_4 : Mem => seqM (upd m_4 3007 (m_4 3003)) (fun m_6 : Mem => some m_6))))
set_option maxHeartbeats 4000000 in
set_option maxRecDepth 100000 in
theorem w_X9_go_127 {X : TX} {p : Program} {l : Launch} {e : Env} {s : State} {mi : MethodId} {args : Array Value} {below : List Frame} {meth : Method} {c : Code} {Q : State → Prop} {mE : Mem} (C : Cx X p s mi args c RX9 cX9_go 2) (hq : RetV X p l e (rmD 1) s mi args below meth c cX9_go Q mE) {fu : Nat} {y1 : Int32} {m : Mem} {H : Heap} {locs : List Loc} {ls : Array Slot} (h : f_X9_go_127 fu y1 m = some mE)  (hW : Wd X s m H locs) (hl : lv_has ls 2 [(0, .ref (ad X 20 0))]) : W p l e (rmD 1) s mi args below meth c H locs 0 0 Q (F0 mi 127 ls [.int y1, .ref (ad X 20 0)]) := by
  unfold f_X9_go_127 at h
  obtain ⟨m_1, e_2, h⟩ := seqM_E h
  refine zp_X9_token C hW id_20 w_1015 e_2 dX9_go_127 (fun H locs hW => ?_)
  refine lv_aload_n C.1 C.2.1 dX9_go_130 rfl (lv_at hl 0 rfl) ?_
  refine lv_aload_n C.1 C.2.1 dX9_go_131 rfl (lv_at hl 0 rfl) ?_
  refine zg_X9_tape C hW id_20 w_1011 dX9_go_132 ?_
  refine lv_aload_n C.1 C.2.1 dX9_go_135 rfl (lv_at hl 0 rfl) ?_
  refine zg_X9_from C hW id_20 w_1014 dX9_go_136 ?_
  obtain ⟨hb_3, h⟩ := chk_E h
  refine zal_24 C hW id_24 (inb_E hb_3) dX9_go_139 ?_
  obtain ⟨m_4, e_5, h⟩ := seqM_E h
  refine zp_X9_value C hW id_20 w_1016 e_5 dX9_go_140 (fun H locs hW => ?_)
  refine lv_aload_n C.1 C.2.1 dX9_go_143 rfl (lv_at hl 0 rfl) ?_
  refine lv_aload_n C.1 C.2.1 dX9_go_144 rfl (lv_at hl 0 rfl) ?_
  refine zg_X9_next C hW id_20 w_1013 dX9_go_145 ?_
  obtain ⟨m_6, e_7, h⟩ := seqM_E h
  refine zp_X9_ended C hW id_20 w_1017 e_7 dX9_go_148 (fun H locs hW => ?_)
  refine lv_goto (tgt := 303) C.1 C.2.1 dX9_go_151 (by decide) ?_
  exact ret_v h hq hW dX9_go_303
def f_X9_go_93 (fu : Nat)  : Nat → Int32 → Mem → Option Mem
  | 0, _, _ => none
  | n + 1, x1, m => doI (f_X9_isLetter fu (m 3003) m) (fun r_3 m_2 => if r_3 = 0 then (if x1 = 0 then (f_X9_go_127 fu 1 m_2) else (f_X9_go_127 fu 4 m_2)) else (seqM (upd m_2 3003 ((m_2 3003) + 1)) (fun m_5 : Mem => f_X9_go_93 fu n x1 m_5)))
set_option maxHeartbeats 4000000 in
set_option maxRecDepth 100000 in
theorem w_X9_go_93 {X : TX} {p : Program} {l : Launch} {e : Env} {s : State} {mi : MethodId} {args : Array Value} {below : List Frame} {meth : Method} {c : Code} {Q : State → Prop} {mE : Mem} (C : Cx X p s mi args c RX9 cX9_go 2) (hq : RetV X p l e (rmD 1) s mi args below meth c cX9_go Q mE) {fu : Nat} : ∀ (n : Nat) {x1 : Int32} {m : Mem} {H : Heap} {locs : List Loc} {ls : Array Slot}, f_X9_go_93 fu n x1 m = some mE → Wd X s m H locs → lv_has ls 2 [(0, .ref (ad X 20 0)), (1, .int x1)] → W p l e (rmD 1) s mi args below meth c H locs 0 0 Q (F0 mi 93 ls []) := by
  intro n
  induction n with
  | zero =>
    intro x1 m H locs ls h hW hl
    rw [f_X9_go_93] at h
    cases h
  | succ n ih =>
    intro x1 m H locs ls h hW hl
    rw [f_X9_go_93] at h
    refine lv_aload_n C.1 C.2.1 dX9_go_93 rfl (lv_at hl 0 rfl) ?_
    refine lv_aload_n C.1 C.2.1 dX9_go_94 rfl (lv_at hl 0 rfl) ?_
    refine zg_X9_next C hW id_20 w_1013 dX9_go_95 ?_
    obtain ⟨r_3, m_2, hc_1, h⟩ := doI_E h
    refine zr_cVI C hW (c_X9_isLetter (x1 := (m 3003)) hc_1 ) k_X9_isLetter (zr_recv C hW id_20 zco_20 rfl) w_1348 ⟨Nat.le_of_ble_eq_true rfl, Nat.le_of_ble_eq_true rfl⟩ ⟨Nat.le_refl 0, Nat.le_refl 0⟩ rfl hl.1 rfl (Nat.le_of_ble_eq_true rfl) dX9_go_98 (fun H locs hW => ?_)
    refine lv_if_eq (tgt := 117) C.1 C.2.1 dX9_go_101 (by decide) (fun hc_7 => ?_) (fun hc_7 => ?_)
    · have h := ite_t hc_7 h
      refine lv_aload_n C.1 C.2.1 dX9_go_117 rfl (lv_at hl 0 rfl) ?_
      refine lv_iload_n C.1 C.2.1 dX9_go_118 rfl (lv_at hl 1 rfl) ?_
      refine lv_if_eq (tgt := 126) C.1 C.2.1 dX9_go_119 (by decide) (fun hc_4 => ?_) (fun hc_4 => ?_)
      · have h := ite_t hc_4 h
        refine lv_iconst (v := 1) C.1 C.2.1 dX9_go_126 rfl ?_
        exact w_X9_go_127 C hq  h  hW (lv_sub hl [0] rfl)
      · have h := ite_f hc_4 h
        refine lv_iconst (v := 4) C.1 C.2.1 dX9_go_122 rfl ?_
        refine lv_goto (tgt := 127) C.1 C.2.1 dX9_go_123 (by decide) ?_
        exact w_X9_go_127 C hq  h  hW (lv_sub hl [0] rfl)
    · have h := ite_f hc_7 h
      refine lv_aload_n C.1 C.2.1 dX9_go_104 rfl (lv_at hl 0 rfl) ?_
      refine lv_dup C.1 C.2.1 dX9_go_105 rfl ?_
      refine zg_X9_next C hW id_20 w_1013 dX9_go_106 ?_
      refine lv_iconst (v := 1) C.1 C.2.1 dX9_go_109 rfl ?_
      refine lv_iadd C.1 C.2.1 dX9_go_110 ?_
      obtain ⟨m_5, e_6, h⟩ := seqM_E h
      refine zp_X9_next C hW id_20 w_1013 e_6 dX9_go_111 (fun H locs hW => ?_)
      refine lv_goto (tgt := 93) C.1 C.2.1 dX9_go_114 (by decide) ?_
      exact ih h  hW (lv_sub hl [0, 1] rfl)
def f_X9_go_222 (fu : Nat) (k_170 : Int32 → Mem → Option Mem) (x1 : Int32) (y1 : Int32) (m : Mem) : Option Mem := seqM (upd m 3006 y1) (fun m_1 : Mem => seqM (upd m_1 3003 ((m_1 3003) + 1)) (fun m_3 : Mem => k_170 x1 m_3))
set_option maxHeartbeats 4000000 in
set_option maxRecDepth 100000 in
theorem w_X9_go_222 {X : TX} {p : Program} {l : Launch} {e : Env} {s : State} {mi : MethodId} {args : Array Value} {below : List Frame} {meth : Method} {c : Code} {Q : State → Prop} {mE : Mem} (C : Cx X p s mi args c RX9 cX9_go 2) (hq : RetV X p l e (rmD 1) s mi args below meth c cX9_go Q mE) {fu : Nat} {k_170 : Int32 → Mem → Option Mem} (hk_170 : ∀ {x1 : Int32} {m : Mem} {H : Heap} {locs : List Loc} {ls : Array Slot}, k_170 x1 m = some mE → Wd X s m H locs → lv_has ls 2 [(0, .ref (ad X 20 0)), (1, .int x1)] → W p l e (rmD 1) s mi args below meth c H locs 0 0 Q (F0 mi 170 ls [])) {x1 : Int32} {y1 : Int32} {m : Mem} {H : Heap} {locs : List Loc} {ls : Array Slot} (h : f_X9_go_222 fu k_170 x1 y1 m = some mE)  (hW : Wd X s m H locs) (hl : lv_has ls 2 [(0, .ref (ad X 20 0)), (1, .int x1)]) : W p l e (rmD 1) s mi args below meth c H locs 0 0 Q (F0 mi 222 ls [.int y1, .ref (ad X 20 0)]) := by
  unfold f_X9_go_222 at h
  obtain ⟨m_1, e_2, h⟩ := seqM_E h
  refine zp_X9_value C hW id_20 w_1016 e_2 dX9_go_222 (fun H locs hW => ?_)
  refine lv_aload_n C.1 C.2.1 dX9_go_225 rfl (lv_at hl 0 rfl) ?_
  refine lv_dup C.1 C.2.1 dX9_go_226 rfl ?_
  refine zg_X9_next C hW id_20 w_1013 dX9_go_227 ?_
  refine lv_iconst (v := 1) C.1 C.2.1 dX9_go_230 rfl ?_
  refine lv_iadd C.1 C.2.1 dX9_go_231 ?_
  obtain ⟨m_3, e_4, h⟩ := seqM_E h
  refine zp_X9_next C hW id_20 w_1013 e_4 dX9_go_232 (fun H locs hW => ?_)
  refine lv_goto (tgt := 170) C.1 C.2.1 dX9_go_235 (by decide) ?_
  exact hk_170 h  hW (lv_sub hl [0, 1] rfl)
def f_X9_go_261 (fu : Nat)  (y1 : Int32) (m : Mem) : Option Mem := seqM (upd m 3005 y1) (fun m_1 : Mem => seqM (upd m_1 3007 (m_1 3003)) (fun m_3 : Mem => some m_3))
set_option maxHeartbeats 4000000 in
set_option maxRecDepth 100000 in
theorem w_X9_go_261 {X : TX} {p : Program} {l : Launch} {e : Env} {s : State} {mi : MethodId} {args : Array Value} {below : List Frame} {meth : Method} {c : Code} {Q : State → Prop} {mE : Mem} (C : Cx X p s mi args c RX9 cX9_go 2) (hq : RetV X p l e (rmD 1) s mi args below meth c cX9_go Q mE) {fu : Nat} {y1 : Int32} {m : Mem} {H : Heap} {locs : List Loc} {ls : Array Slot} (h : f_X9_go_261 fu y1 m = some mE)  (hW : Wd X s m H locs) (hl : lv_has ls 2 [(0, .ref (ad X 20 0))]) : W p l e (rmD 1) s mi args below meth c H locs 0 0 Q (F0 mi 261 ls [.int y1, .ref (ad X 20 0)]) := by
  unfold f_X9_go_261 at h
  obtain ⟨m_1, e_2, h⟩ := seqM_E h
  refine zp_X9_token C hW id_20 w_1015 e_2 dX9_go_261 (fun H locs hW => ?_)
  refine lv_aload_n C.1 C.2.1 dX9_go_264 rfl (lv_at hl 0 rfl) ?_
  refine lv_aload_n C.1 C.2.1 dX9_go_265 rfl (lv_at hl 0 rfl) ?_
  refine zg_X9_next C hW id_20 w_1013 dX9_go_266 ?_
  obtain ⟨m_3, e_4, h⟩ := seqM_E h
  refine zp_X9_ended C hW id_20 w_1017 e_4 dX9_go_269 (fun H locs hW => ?_)
  refine lv_goto (tgt := 303) C.1 C.2.1 dX9_go_272 (by decide) ?_
  exact ret_v h hq hW dX9_go_303
def f_X9_go_256 (fu : Nat)   (m : Mem) : Option Mem := f_X9_go_261 fu 4 m
set_option maxHeartbeats 4000000 in
set_option maxRecDepth 100000 in
theorem w_X9_go_256 {X : TX} {p : Program} {l : Launch} {e : Env} {s : State} {mi : MethodId} {args : Array Value} {below : List Frame} {meth : Method} {c : Code} {Q : State → Prop} {mE : Mem} (C : Cx X p s mi args c RX9 cX9_go 2) (hq : RetV X p l e (rmD 1) s mi args below meth c cX9_go Q mE) {fu : Nat}  {m : Mem} {H : Heap} {locs : List Loc} {ls : Array Slot} (h : f_X9_go_256 fu  m = some mE)  (hW : Wd X s m H locs) (hl : lv_has ls 2 [(0, .ref (ad X 20 0))]) : W p l e (rmD 1) s mi args below meth c H locs 0 0 Q (F0 mi 256 ls [.ref (ad X 20 0)]) := by
  unfold f_X9_go_256 at h
  refine lv_iconst (v := 4) C.1 C.2.1 dX9_go_256 rfl ?_
  refine lv_goto (tgt := 261) C.1 C.2.1 dX9_go_257 (by decide) ?_
  exact w_X9_go_261 C hq  h  hW (lv_sub hl [0] rfl)
def f_X9_go_170 (fu : Nat)  : Nat → Int32 → Mem → Option Mem
  | 0, _, _ => none
  | n + 1, x1, m => doI (f_X9_isFigure fu (m 3003) m) (fun r_3 m_2 => if r_3 = 0 then (if x1 = 0 then (if ((m_2 3003) - (m_2 3004)) ≤ 4 then (f_X9_go_261 fu 2 m_2) else (f_X9_go_256 fu m_2)) else (f_X9_go_256 fu m_2)) else (if 4 ≤ ((m_2 3003) - (m_2 3004)) then (f_X9_go_222 fu (f_X9_go_170 fu n) x1 (m_2 3006) m_2) else (chk (inb (m_2 3003) 96) (f_X9_go_222 fu (f_X9_go_170 fu n) x1 (((10 * (m_2 3006)) + (m_2 (3200 + (m_2 3003).toNatClampNeg))) - 48) m_2))))
set_option maxHeartbeats 4000000 in
set_option maxRecDepth 100000 in
theorem w_X9_go_170 {X : TX} {p : Program} {l : Launch} {e : Env} {s : State} {mi : MethodId} {args : Array Value} {below : List Frame} {meth : Method} {c : Code} {Q : State → Prop} {mE : Mem} (C : Cx X p s mi args c RX9 cX9_go 2) (hq : RetV X p l e (rmD 1) s mi args below meth c cX9_go Q mE) {fu : Nat} : ∀ (n : Nat) {x1 : Int32} {m : Mem} {H : Heap} {locs : List Loc} {ls : Array Slot}, f_X9_go_170 fu n x1 m = some mE → Wd X s m H locs → lv_has ls 2 [(0, .ref (ad X 20 0)), (1, .int x1)] → W p l e (rmD 1) s mi args below meth c H locs 0 0 Q (F0 mi 170 ls []) := by
  intro n
  induction n with
  | zero =>
    intro x1 m H locs ls h hW hl
    rw [f_X9_go_170] at h
    cases h
  | succ n ih =>
    intro x1 m H locs ls h hW hl
    rw [f_X9_go_170] at h
    refine lv_aload_n C.1 C.2.1 dX9_go_170 rfl (lv_at hl 0 rfl) ?_
    refine lv_aload_n C.1 C.2.1 dX9_go_171 rfl (lv_at hl 0 rfl) ?_
    refine zg_X9_next C hW id_20 w_1013 dX9_go_172 ?_
    obtain ⟨r_3, m_2, hc_1, h⟩ := doI_E h
    refine zr_cVI C hW (c_X9_isFigure (x1 := (m 3003)) hc_1 ) k_X9_isFigure (zr_recv C hW id_20 zco_20 rfl) w_1352 ⟨Nat.le_of_ble_eq_true rfl, Nat.le_of_ble_eq_true rfl⟩ ⟨Nat.le_refl 0, Nat.le_refl 0⟩ rfl hl.1 rfl (Nat.le_of_ble_eq_true rfl) dX9_go_175 (fun H locs hW => ?_)
    refine lv_if_eq (tgt := 238) C.1 C.2.1 dX9_go_178 (by decide) (fun hc_8 => ?_) (fun hc_8 => ?_)
    · have h := ite_t hc_8 h
      refine lv_aload_n C.1 C.2.1 dX9_go_238 rfl (lv_at hl 0 rfl) ?_
      refine lv_iload_n C.1 C.2.1 dX9_go_239 rfl (lv_at hl 1 rfl) ?_
      refine lv_if_ne (tgt := 256) C.1 C.2.1 dX9_go_240 (by decide) (fun hc_5 => ?_) (fun hc_5 => ?_)
      · have h := ite_f hc_5 h
        exact w_X9_go_256 C hq  h  hW (lv_sub hl [0] rfl)
      · have h := ite_t hc_5 h
        refine lv_aload_n C.1 C.2.1 dX9_go_243 rfl (lv_at hl 0 rfl) ?_
        refine zg_X9_next C hW id_20 w_1013 dX9_go_244 ?_
        refine lv_aload_n C.1 C.2.1 dX9_go_247 rfl (lv_at hl 0 rfl) ?_
        refine zg_X9_from C hW id_20 w_1014 dX9_go_248 ?_
        refine lv_isub C.1 C.2.1 dX9_go_251 ?_
        refine lv_iconst (v := 4) C.1 C.2.1 dX9_go_252 rfl ?_
        refine lv_icmp_le (tgt := 260) C.1 C.2.1 dX9_go_253 (by decide) (fun hc_4 => ?_) (fun hc_4 => ?_)
        · have h := ite_t hc_4 h
          refine lv_iconst (v := 2) C.1 C.2.1 dX9_go_260 rfl ?_
          exact w_X9_go_261 C hq  h  hW (lv_sub hl [0] rfl)
        · have h := ite_f hc_4 h
          exact w_X9_go_256 C hq  h  hW (lv_sub hl [0] rfl)
    · have h := ite_f hc_8 h
      refine lv_aload_n C.1 C.2.1 dX9_go_181 rfl (lv_at hl 0 rfl) ?_
      refine lv_aload_n C.1 C.2.1 dX9_go_182 rfl (lv_at hl 0 rfl) ?_
      refine zg_X9_next C hW id_20 w_1013 dX9_go_183 ?_
      refine lv_aload_n C.1 C.2.1 dX9_go_186 rfl (lv_at hl 0 rfl) ?_
      refine zg_X9_from C hW id_20 w_1014 dX9_go_187 ?_
      refine lv_isub C.1 C.2.1 dX9_go_190 ?_
      refine lv_iconst (v := 4) C.1 C.2.1 dX9_go_191 rfl ?_
      refine lv_icmp_ge (tgt := 218) C.1 C.2.1 dX9_go_192 (by decide) (fun hc_7 => ?_) (fun hc_7 => ?_)
      · have h := ite_t hc_7 h
        refine lv_aload_n C.1 C.2.1 dX9_go_218 rfl (lv_at hl 0 rfl) ?_
        refine zg_X9_value C hW id_20 w_1016 dX9_go_219 ?_
        exact w_X9_go_222 C hq ih h  hW (lv_sub hl [0, 1] rfl)
      · have h := ite_f hc_7 h
        refine lv_bipush (v := 10) C.1 C.2.1 dX9_go_195 rfl ?_
        refine lv_aload_n C.1 C.2.1 dX9_go_197 rfl (lv_at hl 0 rfl) ?_
        refine zg_X9_value C hW id_20 w_1016 dX9_go_198 ?_
        refine lv_imul C.1 C.2.1 dX9_go_201 ?_
        refine lv_aload_n C.1 C.2.1 dX9_go_202 rfl (lv_at hl 0 rfl) ?_
        refine zg_X9_tape C hW id_20 w_1011 dX9_go_203 ?_
        refine lv_aload_n C.1 C.2.1 dX9_go_206 rfl (lv_at hl 0 rfl) ?_
        refine zg_X9_next C hW id_20 w_1013 dX9_go_207 ?_
        obtain ⟨hb_6, h⟩ := chk_E h
        refine zal_24 C hW id_24 (inb_E hb_6) dX9_go_210 ?_
        refine lv_iadd C.1 C.2.1 dX9_go_211 ?_
        refine lv_bipush (v := 48) C.1 C.2.1 dX9_go_212 rfl ?_
        refine lv_isub C.1 C.2.1 dX9_go_214 ?_
        refine lv_goto (tgt := 222) C.1 C.2.1 dX9_go_215 (by decide) ?_
        exact w_X9_go_222 C hq ih h  hW (lv_sub hl [0, 1] rfl)
def f_X9_go_62 (fu : Nat)  (y0 : Int32) (m : Mem) : Option Mem := if (m 3004) = (m 3002) then (seqM (upd m 3005 0) (fun m_18 : Mem => some m_18)) else (doI (f_X9_isLetter fu (m 3004) m) (fun r_3 m_2 => if r_3 = 0 then (doI (f_X9_isFigure fu (m_2 3004) m_2) (fun r_6 m_5 => if r_6 = 0 then (seqM (upd m_5 3005 3) (fun m_7 : Mem => chk (inb (m_7 3004) 96) (seqM (upd m_7 3006 (m_7 (3200 + (m_7 3004).toNatClampNeg))) (fun m_10 : Mem => seqM (upd m_10 3003 ((m_10 3003) + 1)) (fun m_12 : Mem => some m_12))))) else (seqM (upd m_5 3006 0) (fun m_14 : Mem => f_X9_go_170 fu fu y0 m_14)))) else (f_X9_go_93 fu fu y0 m_2)))
set_option maxHeartbeats 4000000 in
set_option maxRecDepth 100000 in
theorem w_X9_go_62 {X : TX} {p : Program} {l : Launch} {e : Env} {s : State} {mi : MethodId} {args : Array Value} {below : List Frame} {meth : Method} {c : Code} {Q : State → Prop} {mE : Mem} (C : Cx X p s mi args c RX9 cX9_go 2) (hq : RetV X p l e (rmD 1) s mi args below meth c cX9_go Q mE) {fu : Nat} {y0 : Int32} {m : Mem} {H : Heap} {locs : List Loc} {ls : Array Slot} (h : f_X9_go_62 fu y0 m = some mE)  (hW : Wd X s m H locs) (hl : lv_has ls 2 [(0, .ref (ad X 20 0))]) : W p l e (rmD 1) s mi args below meth c H locs 0 0 Q (F0 mi 62 ls [.int y0]) := by
  unfold f_X9_go_62 at h
  refine lv_istore_n (lv' := [(1, .int y0), (0, .ref (ad X 20 0))]) C.1 C.2.1 dX9_go_62 rfl hl (by decide) rfl (fun ls hl => ?_)
  refine lv_aload_n C.1 C.2.1 dX9_go_63 rfl (lv_at hl 1 rfl) ?_
  refine zg_X9_from C hW id_20 w_1014 dX9_go_64 ?_
  refine lv_aload_n C.1 C.2.1 dX9_go_67 rfl (lv_at hl 1 rfl) ?_
  refine zg_X9_taped C hW id_20 w_1012 dX9_go_68 ?_
  refine lv_icmp_ne (tgt := 82) C.1 C.2.1 dX9_go_71 (by decide) (fun hc_20 => ?_) (fun hc_20 => ?_)
  · have h := ite_f hc_20 h
    refine lv_aload_n C.1 C.2.1 dX9_go_82 rfl (lv_at hl 1 rfl) ?_
    refine lv_aload_n C.1 C.2.1 dX9_go_83 rfl (lv_at hl 1 rfl) ?_
    refine zg_X9_from C hW id_20 w_1014 dX9_go_84 ?_
    obtain ⟨r_3, m_2, hc_1, h⟩ := doI_E h
    refine zr_cVI C hW (c_X9_isLetter (x1 := (m 3004)) hc_1 ) k_X9_isLetter (zr_recv C hW id_20 zco_20 rfl) w_1348 ⟨Nat.le_of_ble_eq_true rfl, Nat.le_of_ble_eq_true rfl⟩ ⟨Nat.le_refl 0, Nat.le_refl 0⟩ rfl hl.1 rfl (Nat.le_of_ble_eq_true rfl) dX9_go_87 (fun H locs hW => ?_)
    refine lv_if_eq (tgt := 154) C.1 C.2.1 dX9_go_90 (by decide) (fun hc_17 => ?_) (fun hc_17 => ?_)
    · have h := ite_t hc_17 h
      refine lv_aload_n C.1 C.2.1 dX9_go_154 rfl (lv_at hl 1 rfl) ?_
      refine lv_aload_n C.1 C.2.1 dX9_go_155 rfl (lv_at hl 1 rfl) ?_
      refine zg_X9_from C hW id_20 w_1014 dX9_go_156 ?_
      obtain ⟨r_6, m_5, hc_4, h⟩ := doI_E h
      refine zr_cVI C hW (c_X9_isFigure (x1 := (m_2 3004)) hc_4 ) k_X9_isFigure (zr_recv C hW id_20 zco_20 rfl) w_1352 ⟨Nat.le_of_ble_eq_true rfl, Nat.le_of_ble_eq_true rfl⟩ ⟨Nat.le_refl 0, Nat.le_refl 0⟩ rfl hl.1 rfl (Nat.le_of_ble_eq_true rfl) dX9_go_159 (fun H locs hW => ?_)
      refine lv_if_eq (tgt := 275) C.1 C.2.1 dX9_go_162 (by decide) (fun hc_16 => ?_) (fun hc_16 => ?_)
      · have h := ite_t hc_16 h
        refine lv_aload_n C.1 C.2.1 dX9_go_275 rfl (lv_at hl 1 rfl) ?_
        refine lv_iconst (v := 3) C.1 C.2.1 dX9_go_276 rfl ?_
        obtain ⟨m_7, e_8, h⟩ := seqM_E h
        refine zp_X9_token C hW id_20 w_1015 e_8 dX9_go_277 (fun H locs hW => ?_)
        refine lv_aload_n C.1 C.2.1 dX9_go_280 rfl (lv_at hl 1 rfl) ?_
        refine lv_aload_n C.1 C.2.1 dX9_go_281 rfl (lv_at hl 1 rfl) ?_
        refine zg_X9_tape C hW id_20 w_1011 dX9_go_282 ?_
        refine lv_aload_n C.1 C.2.1 dX9_go_285 rfl (lv_at hl 1 rfl) ?_
        refine zg_X9_from C hW id_20 w_1014 dX9_go_286 ?_
        obtain ⟨hb_9, h⟩ := chk_E h
        refine zal_24 C hW id_24 (inb_E hb_9) dX9_go_289 ?_
        obtain ⟨m_10, e_11, h⟩ := seqM_E h
        refine zp_X9_value C hW id_20 w_1016 e_11 dX9_go_290 (fun H locs hW => ?_)
        refine lv_aload_n C.1 C.2.1 dX9_go_293 rfl (lv_at hl 1 rfl) ?_
        refine lv_dup C.1 C.2.1 dX9_go_294 rfl ?_
        refine zg_X9_next C hW id_20 w_1013 dX9_go_295 ?_
        refine lv_iconst (v := 1) C.1 C.2.1 dX9_go_298 rfl ?_
        refine lv_iadd C.1 C.2.1 dX9_go_299 ?_
        obtain ⟨m_12, e_13, h⟩ := seqM_E h
        refine zp_X9_next C hW id_20 w_1013 e_13 dX9_go_300 (fun H locs hW => ?_)
        exact ret_v h hq hW dX9_go_303
      · have h := ite_f hc_16 h
        refine lv_aload_n C.1 C.2.1 dX9_go_165 rfl (lv_at hl 1 rfl) ?_
        refine lv_iconst (v := 0) C.1 C.2.1 dX9_go_166 rfl ?_
        obtain ⟨m_14, e_15, h⟩ := seqM_E h
        refine zp_X9_value C hW id_20 w_1016 e_15 dX9_go_167 (fun H locs hW => ?_)
        exact w_X9_go_170 C hq  fu h  hW (lv_sub hl [1, 0] rfl)
    · have h := ite_f hc_17 h
      exact w_X9_go_93 C hq  fu h  hW (lv_sub hl [1, 0] rfl)
  · have h := ite_t hc_20 h
    refine lv_aload_n C.1 C.2.1 dX9_go_74 rfl (lv_at hl 1 rfl) ?_
    refine lv_iconst (v := 0) C.1 C.2.1 dX9_go_75 rfl ?_
    obtain ⟨m_18, e_19, h⟩ := seqM_E h
    refine zp_X9_token C hW id_20 w_1015 e_19 dX9_go_76 (fun H locs hW => ?_)
    refine lv_goto (tgt := 303) C.1 C.2.1 dX9_go_79 (by decide) ?_
    exact ret_v h hq hW dX9_go_303
def f_X9_go_38 (fu : Nat)   (m : Mem) : Option Mem := seqM (upd m 3004 (m 3003)) (fun m_1 : Mem => if (m_1 3004) = (m_1 3007) then (f_X9_go_62 fu 1 m_1) else (f_X9_go_62 fu 0 m_1))
set_option maxHeartbeats 4000000 in
set_option maxRecDepth 100000 in
theorem w_X9_go_38 {X : TX} {p : Program} {l : Launch} {e : Env} {s : State} {mi : MethodId} {args : Array Value} {below : List Frame} {meth : Method} {c : Code} {Q : State → Prop} {mE : Mem} (C : Cx X p s mi args c RX9 cX9_go 2) (hq : RetV X p l e (rmD 1) s mi args below meth c cX9_go Q mE) {fu : Nat}  {m : Mem} {H : Heap} {locs : List Loc} {ls : Array Slot} (h : f_X9_go_38 fu  m = some mE)  (hW : Wd X s m H locs) (hl : lv_has ls 2 [(0, .ref (ad X 20 0))]) : W p l e (rmD 1) s mi args below meth c H locs 0 0 Q (F0 mi 38 ls []) := by
  unfold f_X9_go_38 at h
  refine lv_aload_n C.1 C.2.1 dX9_go_38 rfl (lv_at hl 0 rfl) ?_
  refine lv_aload_n C.1 C.2.1 dX9_go_39 rfl (lv_at hl 0 rfl) ?_
  refine zg_X9_next C hW id_20 w_1013 dX9_go_40 ?_
  obtain ⟨m_1, e_2, h⟩ := seqM_E h
  refine zp_X9_from C hW id_20 w_1014 e_2 dX9_go_43 (fun H locs hW => ?_)
  refine lv_aload_n C.1 C.2.1 dX9_go_46 rfl (lv_at hl 0 rfl) ?_
  refine zg_X9_from C hW id_20 w_1014 dX9_go_47 ?_
  refine lv_aload_n C.1 C.2.1 dX9_go_50 rfl (lv_at hl 0 rfl) ?_
  refine zg_X9_ended C hW id_20 w_1017 dX9_go_51 ?_
  refine lv_icmp_ne (tgt := 61) C.1 C.2.1 dX9_go_54 (by decide) (fun hc_3 => ?_) (fun hc_3 => ?_)
  · have h := ite_f hc_3 h
    refine lv_iconst (v := 0) C.1 C.2.1 dX9_go_61 rfl ?_
    exact w_X9_go_62 C hq  h  hW (lv_sub hl [0] rfl)
  · have h := ite_t hc_3 h
    refine lv_iconst (v := 1) C.1 C.2.1 dX9_go_57 rfl ?_
    refine lv_goto (tgt := 62) C.1 C.2.1 dX9_go_58 (by decide) ?_
    exact w_X9_go_62 C hq  h  hW (lv_sub hl [0] rfl)
def f_X9_go_0 (fu : Nat)  : Nat → Mem → Option Mem
  | 0, _ => none
  | n + 1, m => if (m 3002) ≤ (m 3003) then (f_X9_go_38 fu m) else (chk (inb (m 3003) 96) (if (m (3200 + (m 3003).toNatClampNeg)) = 32 then (seqM (upd m 3003 ((m 3003) + 1)) (fun m_2 : Mem => f_X9_go_0 fu n m_2)) else (f_X9_go_38 fu m)))
set_option maxHeartbeats 4000000 in
set_option maxRecDepth 100000 in
theorem w_X9_go_0 {X : TX} {p : Program} {l : Launch} {e : Env} {s : State} {mi : MethodId} {args : Array Value} {below : List Frame} {meth : Method} {c : Code} {Q : State → Prop} {mE : Mem} (C : Cx X p s mi args c RX9 cX9_go 2) (hq : RetV X p l e (rmD 1) s mi args below meth c cX9_go Q mE) {fu : Nat} : ∀ (n : Nat)  {m : Mem} {H : Heap} {locs : List Loc} {ls : Array Slot}, f_X9_go_0 fu n  m = some mE → Wd X s m H locs → lv_has ls 2 [(0, .ref (ad X 20 0))] → W p l e (rmD 1) s mi args below meth c H locs 0 0 Q (F0 mi 0 ls []) := by
  intro n
  induction n with
  | zero =>
    intro m H locs ls h hW hl
    rw [f_X9_go_0] at h
    cases h
  | succ n ih =>
    intro m H locs ls h hW hl
    rw [f_X9_go_0] at h
    refine lv_aload_n C.1 C.2.1 dX9_go_0 rfl (lv_at hl 0 rfl) ?_
    refine zg_X9_next C hW id_20 w_1013 dX9_go_1 ?_
    refine lv_aload_n C.1 C.2.1 dX9_go_4 rfl (lv_at hl 0 rfl) ?_
    refine zg_X9_taped C hW id_20 w_1012 dX9_go_5 ?_
    refine lv_icmp_ge (tgt := 38) C.1 C.2.1 dX9_go_8 (by decide) (fun hc_5 => ?_) (fun hc_5 => ?_)
    · have h := ite_t hc_5 h
      exact w_X9_go_38 C hq  h  hW (lv_sub hl [0] rfl)
    · have h := ite_f hc_5 h
      refine lv_aload_n C.1 C.2.1 dX9_go_11 rfl (lv_at hl 0 rfl) ?_
      refine zg_X9_tape C hW id_20 w_1011 dX9_go_12 ?_
      refine lv_aload_n C.1 C.2.1 dX9_go_15 rfl (lv_at hl 0 rfl) ?_
      refine zg_X9_next C hW id_20 w_1013 dX9_go_16 ?_
      obtain ⟨hb_1, h⟩ := chk_E h
      refine zal_24 C hW id_24 (inb_E hb_1) dX9_go_19 ?_
      refine lv_bipush (v := 32) C.1 C.2.1 dX9_go_20 rfl ?_
      refine lv_icmp_ne (tgt := 38) C.1 C.2.1 dX9_go_22 (by decide) (fun hc_4 => ?_) (fun hc_4 => ?_)
      · have h := ite_f hc_4 h
        exact w_X9_go_38 C hq  h  hW (lv_sub hl [0] rfl)
      · have h := ite_t hc_4 h
        refine lv_aload_n C.1 C.2.1 dX9_go_25 rfl (lv_at hl 0 rfl) ?_
        refine lv_dup C.1 C.2.1 dX9_go_26 rfl ?_
        refine zg_X9_next C hW id_20 w_1013 dX9_go_27 ?_
        refine lv_iconst (v := 1) C.1 C.2.1 dX9_go_30 rfl ?_
        refine lv_iadd C.1 C.2.1 dX9_go_31 ?_
        obtain ⟨m_2, e_3, h⟩ := seqM_E h
        refine zp_X9_next C hW id_20 w_1013 e_3 dX9_go_32 (fun H locs hW => ?_)
        refine lv_goto (tgt := 0) C.1 C.2.1 dX9_go_35 (by decide) ?_
        exact ih h  hW (lv_sub hl [0] rfl)
def f_X9_go (fu : Nat)  (m : Mem) : Option Mem := f_X9_go_0 fu fu  m
theorem c_X9_go {X : TX} {l : Launch} {fu : Nat}  {m mE : Mem} (h : f_X9_go fu  m = some mE)  : MetV X l yX9_go cX9_go 2 1 [.ref (ad X 20 0)] m mE :=
  met_V (by decide) (Nat.le_of_ble_eq_true rfl) (fun p e s mi args below meth c ls Q C hq hW hl => w_X9_go_0 C hq fu h  hW (lv_sub hl [0] rfl))
theorem k_X9_go : CalV yX9_go cX9_go 2 none RX9 0 := ⟨w_1346, w_50, w_70, w_1347, by decide +kernel⟩
theorem dX9_takesKey_0 : decode cX9_takesKey 0 = .ok (.aload_n 0, 1) := by decide +kernel
theorem dX9_takesKey_1 : decode cX9_takesKey 1 = .ok (.getfield 204, 3) := by decide +kernel
theorem dX9_takesKey_4 : decode cX9_takesKey 4 = .ok (.iconst 1, 1) := by decide +kernel
theorem dX9_takesKey_5 : decode cX9_takesKey 5 = .ok (.if_icmp .eq 5, 3) := by decide +kernel
theorem dX9_takesKey_8 : decode cX9_takesKey 8 = .ok (.iconst 0, 1) := by decide +kernel
theorem dX9_takesKey_9 : decode cX9_takesKey 9 = .ok (.ireturn, 1) := by decide +kernel
theorem dX9_takesKey_10 : decode cX9_takesKey 10 = .ok (.iconst 0, 1) := by decide +kernel
theorem dX9_takesKey_11 : decode cX9_takesKey 11 = .ok (.istore_n 1, 1) := by decide +kernel
theorem dX9_takesKey_12 : decode cX9_takesKey 12 = .ok (.iload_n 1, 1) := by decide +kernel
theorem dX9_takesKey_13 : decode cX9_takesKey 13 = .ok (.iconst 3, 1) := by decide +kernel
theorem dX9_takesKey_14 : decode cX9_takesKey 14 = .ok (.if_icmp .ge 113, 3) := by decide +kernel
theorem dX9_takesKey_17 : decode cX9_takesKey 17 = .ok (.aload_n 0, 1) := by decide +kernel
theorem dX9_takesKey_18 : decode cX9_takesKey 18 = .ok (.getfield 33, 3) := by decide +kernel
theorem dX9_takesKey_21 : decode cX9_takesKey 21 = .ok (.iload_n 1, 1) := by decide +kernel
theorem dX9_takesKey_22 : decode cX9_takesKey 22 = .ok (.iconst 1, 1) := by decide +kernel
theorem dX9_takesKey_23 : decode cX9_takesKey 23 = .ok (.iadd, 1) := by decide +kernel
theorem dX9_takesKey_24 : decode cX9_takesKey 24 = .ok (.iaload, 1) := by decide +kernel
theorem dX9_takesKey_25 : decode cX9_takesKey 25 = .ok (.aload_n 0, 1) := by decide +kernel
theorem dX9_takesKey_26 : decode cX9_takesKey 26 = .ok (.getfield 33, 3) := by decide +kernel
theorem dX9_takesKey_29 : decode cX9_takesKey 29 = .ok (.iload_n 1, 1) := by decide +kernel
theorem dX9_takesKey_30 : decode cX9_takesKey 30 = .ok (.iaload, 1) := by decide +kernel
theorem dX9_takesKey_31 : decode cX9_takesKey 31 = .ok (.isub, 1) := by decide +kernel
theorem dX9_takesKey_32 : decode cX9_takesKey 32 = .ok (.istore_n 2, 1) := by decide +kernel
theorem dX9_takesKey_33 : decode cX9_takesKey 33 = .ok (.iload_n 2, 1) := by decide +kernel
theorem dX9_takesKey_34 : decode cX9_takesKey 34 = .ok (.aload_n 0, 1) := by decide +kernel
theorem dX9_takesKey_35 : decode cX9_takesKey 35 = .ok (.getfield 195, 3) := by decide +kernel
theorem dX9_takesKey_38 : decode cX9_takesKey 38 = .ok (.aload_n 0, 1) := by decide +kernel
theorem dX9_takesKey_39 : decode cX9_takesKey 39 = .ok (.getfield 198, 3) := by decide +kernel
theorem dX9_takesKey_42 : decode cX9_takesKey 42 = .ok (.isub, 1) := by decide +kernel
theorem dX9_takesKey_43 : decode cX9_takesKey 43 = .ok (.if_icmp .ne 7, 3) := by decide +kernel
theorem dX9_takesKey_46 : decode cX9_takesKey 46 = .ok (.iconst 1, 1) := by decide +kernel
theorem dX9_takesKey_47 : decode cX9_takesKey 47 = .ok (.goto 4, 3) := by decide +kernel
theorem dX9_takesKey_50 : decode cX9_takesKey 50 = .ok (.iconst 0, 1) := by decide +kernel
theorem dX9_takesKey_51 : decode cX9_takesKey 51 = .ok (.istore_n 3, 1) := by decide +kernel
theorem dX9_takesKey_52 : decode cX9_takesKey 52 = .ok (.iconst 0, 1) := by decide +kernel
theorem dX9_takesKey_53 : decode cX9_takesKey 53 = .ok (.istore 4, 2) := by decide +kernel
theorem dX9_takesKey_55 : decode cX9_takesKey 55 = .ok (.iload 4, 2) := by decide +kernel
theorem dX9_takesKey_57 : decode cX9_takesKey 57 = .ok (.iload_n 2, 1) := by decide +kernel
theorem dX9_takesKey_58 : decode cX9_takesKey 58 = .ok (.if_icmp .ge 48, 3) := by decide +kernel
theorem dX9_takesKey_61 : decode cX9_takesKey 61 = .ok (.iload_n 3, 1) := by decide +kernel
theorem dX9_takesKey_62 : decode cX9_takesKey 62 = .ok (.ifCond .eq 44, 3) := by decide +kernel
theorem dX9_takesKey_65 : decode cX9_takesKey 65 = .ok (.aload_n 0, 1) := by decide +kernel
theorem dX9_takesKey_66 : decode cX9_takesKey 66 = .ok (.getfield 26, 3) := by decide +kernel
theorem dX9_takesKey_69 : decode cX9_takesKey 69 = .ok (.aload_n 0, 1) := by decide +kernel
theorem dX9_takesKey_70 : decode cX9_takesKey 70 = .ok (.getfield 198, 3) := by decide +kernel
theorem dX9_takesKey_73 : decode cX9_takesKey 73 = .ok (.iload 4, 2) := by decide +kernel
theorem dX9_takesKey_75 : decode cX9_takesKey 75 = .ok (.iadd, 1) := by decide +kernel
theorem dX9_takesKey_76 : decode cX9_takesKey 76 = .ok (.iaload, 1) := by decide +kernel
theorem dX9_takesKey_77 : decode cX9_takesKey 77 = .ok (.aload_n 0, 1) := by decide +kernel
theorem dX9_takesKey_78 : decode cX9_takesKey 78 = .ok (.getfield 29, 3) := by decide +kernel
theorem dX9_takesKey_81 : decode cX9_takesKey 81 = .ok (.aload_n 0, 1) := by decide +kernel
theorem dX9_takesKey_82 : decode cX9_takesKey 82 = .ok (.getfield 33, 3) := by decide +kernel
theorem dX9_takesKey_85 : decode cX9_takesKey 85 = .ok (.iload_n 1, 1) := by decide +kernel
theorem dX9_takesKey_86 : decode cX9_takesKey 86 = .ok (.iaload, 1) := by decide +kernel
theorem dX9_takesKey_87 : decode cX9_takesKey 87 = .ok (.iload 4, 2) := by decide +kernel
theorem dX9_takesKey_89 : decode cX9_takesKey 89 = .ok (.iadd, 1) := by decide +kernel
theorem dX9_takesKey_90 : decode cX9_takesKey 90 = .ok (.caload, 1) := by decide +kernel
theorem dX9_takesKey_91 : decode cX9_takesKey 91 = .ok (.if_icmp .ne 7, 3) := by decide +kernel
theorem dX9_takesKey_94 : decode cX9_takesKey 94 = .ok (.iconst 1, 1) := by decide +kernel
theorem dX9_takesKey_95 : decode cX9_takesKey 95 = .ok (.goto 4, 3) := by decide +kernel
theorem dX9_takesKey_98 : decode cX9_takesKey 98 = .ok (.iconst 0, 1) := by decide +kernel
theorem dX9_takesKey_99 : decode cX9_takesKey 99 = .ok (.istore_n 3, 1) := by decide +kernel
theorem dX9_takesKey_100 : decode cX9_takesKey 100 = .ok (.iinc 4 1, 3) := by decide +kernel
theorem dX9_takesKey_103 : decode cX9_takesKey 103 = .ok (.goto (-48), 3) := by decide +kernel
theorem dX9_takesKey_106 : decode cX9_takesKey 106 = .ok (.iload_n 3, 1) := by decide +kernel
theorem dX9_takesKey_107 : decode cX9_takesKey 107 = .ok (.ifCond .eq 14, 3) := by decide +kernel
theorem dX9_takesKey_110 : decode cX9_takesKey 110 = .ok (.aload_n 0, 1) := by decide +kernel
theorem dX9_takesKey_111 : decode cX9_takesKey 111 = .ok (.iload_n 1, 1) := by decide +kernel
theorem dX9_takesKey_112 : decode cX9_takesKey 112 = .ok (.putfield 216, 3) := by decide +kernel
theorem dX9_takesKey_115 : decode cX9_takesKey 115 = .ok (.aload_n 0, 1) := by decide +kernel
theorem dX9_takesKey_116 : decode cX9_takesKey 116 = .ok (.invokevirtual 219, 3) := by decide +kernel
theorem dX9_takesKey_119 : decode cX9_takesKey 119 = .ok (.iconst 1, 1) := by decide +kernel
theorem dX9_takesKey_120 : decode cX9_takesKey 120 = .ok (.ireturn, 1) := by decide +kernel
theorem dX9_takesKey_121 : decode cX9_takesKey 121 = .ok (.iinc 1 1, 3) := by decide +kernel
theorem dX9_takesKey_124 : decode cX9_takesKey 124 = .ok (.goto (-112), 3) := by decide +kernel
theorem dX9_takesKey_127 : decode cX9_takesKey 127 = .ok (.iconst 0, 1) := by decide +kernel
theorem dX9_takesKey_128 : decode cX9_takesKey 128 = .ok (.ireturn, 1) := by decide +kernel
def f_X9_takesKey_99 (fu : Nat) (k_12 : Int32 → Mem → Option (Int32 × Mem)) (k_55 : Int32 → Int32 → Int32 → Int32 → Mem → Option (Int32 × Mem)) (x1 : Int32) (x2 : Int32) (x4 : Int32) (y0 : Int32) (m : Mem) : Option (Int32 × Mem) := seqM (x4 + 1) (fun x_1 : Int32 => k_55 x1 x2 y0 x_1 m)
set_option maxHeartbeats 4000000 in
set_option maxRecDepth 100000 in
theorem w_X9_takesKey_99 {X : TX} {p : Program} {l : Launch} {e : Env} {s : State} {mi : MethodId} {args : Array Value} {below : List Frame} {meth : Method} {c : Code} {Q : State → Prop} {r : Int32} {mE : Mem} (C : Cx X p s mi args c RX9 cX9_takesKey 5) (hq : RetI X p l e (rmD 2) s mi args below meth c cX9_takesKey .boolean Q r mE) {fu : Nat} {k_12 : Int32 → Mem → Option (Int32 × Mem)} (hk_12 : ∀ {x1 : Int32} {m : Mem} {H : Heap} {locs : List Loc} {ls : Array Slot}, k_12 x1 m = some (r, mE) → Wd X s m H locs → lv_has ls 5 [(0, .ref (ad X 20 0)), (1, .int x1)] → W p l e (rmD 2) s mi args below meth c H locs 0 0 Q (F0 mi 12 ls [])) {k_55 : Int32 → Int32 → Int32 → Int32 → Mem → Option (Int32 × Mem)} (hk_55 : ∀ {x1 : Int32} {x2 : Int32} {x3 : Int32} {x4 : Int32} {m : Mem} {H : Heap} {locs : List Loc} {ls : Array Slot}, k_55 x1 x2 x3 x4 m = some (r, mE) → Wd X s m H locs → lv_has ls 5 [(0, .ref (ad X 20 0)), (1, .int x1), (2, .int x2), (3, .int x3), (4, .int x4)] → W p l e (rmD 2) s mi args below meth c H locs 0 0 Q (F0 mi 55 ls [])) {x1 : Int32} {x2 : Int32} {x4 : Int32} {y0 : Int32} {m : Mem} {H : Heap} {locs : List Loc} {ls : Array Slot} (h : f_X9_takesKey_99 fu k_12 k_55 x1 x2 x4 y0 m = some (r, mE))  (hW : Wd X s m H locs) (hl : lv_has ls 5 [(0, .ref (ad X 20 0)), (1, .int x1), (2, .int x2), (4, .int x4)]) : W p l e (rmD 2) s mi args below meth c H locs 0 0 Q (F0 mi 99 ls [.int y0]) := by
  unfold f_X9_takesKey_99 at h
  refine lv_istore_n (lv' := [(3, .int y0), (0, .ref (ad X 20 0)), (1, .int x1), (2, .int x2), (4, .int x4)]) C.1 C.2.1 dX9_takesKey_99 rfl hl (by decide) rfl (fun ls hl => ?_)
  obtain ⟨x_1, e_2, h⟩ := seqM_E h
  refine lv_iinc (v := x_1) (lv' := [(4, .int x_1), (3, .int y0), (0, .ref (ad X 20 0)), (1, .int x1), (2, .int x2)]) C.1 C.2.1 dX9_takesKey_100 hl (k := 4) rfl (by rw [e_2]; rfl) (by decide) rfl (fun ls hl => ?_)
  refine lv_goto (tgt := 55) C.1 C.2.1 dX9_takesKey_103 (by decide) ?_
  exact hk_55 h  hW (lv_sub hl [2, 3, 4, 1, 0] rfl)
def f_X9_takesKey_106 (fu : Nat) (k_12 : Int32 → Mem → Option (Int32 × Mem)) (x1 : Int32) (x3 : Int32) (m : Mem) : Option (Int32 × Mem) := if x3 = 0 then (seqM (x1 + 1) (fun x_1 : Int32 => k_12 x_1 m)) else (seqM (upd m 3008 x1) (fun m_3 : Mem => doV (f_X9_go fu  m_3) (fun m_6 => some (1, m_6))))
set_option maxHeartbeats 4000000 in
set_option maxRecDepth 100000 in
theorem w_X9_takesKey_106 {X : TX} {p : Program} {l : Launch} {e : Env} {s : State} {mi : MethodId} {args : Array Value} {below : List Frame} {meth : Method} {c : Code} {Q : State → Prop} {r : Int32} {mE : Mem} (C : Cx X p s mi args c RX9 cX9_takesKey 5) (hq : RetI X p l e (rmD 2) s mi args below meth c cX9_takesKey .boolean Q r mE) {fu : Nat} {k_12 : Int32 → Mem → Option (Int32 × Mem)} (hk_12 : ∀ {x1 : Int32} {m : Mem} {H : Heap} {locs : List Loc} {ls : Array Slot}, k_12 x1 m = some (r, mE) → Wd X s m H locs → lv_has ls 5 [(0, .ref (ad X 20 0)), (1, .int x1)] → W p l e (rmD 2) s mi args below meth c H locs 0 0 Q (F0 mi 12 ls [])) {x1 : Int32} {x3 : Int32} {m : Mem} {H : Heap} {locs : List Loc} {ls : Array Slot} (h : f_X9_takesKey_106 fu k_12 x1 x3 m = some (r, mE))  (hW : Wd X s m H locs) (hl : lv_has ls 5 [(0, .ref (ad X 20 0)), (1, .int x1), (3, .int x3)]) : W p l e (rmD 2) s mi args below meth c H locs 0 0 Q (F0 mi 106 ls []) := by
  unfold f_X9_takesKey_106 at h
  refine lv_iload_n C.1 C.2.1 dX9_takesKey_106 rfl (lv_at hl 2 rfl) ?_
  refine lv_if_eq (tgt := 121) C.1 C.2.1 dX9_takesKey_107 (by decide) (fun hc_7 => ?_) (fun hc_7 => ?_)
  · have h := ite_t hc_7 h
    obtain ⟨x_1, e_2, h⟩ := seqM_E h
    refine lv_iinc (v := x_1) (lv' := [(1, .int x_1), (0, .ref (ad X 20 0)), (3, .int x3)]) C.1 C.2.1 dX9_takesKey_121 hl (k := 1) rfl (by rw [e_2]; rfl) (by decide) rfl (fun ls hl => ?_)
    refine lv_goto (tgt := 12) C.1 C.2.1 dX9_takesKey_124 (by decide) ?_
    exact hk_12 h  hW (lv_sub hl [1, 0] rfl)
  · have h := ite_f hc_7 h
    refine lv_aload_n C.1 C.2.1 dX9_takesKey_110 rfl (lv_at hl 0 rfl) ?_
    refine lv_iload_n C.1 C.2.1 dX9_takesKey_111 rfl (lv_at hl 1 rfl) ?_
    obtain ⟨m_3, e_4, h⟩ := seqM_E h
    refine zp_X9_key C hW id_20 w_1018 e_4 dX9_takesKey_112 (fun H locs hW => ?_)
    refine lv_aload_n C.1 C.2.1 dX9_takesKey_115 rfl (lv_at hl 0 rfl) ?_
    obtain ⟨m_6, hc_5, h⟩ := doV_E h
    refine zr_cVV C hW (c_X9_go  hc_5 ) k_X9_go (zr_recv C hW id_20 zco_20 rfl) w_1344 ⟨Nat.le_of_ble_eq_true rfl, Nat.le_of_ble_eq_true rfl⟩ ⟨Nat.le_refl 0, Nat.le_refl 0⟩ rfl hl.1 rfl (Nat.le_of_ble_eq_true rfl) dX9_takesKey_116 (fun H locs hW => ?_)
    refine lv_iconst (v := 1) C.1 C.2.1 dX9_takesKey_119 rfl ?_
    exact ret_i h hq rfl hW dX9_takesKey_120
def f_X9_takesKey_55 (fu : Nat) (k_12 : Int32 → Mem → Option (Int32 × Mem)) : Nat → Int32 → Int32 → Int32 → Int32 → Mem → Option (Int32 × Mem)
  | 0, _, _, _, _, _ => none
  | n + 1, x1, x2, x3, x4, m => if x2 ≤ x4 then (f_X9_takesKey_106 fu k_12 x1 x3 m) else (if x3 = 0 then (f_X9_takesKey_106 fu k_12 x1 x3 m) else (chk (inb ((m 3004) + x4) 96) (chk (inb x1 4) (chk (inb ((m (3320 + x1.toNatClampNeg)) + x4) 10) (if (m (3200 + ((m 3004) + x4).toNatClampNeg)) = (m (3300 + ((m (3320 + x1.toNatClampNeg)) + x4).toNatClampNeg)) then (f_X9_takesKey_99 fu k_12 (f_X9_takesKey_55 fu k_12 n) x1 x2 x4 1 m) else (f_X9_takesKey_99 fu k_12 (f_X9_takesKey_55 fu k_12 n) x1 x2 x4 0 m))))))
set_option maxHeartbeats 4000000 in
set_option maxRecDepth 100000 in
theorem w_X9_takesKey_55 {X : TX} {p : Program} {l : Launch} {e : Env} {s : State} {mi : MethodId} {args : Array Value} {below : List Frame} {meth : Method} {c : Code} {Q : State → Prop} {r : Int32} {mE : Mem} (C : Cx X p s mi args c RX9 cX9_takesKey 5) (hq : RetI X p l e (rmD 2) s mi args below meth c cX9_takesKey .boolean Q r mE) {fu : Nat} {k_12 : Int32 → Mem → Option (Int32 × Mem)} (hk_12 : ∀ {x1 : Int32} {m : Mem} {H : Heap} {locs : List Loc} {ls : Array Slot}, k_12 x1 m = some (r, mE) → Wd X s m H locs → lv_has ls 5 [(0, .ref (ad X 20 0)), (1, .int x1)] → W p l e (rmD 2) s mi args below meth c H locs 0 0 Q (F0 mi 12 ls [])) : ∀ (n : Nat) {x1 : Int32} {x2 : Int32} {x3 : Int32} {x4 : Int32} {m : Mem} {H : Heap} {locs : List Loc} {ls : Array Slot}, f_X9_takesKey_55 fu k_12 n x1 x2 x3 x4 m = some (r, mE) → Wd X s m H locs → lv_has ls 5 [(0, .ref (ad X 20 0)), (1, .int x1), (2, .int x2), (3, .int x3), (4, .int x4)] → W p l e (rmD 2) s mi args below meth c H locs 0 0 Q (F0 mi 55 ls []) := by
  intro n
  induction n with
  | zero =>
    intro x1 x2 x3 x4 m H locs ls h hW hl
    rw [f_X9_takesKey_55] at h
    cases h
  | succ n ih =>
    intro x1 x2 x3 x4 m H locs ls h hW hl
    rw [f_X9_takesKey_55] at h
    refine lv_iload C.1 C.2.1 dX9_takesKey_55 (lv_at hl 4 rfl) ?_
    refine lv_iload_n C.1 C.2.1 dX9_takesKey_57 rfl (lv_at hl 2 rfl) ?_
    refine lv_icmp_ge (tgt := 106) C.1 C.2.1 dX9_takesKey_58 (by decide) (fun hc_6 => ?_) (fun hc_6 => ?_)
    · have h := ite_t hc_6 h
      exact w_X9_takesKey_106 C hq hk_12 h  hW (lv_sub hl [0, 1, 3] rfl)
    · have h := ite_f hc_6 h
      refine lv_iload_n C.1 C.2.1 dX9_takesKey_61 rfl (lv_at hl 3 rfl) ?_
      refine lv_if_eq (tgt := 106) C.1 C.2.1 dX9_takesKey_62 (by decide) (fun hc_5 => ?_) (fun hc_5 => ?_)
      · have h := ite_t hc_5 h
        exact w_X9_takesKey_106 C hq hk_12 h  hW (lv_sub hl [0, 1, 3] rfl)
      · have h := ite_f hc_5 h
        refine lv_aload_n C.1 C.2.1 dX9_takesKey_65 rfl (lv_at hl 0 rfl) ?_
        refine zg_X9_tape C hW id_20 w_1011 dX9_takesKey_66 ?_
        refine lv_aload_n C.1 C.2.1 dX9_takesKey_69 rfl (lv_at hl 0 rfl) ?_
        refine zg_X9_from C hW id_20 w_1014 dX9_takesKey_70 ?_
        refine lv_iload C.1 C.2.1 dX9_takesKey_73 (lv_at hl 4 rfl) ?_
        refine lv_iadd C.1 C.2.1 dX9_takesKey_75 ?_
        obtain ⟨hb_1, h⟩ := chk_E h
        refine zal_24 C hW id_24 (inb_E hb_1) dX9_takesKey_76 ?_
        refine lv_aload_n C.1 C.2.1 dX9_takesKey_77 rfl (lv_at hl 0 rfl) ?_
        refine zg_X9_keys C hW id_20 w_1019 dX9_takesKey_78 ?_
        refine lv_aload_n C.1 C.2.1 dX9_takesKey_81 rfl (lv_at hl 0 rfl) ?_
        refine zg_X9_keyAt C hW id_20 w_1020 dX9_takesKey_82 ?_
        refine lv_iload_n C.1 C.2.1 dX9_takesKey_85 rfl (lv_at hl 1 rfl) ?_
        obtain ⟨hb_2, h⟩ := chk_E h
        refine zal_26 C hW id_26 (inb_E hb_2) dX9_takesKey_86 ?_
        refine lv_iload C.1 C.2.1 dX9_takesKey_87 (lv_at hl 4 rfl) ?_
        refine lv_iadd C.1 C.2.1 dX9_takesKey_89 ?_
        obtain ⟨hb_3, h⟩ := chk_E h
        refine zal_25 C hW id_25 (inb_E hb_3) dX9_takesKey_90 ?_
        refine lv_icmp_ne (tgt := 98) C.1 C.2.1 dX9_takesKey_91 (by decide) (fun hc_4 => ?_) (fun hc_4 => ?_)
        · have h := ite_f hc_4 h
          refine lv_iconst (v := 0) C.1 C.2.1 dX9_takesKey_98 rfl ?_
          exact w_X9_takesKey_99 C hq hk_12 ih h  hW (lv_sub hl [0, 1, 2, 4] rfl)
        · have h := ite_t hc_4 h
          refine lv_iconst (v := 1) C.1 C.2.1 dX9_takesKey_94 rfl ?_
          refine lv_goto (tgt := 99) C.1 C.2.1 dX9_takesKey_95 (by decide) ?_
          exact w_X9_takesKey_99 C hq hk_12 ih h  hW (lv_sub hl [0, 1, 2, 4] rfl)
def f_X9_takesKey_51 (fu : Nat) (k_12 : Int32 → Mem → Option (Int32 × Mem)) (x1 : Int32) (x2 : Int32) (y0 : Int32) (m : Mem) : Option (Int32 × Mem) := f_X9_takesKey_55 fu k_12 fu x1 x2 y0 0 m
set_option maxHeartbeats 4000000 in
set_option maxRecDepth 100000 in
theorem w_X9_takesKey_51 {X : TX} {p : Program} {l : Launch} {e : Env} {s : State} {mi : MethodId} {args : Array Value} {below : List Frame} {meth : Method} {c : Code} {Q : State → Prop} {r : Int32} {mE : Mem} (C : Cx X p s mi args c RX9 cX9_takesKey 5) (hq : RetI X p l e (rmD 2) s mi args below meth c cX9_takesKey .boolean Q r mE) {fu : Nat} {k_12 : Int32 → Mem → Option (Int32 × Mem)} (hk_12 : ∀ {x1 : Int32} {m : Mem} {H : Heap} {locs : List Loc} {ls : Array Slot}, k_12 x1 m = some (r, mE) → Wd X s m H locs → lv_has ls 5 [(0, .ref (ad X 20 0)), (1, .int x1)] → W p l e (rmD 2) s mi args below meth c H locs 0 0 Q (F0 mi 12 ls [])) {x1 : Int32} {x2 : Int32} {y0 : Int32} {m : Mem} {H : Heap} {locs : List Loc} {ls : Array Slot} (h : f_X9_takesKey_51 fu k_12 x1 x2 y0 m = some (r, mE))  (hW : Wd X s m H locs) (hl : lv_has ls 5 [(0, .ref (ad X 20 0)), (1, .int x1), (2, .int x2)]) : W p l e (rmD 2) s mi args below meth c H locs 0 0 Q (F0 mi 51 ls [.int y0]) := by
  unfold f_X9_takesKey_51 at h
  refine lv_istore_n (lv' := [(3, .int y0), (0, .ref (ad X 20 0)), (1, .int x1), (2, .int x2)]) C.1 C.2.1 dX9_takesKey_51 rfl hl (by decide) rfl (fun ls hl => ?_)
  refine lv_iconst (v := 0) C.1 C.2.1 dX9_takesKey_52 rfl ?_
  refine lv_istore (lv' := [(4, .int 0), (3, .int y0), (0, .ref (ad X 20 0)), (1, .int x1), (2, .int x2)]) C.1 C.2.1 dX9_takesKey_53 hl (by decide) rfl (fun ls hl => ?_)
  exact w_X9_takesKey_55 C hq hk_12 fu h  hW (lv_sub hl [2, 3, 4, 1, 0] rfl)
def f_X9_takesKey_12 (fu : Nat)  : Nat → Int32 → Mem → Option (Int32 × Mem)
  | 0, _, _ => none
  | n + 1, x1, m => if 3 ≤ x1 then (some (0, m)) else (chk (inb (x1 + 1) 4) (chk (inb x1 4) (seqM ((m (3320 + (x1 + 1).toNatClampNeg)) - (m (3320 + x1.toNatClampNeg))) (fun x_3 : Int32 => if x_3 = ((m 3003) - (m 3004)) then (f_X9_takesKey_51 fu (f_X9_takesKey_12 fu n) x1 x_3 1 m) else (f_X9_takesKey_51 fu (f_X9_takesKey_12 fu n) x1 x_3 0 m)))))
set_option maxHeartbeats 4000000 in
set_option maxRecDepth 100000 in
theorem w_X9_takesKey_12 {X : TX} {p : Program} {l : Launch} {e : Env} {s : State} {mi : MethodId} {args : Array Value} {below : List Frame} {meth : Method} {c : Code} {Q : State → Prop} {r : Int32} {mE : Mem} (C : Cx X p s mi args c RX9 cX9_takesKey 5) (hq : RetI X p l e (rmD 2) s mi args below meth c cX9_takesKey .boolean Q r mE) {fu : Nat} : ∀ (n : Nat) {x1 : Int32} {m : Mem} {H : Heap} {locs : List Loc} {ls : Array Slot}, f_X9_takesKey_12 fu n x1 m = some (r, mE) → Wd X s m H locs → lv_has ls 5 [(0, .ref (ad X 20 0)), (1, .int x1)] → W p l e (rmD 2) s mi args below meth c H locs 0 0 Q (F0 mi 12 ls []) := by
  intro n
  induction n with
  | zero =>
    intro x1 m H locs ls h hW hl
    rw [f_X9_takesKey_12] at h
    cases h
  | succ n ih =>
    intro x1 m H locs ls h hW hl
    rw [f_X9_takesKey_12] at h
    refine lv_iload_n C.1 C.2.1 dX9_takesKey_12 rfl (lv_at hl 1 rfl) ?_
    refine lv_iconst (v := 3) C.1 C.2.1 dX9_takesKey_13 rfl ?_
    refine lv_icmp_ge (tgt := 127) C.1 C.2.1 dX9_takesKey_14 (by decide) (fun hc_6 => ?_) (fun hc_6 => ?_)
    · have h := ite_t hc_6 h
      refine lv_iconst (v := 0) C.1 C.2.1 dX9_takesKey_127 rfl ?_
      exact ret_i h hq rfl hW dX9_takesKey_128
    · have h := ite_f hc_6 h
      refine lv_aload_n C.1 C.2.1 dX9_takesKey_17 rfl (lv_at hl 0 rfl) ?_
      refine zg_X9_keyAt C hW id_20 w_1020 dX9_takesKey_18 ?_
      refine lv_iload_n C.1 C.2.1 dX9_takesKey_21 rfl (lv_at hl 1 rfl) ?_
      refine lv_iconst (v := 1) C.1 C.2.1 dX9_takesKey_22 rfl ?_
      refine lv_iadd C.1 C.2.1 dX9_takesKey_23 ?_
      obtain ⟨hb_1, h⟩ := chk_E h
      refine zal_26 C hW id_26 (inb_E hb_1) dX9_takesKey_24 ?_
      refine lv_aload_n C.1 C.2.1 dX9_takesKey_25 rfl (lv_at hl 0 rfl) ?_
      refine zg_X9_keyAt C hW id_20 w_1020 dX9_takesKey_26 ?_
      refine lv_iload_n C.1 C.2.1 dX9_takesKey_29 rfl (lv_at hl 1 rfl) ?_
      obtain ⟨hb_2, h⟩ := chk_E h
      refine zal_26 C hW id_26 (inb_E hb_2) dX9_takesKey_30 ?_
      refine lv_isub C.1 C.2.1 dX9_takesKey_31 ?_
      obtain ⟨x_3, e_4, h⟩ := seqM_E h
      refine lv_name e_4 ?_
      refine lv_istore_n (lv' := [(2, .int x_3), (0, .ref (ad X 20 0)), (1, .int x1)]) C.1 C.2.1 dX9_takesKey_32 rfl hl (by decide) rfl (fun ls hl => ?_)
      refine lv_iload_n C.1 C.2.1 dX9_takesKey_33 rfl (lv_at hl 0 rfl) ?_
      refine lv_aload_n C.1 C.2.1 dX9_takesKey_34 rfl (lv_at hl 1 rfl) ?_
      refine zg_X9_next C hW id_20 w_1013 dX9_takesKey_35 ?_
      refine lv_aload_n C.1 C.2.1 dX9_takesKey_38 rfl (lv_at hl 1 rfl) ?_
      refine zg_X9_from C hW id_20 w_1014 dX9_takesKey_39 ?_
      refine lv_isub C.1 C.2.1 dX9_takesKey_42 ?_
      refine lv_icmp_ne (tgt := 50) C.1 C.2.1 dX9_takesKey_43 (by decide) (fun hc_5 => ?_) (fun hc_5 => ?_)
      · have h := ite_f hc_5 h
        refine lv_iconst (v := 0) C.1 C.2.1 dX9_takesKey_50 rfl ?_
        exact w_X9_takesKey_51 C hq ih h  hW (lv_sub hl [1, 2, 0] rfl)
      · have h := ite_t hc_5 h
        refine lv_iconst (v := 1) C.1 C.2.1 dX9_takesKey_46 rfl ?_
        refine lv_goto (tgt := 51) C.1 C.2.1 dX9_takesKey_47 (by decide) ?_
        exact w_X9_takesKey_51 C hq ih h  hW (lv_sub hl [1, 2, 0] rfl)
def f_X9_takesKey (fu : Nat)   (m : Mem) : Option (Int32 × Mem) := if (m 3005) = 1 then (f_X9_takesKey_12 fu fu 0 m) else (some (0, m))
set_option maxHeartbeats 4000000 in
set_option maxRecDepth 100000 in
theorem w_X9_takesKey {X : TX} {p : Program} {l : Launch} {e : Env} {s : State} {mi : MethodId} {args : Array Value} {below : List Frame} {meth : Method} {c : Code} {Q : State → Prop} {r : Int32} {mE : Mem} (C : Cx X p s mi args c RX9 cX9_takesKey 5) (hq : RetI X p l e (rmD 2) s mi args below meth c cX9_takesKey .boolean Q r mE) {fu : Nat}  {m : Mem} {H : Heap} {locs : List Loc} {ls : Array Slot} (h : f_X9_takesKey fu  m = some (r, mE))  (hW : Wd X s m H locs) (hl : lv_has ls 5 [(0, .ref (ad X 20 0))]) : W p l e (rmD 2) s mi args below meth c H locs 0 0 Q (F0 mi 0 ls []) := by
  unfold f_X9_takesKey at h
  refine lv_aload_n C.1 C.2.1 dX9_takesKey_0 rfl (lv_at hl 0 rfl) ?_
  refine zg_X9_token C hW id_20 w_1015 dX9_takesKey_1 ?_
  refine lv_iconst (v := 1) C.1 C.2.1 dX9_takesKey_4 rfl ?_
  refine lv_icmp_eq (tgt := 10) C.1 C.2.1 dX9_takesKey_5 (by decide) (fun hc_1 => ?_) (fun hc_1 => ?_)
  · have h := ite_t hc_1 h
    refine lv_iconst (v := 0) C.1 C.2.1 dX9_takesKey_10 rfl ?_
    refine lv_istore_n (lv' := [(1, .int 0), (0, .ref (ad X 20 0))]) C.1 C.2.1 dX9_takesKey_11 rfl hl (by decide) rfl (fun ls hl => ?_)
    exact w_X9_takesKey_12 C hq  fu h  hW (lv_sub hl [1, 0] rfl)
  · have h := ite_f hc_1 h
    refine lv_iconst (v := 0) C.1 C.2.1 dX9_takesKey_8 rfl ?_
    exact ret_i h hq rfl hW dX9_takesKey_9
theorem c_X9_takesKey {X : TX} {l : Launch} {fu : Nat}  {m mE : Mem} {r : Int32} (h : f_X9_takesKey fu  m = some (r, mE))  : MetI X l yX9_takesKey cX9_takesKey 5 .boolean 2 [.ref (ad X 20 0)] m r mE :=
  met_I (by decide) (Nat.le_of_ble_eq_true rfl) (fun p e s mi args below meth c ls Q C hq hW hl => w_X9_takesKey C hq h  hW (lv_sub hl [0] rfl))
theorem k_X9_takesKey : CalV yX9_takesKey cX9_takesKey 5 (some .boolean) RX9 0 := ⟨w_1358, w_53, w_70, w_1359, by decide +kernel⟩
theorem dX9_nameOf_0 : decode cX9_nameOf 0 = .ok (.aload_n 0, 1) := by decide +kernel
theorem dX9_nameOf_1 : decode cX9_nameOf 1 = .ok (.getfield 216, 3) := by decide +kernel
theorem dX9_nameOf_4 : decode cX9_nameOf 4 = .ok (.lookupswitch 82 #[(0, 28), (1, 60)], 28) := by decide +kernel
theorem dX9_nameOf_32 : decode cX9_nameOf 32 = .ok (.iload_n 1, 1) := by decide +kernel
theorem dX9_nameOf_33 : decode cX9_nameOf 33 = .ok (.bipush 115, 2) := by decide +kernel
theorem dX9_nameOf_35 : decode cX9_nameOf 35 = .ok (.if_icmp .ne 7, 3) := by decide +kernel
theorem dX9_nameOf_38 : decode cX9_nameOf 38 = .ok (.iconst 0, 1) := by decide +kernel
theorem dX9_nameOf_39 : decode cX9_nameOf 39 = .ok (.goto 24, 3) := by decide +kernel
theorem dX9_nameOf_42 : decode cX9_nameOf 42 = .ok (.iload_n 1, 1) := by decide +kernel
theorem dX9_nameOf_43 : decode cX9_nameOf 43 = .ok (.bipush 108, 2) := by decide +kernel
theorem dX9_nameOf_45 : decode cX9_nameOf 45 = .ok (.if_icmp .ne 7, 3) := by decide +kernel
theorem dX9_nameOf_48 : decode cX9_nameOf 48 = .ok (.iconst 1, 1) := by decide +kernel
theorem dX9_nameOf_49 : decode cX9_nameOf 49 = .ok (.goto 14, 3) := by decide +kernel
theorem dX9_nameOf_52 : decode cX9_nameOf 52 = .ok (.iload_n 1, 1) := by decide +kernel
theorem dX9_nameOf_53 : decode cX9_nameOf 53 = .ok (.bipush 104, 2) := by decide +kernel
theorem dX9_nameOf_55 : decode cX9_nameOf 55 = .ok (.if_icmp .ne 7, 3) := by decide +kernel
theorem dX9_nameOf_58 : decode cX9_nameOf 58 = .ok (.iconst 2, 1) := by decide +kernel
theorem dX9_nameOf_59 : decode cX9_nameOf 59 = .ok (.goto 4, 3) := by decide +kernel
theorem dX9_nameOf_62 : decode cX9_nameOf 62 = .ok (.iconst (-1), 1) := by decide +kernel
theorem dX9_nameOf_63 : decode cX9_nameOf 63 = .ok (.ireturn, 1) := by decide +kernel
theorem dX9_nameOf_64 : decode cX9_nameOf 64 = .ok (.iload_n 1, 1) := by decide +kernel
theorem dX9_nameOf_65 : decode cX9_nameOf 65 = .ok (.bipush 115, 2) := by decide +kernel
theorem dX9_nameOf_67 : decode cX9_nameOf 67 = .ok (.if_icmp .ne 7, 3) := by decide +kernel
theorem dX9_nameOf_70 : decode cX9_nameOf 70 = .ok (.iconst 0, 1) := by decide +kernel
theorem dX9_nameOf_71 : decode cX9_nameOf 71 = .ok (.goto 14, 3) := by decide +kernel
theorem dX9_nameOf_74 : decode cX9_nameOf 74 = .ok (.iload_n 1, 1) := by decide +kernel
theorem dX9_nameOf_75 : decode cX9_nameOf 75 = .ok (.bipush 99, 2) := by decide +kernel
theorem dX9_nameOf_77 : decode cX9_nameOf 77 = .ok (.if_icmp .ne 7, 3) := by decide +kernel
theorem dX9_nameOf_80 : decode cX9_nameOf 80 = .ok (.iconst 1, 1) := by decide +kernel
theorem dX9_nameOf_81 : decode cX9_nameOf 81 = .ok (.goto 4, 3) := by decide +kernel
theorem dX9_nameOf_84 : decode cX9_nameOf 84 = .ok (.iconst (-1), 1) := by decide +kernel
theorem dX9_nameOf_85 : decode cX9_nameOf 85 = .ok (.ireturn, 1) := by decide +kernel
theorem dX9_nameOf_86 : decode cX9_nameOf 86 = .ok (.iload_n 1, 1) := by decide +kernel
theorem dX9_nameOf_87 : decode cX9_nameOf 87 = .ok (.bipush 115, 2) := by decide +kernel
theorem dX9_nameOf_89 : decode cX9_nameOf 89 = .ok (.if_icmp .ne 7, 3) := by decide +kernel
theorem dX9_nameOf_92 : decode cX9_nameOf 92 = .ok (.iconst 0, 1) := by decide +kernel
theorem dX9_nameOf_93 : decode cX9_nameOf 93 = .ok (.goto 14, 3) := by decide +kernel
theorem dX9_nameOf_96 : decode cX9_nameOf 96 = .ok (.iload_n 1, 1) := by decide +kernel
theorem dX9_nameOf_97 : decode cX9_nameOf 97 = .ok (.bipush 108, 2) := by decide +kernel
theorem dX9_nameOf_99 : decode cX9_nameOf 99 = .ok (.if_icmp .ne 7, 3) := by decide +kernel
theorem dX9_nameOf_102 : decode cX9_nameOf 102 = .ok (.iconst 1, 1) := by decide +kernel
theorem dX9_nameOf_103 : decode cX9_nameOf 103 = .ok (.goto 4, 3) := by decide +kernel
theorem dX9_nameOf_106 : decode cX9_nameOf 106 = .ok (.iconst (-1), 1) := by decide +kernel
theorem dX9_nameOf_107 : decode cX9_nameOf 107 = .ok (.ireturn, 1) := by decide +kernel
def f_X9_nameOf (fu : Nat)  (x1 : Int32) (m : Mem) : Option (Int32 × Mem) := seqM (m 3008) (fun x_1 : Int32 => if x_1 = 0 then (if x1 = 115 then (some (0, m)) else (if x1 = 108 then (some (1, m)) else (if x1 = 104 then (some (2, m)) else (some ((-1), m))))) else (if x_1 = 1 then (if x1 = 115 then (some (0, m)) else (if x1 = 99 then (some (1, m)) else (some ((-1), m)))) else (if x1 = 115 then (some (0, m)) else (if x1 = 108 then (some (1, m)) else (some ((-1), m))))))
set_option maxHeartbeats 4000000 in
set_option maxRecDepth 100000 in
theorem w_X9_nameOf {X : TX} {p : Program} {l : Launch} {e : Env} {s : State} {mi : MethodId} {args : Array Value} {below : List Frame} {meth : Method} {c : Code} {Q : State → Prop} {r : Int32} {mE : Mem} (C : Cx X p s mi args c RX9 cX9_nameOf 2) (hq : RetI X p l e (rmD 0) s mi args below meth c cX9_nameOf .int Q r mE) {fu : Nat} {x1 : Int32} {m : Mem} {H : Heap} {locs : List Loc} {ls : Array Slot} (h : f_X9_nameOf fu x1 m = some (r, mE))  (hW : Wd X s m H locs) (hl : lv_has ls 2 [(0, .ref (ad X 20 0)), (1, .int x1)]) : W p l e (rmD 0) s mi args below meth c H locs 0 0 Q (F0 mi 0 ls []) := by
  unfold f_X9_nameOf at h
  refine lv_aload_n C.1 C.2.1 dX9_nameOf_0 rfl (lv_at hl 0 rfl) ?_
  refine zg_X9_key C hW id_20 w_1018 dX9_nameOf_1 ?_
  obtain ⟨x_1, e_2, h⟩ := seqM_E h
  refine lv_name e_2 ?_
  by_cases hc_6 : x_1 = 0
  · have h := ite_t hc_6 h
    refine lv_lookup (tgt := 32) (off := 28) C.1 C.2.1 dX9_nameOf_4 (by decide) (by first | (rw [hc_6]; done) | (rw [hc_6]; decide) | (rw [hc_6]; rfl)) (by decide) ?_
    refine lv_iload_n C.1 C.2.1 dX9_nameOf_32 rfl (lv_at hl 1 rfl) ?_
    refine lv_bipush (v := 115) C.1 C.2.1 dX9_nameOf_33 rfl ?_
    refine lv_icmp_ne (tgt := 42) C.1 C.2.1 dX9_nameOf_35 (by decide) (fun hc_5 => ?_) (fun hc_5 => ?_)
    · have h := ite_f hc_5 h
      refine lv_iload_n C.1 C.2.1 dX9_nameOf_42 rfl (lv_at hl 1 rfl) ?_
      refine lv_bipush (v := 108) C.1 C.2.1 dX9_nameOf_43 rfl ?_
      refine lv_icmp_ne (tgt := 52) C.1 C.2.1 dX9_nameOf_45 (by decide) (fun hc_4 => ?_) (fun hc_4 => ?_)
      · have h := ite_f hc_4 h
        refine lv_iload_n C.1 C.2.1 dX9_nameOf_52 rfl (lv_at hl 1 rfl) ?_
        refine lv_bipush (v := 104) C.1 C.2.1 dX9_nameOf_53 rfl ?_
        refine lv_icmp_ne (tgt := 62) C.1 C.2.1 dX9_nameOf_55 (by decide) (fun hc_3 => ?_) (fun hc_3 => ?_)
        · have h := ite_f hc_3 h
          refine lv_iconst (v := (-1)) C.1 C.2.1 dX9_nameOf_62 rfl ?_
          exact ret_i h hq rfl hW dX9_nameOf_63
        · have h := ite_t hc_3 h
          refine lv_iconst (v := 2) C.1 C.2.1 dX9_nameOf_58 rfl ?_
          refine lv_goto (tgt := 63) C.1 C.2.1 dX9_nameOf_59 (by decide) ?_
          exact ret_i h hq rfl hW dX9_nameOf_63
      · have h := ite_t hc_4 h
        refine lv_iconst (v := 1) C.1 C.2.1 dX9_nameOf_48 rfl ?_
        refine lv_goto (tgt := 63) C.1 C.2.1 dX9_nameOf_49 (by decide) ?_
        exact ret_i h hq rfl hW dX9_nameOf_63
    · have h := ite_t hc_5 h
      refine lv_iconst (v := 0) C.1 C.2.1 dX9_nameOf_38 rfl ?_
      refine lv_goto (tgt := 63) C.1 C.2.1 dX9_nameOf_39 (by decide) ?_
      exact ret_i h hq rfl hW dX9_nameOf_63
  · have h := ite_f hc_6 h
    by_cases hc_9 : x_1 = 1
    · have h := ite_t hc_9 h
      refine lv_lookup (tgt := 64) (off := 60) C.1 C.2.1 dX9_nameOf_4 (by decide) (by first | (rw [hc_9]; done) | (rw [hc_9]; decide) | (rw [hc_9]; rfl)) (by decide) ?_
      refine lv_iload_n C.1 C.2.1 dX9_nameOf_64 rfl (lv_at hl 1 rfl) ?_
      refine lv_bipush (v := 115) C.1 C.2.1 dX9_nameOf_65 rfl ?_
      refine lv_icmp_ne (tgt := 74) C.1 C.2.1 dX9_nameOf_67 (by decide) (fun hc_8 => ?_) (fun hc_8 => ?_)
      · have h := ite_f hc_8 h
        refine lv_iload_n C.1 C.2.1 dX9_nameOf_74 rfl (lv_at hl 1 rfl) ?_
        refine lv_bipush (v := 99) C.1 C.2.1 dX9_nameOf_75 rfl ?_
        refine lv_icmp_ne (tgt := 84) C.1 C.2.1 dX9_nameOf_77 (by decide) (fun hc_7 => ?_) (fun hc_7 => ?_)
        · have h := ite_f hc_7 h
          refine lv_iconst (v := (-1)) C.1 C.2.1 dX9_nameOf_84 rfl ?_
          exact ret_i h hq rfl hW dX9_nameOf_85
        · have h := ite_t hc_7 h
          refine lv_iconst (v := 1) C.1 C.2.1 dX9_nameOf_80 rfl ?_
          refine lv_goto (tgt := 85) C.1 C.2.1 dX9_nameOf_81 (by decide) ?_
          exact ret_i h hq rfl hW dX9_nameOf_85
      · have h := ite_t hc_8 h
        refine lv_iconst (v := 0) C.1 C.2.1 dX9_nameOf_70 rfl ?_
        refine lv_goto (tgt := 85) C.1 C.2.1 dX9_nameOf_71 (by decide) ?_
        exact ret_i h hq rfl hW dX9_nameOf_85
    · have h := ite_f hc_9 h
      have nhc_6 := ne_k (0) rfl hc_6
      have nhc_9 := ne_k (1) rfl hc_9
      refine lv_lookup (tgt := 86) (off := 82) C.1 C.2.1 dX9_nameOf_4 (by decide) (by show Op.lookupswitch.offset [(0, 28), (1, 60)] 82 _ = _; rw [Op.lookupswitch.offset_cons, if_neg nhc_6.symm, Op.lookupswitch.offset_cons, if_neg nhc_9.symm, Op.lookupswitch.offset_nil]) (by decide) ?_
      refine lv_iload_n C.1 C.2.1 dX9_nameOf_86 rfl (lv_at hl 1 rfl) ?_
      refine lv_bipush (v := 115) C.1 C.2.1 dX9_nameOf_87 rfl ?_
      refine lv_icmp_ne (tgt := 96) C.1 C.2.1 dX9_nameOf_89 (by decide) (fun hc_11 => ?_) (fun hc_11 => ?_)
      · have h := ite_f hc_11 h
        refine lv_iload_n C.1 C.2.1 dX9_nameOf_96 rfl (lv_at hl 1 rfl) ?_
        refine lv_bipush (v := 108) C.1 C.2.1 dX9_nameOf_97 rfl ?_
        refine lv_icmp_ne (tgt := 106) C.1 C.2.1 dX9_nameOf_99 (by decide) (fun hc_10 => ?_) (fun hc_10 => ?_)
        · have h := ite_f hc_10 h
          refine lv_iconst (v := (-1)) C.1 C.2.1 dX9_nameOf_106 rfl ?_
          exact ret_i h hq rfl hW dX9_nameOf_107
        · have h := ite_t hc_10 h
          refine lv_iconst (v := 1) C.1 C.2.1 dX9_nameOf_102 rfl ?_
          refine lv_goto (tgt := 107) C.1 C.2.1 dX9_nameOf_103 (by decide) ?_
          exact ret_i h hq rfl hW dX9_nameOf_107
      · have h := ite_t hc_11 h
        refine lv_iconst (v := 0) C.1 C.2.1 dX9_nameOf_92 rfl ?_
        refine lv_goto (tgt := 107) C.1 C.2.1 dX9_nameOf_93 (by decide) ?_
        exact ret_i h hq rfl hW dX9_nameOf_107
theorem c_X9_nameOf {X : TX} {l : Launch} {fu : Nat} {x1 : Int32} {m mE : Mem} {r : Int32} (h : f_X9_nameOf fu x1 m = some (r, mE))  : MetI X l yX9_nameOf cX9_nameOf 2 .int 0 [.ref (ad X 20 0), .int x1] m r mE :=
  met_I (by decide) (Nat.le_of_ble_eq_true rfl) (fun p e s mi args below meth c ls Q C hq hW hl => w_X9_nameOf C hq h  hW (lv_sub hl [0, 1] rfl))
theorem k_X9_nameOf : CalV yX9_nameOf cX9_nameOf 2 (some .int) RX9 1 := ⟨w_1370, w_56, w_70, w_1371, by decide +kernel⟩
theorem dX9_rank_0 : decode cX9_rank 0 = .ok (.iload_n 0, 1) := by decide +kernel
theorem dX9_rank_1 : decode cX9_rank 1 = .ok (.iconst (-1), 1) := by decide +kernel
theorem dX9_rank_2 : decode cX9_rank 2 = .ok (.if_icmp .ne 7, 3) := by decide +kernel
theorem dX9_rank_5 : decode cX9_rank 5 = .ok (.iconst 1, 1) := by decide +kernel
theorem dX9_rank_6 : decode cX9_rank 6 = .ok (.goto 45, 3) := by decide +kernel
theorem dX9_rank_9 : decode cX9_rank 9 = .ok (.iload_n 0, 1) := by decide +kernel
theorem dX9_rank_10 : decode cX9_rank 10 = .ok (.bipush (-2), 2) := by decide +kernel
theorem dX9_rank_12 : decode cX9_rank 12 = .ok (.if_icmp .ne 7, 3) := by decide +kernel
theorem dX9_rank_15 : decode cX9_rank 15 = .ok (.iconst 2, 1) := by decide +kernel
theorem dX9_rank_16 : decode cX9_rank 16 = .ok (.goto 35, 3) := by decide +kernel
theorem dX9_rank_19 : decode cX9_rank 19 = .ok (.iload_n 0, 1) := by decide +kernel
theorem dX9_rank_20 : decode cX9_rank 20 = .ok (.bipush (-5), 2) := by decide +kernel
theorem dX9_rank_22 : decode cX9_rank 22 = .ok (.if_icmp .lt 7, 3) := by decide +kernel
theorem dX9_rank_25 : decode cX9_rank 25 = .ok (.iconst 3, 1) := by decide +kernel
theorem dX9_rank_26 : decode cX9_rank 26 = .ok (.goto 25, 3) := by decide +kernel
theorem dX9_rank_29 : decode cX9_rank 29 = .ok (.iload_n 0, 1) := by decide +kernel
theorem dX9_rank_30 : decode cX9_rank 30 = .ok (.bipush (-7), 2) := by decide +kernel
theorem dX9_rank_32 : decode cX9_rank 32 = .ok (.if_icmp .lt 7, 3) := by decide +kernel
theorem dX9_rank_35 : decode cX9_rank 35 = .ok (.iconst 4, 1) := by decide +kernel
theorem dX9_rank_36 : decode cX9_rank 36 = .ok (.goto 15, 3) := by decide +kernel
theorem dX9_rank_39 : decode cX9_rank 39 = .ok (.iload_n 0, 1) := by decide +kernel
theorem dX9_rank_40 : decode cX9_rank 40 = .ok (.bipush (-9), 2) := by decide +kernel
theorem dX9_rank_42 : decode cX9_rank 42 = .ok (.if_icmp .lt 7, 3) := by decide +kernel
theorem dX9_rank_45 : decode cX9_rank 45 = .ok (.iconst 5, 1) := by decide +kernel
theorem dX9_rank_46 : decode cX9_rank 46 = .ok (.goto 5, 3) := by decide +kernel
theorem dX9_rank_49 : decode cX9_rank 49 = .ok (.bipush 6, 2) := by decide +kernel
theorem dX9_rank_51 : decode cX9_rank 51 = .ok (.ireturn, 1) := by decide +kernel
def f_X9_rank (fu : Nat)  (x0 : Int32) (m : Mem) : Option (Int32 × Mem) := if x0 = (-1) then (some (1, m)) else (if x0 = (-2) then (some (2, m)) else (if x0 < (-5) then (if x0 < (-7) then (if x0 < (-9) then (some (6, m)) else (some (5, m))) else (some (4, m))) else (some (3, m))))
set_option maxHeartbeats 4000000 in
set_option maxRecDepth 100000 in
theorem w_X9_rank {X : TX} {p : Program} {l : Launch} {e : Env} {s : State} {mi : MethodId} {args : Array Value} {below : List Frame} {meth : Method} {c : Code} {Q : State → Prop} {r : Int32} {mE : Mem} (C : Cx X p s mi args c RX9 cX9_rank 1) (hq : RetI X p l e (rmD 0) s mi args below meth c cX9_rank .int Q r mE) {fu : Nat} {x0 : Int32} {m : Mem} {H : Heap} {locs : List Loc} {ls : Array Slot} (h : f_X9_rank fu x0 m = some (r, mE))  (hW : Wd X s m H locs) (hl : lv_has ls 1 [(0, .int x0)]) : W p l e (rmD 0) s mi args below meth c H locs 0 0 Q (F0 mi 0 ls []) := by
  unfold f_X9_rank at h
  refine lv_iload_n C.1 C.2.1 dX9_rank_0 rfl (lv_at hl 0 rfl) ?_
  refine lv_iconst (v := (-1)) C.1 C.2.1 dX9_rank_1 rfl ?_
  refine lv_icmp_ne (tgt := 9) C.1 C.2.1 dX9_rank_2 (by decide) (fun hc_5 => ?_) (fun hc_5 => ?_)
  · have h := ite_f hc_5 h
    refine lv_iload_n C.1 C.2.1 dX9_rank_9 rfl (lv_at hl 0 rfl) ?_
    refine lv_bipush (v := (-2)) C.1 C.2.1 dX9_rank_10 rfl ?_
    refine lv_icmp_ne (tgt := 19) C.1 C.2.1 dX9_rank_12 (by decide) (fun hc_4 => ?_) (fun hc_4 => ?_)
    · have h := ite_f hc_4 h
      refine lv_iload_n C.1 C.2.1 dX9_rank_19 rfl (lv_at hl 0 rfl) ?_
      refine lv_bipush (v := (-5)) C.1 C.2.1 dX9_rank_20 rfl ?_
      refine lv_icmp_lt (tgt := 29) C.1 C.2.1 dX9_rank_22 (by decide) (fun hc_3 => ?_) (fun hc_3 => ?_)
      · have h := ite_t hc_3 h
        refine lv_iload_n C.1 C.2.1 dX9_rank_29 rfl (lv_at hl 0 rfl) ?_
        refine lv_bipush (v := (-7)) C.1 C.2.1 dX9_rank_30 rfl ?_
        refine lv_icmp_lt (tgt := 39) C.1 C.2.1 dX9_rank_32 (by decide) (fun hc_2 => ?_) (fun hc_2 => ?_)
        · have h := ite_t hc_2 h
          refine lv_iload_n C.1 C.2.1 dX9_rank_39 rfl (lv_at hl 0 rfl) ?_
          refine lv_bipush (v := (-9)) C.1 C.2.1 dX9_rank_40 rfl ?_
          refine lv_icmp_lt (tgt := 49) C.1 C.2.1 dX9_rank_42 (by decide) (fun hc_1 => ?_) (fun hc_1 => ?_)
          · have h := ite_t hc_1 h
            refine lv_bipush (v := 6) C.1 C.2.1 dX9_rank_49 rfl ?_
            exact ret_i h hq rfl hW dX9_rank_51
          · have h := ite_f hc_1 h
            refine lv_iconst (v := 5) C.1 C.2.1 dX9_rank_45 rfl ?_
            refine lv_goto (tgt := 51) C.1 C.2.1 dX9_rank_46 (by decide) ?_
            exact ret_i h hq rfl hW dX9_rank_51
        · have h := ite_f hc_2 h
          refine lv_iconst (v := 4) C.1 C.2.1 dX9_rank_35 rfl ?_
          refine lv_goto (tgt := 51) C.1 C.2.1 dX9_rank_36 (by decide) ?_
          exact ret_i h hq rfl hW dX9_rank_51
      · have h := ite_f hc_3 h
        refine lv_iconst (v := 3) C.1 C.2.1 dX9_rank_25 rfl ?_
        refine lv_goto (tgt := 51) C.1 C.2.1 dX9_rank_26 (by decide) ?_
        exact ret_i h hq rfl hW dX9_rank_51
    · have h := ite_t hc_4 h
      refine lv_iconst (v := 2) C.1 C.2.1 dX9_rank_15 rfl ?_
      refine lv_goto (tgt := 51) C.1 C.2.1 dX9_rank_16 (by decide) ?_
      exact ret_i h hq rfl hW dX9_rank_51
  · have h := ite_t hc_5 h
    refine lv_iconst (v := 1) C.1 C.2.1 dX9_rank_5 rfl ?_
    refine lv_goto (tgt := 51) C.1 C.2.1 dX9_rank_6 (by decide) ?_
    exact ret_i h hq rfl hW dX9_rank_51
theorem c_X9_rank {X : TX} {l : Launch} {fu : Nat} {x0 : Int32} {m mE : Mem} {r : Int32} (h : f_X9_rank fu x0 m = some (r, mE))  : MetI X l yX9_rank cX9_rank 1 .int 0 [.int x0] m r mE :=
  met_I (by decide) (Nat.le_of_ble_eq_true rfl) (fun p e s mi args below meth c ls Q C hq hW hl => w_X9_rank C hq h  hW (lv_sub hl [0] rfl))
theorem k_X9_rank : CalS yX9_rank cX9_rank 1 (some .int) 1 := ⟨w_1377, w_70, w_1378, by decide +kernel⟩
theorem dX9_settle_0 : decode cX9_settle 0 = .ok (.aload_n 0, 1) := by decide +kernel
theorem dX9_settle_1 : decode cX9_settle 1 = .ok (.getfield 222, 3) := by decide +kernel
theorem dX9_settle_4 : decode cX9_settle 4 = .ok (.ifCond .le 78, 3) := by decide +kernel
theorem dX9_settle_7 : decode cX9_settle 7 = .ok (.aload_n 0, 1) := by decide +kernel
theorem dX9_settle_8 : decode cX9_settle 8 = .ok (.getfield 39, 3) := by decide +kernel
theorem dX9_settle_11 : decode cX9_settle 11 = .ok (.aload_n 0, 1) := by decide +kernel
theorem dX9_settle_12 : decode cX9_settle 12 = .ok (.getfield 222, 3) := by decide +kernel
theorem dX9_settle_15 : decode cX9_settle 15 = .ok (.iconst 1, 1) := by decide +kernel
theorem dX9_settle_16 : decode cX9_settle 16 = .ok (.isub, 1) := by decide +kernel
theorem dX9_settle_17 : decode cX9_settle 17 = .ok (.iaload, 1) := by decide +kernel
theorem dX9_settle_18 : decode cX9_settle 18 = .ok (.bipush (-11), 2) := by decide +kernel
theorem dX9_settle_20 : decode cX9_settle 20 = .ok (.if_icmp .eq 62, 3) := by decide +kernel
theorem dX9_settle_23 : decode cX9_settle 23 = .ok (.aload_n 0, 1) := by decide +kernel
theorem dX9_settle_24 : decode cX9_settle 24 = .ok (.getfield 39, 3) := by decide +kernel
theorem dX9_settle_27 : decode cX9_settle 27 = .ok (.aload_n 0, 1) := by decide +kernel
theorem dX9_settle_28 : decode cX9_settle 28 = .ok (.getfield 222, 3) := by decide +kernel
theorem dX9_settle_31 : decode cX9_settle 31 = .ok (.iconst 1, 1) := by decide +kernel
theorem dX9_settle_32 : decode cX9_settle 32 = .ok (.isub, 1) := by decide +kernel
theorem dX9_settle_33 : decode cX9_settle 33 = .ok (.iaload, 1) := by decide +kernel
theorem dX9_settle_34 : decode cX9_settle 34 = .ok (.invokestatic 225, 3) := by decide +kernel
theorem dX9_settle_37 : decode cX9_settle 37 = .ok (.iload_n 1, 1) := by decide +kernel
theorem dX9_settle_38 : decode cX9_settle 38 = .ok (.if_icmp .lt 44, 3) := by decide +kernel
theorem dX9_settle_41 : decode cX9_settle 41 = .ok (.aload_n 0, 1) := by decide +kernel
theorem dX9_settle_42 : decode cX9_settle 42 = .ok (.dup, 1) := by decide +kernel
theorem dX9_settle_43 : decode cX9_settle 43 = .ok (.getfield 222, 3) := by decide +kernel
theorem dX9_settle_46 : decode cX9_settle 46 = .ok (.iconst 1, 1) := by decide +kernel
theorem dX9_settle_47 : decode cX9_settle 47 = .ok (.isub, 1) := by decide +kernel
theorem dX9_settle_48 : decode cX9_settle 48 = .ok (.putfield 222, 3) := by decide +kernel
theorem dX9_settle_51 : decode cX9_settle 51 = .ok (.aload_n 0, 1) := by decide +kernel
theorem dX9_settle_52 : decode cX9_settle 52 = .ok (.getfield 36, 3) := by decide +kernel
theorem dX9_settle_55 : decode cX9_settle 55 = .ok (.aload_n 0, 1) := by decide +kernel
theorem dX9_settle_56 : decode cX9_settle 56 = .ok (.getfield 228, 3) := by decide +kernel
theorem dX9_settle_59 : decode cX9_settle 59 = .ok (.aload_n 0, 1) := by decide +kernel
theorem dX9_settle_60 : decode cX9_settle 60 = .ok (.getfield 39, 3) := by decide +kernel
theorem dX9_settle_63 : decode cX9_settle 63 = .ok (.aload_n 0, 1) := by decide +kernel
theorem dX9_settle_64 : decode cX9_settle 64 = .ok (.getfield 222, 3) := by decide +kernel
theorem dX9_settle_67 : decode cX9_settle 67 = .ok (.iaload, 1) := by decide +kernel
theorem dX9_settle_68 : decode cX9_settle 68 = .ok (.iastore, 1) := by decide +kernel
theorem dX9_settle_69 : decode cX9_settle 69 = .ok (.aload_n 0, 1) := by decide +kernel
theorem dX9_settle_70 : decode cX9_settle 70 = .ok (.dup, 1) := by decide +kernel
theorem dX9_settle_71 : decode cX9_settle 71 = .ok (.getfield 228, 3) := by decide +kernel
theorem dX9_settle_74 : decode cX9_settle 74 = .ok (.iconst 1, 1) := by decide +kernel
theorem dX9_settle_75 : decode cX9_settle 75 = .ok (.iadd, 1) := by decide +kernel
theorem dX9_settle_76 : decode cX9_settle 76 = .ok (.putfield 228, 3) := by decide +kernel
theorem dX9_settle_79 : decode cX9_settle 79 = .ok (.goto (-79), 3) := by decide +kernel
theorem dX9_settle_82 : decode cX9_settle 82 = .ok (.return_, 1) := by decide +kernel
def f_X9_settle_0 (fu : Nat)  : Nat → Int32 → Mem → Option Mem
  | 0, _, _ => none
  | n + 1, x1, m => if (m 3011) ≤ 0 then (some m) else (chk (inb ((m 3011) - 1) 96) (if (m (3500 + ((m 3011) - 1).toNatClampNeg)) = (-11) then (some m) else (chk (inb ((m 3011) - 1) 96) (doI (f_X9_rank fu (m (3500 + ((m 3011) - 1).toNatClampNeg)) m) (fun r_5 m_4 => if r_5 < x1 then (some m_4) else (seqM (upd m_4 3011 ((m_4 3011) - 1)) (fun m_6 : Mem => chk (inb (m_6 3011) 96) (chk (inb (m_6 3009) 96) (seqM (upd m_6 (3400 + (m_6 3009).toNatClampNeg) (m_6 (3500 + (m_6 3011).toNatClampNeg))) (fun m_10 : Mem => seqM (upd m_10 3009 ((m_10 3009) + 1)) (fun m_12 : Mem => f_X9_settle_0 fu n x1 m_12)))))))))))
set_option maxHeartbeats 4000000 in
set_option maxRecDepth 100000 in
theorem w_X9_settle_0 {X : TX} {p : Program} {l : Launch} {e : Env} {s : State} {mi : MethodId} {args : Array Value} {below : List Frame} {meth : Method} {c : Code} {Q : State → Prop} {mE : Mem} (C : Cx X p s mi args c RX9 cX9_settle 2) (hq : RetV X p l e (rmD 1) s mi args below meth c cX9_settle Q mE) {fu : Nat} : ∀ (n : Nat) {x1 : Int32} {m : Mem} {H : Heap} {locs : List Loc} {ls : Array Slot}, f_X9_settle_0 fu n x1 m = some mE → Wd X s m H locs → lv_has ls 2 [(0, .ref (ad X 20 0)), (1, .int x1)] → W p l e (rmD 1) s mi args below meth c H locs 0 0 Q (F0 mi 0 ls []) := by
  intro n
  induction n with
  | zero =>
    intro x1 m H locs ls h hW hl
    rw [f_X9_settle_0] at h
    cases h
  | succ n ih =>
    intro x1 m H locs ls h hW hl
    rw [f_X9_settle_0] at h
    refine lv_aload_n C.1 C.2.1 dX9_settle_0 rfl (lv_at hl 0 rfl) ?_
    refine zg_X9_held C hW id_20 w_1025 dX9_settle_1 ?_
    refine lv_if_le (tgt := 82) C.1 C.2.1 dX9_settle_4 (by decide) (fun hc_16 => ?_) (fun hc_16 => ?_)
    · have h := ite_t hc_16 h
      exact ret_v h hq hW dX9_settle_82
    · have h := ite_f hc_16 h
      refine lv_aload_n C.1 C.2.1 dX9_settle_7 rfl (lv_at hl 0 rfl) ?_
      refine zg_X9_waits C hW id_20 w_1024 dX9_settle_8 ?_
      refine lv_aload_n C.1 C.2.1 dX9_settle_11 rfl (lv_at hl 0 rfl) ?_
      refine zg_X9_held C hW id_20 w_1025 dX9_settle_12 ?_
      refine lv_iconst (v := 1) C.1 C.2.1 dX9_settle_15 rfl ?_
      refine lv_isub C.1 C.2.1 dX9_settle_16 ?_
      obtain ⟨hb_1, h⟩ := chk_E h
      refine zal_28 C hW id_28 (inb_E hb_1) dX9_settle_17 ?_
      refine lv_bipush (v := (-11)) C.1 C.2.1 dX9_settle_18 rfl ?_
      refine lv_icmp_eq (tgt := 82) C.1 C.2.1 dX9_settle_20 (by decide) (fun hc_15 => ?_) (fun hc_15 => ?_)
      · have h := ite_t hc_15 h
        exact ret_v h hq hW dX9_settle_82
      · have h := ite_f hc_15 h
        refine lv_aload_n C.1 C.2.1 dX9_settle_23 rfl (lv_at hl 0 rfl) ?_
        refine zg_X9_waits C hW id_20 w_1024 dX9_settle_24 ?_
        refine lv_aload_n C.1 C.2.1 dX9_settle_27 rfl (lv_at hl 0 rfl) ?_
        refine zg_X9_held C hW id_20 w_1025 dX9_settle_28 ?_
        refine lv_iconst (v := 1) C.1 C.2.1 dX9_settle_31 rfl ?_
        refine lv_isub C.1 C.2.1 dX9_settle_32 ?_
        obtain ⟨hb_2, h⟩ := chk_E h
        refine zal_28 C hW id_28 (inb_E hb_2) dX9_settle_33 ?_
        obtain ⟨r_5, m_4, hc_3, h⟩ := doI_E h
        refine zr_cSI C hW (c_X9_rank (x0 := (m (3500 + ((m 3011) - 1).toNatClampNeg))) hc_3 ) k_X9_rank w_1376 ⟨Nat.le_of_ble_eq_true rfl, Nat.le_of_ble_eq_true rfl⟩ ⟨Nat.le_refl 0, Nat.le_refl 0⟩ rfl hl.1 rfl (Nat.le_of_ble_eq_true rfl) dX9_settle_34 (fun H locs hW => ?_)
        refine lv_iload_n C.1 C.2.1 dX9_settle_37 rfl (lv_at hl 1 rfl) ?_
        refine lv_icmp_lt (tgt := 82) C.1 C.2.1 dX9_settle_38 (by decide) (fun hc_14 => ?_) (fun hc_14 => ?_)
        · have h := ite_t hc_14 h
          exact ret_v h hq hW dX9_settle_82
        · have h := ite_f hc_14 h
          refine lv_aload_n C.1 C.2.1 dX9_settle_41 rfl (lv_at hl 0 rfl) ?_
          refine lv_dup C.1 C.2.1 dX9_settle_42 rfl ?_
          refine zg_X9_held C hW id_20 w_1025 dX9_settle_43 ?_
          refine lv_iconst (v := 1) C.1 C.2.1 dX9_settle_46 rfl ?_
          refine lv_isub C.1 C.2.1 dX9_settle_47 ?_
          obtain ⟨m_6, e_7, h⟩ := seqM_E h
          refine zp_X9_held C hW id_20 w_1025 e_7 dX9_settle_48 (fun H locs hW => ?_)
          refine lv_aload_n C.1 C.2.1 dX9_settle_51 rfl (lv_at hl 0 rfl) ?_
          refine zg_X9_code C hW id_20 w_1021 dX9_settle_52 ?_
          refine lv_aload_n C.1 C.2.1 dX9_settle_55 rfl (lv_at hl 0 rfl) ?_
          refine zg_X9_codes C hW id_20 w_1022 dX9_settle_56 ?_
          refine lv_aload_n C.1 C.2.1 dX9_settle_59 rfl (lv_at hl 0 rfl) ?_
          refine zg_X9_waits C hW id_20 w_1024 dX9_settle_60 ?_
          refine lv_aload_n C.1 C.2.1 dX9_settle_63 rfl (lv_at hl 0 rfl) ?_
          refine zg_X9_held C hW id_20 w_1025 dX9_settle_64 ?_
          obtain ⟨hb_8, h⟩ := chk_E h
          refine zal_28 C hW id_28 (inb_E hb_8) dX9_settle_67 ?_
          obtain ⟨hb_9, h⟩ := chk_E h
          obtain ⟨m_10, e_11, h⟩ := seqM_E h
          refine zas_27 C hW id_27 (inb_E hb_9) e_11 dX9_settle_68 (fun H locs hW => ?_)
          refine lv_aload_n C.1 C.2.1 dX9_settle_69 rfl (lv_at hl 0 rfl) ?_
          refine lv_dup C.1 C.2.1 dX9_settle_70 rfl ?_
          refine zg_X9_codes C hW id_20 w_1022 dX9_settle_71 ?_
          refine lv_iconst (v := 1) C.1 C.2.1 dX9_settle_74 rfl ?_
          refine lv_iadd C.1 C.2.1 dX9_settle_75 ?_
          obtain ⟨m_12, e_13, h⟩ := seqM_E h
          refine zp_X9_codes C hW id_20 w_1022 e_13 dX9_settle_76 (fun H locs hW => ?_)
          refine lv_goto (tgt := 0) C.1 C.2.1 dX9_settle_79 (by decide) ?_
          exact ih h  hW (lv_sub hl [0, 1] rfl)
def f_X9_settle (fu : Nat) (x1 : Int32) (m : Mem) : Option Mem := f_X9_settle_0 fu fu x1 m
theorem c_X9_settle {X : TX} {l : Launch} {fu : Nat} {x1 : Int32} {m mE : Mem} (h : f_X9_settle fu x1 m = some mE)  : MetV X l yX9_settle cX9_settle 2 1 [.ref (ad X 20 0), .int x1] m mE :=
  met_V (by decide) (Nat.le_of_ble_eq_true rfl) (fun p e s mi args below meth c ls Q C hq hW hl => w_X9_settle_0 C hq fu h  hW (lv_sub hl [0, 1] rfl))
theorem k_X9_settle : CalV yX9_settle cX9_settle 2 none RX9 1 := ⟨w_1374, w_57, w_70, w_1375, by decide +kernel⟩
theorem dX9_signHere_0 : decode cX9_signHere 0 = .ok (.aload_n 0, 1) := by decide +kernel
theorem dX9_signHere_1 : decode cX9_signHere 1 = .ok (.getfield 204, 3) := by decide +kernel
theorem dX9_signHere_4 : decode cX9_signHere 4 = .ok (.iconst 3, 1) := by decide +kernel
theorem dX9_signHere_5 : decode cX9_signHere 5 = .ok (.if_icmp .eq 5, 3) := by decide +kernel
theorem dX9_signHere_8 : decode cX9_signHere 8 = .ok (.iconst 0, 1) := by decide +kernel
theorem dX9_signHere_9 : decode cX9_signHere 9 = .ok (.ireturn, 1) := by decide +kernel
theorem dX9_signHere_10 : decode cX9_signHere 10 = .ok (.aload_n 0, 1) := by decide +kernel
theorem dX9_signHere_11 : decode cX9_signHere 11 = .ok (.getfield 210, 3) := by decide +kernel
theorem dX9_signHere_14 : decode cX9_signHere 14 = .ok (.lookupswitch 108 #[(38, 84), (42, 102), (43, 96), (45, 99), (47, 105), (60, 87), (61, 90), (62, 93), (124, 82)], 82) := by decide +kernel
theorem dX9_signHere_96 : decode cX9_signHere 96 = .ok (.iconst (-1), 1) := by decide +kernel
theorem dX9_signHere_97 : decode cX9_signHere 97 = .ok (.ireturn, 1) := by decide +kernel
theorem dX9_signHere_98 : decode cX9_signHere 98 = .ok (.bipush (-2), 2) := by decide +kernel
theorem dX9_signHere_100 : decode cX9_signHere 100 = .ok (.ireturn, 1) := by decide +kernel
theorem dX9_signHere_101 : decode cX9_signHere 101 = .ok (.bipush (-3), 2) := by decide +kernel
theorem dX9_signHere_103 : decode cX9_signHere 103 = .ok (.ireturn, 1) := by decide +kernel
theorem dX9_signHere_104 : decode cX9_signHere 104 = .ok (.bipush (-4), 2) := by decide +kernel
theorem dX9_signHere_106 : decode cX9_signHere 106 = .ok (.ireturn, 1) := by decide +kernel
theorem dX9_signHere_107 : decode cX9_signHere 107 = .ok (.bipush (-5), 2) := by decide +kernel
theorem dX9_signHere_109 : decode cX9_signHere 109 = .ok (.ireturn, 1) := by decide +kernel
theorem dX9_signHere_110 : decode cX9_signHere 110 = .ok (.bipush (-6), 2) := by decide +kernel
theorem dX9_signHere_112 : decode cX9_signHere 112 = .ok (.ireturn, 1) := by decide +kernel
theorem dX9_signHere_113 : decode cX9_signHere 113 = .ok (.bipush (-7), 2) := by decide +kernel
theorem dX9_signHere_115 : decode cX9_signHere 115 = .ok (.ireturn, 1) := by decide +kernel
theorem dX9_signHere_116 : decode cX9_signHere 116 = .ok (.bipush (-8), 2) := by decide +kernel
theorem dX9_signHere_118 : decode cX9_signHere 118 = .ok (.ireturn, 1) := by decide +kernel
theorem dX9_signHere_119 : decode cX9_signHere 119 = .ok (.bipush (-9), 2) := by decide +kernel
theorem dX9_signHere_121 : decode cX9_signHere 121 = .ok (.ireturn, 1) := by decide +kernel
theorem dX9_signHere_122 : decode cX9_signHere 122 = .ok (.iconst 0, 1) := by decide +kernel
theorem dX9_signHere_123 : decode cX9_signHere 123 = .ok (.ireturn, 1) := by decide +kernel
def f_X9_signHere (fu : Nat)   (m : Mem) : Option (Int32 × Mem) := if (m 3005) = 3 then (seqM (m 3006) (fun x_1 : Int32 => if x_1 = 38 then (some ((-2), m)) else (if x_1 = 42 then (some ((-8), m)) else (if x_1 = 43 then (some ((-6), m)) else (if x_1 = 45 then (some ((-7), m)) else (if x_1 = 47 then (some ((-9), m)) else (if x_1 = 60 then (some ((-3), m)) else (if x_1 = 61 then (some ((-4), m)) else (if x_1 = 62 then (some ((-5), m)) else (if x_1 = 124 then (some ((-1), m)) else (some (0, m)))))))))))) else (some (0, m))
set_option maxHeartbeats 4000000 in
set_option maxRecDepth 100000 in
theorem w_X9_signHere {X : TX} {p : Program} {l : Launch} {e : Env} {s : State} {mi : MethodId} {args : Array Value} {below : List Frame} {meth : Method} {c : Code} {Q : State → Prop} {r : Int32} {mE : Mem} (C : Cx X p s mi args c RX9 cX9_signHere 1) (hq : RetI X p l e (rmD 0) s mi args below meth c cX9_signHere .int Q r mE) {fu : Nat}  {m : Mem} {H : Heap} {locs : List Loc} {ls : Array Slot} (h : f_X9_signHere fu  m = some (r, mE))  (hW : Wd X s m H locs) (hl : lv_has ls 1 [(0, .ref (ad X 20 0))]) : W p l e (rmD 0) s mi args below meth c H locs 0 0 Q (F0 mi 0 ls []) := by
  unfold f_X9_signHere at h
  refine lv_aload_n C.1 C.2.1 dX9_signHere_0 rfl (lv_at hl 0 rfl) ?_
  refine zg_X9_token C hW id_20 w_1015 dX9_signHere_1 ?_
  refine lv_iconst (v := 3) C.1 C.2.1 dX9_signHere_4 rfl ?_
  refine lv_icmp_eq (tgt := 10) C.1 C.2.1 dX9_signHere_5 (by decide) (fun hc_12 => ?_) (fun hc_12 => ?_)
  · have h := ite_t hc_12 h
    refine lv_aload_n C.1 C.2.1 dX9_signHere_10 rfl (lv_at hl 0 rfl) ?_
    refine zg_X9_value C hW id_20 w_1016 dX9_signHere_11 ?_
    obtain ⟨x_1, e_2, h⟩ := seqM_E h
    refine lv_name e_2 ?_
    by_cases hc_3 : x_1 = 38
    · have h := ite_t hc_3 h
      refine lv_lookup (tgt := 98) (off := 84) C.1 C.2.1 dX9_signHere_14 (by decide) (by first | (rw [hc_3]; done) | (rw [hc_3]; decide) | (rw [hc_3]; rfl)) (by decide) ?_
      refine lv_bipush (v := (-2)) C.1 C.2.1 dX9_signHere_98 rfl ?_
      exact ret_i h hq rfl hW dX9_signHere_100
    · have h := ite_f hc_3 h
      by_cases hc_4 : x_1 = 42
      · have h := ite_t hc_4 h
        refine lv_lookup (tgt := 116) (off := 102) C.1 C.2.1 dX9_signHere_14 (by decide) (by first | (rw [hc_4]; done) | (rw [hc_4]; decide) | (rw [hc_4]; rfl)) (by decide) ?_
        refine lv_bipush (v := (-8)) C.1 C.2.1 dX9_signHere_116 rfl ?_
        exact ret_i h hq rfl hW dX9_signHere_118
      · have h := ite_f hc_4 h
        by_cases hc_5 : x_1 = 43
        · have h := ite_t hc_5 h
          refine lv_lookup (tgt := 110) (off := 96) C.1 C.2.1 dX9_signHere_14 (by decide) (by first | (rw [hc_5]; done) | (rw [hc_5]; decide) | (rw [hc_5]; rfl)) (by decide) ?_
          refine lv_bipush (v := (-6)) C.1 C.2.1 dX9_signHere_110 rfl ?_
          exact ret_i h hq rfl hW dX9_signHere_112
        · have h := ite_f hc_5 h
          by_cases hc_6 : x_1 = 45
          · have h := ite_t hc_6 h
            refine lv_lookup (tgt := 113) (off := 99) C.1 C.2.1 dX9_signHere_14 (by decide) (by first | (rw [hc_6]; done) | (rw [hc_6]; decide) | (rw [hc_6]; rfl)) (by decide) ?_
            refine lv_bipush (v := (-7)) C.1 C.2.1 dX9_signHere_113 rfl ?_
            exact ret_i h hq rfl hW dX9_signHere_115
          · have h := ite_f hc_6 h
            by_cases hc_7 : x_1 = 47
            · have h := ite_t hc_7 h
              refine lv_lookup (tgt := 119) (off := 105) C.1 C.2.1 dX9_signHere_14 (by decide) (by first | (rw [hc_7]; done) | (rw [hc_7]; decide) | (rw [hc_7]; rfl)) (by decide) ?_
              refine lv_bipush (v := (-9)) C.1 C.2.1 dX9_signHere_119 rfl ?_
              exact ret_i h hq rfl hW dX9_signHere_121
            · have h := ite_f hc_7 h
              by_cases hc_8 : x_1 = 60
              · have h := ite_t hc_8 h
                refine lv_lookup (tgt := 101) (off := 87) C.1 C.2.1 dX9_signHere_14 (by decide) (by first | (rw [hc_8]; done) | (rw [hc_8]; decide) | (rw [hc_8]; rfl)) (by decide) ?_
                refine lv_bipush (v := (-3)) C.1 C.2.1 dX9_signHere_101 rfl ?_
                exact ret_i h hq rfl hW dX9_signHere_103
              · have h := ite_f hc_8 h
                by_cases hc_9 : x_1 = 61
                · have h := ite_t hc_9 h
                  refine lv_lookup (tgt := 104) (off := 90) C.1 C.2.1 dX9_signHere_14 (by decide) (by first | (rw [hc_9]; done) | (rw [hc_9]; decide) | (rw [hc_9]; rfl)) (by decide) ?_
                  refine lv_bipush (v := (-4)) C.1 C.2.1 dX9_signHere_104 rfl ?_
                  exact ret_i h hq rfl hW dX9_signHere_106
                · have h := ite_f hc_9 h
                  by_cases hc_10 : x_1 = 62
                  · have h := ite_t hc_10 h
                    refine lv_lookup (tgt := 107) (off := 93) C.1 C.2.1 dX9_signHere_14 (by decide) (by first | (rw [hc_10]; done) | (rw [hc_10]; decide) | (rw [hc_10]; rfl)) (by decide) ?_
                    refine lv_bipush (v := (-5)) C.1 C.2.1 dX9_signHere_107 rfl ?_
                    exact ret_i h hq rfl hW dX9_signHere_109
                  · have h := ite_f hc_10 h
                    by_cases hc_11 : x_1 = 124
                    · have h := ite_t hc_11 h
                      refine lv_lookup (tgt := 96) (off := 82) C.1 C.2.1 dX9_signHere_14 (by decide) (by first | (rw [hc_11]; done) | (rw [hc_11]; decide) | (rw [hc_11]; rfl)) (by decide) ?_
                      refine lv_iconst (v := (-1)) C.1 C.2.1 dX9_signHere_96 rfl ?_
                      exact ret_i h hq rfl hW dX9_signHere_97
                    · have h := ite_f hc_11 h
                      have nhc_3 := ne_k (38) rfl hc_3
                      have nhc_4 := ne_k (42) rfl hc_4
                      have nhc_5 := ne_k (43) rfl hc_5
                      have nhc_6 := ne_k (45) rfl hc_6
                      have nhc_7 := ne_k (47) rfl hc_7
                      have nhc_8 := ne_k (60) rfl hc_8
                      have nhc_9 := ne_k (61) rfl hc_9
                      have nhc_10 := ne_k (62) rfl hc_10
                      have nhc_11 := ne_k (124) rfl hc_11
                      refine lv_lookup (tgt := 122) (off := 108) C.1 C.2.1 dX9_signHere_14 (by decide) (by show Op.lookupswitch.offset [(38, 84), (42, 102), (43, 96), (45, 99), (47, 105), (60, 87), (61, 90), (62, 93), (124, 82)] 108 _ = _; rw [Op.lookupswitch.offset_cons, if_neg nhc_3.symm, Op.lookupswitch.offset_cons, if_neg nhc_4.symm, Op.lookupswitch.offset_cons, if_neg nhc_5.symm, Op.lookupswitch.offset_cons, if_neg nhc_6.symm, Op.lookupswitch.offset_cons, if_neg nhc_7.symm, Op.lookupswitch.offset_cons, if_neg nhc_8.symm, Op.lookupswitch.offset_cons, if_neg nhc_9.symm, Op.lookupswitch.offset_cons, if_neg nhc_10.symm, Op.lookupswitch.offset_cons, if_neg nhc_11.symm, Op.lookupswitch.offset_nil]) (by decide) ?_
                      refine lv_iconst (v := 0) C.1 C.2.1 dX9_signHere_122 rfl ?_
                      exact ret_i h hq rfl hW dX9_signHere_123
  · have h := ite_f hc_12 h
    refine lv_iconst (v := 0) C.1 C.2.1 dX9_signHere_8 rfl ?_
    exact ret_i h hq rfl hW dX9_signHere_9
theorem c_X9_signHere {X : TX} {l : Launch} {fu : Nat}  {m mE : Mem} {r : Int32} (h : f_X9_signHere fu  m = some (r, mE))  : MetI X l yX9_signHere cX9_signHere 1 .int 0 [.ref (ad X 20 0)] m r mE :=
  met_I (by decide) (Nat.le_of_ble_eq_true rfl) (fun p e s mi args below meth c ls Q C hq hW hl => w_X9_signHere C hq h  hW (lv_sub hl [0] rfl))
theorem k_X9_signHere : CalV yX9_signHere cX9_signHere 1 (some .int) RX9 0 := ⟨w_1385, w_59, w_70, w_1386, by decide +kernel⟩
theorem dX9_takesPart_0 : decode cX9_takesPart 0 = .ok (.aload_n 0, 1) := by decide +kernel
theorem dX9_takesPart_1 : decode cX9_takesPart 1 = .ok (.getfield 204, 3) := by decide +kernel
theorem dX9_takesPart_4 : decode cX9_takesPart 4 = .ok (.iconst 1, 1) := by decide +kernel
theorem dX9_takesPart_5 : decode cX9_takesPart 5 = .ok (.if_icmp .ne 31, 3) := by decide +kernel
theorem dX9_takesPart_8 : decode cX9_takesPart 8 = .ok (.aload_n 0, 1) := by decide +kernel
theorem dX9_takesPart_9 : decode cX9_takesPart 9 = .ok (.getfield 195, 3) := by decide +kernel
theorem dX9_takesPart_12 : decode cX9_takesPart 12 = .ok (.aload_n 0, 1) := by decide +kernel
theorem dX9_takesPart_13 : decode cX9_takesPart 13 = .ok (.getfield 198, 3) := by decide +kernel
theorem dX9_takesPart_16 : decode cX9_takesPart 16 = .ok (.isub, 1) := by decide +kernel
theorem dX9_takesPart_17 : decode cX9_takesPart 17 = .ok (.iconst 1, 1) := by decide +kernel
theorem dX9_takesPart_18 : decode cX9_takesPart 18 = .ok (.if_icmp .ne 18, 3) := by decide +kernel
theorem dX9_takesPart_21 : decode cX9_takesPart 21 = .ok (.aload_n 0, 1) := by decide +kernel
theorem dX9_takesPart_22 : decode cX9_takesPart 22 = .ok (.aload_n 0, 1) := by decide +kernel
theorem dX9_takesPart_23 : decode cX9_takesPart 23 = .ok (.getfield 210, 3) := by decide +kernel
theorem dX9_takesPart_26 : decode cX9_takesPart 26 = .ok (.invokevirtual 231, 3) := by decide +kernel
theorem dX9_takesPart_29 : decode cX9_takesPart 29 = .ok (.ifCond .lt 7, 3) := by decide +kernel
theorem dX9_takesPart_32 : decode cX9_takesPart 32 = .ok (.iconst 1, 1) := by decide +kernel
theorem dX9_takesPart_33 : decode cX9_takesPart 33 = .ok (.goto 4, 3) := by decide +kernel
theorem dX9_takesPart_36 : decode cX9_takesPart 36 = .ok (.iconst 0, 1) := by decide +kernel
theorem dX9_takesPart_37 : decode cX9_takesPart 37 = .ok (.istore_n 1, 1) := by decide +kernel
theorem dX9_takesPart_38 : decode cX9_takesPart 38 = .ok (.aload_n 0, 1) := by decide +kernel
theorem dX9_takesPart_39 : decode cX9_takesPart 39 = .ok (.getfield 204, 3) := by decide +kernel
theorem dX9_takesPart_42 : decode cX9_takesPart 42 = .ok (.iconst 2, 1) := by decide +kernel
theorem dX9_takesPart_43 : decode cX9_takesPart 43 = .ok (.if_icmp .eq 9, 3) := by decide +kernel
theorem dX9_takesPart_46 : decode cX9_takesPart 46 = .ok (.iload_n 1, 1) := by decide +kernel
theorem dX9_takesPart_47 : decode cX9_takesPart 47 = .ok (.ifCond .ne 5, 3) := by decide +kernel
theorem dX9_takesPart_50 : decode cX9_takesPart 50 = .ok (.iconst 0, 1) := by decide +kernel
theorem dX9_takesPart_51 : decode cX9_takesPart 51 = .ok (.ireturn, 1) := by decide +kernel
theorem dX9_takesPart_52 : decode cX9_takesPart 52 = .ok (.aload_n 0, 1) := by decide +kernel
theorem dX9_takesPart_53 : decode cX9_takesPart 53 = .ok (.getfield 36, 3) := by decide +kernel
theorem dX9_takesPart_56 : decode cX9_takesPart 56 = .ok (.aload_n 0, 1) := by decide +kernel
theorem dX9_takesPart_57 : decode cX9_takesPart 57 = .ok (.getfield 228, 3) := by decide +kernel
theorem dX9_takesPart_60 : decode cX9_takesPart 60 = .ok (.aload_n 0, 1) := by decide +kernel
theorem dX9_takesPart_61 : decode cX9_takesPart 61 = .ok (.getfield 204, 3) := by decide +kernel
theorem dX9_takesPart_64 : decode cX9_takesPart 64 = .ok (.iconst 2, 1) := by decide +kernel
theorem dX9_takesPart_65 : decode cX9_takesPart 65 = .ok (.if_icmp .ne 10, 3) := by decide +kernel
theorem dX9_takesPart_68 : decode cX9_takesPart 68 = .ok (.aload_n 0, 1) := by decide +kernel
theorem dX9_takesPart_69 : decode cX9_takesPart 69 = .ok (.getfield 210, 3) := by decide +kernel
theorem dX9_takesPart_72 : decode cX9_takesPart 72 = .ok (.goto 15, 3) := by decide +kernel
theorem dX9_takesPart_75 : decode cX9_takesPart 75 = .ok (.sipush 10000, 3) := by decide +kernel
theorem dX9_takesPart_78 : decode cX9_takesPart 78 = .ok (.aload_n 0, 1) := by decide +kernel
theorem dX9_takesPart_79 : decode cX9_takesPart 79 = .ok (.aload_n 0, 1) := by decide +kernel
theorem dX9_takesPart_80 : decode cX9_takesPart 80 = .ok (.getfield 210, 3) := by decide +kernel
theorem dX9_takesPart_83 : decode cX9_takesPart 83 = .ok (.invokevirtual 231, 3) := by decide +kernel
theorem dX9_takesPart_86 : decode cX9_takesPart 86 = .ok (.iadd, 1) := by decide +kernel
theorem dX9_takesPart_87 : decode cX9_takesPart 87 = .ok (.iastore, 1) := by decide +kernel
theorem dX9_takesPart_88 : decode cX9_takesPart 88 = .ok (.aload_n 0, 1) := by decide +kernel
theorem dX9_takesPart_89 : decode cX9_takesPart 89 = .ok (.dup, 1) := by decide +kernel
theorem dX9_takesPart_90 : decode cX9_takesPart 90 = .ok (.getfield 228, 3) := by decide +kernel
theorem dX9_takesPart_93 : decode cX9_takesPart 93 = .ok (.iconst 1, 1) := by decide +kernel
theorem dX9_takesPart_94 : decode cX9_takesPart 94 = .ok (.iadd, 1) := by decide +kernel
theorem dX9_takesPart_95 : decode cX9_takesPart 95 = .ok (.putfield 228, 3) := by decide +kernel
theorem dX9_takesPart_98 : decode cX9_takesPart 98 = .ok (.aload_n 0, 1) := by decide +kernel
theorem dX9_takesPart_99 : decode cX9_takesPart 99 = .ok (.dup, 1) := by decide +kernel
theorem dX9_takesPart_100 : decode cX9_takesPart 100 = .ok (.getfield 234, 3) := by decide +kernel
theorem dX9_takesPart_103 : decode cX9_takesPart 103 = .ok (.iconst 1, 1) := by decide +kernel
theorem dX9_takesPart_104 : decode cX9_takesPart 104 = .ok (.iadd, 1) := by decide +kernel
theorem dX9_takesPart_105 : decode cX9_takesPart 105 = .ok (.putfield 234, 3) := by decide +kernel
theorem dX9_takesPart_108 : decode cX9_takesPart 108 = .ok (.aload_n 0, 1) := by decide +kernel
theorem dX9_takesPart_109 : decode cX9_takesPart 109 = .ok (.bipush 6, 2) := by decide +kernel
theorem dX9_takesPart_111 : decode cX9_takesPart 111 = .ok (.invokevirtual 237, 3) := by decide +kernel
theorem dX9_takesPart_114 : decode cX9_takesPart 114 = .ok (.aload_n 0, 1) := by decide +kernel
theorem dX9_takesPart_115 : decode cX9_takesPart 115 = .ok (.invokevirtual 219, 3) := by decide +kernel
theorem dX9_takesPart_118 : decode cX9_takesPart 118 = .ok (.iconst 1, 1) := by decide +kernel
theorem dX9_takesPart_119 : decode cX9_takesPart 119 = .ok (.ireturn, 1) := by decide +kernel
def f_X9_takesPart_87 (fu : Nat)  (y1 : Int32) (y2 : Int32) (m : Mem) : Option (Int32 × Mem) := chk (inb y1 96) (seqM (upd m (3400 + y1.toNatClampNeg) y2) (fun m_2 : Mem => seqM (upd m_2 3009 ((m_2 3009) + 1)) (fun m_4 : Mem => seqM (upd m_4 3010 ((m_4 3010) + 1)) (fun m_6 : Mem => doV (f_X9_settle fu 6 m_6) (fun m_9 => doV (f_X9_go fu  m_9) (fun m_11 => some (1, m_11)))))))
set_option maxHeartbeats 4000000 in
set_option maxRecDepth 100000 in
theorem w_X9_takesPart_87 {X : TX} {p : Program} {l : Launch} {e : Env} {s : State} {mi : MethodId} {args : Array Value} {below : List Frame} {meth : Method} {c : Code} {Q : State → Prop} {r : Int32} {mE : Mem} (C : Cx X p s mi args c RX9 cX9_takesPart 2) (hq : RetI X p l e (rmD 2) s mi args below meth c cX9_takesPart .boolean Q r mE) {fu : Nat} {y1 : Int32} {y2 : Int32} {m : Mem} {H : Heap} {locs : List Loc} {ls : Array Slot} (h : f_X9_takesPart_87 fu y1 y2 m = some (r, mE))  (hW : Wd X s m H locs) (hl : lv_has ls 2 [(0, .ref (ad X 20 0))]) : W p l e (rmD 2) s mi args below meth c H locs 0 0 Q (F0 mi 87 ls [.int y2, .int y1, .ref (ad X 27 0)]) := by
  unfold f_X9_takesPart_87 at h
  obtain ⟨hb_1, h⟩ := chk_E h
  obtain ⟨m_2, e_3, h⟩ := seqM_E h
  refine zas_27 C hW id_27 (inb_E hb_1) e_3 dX9_takesPart_87 (fun H locs hW => ?_)
  refine lv_aload_n C.1 C.2.1 dX9_takesPart_88 rfl (lv_at hl 0 rfl) ?_
  refine lv_dup C.1 C.2.1 dX9_takesPart_89 rfl ?_
  refine zg_X9_codes C hW id_20 w_1022 dX9_takesPart_90 ?_
  refine lv_iconst (v := 1) C.1 C.2.1 dX9_takesPart_93 rfl ?_
  refine lv_iadd C.1 C.2.1 dX9_takesPart_94 ?_
  obtain ⟨m_4, e_5, h⟩ := seqM_E h
  refine zp_X9_codes C hW id_20 w_1022 e_5 dX9_takesPart_95 (fun H locs hW => ?_)
  refine lv_aload_n C.1 C.2.1 dX9_takesPart_98 rfl (lv_at hl 0 rfl) ?_
  refine lv_dup C.1 C.2.1 dX9_takesPart_99 rfl ?_
  refine zg_X9_atoms C hW id_20 w_1023 dX9_takesPart_100 ?_
  refine lv_iconst (v := 1) C.1 C.2.1 dX9_takesPart_103 rfl ?_
  refine lv_iadd C.1 C.2.1 dX9_takesPart_104 ?_
  obtain ⟨m_6, e_7, h⟩ := seqM_E h
  refine zp_X9_atoms C hW id_20 w_1023 e_7 dX9_takesPart_105 (fun H locs hW => ?_)
  refine lv_aload_n C.1 C.2.1 dX9_takesPart_108 rfl (lv_at hl 0 rfl) ?_
  refine lv_bipush (v := 6) C.1 C.2.1 dX9_takesPart_109 rfl ?_
  obtain ⟨m_9, hc_8, h⟩ := doV_E h
  refine zr_cVV C hW (c_X9_settle (x1 := 6) hc_8 ) k_X9_settle (zr_recv C hW id_20 zco_20 rfl) w_1372 ⟨Nat.le_of_ble_eq_true rfl, Nat.le_of_ble_eq_true rfl⟩ ⟨Nat.le_refl 0, Nat.le_refl 0⟩ rfl hl.1 rfl (Nat.le_of_ble_eq_true rfl) dX9_takesPart_111 (fun H locs hW => ?_)
  refine lv_aload_n C.1 C.2.1 dX9_takesPart_114 rfl (lv_at hl 0 rfl) ?_
  obtain ⟨m_11, hc_10, h⟩ := doV_E h
  refine zr_cVV C hW (c_X9_go  hc_10 ) k_X9_go (zr_recv C hW id_20 zco_20 rfl) w_1344 ⟨Nat.le_of_ble_eq_true rfl, Nat.le_of_ble_eq_true rfl⟩ ⟨Nat.le_refl 0, Nat.le_refl 0⟩ rfl hl.1 rfl (Nat.le_of_ble_eq_true rfl) dX9_takesPart_115 (fun H locs hW => ?_)
  refine lv_iconst (v := 1) C.1 C.2.1 dX9_takesPart_118 rfl ?_
  exact ret_i h hq rfl hW dX9_takesPart_119
def f_X9_takesPart_52 (fu : Nat)   (m : Mem) : Option (Int32 × Mem) := if (m 3005) = 2 then (f_X9_takesPart_87 fu (m 3009) (m 3006) m) else (doI (f_X9_nameOf fu (m 3006) m) (fun r_3 m_2 => f_X9_takesPart_87 fu (m 3009) (10000 + r_3) m_2))
set_option maxHeartbeats 4000000 in
set_option maxRecDepth 100000 in
theorem w_X9_takesPart_52 {X : TX} {p : Program} {l : Launch} {e : Env} {s : State} {mi : MethodId} {args : Array Value} {below : List Frame} {meth : Method} {c : Code} {Q : State → Prop} {r : Int32} {mE : Mem} (C : Cx X p s mi args c RX9 cX9_takesPart 2) (hq : RetI X p l e (rmD 2) s mi args below meth c cX9_takesPart .boolean Q r mE) {fu : Nat}  {m : Mem} {H : Heap} {locs : List Loc} {ls : Array Slot} (h : f_X9_takesPart_52 fu  m = some (r, mE))  (hW : Wd X s m H locs) (hl : lv_has ls 2 [(0, .ref (ad X 20 0))]) : W p l e (rmD 2) s mi args below meth c H locs 0 0 Q (F0 mi 52 ls []) := by
  unfold f_X9_takesPart_52 at h
  refine lv_aload_n C.1 C.2.1 dX9_takesPart_52 rfl (lv_at hl 0 rfl) ?_
  refine zg_X9_code C hW id_20 w_1021 dX9_takesPart_53 ?_
  refine lv_aload_n C.1 C.2.1 dX9_takesPart_56 rfl (lv_at hl 0 rfl) ?_
  refine zg_X9_codes C hW id_20 w_1022 dX9_takesPart_57 ?_
  refine lv_aload_n C.1 C.2.1 dX9_takesPart_60 rfl (lv_at hl 0 rfl) ?_
  refine zg_X9_token C hW id_20 w_1015 dX9_takesPart_61 ?_
  refine lv_iconst (v := 2) C.1 C.2.1 dX9_takesPart_64 rfl ?_
  refine lv_icmp_ne (tgt := 75) C.1 C.2.1 dX9_takesPart_65 (by decide) (fun hc_4 => ?_) (fun hc_4 => ?_)
  · have h := ite_f hc_4 h
    refine lv_sipush (v := 10000) C.1 C.2.1 dX9_takesPart_75 rfl ?_
    refine lv_aload_n C.1 C.2.1 dX9_takesPart_78 rfl (lv_at hl 0 rfl) ?_
    refine lv_aload_n C.1 C.2.1 dX9_takesPart_79 rfl (lv_at hl 0 rfl) ?_
    refine zg_X9_value C hW id_20 w_1016 dX9_takesPart_80 ?_
    obtain ⟨r_3, m_2, hc_1, h⟩ := doI_E h
    refine zr_cVI C hW (c_X9_nameOf (x1 := (m 3006)) hc_1 ) k_X9_nameOf (zr_recv C hW id_20 zco_20 rfl) w_1368 ⟨Nat.le_of_ble_eq_true rfl, Nat.le_of_ble_eq_true rfl⟩ ⟨Nat.le_refl 0, Nat.le_refl 0⟩ rfl hl.1 rfl (Nat.le_of_ble_eq_true rfl) dX9_takesPart_83 (fun H locs hW => ?_)
    refine lv_iadd C.1 C.2.1 dX9_takesPart_86 ?_
    exact w_X9_takesPart_87 C hq  h  hW (lv_sub hl [0] rfl)
  · have h := ite_t hc_4 h
    refine lv_aload_n C.1 C.2.1 dX9_takesPart_68 rfl (lv_at hl 0 rfl) ?_
    refine zg_X9_value C hW id_20 w_1016 dX9_takesPart_69 ?_
    refine lv_goto (tgt := 87) C.1 C.2.1 dX9_takesPart_72 (by decide) ?_
    exact w_X9_takesPart_87 C hq  h  hW (lv_sub hl [0] rfl)
def f_X9_takesPart_37 (fu : Nat)  (y0 : Int32) (m : Mem) : Option (Int32 × Mem) := if (m 3005) = 2 then (f_X9_takesPart_52 fu m) else (if y0 = 0 then (some (0, m)) else (f_X9_takesPart_52 fu m))
set_option maxHeartbeats 4000000 in
set_option maxRecDepth 100000 in
theorem w_X9_takesPart_37 {X : TX} {p : Program} {l : Launch} {e : Env} {s : State} {mi : MethodId} {args : Array Value} {below : List Frame} {meth : Method} {c : Code} {Q : State → Prop} {r : Int32} {mE : Mem} (C : Cx X p s mi args c RX9 cX9_takesPart 2) (hq : RetI X p l e (rmD 2) s mi args below meth c cX9_takesPart .boolean Q r mE) {fu : Nat} {y0 : Int32} {m : Mem} {H : Heap} {locs : List Loc} {ls : Array Slot} (h : f_X9_takesPart_37 fu y0 m = some (r, mE))  (hW : Wd X s m H locs) (hl : lv_has ls 2 [(0, .ref (ad X 20 0))]) : W p l e (rmD 2) s mi args below meth c H locs 0 0 Q (F0 mi 37 ls [.int y0]) := by
  unfold f_X9_takesPart_37 at h
  refine lv_istore_n (lv' := [(1, .int y0), (0, .ref (ad X 20 0))]) C.1 C.2.1 dX9_takesPart_37 rfl hl (by decide) rfl (fun ls hl => ?_)
  refine lv_aload_n C.1 C.2.1 dX9_takesPart_38 rfl (lv_at hl 1 rfl) ?_
  refine zg_X9_token C hW id_20 w_1015 dX9_takesPart_39 ?_
  refine lv_iconst (v := 2) C.1 C.2.1 dX9_takesPart_42 rfl ?_
  refine lv_icmp_eq (tgt := 52) C.1 C.2.1 dX9_takesPart_43 (by decide) (fun hc_2 => ?_) (fun hc_2 => ?_)
  · have h := ite_t hc_2 h
    exact w_X9_takesPart_52 C hq  h  hW (lv_sub hl [1] rfl)
  · have h := ite_f hc_2 h
    refine lv_iload_n C.1 C.2.1 dX9_takesPart_46 rfl (lv_at hl 0 rfl) ?_
    refine lv_if_ne (tgt := 52) C.1 C.2.1 dX9_takesPart_47 (by decide) (fun hc_1 => ?_) (fun hc_1 => ?_)
    · have h := ite_f hc_1 h
      exact w_X9_takesPart_52 C hq  h  hW (lv_sub hl [1] rfl)
    · have h := ite_t hc_1 h
      refine lv_iconst (v := 0) C.1 C.2.1 dX9_takesPart_50 rfl ?_
      exact ret_i h hq rfl hW dX9_takesPart_51
def f_X9_takesPart_36 (fu : Nat)   (m : Mem) : Option (Int32 × Mem) := f_X9_takesPart_37 fu 0 m
set_option maxHeartbeats 4000000 in
set_option maxRecDepth 100000 in
theorem w_X9_takesPart_36 {X : TX} {p : Program} {l : Launch} {e : Env} {s : State} {mi : MethodId} {args : Array Value} {below : List Frame} {meth : Method} {c : Code} {Q : State → Prop} {r : Int32} {mE : Mem} (C : Cx X p s mi args c RX9 cX9_takesPart 2) (hq : RetI X p l e (rmD 2) s mi args below meth c cX9_takesPart .boolean Q r mE) {fu : Nat}  {m : Mem} {H : Heap} {locs : List Loc} {ls : Array Slot} (h : f_X9_takesPart_36 fu  m = some (r, mE))  (hW : Wd X s m H locs) (hl : lv_has ls 2 [(0, .ref (ad X 20 0))]) : W p l e (rmD 2) s mi args below meth c H locs 0 0 Q (F0 mi 36 ls []) := by
  unfold f_X9_takesPart_36 at h
  refine lv_iconst (v := 0) C.1 C.2.1 dX9_takesPart_36 rfl ?_
  exact w_X9_takesPart_37 C hq  h  hW (lv_sub hl [0] rfl)
def f_X9_takesPart (fu : Nat)   (m : Mem) : Option (Int32 × Mem) := if (m 3005) = 1 then (if ((m 3003) - (m 3004)) = 1 then (doI (f_X9_nameOf fu (m 3006) m) (fun r_3 m_2 => if r_3 < 0 then (f_X9_takesPart_36 fu m_2) else (f_X9_takesPart_37 fu 1 m_2))) else (f_X9_takesPart_36 fu m)) else (f_X9_takesPart_36 fu m)
set_option maxHeartbeats 4000000 in
set_option maxRecDepth 100000 in
theorem w_X9_takesPart {X : TX} {p : Program} {l : Launch} {e : Env} {s : State} {mi : MethodId} {args : Array Value} {below : List Frame} {meth : Method} {c : Code} {Q : State → Prop} {r : Int32} {mE : Mem} (C : Cx X p s mi args c RX9 cX9_takesPart 2) (hq : RetI X p l e (rmD 2) s mi args below meth c cX9_takesPart .boolean Q r mE) {fu : Nat}  {m : Mem} {H : Heap} {locs : List Loc} {ls : Array Slot} (h : f_X9_takesPart fu  m = some (r, mE))  (hW : Wd X s m H locs) (hl : lv_has ls 2 [(0, .ref (ad X 20 0))]) : W p l e (rmD 2) s mi args below meth c H locs 0 0 Q (F0 mi 0 ls []) := by
  unfold f_X9_takesPart at h
  refine lv_aload_n C.1 C.2.1 dX9_takesPart_0 rfl (lv_at hl 0 rfl) ?_
  refine zg_X9_token C hW id_20 w_1015 dX9_takesPart_1 ?_
  refine lv_iconst (v := 1) C.1 C.2.1 dX9_takesPart_4 rfl ?_
  refine lv_icmp_ne (tgt := 36) C.1 C.2.1 dX9_takesPart_5 (by decide) (fun hc_6 => ?_) (fun hc_6 => ?_)
  · have h := ite_f hc_6 h
    exact w_X9_takesPart_36 C hq  h  hW (lv_sub hl [0] rfl)
  · have h := ite_t hc_6 h
    refine lv_aload_n C.1 C.2.1 dX9_takesPart_8 rfl (lv_at hl 0 rfl) ?_
    refine zg_X9_next C hW id_20 w_1013 dX9_takesPart_9 ?_
    refine lv_aload_n C.1 C.2.1 dX9_takesPart_12 rfl (lv_at hl 0 rfl) ?_
    refine zg_X9_from C hW id_20 w_1014 dX9_takesPart_13 ?_
    refine lv_isub C.1 C.2.1 dX9_takesPart_16 ?_
    refine lv_iconst (v := 1) C.1 C.2.1 dX9_takesPart_17 rfl ?_
    refine lv_icmp_ne (tgt := 36) C.1 C.2.1 dX9_takesPart_18 (by decide) (fun hc_5 => ?_) (fun hc_5 => ?_)
    · have h := ite_f hc_5 h
      exact w_X9_takesPart_36 C hq  h  hW (lv_sub hl [0] rfl)
    · have h := ite_t hc_5 h
      refine lv_aload_n C.1 C.2.1 dX9_takesPart_21 rfl (lv_at hl 0 rfl) ?_
      refine lv_aload_n C.1 C.2.1 dX9_takesPart_22 rfl (lv_at hl 0 rfl) ?_
      refine zg_X9_value C hW id_20 w_1016 dX9_takesPart_23 ?_
      obtain ⟨r_3, m_2, hc_1, h⟩ := doI_E h
      refine zr_cVI C hW (c_X9_nameOf (x1 := (m 3006)) hc_1 ) k_X9_nameOf (zr_recv C hW id_20 zco_20 rfl) w_1368 ⟨Nat.le_of_ble_eq_true rfl, Nat.le_of_ble_eq_true rfl⟩ ⟨Nat.le_refl 0, Nat.le_refl 0⟩ rfl hl.1 rfl (Nat.le_of_ble_eq_true rfl) dX9_takesPart_26 (fun H locs hW => ?_)
      refine lv_if_lt (tgt := 36) C.1 C.2.1 dX9_takesPart_29 (by decide) (fun hc_4 => ?_) (fun hc_4 => ?_)
      · have h := ite_t hc_4 h
        exact w_X9_takesPart_36 C hq  h  hW (lv_sub hl [0] rfl)
      · have h := ite_f hc_4 h
        refine lv_iconst (v := 1) C.1 C.2.1 dX9_takesPart_32 rfl ?_
        refine lv_goto (tgt := 37) C.1 C.2.1 dX9_takesPart_33 (by decide) ?_
        exact w_X9_takesPart_37 C hq  h  hW (lv_sub hl [0] rfl)
theorem c_X9_takesPart {X : TX} {l : Launch} {fu : Nat}  {m mE : Mem} {r : Int32} (h : f_X9_takesPart fu  m = some (r, mE))  : MetI X l yX9_takesPart cX9_takesPart 2 .boolean 2 [.ref (ad X 20 0)] m r mE :=
  met_I (by decide) (Nat.le_of_ble_eq_true rfl) (fun p e s mi args below meth c ls Q C hq hW hl => w_X9_takesPart C hq h  hW (lv_sub hl [0] rfl))
theorem k_X9_takesPart : CalV yX9_takesPart cX9_takesPart 2 (some .boolean) RX9 0 := ⟨w_1366, w_55, w_70, w_1367, by decide +kernel⟩
theorem dX9_notsOpen_0 : decode cX9_notsOpen 0 = .ok (.iconst 0, 1) := by decide +kernel
theorem dX9_notsOpen_1 : decode cX9_notsOpen 1 = .ok (.istore_n 1, 1) := by decide +kernel
theorem dX9_notsOpen_2 : decode cX9_notsOpen 2 = .ok (.iconst 0, 1) := by decide +kernel
theorem dX9_notsOpen_3 : decode cX9_notsOpen 3 = .ok (.istore_n 2, 1) := by decide +kernel
theorem dX9_notsOpen_4 : decode cX9_notsOpen 4 = .ok (.iload_n 2, 1) := by decide +kernel
theorem dX9_notsOpen_5 : decode cX9_notsOpen 5 = .ok (.aload_n 0, 1) := by decide +kernel
theorem dX9_notsOpen_6 : decode cX9_notsOpen 6 = .ok (.getfield 222, 3) := by decide +kernel
theorem dX9_notsOpen_9 : decode cX9_notsOpen 9 = .ok (.if_icmp .ge 28, 3) := by decide +kernel
theorem dX9_notsOpen_12 : decode cX9_notsOpen 12 = .ok (.iload_n 1, 1) := by decide +kernel
theorem dX9_notsOpen_13 : decode cX9_notsOpen 13 = .ok (.aload_n 0, 1) := by decide +kernel
theorem dX9_notsOpen_14 : decode cX9_notsOpen 14 = .ok (.getfield 39, 3) := by decide +kernel
theorem dX9_notsOpen_17 : decode cX9_notsOpen 17 = .ok (.iload_n 2, 1) := by decide +kernel
theorem dX9_notsOpen_18 : decode cX9_notsOpen 18 = .ok (.iaload, 1) := by decide +kernel
theorem dX9_notsOpen_19 : decode cX9_notsOpen 19 = .ok (.bipush (-10), 2) := by decide +kernel
theorem dX9_notsOpen_21 : decode cX9_notsOpen 21 = .ok (.if_icmp .ne 7, 3) := by decide +kernel
theorem dX9_notsOpen_24 : decode cX9_notsOpen 24 = .ok (.iconst 1, 1) := by decide +kernel
theorem dX9_notsOpen_25 : decode cX9_notsOpen 25 = .ok (.goto 4, 3) := by decide +kernel
theorem dX9_notsOpen_28 : decode cX9_notsOpen 28 = .ok (.iconst 0, 1) := by decide +kernel
theorem dX9_notsOpen_29 : decode cX9_notsOpen 29 = .ok (.iadd, 1) := by decide +kernel
theorem dX9_notsOpen_30 : decode cX9_notsOpen 30 = .ok (.istore_n 1, 1) := by decide +kernel
theorem dX9_notsOpen_31 : decode cX9_notsOpen 31 = .ok (.iinc 2 1, 3) := by decide +kernel
theorem dX9_notsOpen_34 : decode cX9_notsOpen 34 = .ok (.goto (-30), 3) := by decide +kernel
theorem dX9_notsOpen_37 : decode cX9_notsOpen 37 = .ok (.iload_n 1, 1) := by decide +kernel
theorem dX9_notsOpen_38 : decode cX9_notsOpen 38 = .ok (.ireturn, 1) := by decide +kernel
def f_X9_notsOpen_29 (fu : Nat) (k_4 : Int32 → Int32 → Mem → Option (Int32 × Mem)) (x2 : Int32) (y0 : Int32) (y1 : Int32) (m : Mem) : Option (Int32 × Mem) := seqM (y0 + y1) (fun x_1 : Int32 => seqM (x2 + 1) (fun x_3 : Int32 => k_4 x_1 x_3 m))
set_option maxHeartbeats 4000000 in
set_option maxRecDepth 100000 in
theorem w_X9_notsOpen_29 {X : TX} {p : Program} {l : Launch} {e : Env} {s : State} {mi : MethodId} {args : Array Value} {below : List Frame} {meth : Method} {c : Code} {Q : State → Prop} {r : Int32} {mE : Mem} (C : Cx X p s mi args c RX9 cX9_notsOpen 3) (hq : RetI X p l e (rmD 0) s mi args below meth c cX9_notsOpen .int Q r mE) {fu : Nat} {k_4 : Int32 → Int32 → Mem → Option (Int32 × Mem)} (hk_4 : ∀ {x1 : Int32} {x2 : Int32} {m : Mem} {H : Heap} {locs : List Loc} {ls : Array Slot}, k_4 x1 x2 m = some (r, mE) → Wd X s m H locs → lv_has ls 3 [(0, .ref (ad X 20 0)), (1, .int x1), (2, .int x2)] → W p l e (rmD 0) s mi args below meth c H locs 0 0 Q (F0 mi 4 ls [])) {x2 : Int32} {y0 : Int32} {y1 : Int32} {m : Mem} {H : Heap} {locs : List Loc} {ls : Array Slot} (h : f_X9_notsOpen_29 fu k_4 x2 y0 y1 m = some (r, mE))  (hW : Wd X s m H locs) (hl : lv_has ls 3 [(0, .ref (ad X 20 0)), (2, .int x2)]) : W p l e (rmD 0) s mi args below meth c H locs 0 0 Q (F0 mi 29 ls [.int y1, .int y0]) := by
  unfold f_X9_notsOpen_29 at h
  refine lv_iadd C.1 C.2.1 dX9_notsOpen_29 ?_
  obtain ⟨x_1, e_2, h⟩ := seqM_E h
  refine lv_name e_2 ?_
  refine lv_istore_n (lv' := [(1, .int x_1), (0, .ref (ad X 20 0)), (2, .int x2)]) C.1 C.2.1 dX9_notsOpen_30 rfl hl (by decide) rfl (fun ls hl => ?_)
  obtain ⟨x_3, e_4, h⟩ := seqM_E h
  refine lv_iinc (v := x_3) (lv' := [(2, .int x_3), (1, .int x_1), (0, .ref (ad X 20 0))]) C.1 C.2.1 dX9_notsOpen_31 hl (k := 2) rfl (by rw [e_4]; rfl) (by decide) rfl (fun ls hl => ?_)
  refine lv_goto (tgt := 4) C.1 C.2.1 dX9_notsOpen_34 (by decide) ?_
  exact hk_4 h  hW (lv_sub hl [2, 1, 0] rfl)
def f_X9_notsOpen_4 (fu : Nat)  : Nat → Int32 → Int32 → Mem → Option (Int32 × Mem)
  | 0, _, _, _ => none
  | n + 1, x1, x2, m => if (m 3011) ≤ x2 then (some (x1, m)) else (chk (inb x2 96) (if (m (3500 + x2.toNatClampNeg)) = (-10) then (f_X9_notsOpen_29 fu (f_X9_notsOpen_4 fu n) x2 x1 1 m) else (f_X9_notsOpen_29 fu (f_X9_notsOpen_4 fu n) x2 x1 0 m)))
set_option maxHeartbeats 4000000 in
set_option maxRecDepth 100000 in
theorem w_X9_notsOpen_4 {X : TX} {p : Program} {l : Launch} {e : Env} {s : State} {mi : MethodId} {args : Array Value} {below : List Frame} {meth : Method} {c : Code} {Q : State → Prop} {r : Int32} {mE : Mem} (C : Cx X p s mi args c RX9 cX9_notsOpen 3) (hq : RetI X p l e (rmD 0) s mi args below meth c cX9_notsOpen .int Q r mE) {fu : Nat} : ∀ (n : Nat) {x1 : Int32} {x2 : Int32} {m : Mem} {H : Heap} {locs : List Loc} {ls : Array Slot}, f_X9_notsOpen_4 fu n x1 x2 m = some (r, mE) → Wd X s m H locs → lv_has ls 3 [(0, .ref (ad X 20 0)), (1, .int x1), (2, .int x2)] → W p l e (rmD 0) s mi args below meth c H locs 0 0 Q (F0 mi 4 ls []) := by
  intro n
  induction n with
  | zero =>
    intro x1 x2 m H locs ls h hW hl
    rw [f_X9_notsOpen_4] at h
    cases h
  | succ n ih =>
    intro x1 x2 m H locs ls h hW hl
    rw [f_X9_notsOpen_4] at h
    refine lv_iload_n C.1 C.2.1 dX9_notsOpen_4 rfl (lv_at hl 2 rfl) ?_
    refine lv_aload_n C.1 C.2.1 dX9_notsOpen_5 rfl (lv_at hl 0 rfl) ?_
    refine zg_X9_held C hW id_20 w_1025 dX9_notsOpen_6 ?_
    refine lv_icmp_ge (tgt := 37) C.1 C.2.1 dX9_notsOpen_9 (by decide) (fun hc_3 => ?_) (fun hc_3 => ?_)
    · have h := ite_t hc_3 h
      refine lv_iload_n C.1 C.2.1 dX9_notsOpen_37 rfl (lv_at hl 1 rfl) ?_
      exact ret_i h hq rfl hW dX9_notsOpen_38
    · have h := ite_f hc_3 h
      refine lv_iload_n C.1 C.2.1 dX9_notsOpen_12 rfl (lv_at hl 1 rfl) ?_
      refine lv_aload_n C.1 C.2.1 dX9_notsOpen_13 rfl (lv_at hl 0 rfl) ?_
      refine zg_X9_waits C hW id_20 w_1024 dX9_notsOpen_14 ?_
      refine lv_iload_n C.1 C.2.1 dX9_notsOpen_17 rfl (lv_at hl 2 rfl) ?_
      obtain ⟨hb_1, h⟩ := chk_E h
      refine zal_28 C hW id_28 (inb_E hb_1) dX9_notsOpen_18 ?_
      refine lv_bipush (v := (-10)) C.1 C.2.1 dX9_notsOpen_19 rfl ?_
      refine lv_icmp_ne (tgt := 28) C.1 C.2.1 dX9_notsOpen_21 (by decide) (fun hc_2 => ?_) (fun hc_2 => ?_)
      · have h := ite_f hc_2 h
        refine lv_iconst (v := 0) C.1 C.2.1 dX9_notsOpen_28 rfl ?_
        exact w_X9_notsOpen_29 C hq ih h  hW (lv_sub hl [0, 2] rfl)
      · have h := ite_t hc_2 h
        refine lv_iconst (v := 1) C.1 C.2.1 dX9_notsOpen_24 rfl ?_
        refine lv_goto (tgt := 29) C.1 C.2.1 dX9_notsOpen_25 (by decide) ?_
        exact w_X9_notsOpen_29 C hq ih h  hW (lv_sub hl [0, 2] rfl)
def f_X9_notsOpen (fu : Nat)   (m : Mem) : Option (Int32 × Mem) := f_X9_notsOpen_4 fu fu 0 0 m
set_option maxHeartbeats 4000000 in
set_option maxRecDepth 100000 in
theorem w_X9_notsOpen {X : TX} {p : Program} {l : Launch} {e : Env} {s : State} {mi : MethodId} {args : Array Value} {below : List Frame} {meth : Method} {c : Code} {Q : State → Prop} {r : Int32} {mE : Mem} (C : Cx X p s mi args c RX9 cX9_notsOpen 3) (hq : RetI X p l e (rmD 0) s mi args below meth c cX9_notsOpen .int Q r mE) {fu : Nat}  {m : Mem} {H : Heap} {locs : List Loc} {ls : Array Slot} (h : f_X9_notsOpen fu  m = some (r, mE))  (hW : Wd X s m H locs) (hl : lv_has ls 3 [(0, .ref (ad X 20 0))]) : W p l e (rmD 0) s mi args below meth c H locs 0 0 Q (F0 mi 0 ls []) := by
  unfold f_X9_notsOpen at h
  refine lv_iconst (v := 0) C.1 C.2.1 dX9_notsOpen_0 rfl ?_
  refine lv_istore_n (lv' := [(1, .int 0), (0, .ref (ad X 20 0))]) C.1 C.2.1 dX9_notsOpen_1 rfl hl (by decide) rfl (fun ls hl => ?_)
  refine lv_iconst (v := 0) C.1 C.2.1 dX9_notsOpen_2 rfl ?_
  refine lv_istore_n (lv' := [(2, .int 0), (1, .int 0), (0, .ref (ad X 20 0))]) C.1 C.2.1 dX9_notsOpen_3 rfl hl (by decide) rfl (fun ls hl => ?_)
  exact w_X9_notsOpen_4 C hq  fu h  hW (lv_sub hl [2, 1, 0] rfl)
theorem c_X9_notsOpen {X : TX} {l : Launch} {fu : Nat}  {m mE : Mem} {r : Int32} (h : f_X9_notsOpen fu  m = some (r, mE))  : MetI X l yX9_notsOpen cX9_notsOpen 3 .int 0 [.ref (ad X 20 0)] m r mE :=
  met_I (by decide) (Nat.le_of_ble_eq_true rfl) (fun p e s mi args below meth c ls Q C hq hW hl => w_X9_notsOpen C hq h  hW (lv_sub hl [0] rfl))
theorem k_X9_notsOpen : CalV yX9_notsOpen cX9_notsOpen 3 (some .int) RX9 0 := ⟨w_1381, w_58, w_70, w_1382, by decide +kernel⟩
