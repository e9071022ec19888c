theorem dX1_append_0 : decode cX1_append 0 = .ok (.bipush 24, 2) := by decide +kernel
theorem dX1_append_2 : decode cX1_append 2 = .ok (.istore_n 2, 1) := by decide +kernel
theorem dX1_append_3 : decode cX1_append 3 = .ok (.iload_n 2, 1) := by decide +kernel
theorem dX1_append_4 : decode cX1_append 4 = .ok (.ifCond .lt 44, 3) := by decide +kernel
theorem dX1_append_7 : decode cX1_append 7 = .ok (.aload_n 0, 1) := by decide +kernel
theorem dX1_append_8 : decode cX1_append 8 = .ok (.getfield 25, 3) := by decide +kernel
theorem dX1_append_11 : decode cX1_append 11 = .ok (.bipush 96, 2) := by decide +kernel
theorem dX1_append_13 : decode cX1_append 13 = .ok (.if_icmp .ge 29, 3) := by decide +kernel
theorem dX1_append_16 : decode cX1_append 16 = .ok (.aload_n 0, 1) := by decide +kernel
theorem dX1_append_17 : decode cX1_append 17 = .ok (.getfield 9, 3) := by decide +kernel
theorem dX1_append_20 : decode cX1_append 20 = .ok (.aload_n 0, 1) := by decide +kernel
theorem dX1_append_21 : decode cX1_append 21 = .ok (.getfield 25, 3) := by decide +kernel
theorem dX1_append_24 : decode cX1_append 24 = .ok (.iload_n 1, 1) := by decide +kernel
theorem dX1_append_25 : decode cX1_append 25 = .ok (.iload_n 2, 1) := by decide +kernel
theorem dX1_append_26 : decode cX1_append 26 = .ok (.iushr, 1) := by decide +kernel
theorem dX1_append_27 : decode cX1_append 27 = .ok (.sipush 255, 3) := by decide +kernel
theorem dX1_append_30 : decode cX1_append 30 = .ok (.iand, 1) := by decide +kernel
theorem dX1_append_31 : decode cX1_append 31 = .ok (.iastore, 1) := by decide +kernel
theorem dX1_append_32 : decode cX1_append 32 = .ok (.aload_n 0, 1) := by decide +kernel
theorem dX1_append_33 : decode cX1_append 33 = .ok (.dup, 1) := by decide +kernel
theorem dX1_append_34 : decode cX1_append 34 = .ok (.getfield 25, 3) := by decide +kernel
theorem dX1_append_37 : decode cX1_append 37 = .ok (.iconst 1, 1) := by decide +kernel
theorem dX1_append_38 : decode cX1_append 38 = .ok (.iadd, 1) := by decide +kernel
theorem dX1_append_39 : decode cX1_append 39 = .ok (.putfield 25, 3) := by decide +kernel
theorem dX1_append_42 : decode cX1_append 42 = .ok (.iinc 2 (-8), 3) := by decide +kernel
theorem dX1_append_45 : decode cX1_append 45 = .ok (.goto (-42), 3) := by decide +kernel
theorem dX1_append_48 : decode cX1_append 48 = .ok (.return_, 1) := by decide +kernel
def f_X1_append_42 (fu : Nat) (k_3 : Int32 → Int32 → Mem → Option Mem) (x1 : Int32) (x2 : Int32) (m : Mem) : Option Mem := seqM (x2 + (-8)) (fun x_1 : Int32 => k_3 x1 x_1 m)
set_option maxHeartbeats 4000000 in
set_option maxRecDepth 100000 in
theorem w_X1_append_42 {X : TX} {p : Program} {l : Launch} {e : Env} {s : State} {mi : MethodId} {args : Array Value} {below : List Frame} {meth : Method} {c : Code} {Q : State → Prop} {mE : Mem} (C : Cx X p s mi args c RX1 cX1_append 3) (hq : RetV X p l e (rmD 0) s mi args below meth c cX1_append Q mE) {fu : Nat} {k_3 : Int32 → Int32 → Mem → Option Mem} (hk_3 : ∀ {x1 : Int32} {x2 : Int32} {m : Mem} {H : Heap} {locs : List Loc} {ls : Array Slot}, k_3 x1 x2 m = some mE → Wd X s m H locs → lv_has ls 3 [(0, .ref (ad X 6 0)), (1, .int x1), (2, .int x2)] → W p l e (rmD 0) s mi args below meth c H locs 0 0 Q (F0 mi 3 ls [])) {x1 : Int32} {x2 : Int32} {m : Mem} {H : Heap} {locs : List Loc} {ls : Array Slot} (h : f_X1_append_42 fu k_3 x1 x2 m = some mE)  (hW : Wd X s m H locs) (hl : lv_has ls 3 [(0, .ref (ad X 6 0)), (1, .int x1), (2, .int x2)]) : W p l e (rmD 0) s mi args below meth c H locs 0 0 Q (F0 mi 42 ls []) := by
  unfold f_X1_append_42 at h
  obtain ⟨x_1, e_2, h⟩ := seqM_E h
  refine lv_iinc (v := x_1) (lv' := [(2, .int x_1), (0, .ref (ad X 6 0)), (1, .int x1)]) C.1 C.2.1 dX1_append_42 hl (k := 2) rfl (by rw [e_2]; rfl) (by decide) rfl (fun ls hl => ?_)
  refine lv_goto (tgt := 3) C.1 C.2.1 dX1_append_45 (by decide) ?_
  exact hk_3 h  hW (lv_sub hl [1, 2, 0] rfl)
def f_X1_append_3 (fu : Nat)  : Nat → Int32 → Int32 → Mem → Option Mem
  | 0, _, _, _ => none
  | n + 1, x1, x2, m => if x2 < 0 then (some m) else (if 96 ≤ (m 280) then (f_X1_append_42 fu (f_X1_append_3 fu n) x1 x2 m) else (chk (inb (m 280) 96) (seqM (upd m (900 + (m 280).toNatClampNeg) ((ushr x1 x2) &&& 255)) (fun m_2 : Mem => seqM (upd m_2 280 ((m_2 280) + 1)) (fun m_4 : Mem => f_X1_append_42 fu (f_X1_append_3 fu n) x1 x2 m_4)))))
set_option maxHeartbeats 4000000 in
set_option maxRecDepth 100000 in
theorem w_X1_append_3 {X : TX} {p : Program} {l : Launch} {e : Env} {s : State} {mi : MethodId} {args : Array Value} {below : List Frame} {meth : Method} {c : Code} {Q : State → Prop} {mE : Mem} (C : Cx X p s mi args c RX1 cX1_append 3) (hq : RetV X p l e (rmD 0) s mi args below meth c cX1_append Q mE) {fu : Nat} : ∀ (n : Nat) {x1 : Int32} {x2 : Int32} {m : Mem} {H : Heap} {locs : List Loc} {ls : Array Slot}, f_X1_append_3 fu n x1 x2 m = some mE → Wd X s m H locs → lv_has ls 3 [(0, .ref (ad X 6 0)), (1, .int x1), (2, .int x2)] → W p l e (rmD 0) s mi args below meth c H locs 0 0 Q (F0 mi 3 ls []) := by
  intro n
  induction n with
  | zero =>
    intro x1 x2 m H locs ls h hW hl
    rw [f_X1_append_3] at h
    cases h
  | succ n ih =>
    intro x1 x2 m H locs ls h hW hl
    rw [f_X1_append_3] at h
    refine lv_iload_n C.1 C.2.1 dX1_append_3 rfl (lv_at hl 2 rfl) ?_
    refine lv_if_lt (tgt := 48) C.1 C.2.1 dX1_append_4 (by decide) (fun hc_7 => ?_) (fun hc_7 => ?_)
    · have h := ite_t hc_7 h
      exact ret_v h hq hW dX1_append_48
    · have h := ite_f hc_7 h
      refine lv_aload_n C.1 C.2.1 dX1_append_7 rfl (lv_at hl 0 rfl) ?_
      refine zg_X1_length C hW id_6 w_137 dX1_append_8 ?_
      refine lv_bipush (v := 96) C.1 C.2.1 dX1_append_11 rfl ?_
      refine lv_icmp_ge (tgt := 42) C.1 C.2.1 dX1_append_13 (by decide) (fun hc_6 => ?_) (fun hc_6 => ?_)
      · have h := ite_t hc_6 h
        exact w_X1_append_42 C hq ih h  hW (lv_sub hl [0, 1, 2] rfl)
      · have h := ite_f hc_6 h
        refine lv_aload_n C.1 C.2.1 dX1_append_16 rfl (lv_at hl 0 rfl) ?_
        refine zg_X1_bytes C hW id_6 w_136 dX1_append_17 ?_
        refine lv_aload_n C.1 C.2.1 dX1_append_20 rfl (lv_at hl 0 rfl) ?_
        refine zg_X1_length C hW id_6 w_137 dX1_append_21 ?_
        refine lv_iload_n C.1 C.2.1 dX1_append_24 rfl (lv_at hl 1 rfl) ?_
        refine lv_iload_n C.1 C.2.1 dX1_append_25 rfl (lv_at hl 2 rfl) ?_
        refine lv_iushr (v := (ushr x1 x2)) C.1 C.2.1 dX1_append_26 rfl ?_
        refine lv_sipush (v := 255) C.1 C.2.1 dX1_append_27 rfl ?_
        refine lv_iand C.1 C.2.1 dX1_append_30 ?_
        obtain ⟨hb_1, h⟩ := chk_E h
        obtain ⟨m_2, e_3, h⟩ := seqM_E h
        refine zas_7 C hW id_7 (inb_E hb_1) e_3 dX1_append_31 (fun H locs hW => ?_)
        refine lv_aload_n C.1 C.2.1 dX1_append_32 rfl (lv_at hl 0 rfl) ?_
        refine lv_dup C.1 C.2.1 dX1_append_33 rfl ?_
        refine zg_X1_length C hW id_6 w_137 dX1_append_34 ?_
        refine lv_iconst (v := 1) C.1 C.2.1 dX1_append_37 rfl ?_
        refine lv_iadd C.1 C.2.1 dX1_append_38 ?_
        obtain ⟨m_4, e_5, h⟩ := seqM_E h
        refine zp_X1_length C hW id_6 w_137 e_5 dX1_append_39 (fun H locs hW => ?_)
        exact w_X1_append_42 C hq ih h  hW (lv_sub hl [0, 1, 2] rfl)
def f_X1_append (fu : Nat)  (x1 : Int32) (m : Mem) : Option Mem := f_X1_append_3 fu fu x1 24 m
set_option maxHeartbeats 4000000 in
set_option maxRecDepth 100000 in
theorem w_X1_append {X : TX} {p : Program} {l : Launch} {e : Env} {s : State} {mi : MethodId} {args : Array Value} {below : List Frame} {meth : Method} {c : Code} {Q : State → Prop} {mE : Mem} (C : Cx X p s mi args c RX1 cX1_append 3) (hq : RetV X p l e (rmD 0) s mi args below meth c cX1_append Q mE) {fu : Nat} {x1 : Int32} {m : Mem} {H : Heap} {locs : List Loc} {ls : Array Slot} (h : f_X1_append fu x1 m = some mE)  (hW : Wd X s m H locs) (hl : lv_has ls 3 [(0, .ref (ad X 6 0)), (1, .int x1)]) : W p l e (rmD 0) s mi args below meth c H locs 0 0 Q (F0 mi 0 ls []) := by
  unfold f_X1_append at h
  refine lv_bipush (v := 24) C.1 C.2.1 dX1_append_0 rfl ?_
  refine lv_istore_n (lv' := [(2, .int 24), (0, .ref (ad X 6 0)), (1, .int x1)]) C.1 C.2.1 dX1_append_2 rfl hl (by decide) rfl (fun ls hl => ?_)
  exact w_X1_append_3 C hq  fu h  hW (lv_sub hl [1, 2, 0] rfl)
theorem c_X1_append {X : TX} {l : Launch} {fu : Nat} {x1 : Int32} {m mE : Mem} (h : f_X1_append fu x1 m = some mE)  : MetV X l yX1_append cX1_append 3 0 [.ref (ad X 6 0), .int x1] m mE :=
  met_V (by decide) (Nat.le_of_ble_eq_true rfl) (fun p e s mi args below meth c ls Q C hq hW hl => w_X1_append C hq h  hW (lv_sub hl [0, 1] rfl))
theorem k_X1_append : CalV yX1_append cX1_append 3 none RX1 1 := ⟨w_689, w_690, w_64, w_691, by decide +kernel⟩
theorem dX1_start_0 : decode cX1_start 0 = .ok (.aload_n 0, 1) := by decide +kernel
theorem dX1_start_1 : decode cX1_start 1 = .ok (.getfield 18, 3) := by decide +kernel
theorem dX1_start_4 : decode cX1_start 4 = .ok (.invokevirtual 59, 3) := by decide +kernel
theorem dX1_start_7 : decode cX1_start 7 = .ok (.aload_n 0, 1) := by decide +kernel
theorem dX1_start_8 : decode cX1_start 8 = .ok (.iconst 0, 1) := by decide +kernel
theorem dX1_start_9 : decode cX1_start 9 = .ok (.putfield 62, 3) := by decide +kernel
theorem dX1_start_12 : decode cX1_start 12 = .ok (.aload_n 0, 1) := by decide +kernel
theorem dX1_start_13 : decode cX1_start 13 = .ok (.iconst 0, 1) := by decide +kernel
theorem dX1_start_14 : decode cX1_start 14 = .ok (.putfield 52, 3) := by decide +kernel
theorem dX1_start_17 : decode cX1_start 17 = .ok (.aload_n 0, 1) := by decide +kernel
theorem dX1_start_18 : decode cX1_start 18 = .ok (.iconst 0, 1) := by decide +kernel
theorem dX1_start_19 : decode cX1_start 19 = .ok (.putfield 65, 3) := by decide +kernel
theorem dX1_start_22 : decode cX1_start 22 = .ok (.aload_n 0, 1) := by decide +kernel
theorem dX1_start_23 : decode cX1_start 23 = .ok (.iconst 1, 1) := by decide +kernel
theorem dX1_start_24 : decode cX1_start 24 = .ok (.putfield 49, 3) := by decide +kernel
theorem dX1_start_27 : decode cX1_start 27 = .ok (.aload_n 0, 1) := by decide +kernel
theorem dX1_start_28 : decode cX1_start 28 = .ok (.iconst 0, 1) := by decide +kernel
theorem dX1_start_29 : decode cX1_start 29 = .ok (.putfield 35, 3) := by decide +kernel
theorem dX1_start_32 : decode cX1_start 32 = .ok (.aload_n 0, 1) := by decide +kernel
theorem dX1_start_33 : decode cX1_start 33 = .ok (.iconst 0, 1) := by decide +kernel
theorem dX1_start_34 : decode cX1_start 34 = .ok (.putfield 68, 3) := by decide +kernel
theorem dX1_start_37 : decode cX1_start 37 = .ok (.aload_n 0, 1) := by decide +kernel
theorem dX1_start_38 : decode cX1_start 38 = .ok (.iconst 0, 1) := by decide +kernel
theorem dX1_start_39 : decode cX1_start 39 = .ok (.putfield 71, 3) := by decide +kernel
theorem dX1_start_42 : decode cX1_start 42 = .ok (.return_, 1) := by decide +kernel
def f_X1_start (fu : Nat)   (m : Mem) : Option Mem := doV (f_X5_clear fu 14 m) (fun m_2 => seqM (upd m_2 281 0) (fun m_3 : Mem => seqM (upd m_3 282 0) (fun m_5 : Mem => seqM (upd m_5 283 0) (fun m_7 : Mem => seqM (upd m_7 284 1) (fun m_9 : Mem => seqM (upd m_9 285 0) (fun m_11 : Mem => seqM (upd m_11 286 0) (fun m_13 : Mem => seqM (upd m_13 287 0) (fun m_15 : Mem => some m_15))))))))
set_option maxHeartbeats 4000000 in
set_option maxRecDepth 100000 in
theorem w_X1_start {X : TX} {p : Program} {l : Launch} {e : Env} {s : State} {mi : MethodId} {args : Array Value} {below : List Frame} {meth : Method} {c : Code} {Q : State → Prop} {mE : Mem} (C : Cx X p s mi args c RX1 cX1_start 1) (hq : RetV X p l e (rmD 1) s mi args below meth c cX1_start Q mE) {fu : Nat}  {m : Mem} {H : Heap} {locs : List Loc} {ls : Array Slot} (h : f_X1_start fu  m = some mE)  (hW : Wd X s m H locs) (hl : lv_has ls 1 [(0, .ref (ad X 6 0))]) : W p l e (rmD 1) s mi args below meth c H locs 0 0 Q (F0 mi 0 ls []) := by
  unfold f_X1_start at h
  refine lv_aload_n C.1 C.2.1 dX1_start_0 rfl (lv_at hl 0 rfl) ?_
  refine zg_X1_draft C hW id_6 w_139 dX1_start_1 ?_
  obtain ⟨m_2, hc_1, h⟩ := doV_E h
  refine zr_cVV C hW (c_X5_clear (i0 := 14) hc_1 id_3_14) k_X5_clear (zr_recv C hW id_3_14 zco_3 rfl) w_708 ⟨Nat.le_of_ble_eq_true rfl, Nat.le_of_ble_eq_true rfl⟩ ⟨Nat.le_refl 0, Nat.le_refl 0⟩ rfl hl.1 rfl (Nat.le_of_ble_eq_true rfl) dX1_start_4 (fun H locs hW => ?_)
  refine lv_aload_n C.1 C.2.1 dX1_start_7 rfl (lv_at hl 0 rfl) ?_
  refine lv_iconst (v := 0) C.1 C.2.1 dX1_start_8 rfl ?_
  obtain ⟨m_3, e_4, h⟩ := seqM_E h
  refine zp_X1_signsMany C hW id_6 w_142 e_4 dX1_start_9 (fun H locs hW => ?_)
  refine lv_aload_n C.1 C.2.1 dX1_start_12 rfl (lv_at hl 0 rfl) ?_
  refine lv_iconst (v := 0) C.1 C.2.1 dX1_start_13 rfl ?_
  obtain ⟨m_5, e_6, h⟩ := seqM_E h
  refine zp_X1_brackets C hW id_6 w_143 e_6 dX1_start_14 (fun H locs hW => ?_)
  refine lv_aload_n C.1 C.2.1 dX1_start_17 rfl (lv_at hl 0 rfl) ?_
  refine lv_iconst (v := 0) C.1 C.2.1 dX1_start_18 rfl ?_
  obtain ⟨m_7, e_8, h⟩ := seqM_E h
  refine zp_X1_nots C hW id_6 w_144 e_8 dX1_start_19 (fun H locs hW => ?_)
  refine lv_aload_n C.1 C.2.1 dX1_start_22 rfl (lv_at hl 0 rfl) ?_
  refine lv_iconst (v := 1) C.1 C.2.1 dX1_start_23 rfl ?_
  obtain ⟨m_9, e_10, h⟩ := seqM_E h
  refine zp_X1_pieceIsDue C hW id_6 w_145 (by decide) e_10 dX1_start_24 (fun H locs hW => ?_)
  refine lv_aload_n C.1 C.2.1 dX1_start_27 rfl (lv_at hl 0 rfl) ?_
  refine lv_iconst (v := 0) C.1 C.2.1 dX1_start_28 rfl ?_
  obtain ⟨m_11, e_12, h⟩ := seqM_E h
  refine zp_X1_from C hW id_6 w_146 e_12 dX1_start_29 (fun H locs hW => ?_)
  refine lv_aload_n C.1 C.2.1 dX1_start_32 rfl (lv_at hl 0 rfl) ?_
  refine lv_iconst (v := 0) C.1 C.2.1 dX1_start_33 rfl ?_
  obtain ⟨m_13, e_14, h⟩ := seqM_E h
  refine zp_X1_to C hW id_6 w_147 e_14 dX1_start_34 (fun H locs hW => ?_)
  refine lv_aload_n C.1 C.2.1 dX1_start_37 rfl (lv_at hl 0 rfl) ?_
  refine lv_iconst (v := 0) C.1 C.2.1 dX1_start_38 rfl ?_
  obtain ⟨m_15, e_16, h⟩ := seqM_E h
  refine zp_X1_isWord C hW id_6 w_148 (by decide) e_16 dX1_start_39 (fun H locs hW => ?_)
  exact ret_v h hq hW dX1_start_42
theorem c_X1_start {X : TX} {l : Launch} {fu : Nat}  {m mE : Mem} (h : f_X1_start fu  m = some mE)  : MetV X l yX1_start cX1_start 1 1 [.ref (ad X 6 0)] m mE :=
  met_V (by decide) (Nat.le_of_ble_eq_true rfl) (fun p e s mi args below meth c ls Q C hq hW hl => w_X1_start C hq h  hW (lv_sub hl [0] rfl))
theorem k_X1_start : CalV yX1_start cX1_start 1 none RX1 0 := ⟨w_706, w_10, w_64, w_707, by decide +kernel⟩
theorem dX1_isLetter_0 : decode cX1_isLetter 0 = .ok (.iload_n 0, 1) := by decide +kernel
theorem dX1_isLetter_1 : decode cX1_isLetter 1 = .ok (.bipush 97, 2) := by decide +kernel
theorem dX1_isLetter_3 : decode cX1_isLetter 3 = .ok (.bipush 122, 2) := by decide +kernel
theorem dX1_isLetter_5 : decode cX1_isLetter 5 = .ok (.invokestatic 147, 3) := by decide +kernel
theorem dX1_isLetter_8 : decode cX1_isLetter 8 = .ok (.ireturn, 1) := by decide +kernel
def f_X1_isLetter (fu : Nat)  (x0 : Int32) (m : Mem) : Option (Int32 × Mem) := doI (f_X8_within fu x0 97 122 m) (fun r_3 m_2 => chk (isB r_3) (some (r_3, m_2)))
set_option maxHeartbeats 4000000 in
set_option maxRecDepth 100000 in
theorem w_X1_isLetter {X : TX} {p : Program} {l : Launch} {e : Env} {s : State} {mi : MethodId} {args : Array Value} {below : List Frame} {meth : Method} {c : Code} {Q : State → Prop} {r : Int32} {mE : Mem} (C : Cx X p s mi args c RX1 cX1_isLetter 1) (hq : RetI X p l e (rmD 1) s mi args below meth c cX1_isLetter .boolean Q r mE) {fu : Nat} {x0 : Int32} {m : Mem} {H : Heap} {locs : List Loc} {ls : Array Slot} (h : f_X1_isLetter fu x0 m = some (r, mE))  (hW : Wd X s m H locs) (hl : lv_has ls 1 [(0, .int x0)]) : W p l e (rmD 1) s mi args below meth c H locs 0 0 Q (F0 mi 0 ls []) := by
  unfold f_X1_isLetter at h
  refine lv_iload_n C.1 C.2.1 dX1_isLetter_0 rfl (lv_at hl 0 rfl) ?_
  refine lv_bipush (v := 97) C.1 C.2.1 dX1_isLetter_1 rfl ?_
  refine lv_bipush (v := 122) C.1 C.2.1 dX1_isLetter_3 rfl ?_
  obtain ⟨r_3, m_2, hc_1, h⟩ := doI_E h
  refine zr_cNI C hW (c_X8_within (x0 := x0) (x1 := 97) (x2 := 122) hc_1 ) k_X8_within C.2.2.2.2.2.1.2.2.2.1 ⟨Nat.le_of_ble_eq_true rfl, Nat.le_of_ble_eq_true rfl⟩ ⟨Nat.le_refl 0, Nat.le_refl 0⟩ rfl hl.1 rfl (Nat.le_of_ble_eq_true rfl) dX1_isLetter_5 (fun H locs hW => ?_)
  obtain ⟨hb_4, h⟩ := chk_E h
  exact ret_i h hq (nar_B (isB_E hb_4)) hW dX1_isLetter_8
theorem c_X1_isLetter {X : TX} {l : Launch} {fu : Nat} {x0 : Int32} {m mE : Mem} {r : Int32} (h : f_X1_isLetter fu x0 m = some (r, mE))  : MetI X l yX1_isLetter cX1_isLetter 1 .boolean 1 [.int x0] m r mE :=
  met_I (by decide) (Nat.le_of_ble_eq_true rfl) (fun p e s mi args below meth c ls Q C hq hW hl => w_X1_isLetter C hq h  hW (lv_sub hl [0] rfl))
theorem k_X1_isLetter : CalS yX1_isLetter cX1_isLetter 1 (some .boolean) 1 := ⟨w_717, w_64, w_718, by decide +kernel⟩
theorem dX1_isDigit_0 : decode cX1_isDigit 0 = .ok (.iload_n 0, 1) := by decide +kernel
theorem dX1_isDigit_1 : decode cX1_isDigit 1 = .ok (.bipush 48, 2) := by decide +kernel
theorem dX1_isDigit_3 : decode cX1_isDigit 3 = .ok (.bipush 57, 2) := by decide +kernel
theorem dX1_isDigit_5 : decode cX1_isDigit 5 = .ok (.invokestatic 147, 3) := by decide +kernel
theorem dX1_isDigit_8 : decode cX1_isDigit 8 = .ok (.ireturn, 1) := by decide +kernel
def f_X1_isDigit (fu : Nat)  (x0 : Int32) (m : Mem) : Option (Int32 × Mem) := doI (f_X8_within fu x0 48 57 m) (fun r_3 m_2 => chk (isB r_3) (some (r_3, m_2)))
set_option maxHeartbeats 4000000 in
set_option maxRecDepth 100000 in
theorem w_X1_isDigit {X : TX} {p : Program} {l : Launch} {e : Env} {s : State} {mi : MethodId} {args : Array Value} {below : List Frame} {meth : Method} {c : Code} {Q : State → Prop} {r : Int32} {mE : Mem} (C : Cx X p s mi args c RX1 cX1_isDigit 1) (hq : RetI X p l e (rmD 1) s mi args below meth c cX1_isDigit .boolean Q r mE) {fu : Nat} {x0 : Int32} {m : Mem} {H : Heap} {locs : List Loc} {ls : Array Slot} (h : f_X1_isDigit fu x0 m = some (r, mE))  (hW : Wd X s m H locs) (hl : lv_has ls 1 [(0, .int x0)]) : W p l e (rmD 1) s mi args below meth c H locs 0 0 Q (F0 mi 0 ls []) := by
  unfold f_X1_isDigit at h
  refine lv_iload_n C.1 C.2.1 dX1_isDigit_0 rfl (lv_at hl 0 rfl) ?_
  refine lv_bipush (v := 48) C.1 C.2.1 dX1_isDigit_1 rfl ?_
  refine lv_bipush (v := 57) C.1 C.2.1 dX1_isDigit_3 rfl ?_
  obtain ⟨r_3, m_2, hc_1, h⟩ := doI_E h
  refine zr_cNI C hW (c_X8_within (x0 := x0) (x1 := 48) (x2 := 57) hc_1 ) k_X8_within C.2.2.2.2.2.1.2.2.2.1 ⟨Nat.le_of_ble_eq_true rfl, Nat.le_of_ble_eq_true rfl⟩ ⟨Nat.le_refl 0, Nat.le_refl 0⟩ rfl hl.1 rfl (Nat.le_of_ble_eq_true rfl) dX1_isDigit_5 (fun H locs hW => ?_)
  obtain ⟨hb_4, h⟩ := chk_E h
  exact ret_i h hq (nar_B (isB_E hb_4)) hW dX1_isDigit_8
theorem c_X1_isDigit {X : TX} {l : Launch} {fu : Nat} {x0 : Int32} {m mE : Mem} {r : Int32} (h : f_X1_isDigit fu x0 m = some (r, mE))  : MetI X l yX1_isDigit cX1_isDigit 1 .boolean 1 [.int x0] m r mE :=
  met_I (by decide) (Nat.le_of_ble_eq_true rfl) (fun p e s mi args below meth c ls Q C hq hW hl => w_X1_isDigit C hq h  hW (lv_sub hl [0] rfl))
theorem k_X1_isDigit : CalS yX1_isDigit cX1_isDigit 1 (some .boolean) 1 := ⟨w_721, w_64, w_722, by decide +kernel⟩
theorem dX1_step_0 : decode cX1_step 0 = .ok (.aload_n 0, 1) := by decide +kernel
theorem dX1_step_1 : decode cX1_step 1 = .ok (.getfield 68, 3) := by decide +kernel
theorem dX1_step_4 : decode cX1_step 4 = .ok (.istore_n 1, 1) := by decide +kernel
theorem dX1_step_5 : decode cX1_step 5 = .ok (.aload_n 0, 1) := by decide +kernel
theorem dX1_step_6 : decode cX1_step 6 = .ok (.getfield 71, 3) := by decide +kernel
theorem dX1_step_9 : decode cX1_step 9 = .ok (.istore_n 2, 1) := by decide +kernel
theorem dX1_step_10 : decode cX1_step 10 = .ok (.aload_n 0, 1) := by decide +kernel
theorem dX1_step_11 : decode cX1_step 11 = .ok (.iload_n 1, 1) := by decide +kernel
theorem dX1_step_12 : decode cX1_step 12 = .ok (.putfield 35, 3) := by decide +kernel
theorem dX1_step_15 : decode cX1_step 15 = .ok (.aload_n 0, 1) := by decide +kernel
theorem dX1_step_16 : decode cX1_step 16 = .ok (.getfield 35, 3) := by decide +kernel
theorem dX1_step_19 : decode cX1_step 19 = .ok (.aload_n 0, 1) := by decide +kernel
theorem dX1_step_20 : decode cX1_step 20 = .ok (.getfield 25, 3) := by decide +kernel
theorem dX1_step_23 : decode cX1_step 23 = .ok (.if_icmp .ge 30, 3) := by decide +kernel
theorem dX1_step_26 : decode cX1_step 26 = .ok (.aload_n 0, 1) := by decide +kernel
theorem dX1_step_27 : decode cX1_step 27 = .ok (.getfield 9, 3) := by decide +kernel
theorem dX1_step_30 : decode cX1_step 30 = .ok (.aload_n 0, 1) := by decide +kernel
theorem dX1_step_31 : decode cX1_step 31 = .ok (.getfield 35, 3) := by decide +kernel
theorem dX1_step_34 : decode cX1_step 34 = .ok (.iaload, 1) := by decide +kernel
theorem dX1_step_35 : decode cX1_step 35 = .ok (.bipush 32, 2) := by decide +kernel
theorem dX1_step_37 : decode cX1_step 37 = .ok (.if_icmp .ne 16, 3) := by decide +kernel
theorem dX1_step_40 : decode cX1_step 40 = .ok (.aload_n 0, 1) := by decide +kernel
theorem dX1_step_41 : decode cX1_step 41 = .ok (.dup, 1) := by decide +kernel
theorem dX1_step_42 : decode cX1_step 42 = .ok (.getfield 35, 3) := by decide +kernel
theorem dX1_step_45 : decode cX1_step 45 = .ok (.iconst 1, 1) := by decide +kernel
theorem dX1_step_46 : decode cX1_step 46 = .ok (.iadd, 1) := by decide +kernel
theorem dX1_step_47 : decode cX1_step 47 = .ok (.putfield 35, 3) := by decide +kernel
theorem dX1_step_50 : decode cX1_step 50 = .ok (.goto (-35), 3) := by decide +kernel
theorem dX1_step_53 : decode cX1_step 53 = .ok (.aload_n 0, 1) := by decide +kernel
theorem dX1_step_54 : decode cX1_step 54 = .ok (.aload_n 0, 1) := by decide +kernel
theorem dX1_step_55 : decode cX1_step 55 = .ok (.getfield 35, 3) := by decide +kernel
theorem dX1_step_58 : decode cX1_step 58 = .ok (.putfield 68, 3) := by decide +kernel
theorem dX1_step_61 : decode cX1_step 61 = .ok (.aload_n 0, 1) := by decide +kernel
theorem dX1_step_62 : decode cX1_step 62 = .ok (.getfield 68, 3) := by decide +kernel
theorem dX1_step_65 : decode cX1_step 65 = .ok (.aload_n 0, 1) := by decide +kernel
theorem dX1_step_66 : decode cX1_step 66 = .ok (.getfield 25, 3) := by decide +kernel
theorem dX1_step_69 : decode cX1_step 69 = .ok (.if_icmp .ge 31, 3) := by decide +kernel
theorem dX1_step_72 : decode cX1_step 72 = .ok (.aload_n 0, 1) := by decide +kernel
theorem dX1_step_73 : decode cX1_step 73 = .ok (.getfield 9, 3) := by decide +kernel
theorem dX1_step_76 : decode cX1_step 76 = .ok (.aload_n 0, 1) := by decide +kernel
theorem dX1_step_77 : decode cX1_step 77 = .ok (.getfield 68, 3) := by decide +kernel
theorem dX1_step_80 : decode cX1_step 80 = .ok (.iaload, 1) := by decide +kernel
theorem dX1_step_81 : decode cX1_step 81 = .ok (.invokestatic 74, 3) := by decide +kernel
theorem dX1_step_84 : decode cX1_step 84 = .ok (.ifCond .eq 16, 3) := by decide +kernel
theorem dX1_step_87 : decode cX1_step 87 = .ok (.aload_n 0, 1) := by decide +kernel
theorem dX1_step_88 : decode cX1_step 88 = .ok (.dup, 1) := by decide +kernel
theorem dX1_step_89 : decode cX1_step 89 = .ok (.getfield 68, 3) := by decide +kernel
theorem dX1_step_92 : decode cX1_step 92 = .ok (.iconst 1, 1) := by decide +kernel
theorem dX1_step_93 : decode cX1_step 93 = .ok (.iadd, 1) := by decide +kernel
theorem dX1_step_94 : decode cX1_step 94 = .ok (.putfield 68, 3) := by decide +kernel
theorem dX1_step_97 : decode cX1_step 97 = .ok (.goto (-36), 3) := by decide +kernel
theorem dX1_step_100 : decode cX1_step 100 = .ok (.aload_n 0, 1) := by decide +kernel
theorem dX1_step_101 : decode cX1_step 101 = .ok (.getfield 68, 3) := by decide +kernel
theorem dX1_step_104 : decode cX1_step 104 = .ok (.aload_n 0, 1) := by decide +kernel
theorem dX1_step_105 : decode cX1_step 105 = .ok (.getfield 35, 3) := by decide +kernel
theorem dX1_step_108 : decode cX1_step 108 = .ok (.if_icmp .ne 42, 3) := by decide +kernel
theorem dX1_step_111 : decode cX1_step 111 = .ok (.aload_n 0, 1) := by decide +kernel
theorem dX1_step_112 : decode cX1_step 112 = .ok (.getfield 68, 3) := by decide +kernel
theorem dX1_step_115 : decode cX1_step 115 = .ok (.aload_n 0, 1) := by decide +kernel
theorem dX1_step_116 : decode cX1_step 116 = .ok (.getfield 25, 3) := by decide +kernel
theorem dX1_step_119 : decode cX1_step 119 = .ok (.if_icmp .ge 31, 3) := by decide +kernel
theorem dX1_step_122 : decode cX1_step 122 = .ok (.aload_n 0, 1) := by decide +kernel
theorem dX1_step_123 : decode cX1_step 123 = .ok (.getfield 9, 3) := by decide +kernel
theorem dX1_step_126 : decode cX1_step 126 = .ok (.aload_n 0, 1) := by decide +kernel
theorem dX1_step_127 : decode cX1_step 127 = .ok (.getfield 68, 3) := by decide +kernel
theorem dX1_step_130 : decode cX1_step 130 = .ok (.iaload, 1) := by decide +kernel
theorem dX1_step_131 : decode cX1_step 131 = .ok (.invokestatic 78, 3) := by decide +kernel
theorem dX1_step_134 : decode cX1_step 134 = .ok (.ifCond .eq 16, 3) := by decide +kernel
theorem dX1_step_137 : decode cX1_step 137 = .ok (.aload_n 0, 1) := by decide +kernel
theorem dX1_step_138 : decode cX1_step 138 = .ok (.dup, 1) := by decide +kernel
theorem dX1_step_139 : decode cX1_step 139 = .ok (.getfield 68, 3) := by decide +kernel
theorem dX1_step_142 : decode cX1_step 142 = .ok (.iconst 1, 1) := by decide +kernel
theorem dX1_step_143 : decode cX1_step 143 = .ok (.iadd, 1) := by decide +kernel
theorem dX1_step_144 : decode cX1_step 144 = .ok (.putfield 68, 3) := by decide +kernel
theorem dX1_step_147 : decode cX1_step 147 = .ok (.goto (-36), 3) := by decide +kernel
theorem dX1_step_150 : decode cX1_step 150 = .ok (.aload_n 0, 1) := by decide +kernel
theorem dX1_step_151 : decode cX1_step 151 = .ok (.aload_n 0, 1) := by decide +kernel
theorem dX1_step_152 : decode cX1_step 152 = .ok (.getfield 68, 3) := by decide +kernel
theorem dX1_step_155 : decode cX1_step 155 = .ok (.aload_n 0, 1) := by decide +kernel
theorem dX1_step_156 : decode cX1_step 156 = .ok (.getfield 35, 3) := by decide +kernel
theorem dX1_step_159 : decode cX1_step 159 = .ok (.if_icmp .le 7, 3) := by decide +kernel
theorem dX1_step_162 : decode cX1_step 162 = .ok (.iconst 1, 1) := by decide +kernel
theorem dX1_step_163 : decode cX1_step 163 = .ok (.goto 4, 3) := by decide +kernel
theorem dX1_step_166 : decode cX1_step 166 = .ok (.iconst 0, 1) := by decide +kernel
theorem dX1_step_167 : decode cX1_step 167 = .ok (.putfield 71, 3) := by decide +kernel
theorem dX1_step_170 : decode cX1_step 170 = .ok (.aload_n 0, 1) := by decide +kernel
theorem dX1_step_171 : decode cX1_step 171 = .ok (.aload_n 0, 1) := by decide +kernel
theorem dX1_step_172 : decode cX1_step 172 = .ok (.getfield 71, 3) := by decide +kernel
theorem dX1_step_175 : decode cX1_step 175 = .ok (.ifCond .eq 19, 3) := by decide +kernel
theorem dX1_step_178 : decode cX1_step 178 = .ok (.iload_n 2, 1) := by decide +kernel
theorem dX1_step_179 : decode cX1_step 179 = .ok (.ifCond .eq 15, 3) := by decide +kernel
theorem dX1_step_182 : decode cX1_step 182 = .ok (.aload_n 0, 1) := by decide +kernel
theorem dX1_step_183 : decode cX1_step 183 = .ok (.getfield 35, 3) := by decide +kernel
theorem dX1_step_186 : decode cX1_step 186 = .ok (.iload_n 1, 1) := by decide +kernel
theorem dX1_step_187 : decode cX1_step 187 = .ok (.if_icmp .ne 7, 3) := by decide +kernel
theorem dX1_step_190 : decode cX1_step 190 = .ok (.iconst 1, 1) := by decide +kernel
theorem dX1_step_191 : decode cX1_step 191 = .ok (.goto 4, 3) := by decide +kernel
theorem dX1_step_194 : decode cX1_step 194 = .ok (.iconst 0, 1) := by decide +kernel
theorem dX1_step_195 : decode cX1_step 195 = .ok (.putfield 38, 3) := by decide +kernel
theorem dX1_step_198 : decode cX1_step 198 = .ok (.aload_n 0, 1) := by decide +kernel
theorem dX1_step_199 : decode cX1_step 199 = .ok (.getfield 71, 3) := by decide +kernel
theorem dX1_step_202 : decode cX1_step 202 = .ok (.ifCond .ne 13, 3) := by decide +kernel
theorem dX1_step_205 : decode cX1_step 205 = .ok (.aload_n 0, 1) := by decide +kernel
theorem dX1_step_206 : decode cX1_step 206 = .ok (.dup, 1) := by decide +kernel
theorem dX1_step_207 : decode cX1_step 207 = .ok (.getfield 68, 3) := by decide +kernel
theorem dX1_step_210 : decode cX1_step 210 = .ok (.iconst 1, 1) := by decide +kernel
theorem dX1_step_211 : decode cX1_step 211 = .ok (.iadd, 1) := by decide +kernel
theorem dX1_step_212 : decode cX1_step 212 = .ok (.putfield 68, 3) := by decide +kernel
theorem dX1_step_215 : decode cX1_step 215 = .ok (.return_, 1) := by decide +kernel
def f_X1_step_195 (fu : Nat)  (y1 : Int32) (m : Mem) : Option Mem := chk (isB y1) (seqM (upd m 288 y1) (fun m_2 : Mem => if (m_2 287) = 0 then (seqM (upd m_2 286 ((m_2 286) + 1)) (fun m_4 : Mem => some m_4)) else (some m_2)))
set_option maxHeartbeats 4000000 in
set_option maxRecDepth 100000 in
theorem w_X1_step_195 {X : TX} {p : Program} {l : Launch} {e : Env} {s : State} {mi : MethodId} {args : Array Value} {below : List Frame} {meth : Method} {c : Code} {Q : State → Prop} {mE : Mem} (C : Cx X p s mi args c RX1 cX1_step 3) (hq : RetV X p l e (rmD 2) s mi args below meth c cX1_step Q mE) {fu : Nat} {y1 : Int32} {m : Mem} {H : Heap} {locs : List Loc} {ls : Array Slot} (h : f_X1_step_195 fu y1 m = some mE)  (hW : Wd X s m H locs) (hl : lv_has ls 3 [(0, .ref (ad X 6 0))]) : W p l e (rmD 2) s mi args below meth c H locs 0 0 Q (F0 mi 195 ls [.int y1, .ref (ad X 6 0)]) := by
  unfold f_X1_step_195 at h
  obtain ⟨hb_1, h⟩ := chk_E h
  obtain ⟨m_2, e_3, h⟩ := seqM_E h
  refine zp_X1_isGlued C hW id_6 w_149 (isB_E hb_1) e_3 dX1_step_195 (fun H locs hW => ?_)
  refine lv_aload_n C.1 C.2.1 dX1_step_198 rfl (lv_at hl 0 rfl) ?_
  refine zg_X1_isWord C hW id_6 w_148 dX1_step_199 ?_
  refine lv_if_ne (tgt := 215) C.1 C.2.1 dX1_step_202 (by decide) (fun hc_6 => ?_) (fun hc_6 => ?_)
  · have h := ite_f hc_6 h
    exact ret_v h hq hW dX1_step_215
  · have h := ite_t hc_6 h
    refine lv_aload_n C.1 C.2.1 dX1_step_205 rfl (lv_at hl 0 rfl) ?_
    refine lv_dup C.1 C.2.1 dX1_step_206 rfl ?_
    refine zg_X1_to C hW id_6 w_147 dX1_step_207 ?_
    refine lv_iconst (v := 1) C.1 C.2.1 dX1_step_210 rfl ?_
    refine lv_iadd C.1 C.2.1 dX1_step_211 ?_
    obtain ⟨m_4, e_5, h⟩ := seqM_E h
    refine zp_X1_to C hW id_6 w_147 e_5 dX1_step_212 (fun H locs hW => ?_)
    exact ret_v h hq hW dX1_step_215
def f_X1_step_194 (fu : Nat)   (m : Mem) : Option Mem := f_X1_step_195 fu 0 m
set_option maxHeartbeats 4000000 in
set_option maxRecDepth 100000 in
theorem w_X1_step_194 {X : TX} {p : Program} {l : Launch} {e : Env} {s : State} {mi : MethodId} {args : Array Value} {below : List Frame} {meth : Method} {c : Code} {Q : State → Prop} {mE : Mem} (C : Cx X p s mi args c RX1 cX1_step 3) (hq : RetV X p l e (rmD 2) s mi args below meth c cX1_step Q mE) {fu : Nat}  {m : Mem} {H : Heap} {locs : List Loc} {ls : Array Slot} (h : f_X1_step_194 fu  m = some mE)  (hW : Wd X s m H locs) (hl : lv_has ls 3 [(0, .ref (ad X 6 0))]) : W p l e (rmD 2) s mi args below meth c H locs 0 0 Q (F0 mi 194 ls [.ref (ad X 6 0)]) := by
  unfold f_X1_step_194 at h
  refine lv_iconst (v := 0) C.1 C.2.1 dX1_step_194 rfl ?_
  exact w_X1_step_195 C hq  h  hW (lv_sub hl [0] rfl)
def f_X1_step_167 (fu : Nat)  (x1 : Int32) (x2 : Int32) (y1 : Int32) (m : Mem) : Option Mem := chk (isB y1) (seqM (upd m 287 y1) (fun m_2 : Mem => if (m_2 287) = 0 then (f_X1_step_194 fu m_2) else (if x2 = 0 then (f_X1_step_194 fu m_2) else (if (m_2 285) = x1 then (f_X1_step_195 fu 1 m_2) else (f_X1_step_194 fu m_2)))))
set_option maxHeartbeats 4000000 in
set_option maxRecDepth 100000 in
theorem w_X1_step_167 {X : TX} {p : Program} {l : Launch} {e : Env} {s : State} {mi : MethodId} {args : Array Value} {below : List Frame} {meth : Method} {c : Code} {Q : State → Prop} {mE : Mem} (C : Cx X p s mi args c RX1 cX1_step 3) (hq : RetV X p l e (rmD 2) s mi args below meth c cX1_step Q mE) {fu : Nat} {x1 : Int32} {x2 : Int32} {y1 : Int32} {m : Mem} {H : Heap} {locs : List Loc} {ls : Array Slot} (h : f_X1_step_167 fu x1 x2 y1 m = some mE)  (hW : Wd X s m H locs) (hl : lv_has ls 3 [(0, .ref (ad X 6 0)), (1, .int x1), (2, .int x2)]) : W p l e (rmD 2) s mi args below meth c H locs 0 0 Q (F0 mi 167 ls [.int y1, .ref (ad X 6 0)]) := by
  unfold f_X1_step_167 at h
  obtain ⟨hb_1, h⟩ := chk_E h
  obtain ⟨m_2, e_3, h⟩ := seqM_E h
  refine zp_X1_isWord C hW id_6 w_148 (isB_E hb_1) e_3 dX1_step_167 (fun H locs hW => ?_)
  refine lv_aload_n C.1 C.2.1 dX1_step_170 rfl (lv_at hl 0 rfl) ?_
  refine lv_aload_n C.1 C.2.1 dX1_step_171 rfl (lv_at hl 0 rfl) ?_
  refine zg_X1_isWord C hW id_6 w_148 dX1_step_172 ?_
  refine lv_if_eq (tgt := 194) C.1 C.2.1 dX1_step_175 (by decide) (fun hc_6 => ?_) (fun hc_6 => ?_)
  · have h := ite_t hc_6 h
    exact w_X1_step_194 C hq  h  hW (lv_sub hl [0] rfl)
  · have h := ite_f hc_6 h
    refine lv_iload_n C.1 C.2.1 dX1_step_178 rfl (lv_at hl 2 rfl) ?_
    refine lv_if_eq (tgt := 194) C.1 C.2.1 dX1_step_179 (by decide) (fun hc_5 => ?_) (fun hc_5 => ?_)
    · have h := ite_t hc_5 h
      exact w_X1_step_194 C hq  h  hW (lv_sub hl [0] rfl)
    · have h := ite_f hc_5 h
      refine lv_aload_n C.1 C.2.1 dX1_step_182 rfl (lv_at hl 0 rfl) ?_
      refine zg_X1_from C hW id_6 w_146 dX1_step_183 ?_
      refine lv_iload_n C.1 C.2.1 dX1_step_186 rfl (lv_at hl 1 rfl) ?_
      refine lv_icmp_ne (tgt := 194) C.1 C.2.1 dX1_step_187 (by decide) (fun hc_4 => ?_) (fun hc_4 => ?_)
      · have h := ite_f hc_4 h
        exact w_X1_step_194 C hq  h  hW (lv_sub hl [0] rfl)
      · have h := ite_t hc_4 h
        refine lv_iconst (v := 1) C.1 C.2.1 dX1_step_190 rfl ?_
        refine lv_goto (tgt := 195) C.1 C.2.1 dX1_step_191 (by decide) ?_
        exact w_X1_step_195 C hq  h  hW (lv_sub hl [0] rfl)
def f_X1_step_150 (fu : Nat)  (x1 : Int32) (x2 : Int32) (m : Mem) : Option Mem := if (m 286) ≤ (m 285) then (f_X1_step_167 fu x1 x2 0 m) else (f_X1_step_167 fu x1 x2 1 m)
set_option maxHeartbeats 4000000 in
set_option maxRecDepth 100000 in
theorem w_X1_step_150 {X : TX} {p : Program} {l : Launch} {e : Env} {s : State} {mi : MethodId} {args : Array Value} {below : List Frame} {meth : Method} {c : Code} {Q : State → Prop} {mE : Mem} (C : Cx X p s mi args c RX1 cX1_step 3) (hq : RetV X p l e (rmD 2) s mi args below meth c cX1_step Q mE) {fu : Nat} {x1 : Int32} {x2 : Int32} {m : Mem} {H : Heap} {locs : List Loc} {ls : Array Slot} (h : f_X1_step_150 fu x1 x2 m = some mE)  (hW : Wd X s m H locs) (hl : lv_has ls 3 [(0, .ref (ad X 6 0)), (1, .int x1), (2, .int x2)]) : W p l e (rmD 2) s mi args below meth c H locs 0 0 Q (F0 mi 150 ls []) := by
  unfold f_X1_step_150 at h
  refine lv_aload_n C.1 C.2.1 dX1_step_150 rfl (lv_at hl 0 rfl) ?_
  refine lv_aload_n C.1 C.2.1 dX1_step_151 rfl (lv_at hl 0 rfl) ?_
  refine zg_X1_to C hW id_6 w_147 dX1_step_152 ?_
  refine lv_aload_n C.1 C.2.1 dX1_step_155 rfl (lv_at hl 0 rfl) ?_
  refine zg_X1_from C hW id_6 w_146 dX1_step_156 ?_
  refine lv_icmp_le (tgt := 166) C.1 C.2.1 dX1_step_159 (by decide) (fun hc_1 => ?_) (fun hc_1 => ?_)
  · have h := ite_t hc_1 h
    refine lv_iconst (v := 0) C.1 C.2.1 dX1_step_166 rfl ?_
    exact w_X1_step_167 C hq  h  hW (lv_sub hl [0, 1, 2] rfl)
  · have h := ite_f hc_1 h
    refine lv_iconst (v := 1) C.1 C.2.1 dX1_step_162 rfl ?_
    refine lv_goto (tgt := 167) C.1 C.2.1 dX1_step_163 (by decide) ?_
    exact w_X1_step_167 C hq  h  hW (lv_sub hl [0, 1, 2] rfl)
def f_X1_step_111 (fu : Nat)  : Nat → Int32 → Int32 → Mem → Option Mem
  | 0, _, _, _ => none
  | n + 1, x1, x2, m => if (m 280) ≤ (m 286) then (f_X1_step_150 fu x1 x2 m) else (chk (inb (m 286) 96) (doI (f_X1_isDigit fu (m (900 + (m 286).toNatClampNeg)) m) (fun r_4 m_3 => if r_4 = 0 then (f_X1_step_150 fu x1 x2 m_3) else (seqM (upd m_3 286 ((m_3 286) + 1)) (fun m_5 : Mem => f_X1_step_111 fu n x1 x2 m_5)))))
set_option maxHeartbeats 4000000 in
set_option maxRecDepth 100000 in
theorem w_X1_step_111 {X : TX} {p : Program} {l : Launch} {e : Env} {s : State} {mi : MethodId} {args : Array Value} {below : List Frame} {meth : Method} {c : Code} {Q : State → Prop} {mE : Mem} (C : Cx X p s mi args c RX1 cX1_step 3) (hq : RetV X p l e (rmD 2) s mi args below meth c cX1_step Q mE) {fu : Nat} : ∀ (n : Nat) {x1 : Int32} {x2 : Int32} {m : Mem} {H : Heap} {locs : List Loc} {ls : Array Slot}, f_X1_step_111 fu n x1 x2 m = some mE → Wd X s m H locs → lv_has ls 3 [(0, .ref (ad X 6 0)), (1, .int x1), (2, .int x2)] → W p l e (rmD 2) s mi args below meth c H locs 0 0 Q (F0 mi 111 ls []) := by
  intro n
  induction n with
  | zero =>
    intro x1 x2 m H locs ls h hW hl
    rw [f_X1_step_111] at h
    cases h
  | succ n ih =>
    intro x1 x2 m H locs ls h hW hl
    rw [f_X1_step_111] at h
    refine lv_aload_n C.1 C.2.1 dX1_step_111 rfl (lv_at hl 0 rfl) ?_
    refine zg_X1_to C hW id_6 w_147 dX1_step_112 ?_
    refine lv_aload_n C.1 C.2.1 dX1_step_115 rfl (lv_at hl 0 rfl) ?_
    refine zg_X1_length C hW id_6 w_137 dX1_step_116 ?_
    refine lv_icmp_ge (tgt := 150) C.1 C.2.1 dX1_step_119 (by decide) (fun hc_8 => ?_) (fun hc_8 => ?_)
    · have h := ite_t hc_8 h
      exact w_X1_step_150 C hq  h  hW (lv_sub hl [0, 1, 2] rfl)
    · have h := ite_f hc_8 h
      refine lv_aload_n C.1 C.2.1 dX1_step_122 rfl (lv_at hl 0 rfl) ?_
      refine zg_X1_bytes C hW id_6 w_136 dX1_step_123 ?_
      refine lv_aload_n C.1 C.2.1 dX1_step_126 rfl (lv_at hl 0 rfl) ?_
      refine zg_X1_to C hW id_6 w_147 dX1_step_127 ?_
      obtain ⟨hb_1, h⟩ := chk_E h
      refine zal_7 C hW id_7 (inb_E hb_1) dX1_step_130 ?_
      obtain ⟨r_4, m_3, hc_2, h⟩ := doI_E h
      refine zr_cSI C hW (c_X1_isDigit (x0 := (m (900 + (m 286).toNatClampNeg))) hc_2 ) k_X1_isDigit w_720 ⟨Nat.le_of_ble_eq_true rfl, Nat.le_of_ble_eq_true rfl⟩ ⟨Nat.le_refl 0, Nat.le_refl 0⟩ rfl hl.1 rfl (Nat.le_of_ble_eq_true rfl) dX1_step_131 (fun H locs hW => ?_)
      refine lv_if_eq (tgt := 150) C.1 C.2.1 dX1_step_134 (by decide) (fun hc_7 => ?_) (fun hc_7 => ?_)
      · have h := ite_t hc_7 h
        exact w_X1_step_150 C hq  h  hW (lv_sub hl [0, 1, 2] rfl)
      · have h := ite_f hc_7 h
        refine lv_aload_n C.1 C.2.1 dX1_step_137 rfl (lv_at hl 0 rfl) ?_
        refine lv_dup C.1 C.2.1 dX1_step_138 rfl ?_
        refine zg_X1_to C hW id_6 w_147 dX1_step_139 ?_
        refine lv_iconst (v := 1) C.1 C.2.1 dX1_step_142 rfl ?_
        refine lv_iadd C.1 C.2.1 dX1_step_143 ?_
        obtain ⟨m_5, e_6, h⟩ := seqM_E h
        refine zp_X1_to C hW id_6 w_147 e_6 dX1_step_144 (fun H locs hW => ?_)
        refine lv_goto (tgt := 111) C.1 C.2.1 dX1_step_147 (by decide) ?_
        exact ih h  hW (lv_sub hl [0, 1, 2] rfl)
def f_X1_step_100 (fu : Nat)  (x1 : Int32) (x2 : Int32) (m : Mem) : Option Mem := if (m 286) = (m 285) then (f_X1_step_111 fu fu x1 x2 m) else (f_X1_step_150 fu x1 x2 m)
set_option maxHeartbeats 4000000 in
set_option maxRecDepth 100000 in
theorem w_X1_step_100 {X : TX} {p : Program} {l : Launch} {e : Env} {s : State} {mi : MethodId} {args : Array Value} {below : List Frame} {meth : Method} {c : Code} {Q : State → Prop} {mE : Mem} (C : Cx X p s mi args c RX1 cX1_step 3) (hq : RetV X p l e (rmD 2) s mi args below meth c cX1_step Q mE) {fu : Nat} {x1 : Int32} {x2 : Int32} {m : Mem} {H : Heap} {locs : List Loc} {ls : Array Slot} (h : f_X1_step_100 fu x1 x2 m = some mE)  (hW : Wd X s m H locs) (hl : lv_has ls 3 [(0, .ref (ad X 6 0)), (1, .int x1), (2, .int x2)]) : W p l e (rmD 2) s mi args below meth c H locs 0 0 Q (F0 mi 100 ls []) := by
  unfold f_X1_step_100 at h
  refine lv_aload_n C.1 C.2.1 dX1_step_100 rfl (lv_at hl 0 rfl) ?_
  refine zg_X1_to C hW id_6 w_147 dX1_step_101 ?_
  refine lv_aload_n C.1 C.2.1 dX1_step_104 rfl (lv_at hl 0 rfl) ?_
  refine zg_X1_from C hW id_6 w_146 dX1_step_105 ?_
  refine lv_icmp_ne (tgt := 150) C.1 C.2.1 dX1_step_108 (by decide) (fun hc_1 => ?_) (fun hc_1 => ?_)
  · have h := ite_f hc_1 h
    exact w_X1_step_150 C hq  h  hW (lv_sub hl [0, 1, 2] rfl)
  · have h := ite_t hc_1 h
    exact w_X1_step_111 C hq  fu h  hW (lv_sub hl [0, 1, 2] rfl)
def f_X1_step_61 (fu : Nat)  : Nat → Int32 → Int32 → Mem → Option Mem
  | 0, _, _, _ => none
  | n + 1, x1, x2, m => if (m 280) ≤ (m 286) then (f_X1_step_100 fu x1 x2 m) else (chk (inb (m 286) 96) (doI (f_X1_isLetter fu (m (900 + (m 286).toNatClampNeg)) m) (fun r_4 m_3 => if r_4 = 0 then (f_X1_step_100 fu x1 x2 m_3) else (seqM (upd m_3 286 ((m_3 286) + 1)) (fun m_5 : Mem => f_X1_step_61 fu n x1 x2 m_5)))))
set_option maxHeartbeats 4000000 in
set_option maxRecDepth 100000 in
theorem w_X1_step_61 {X : TX} {p : Program} {l : Launch} {e : Env} {s : State} {mi : MethodId} {args : Array Value} {below : List Frame} {meth : Method} {c : Code} {Q : State → Prop} {mE : Mem} (C : Cx X p s mi args c RX1 cX1_step 3) (hq : RetV X p l e (rmD 2) s mi args below meth c cX1_step Q mE) {fu : Nat} : ∀ (n : Nat) {x1 : Int32} {x2 : Int32} {m : Mem} {H : Heap} {locs : List Loc} {ls : Array Slot}, f_X1_step_61 fu n x1 x2 m = some mE → Wd X s m H locs → lv_has ls 3 [(0, .ref (ad X 6 0)), (1, .int x1), (2, .int x2)] → W p l e (rmD 2) s mi args below meth c H locs 0 0 Q (F0 mi 61 ls []) := by
  intro n
  induction n with
  | zero =>
    intro x1 x2 m H locs ls h hW hl
    rw [f_X1_step_61] at h
    cases h
  | succ n ih =>
    intro x1 x2 m H locs ls h hW hl
    rw [f_X1_step_61] at h
    refine lv_aload_n C.1 C.2.1 dX1_step_61 rfl (lv_at hl 0 rfl) ?_
    refine zg_X1_to C hW id_6 w_147 dX1_step_62 ?_
    refine lv_aload_n C.1 C.2.1 dX1_step_65 rfl (lv_at hl 0 rfl) ?_
    refine zg_X1_length C hW id_6 w_137 dX1_step_66 ?_
    refine lv_icmp_ge (tgt := 100) C.1 C.2.1 dX1_step_69 (by decide) (fun hc_8 => ?_) (fun hc_8 => ?_)
    · have h := ite_t hc_8 h
      exact w_X1_step_100 C hq  h  hW (lv_sub hl [0, 1, 2] rfl)
    · have h := ite_f hc_8 h
      refine lv_aload_n C.1 C.2.1 dX1_step_72 rfl (lv_at hl 0 rfl) ?_
      refine zg_X1_bytes C hW id_6 w_136 dX1_step_73 ?_
      refine lv_aload_n C.1 C.2.1 dX1_step_76 rfl (lv_at hl 0 rfl) ?_
      refine zg_X1_to C hW id_6 w_147 dX1_step_77 ?_
      obtain ⟨hb_1, h⟩ := chk_E h
      refine zal_7 C hW id_7 (inb_E hb_1) dX1_step_80 ?_
      obtain ⟨r_4, m_3, hc_2, h⟩ := doI_E h
      refine zr_cSI C hW (c_X1_isLetter (x0 := (m (900 + (m 286).toNatClampNeg))) hc_2 ) k_X1_isLetter w_716 ⟨Nat.le_of_ble_eq_true rfl, Nat.le_of_ble_eq_true rfl⟩ ⟨Nat.le_refl 0, Nat.le_refl 0⟩ rfl hl.1 rfl (Nat.le_of_ble_eq_true rfl) dX1_step_81 (fun H locs hW => ?_)
      refine lv_if_eq (tgt := 100) C.1 C.2.1 dX1_step_84 (by decide) (fun hc_7 => ?_) (fun hc_7 => ?_)
      · have h := ite_t hc_7 h
        exact w_X1_step_100 C hq  h  hW (lv_sub hl [0, 1, 2] rfl)
      · have h := ite_f hc_7 h
        refine lv_aload_n C.1 C.2.1 dX1_step_87 rfl (lv_at hl 0 rfl) ?_
        refine lv_dup C.1 C.2.1 dX1_step_88 rfl ?_
        refine zg_X1_to C hW id_6 w_147 dX1_step_89 ?_
        refine lv_iconst (v := 1) C.1 C.2.1 dX1_step_92 rfl ?_
        refine lv_iadd C.1 C.2.1 dX1_step_93 ?_
        obtain ⟨m_5, e_6, h⟩ := seqM_E h
        refine zp_X1_to C hW id_6 w_147 e_6 dX1_step_94 (fun H locs hW => ?_)
        refine lv_goto (tgt := 61) C.1 C.2.1 dX1_step_97 (by decide) ?_
        exact ih h  hW (lv_sub hl [0, 1, 2] rfl)
def f_X1_step_53 (fu : Nat)  (x1 : Int32) (x2 : Int32) (m : Mem) : Option Mem := seqM (upd m 286 (m 285)) (fun m_1 : Mem => f_X1_step_61 fu fu x1 x2 m_1)
set_option maxHeartbeats 4000000 in
set_option maxRecDepth 100000 in
theorem w_X1_step_53 {X : TX} {p : Program} {l : Launch} {e : Env} {s : State} {mi : MethodId} {args : Array Value} {below : List Frame} {meth : Method} {c : Code} {Q : State → Prop} {mE : Mem} (C : Cx X p s mi args c RX1 cX1_step 3) (hq : RetV X p l e (rmD 2) s mi args below meth c cX1_step Q mE) {fu : Nat} {x1 : Int32} {x2 : Int32} {m : Mem} {H : Heap} {locs : List Loc} {ls : Array Slot} (h : f_X1_step_53 fu x1 x2 m = some mE)  (hW : Wd X s m H locs) (hl : lv_has ls 3 [(0, .ref (ad X 6 0)), (1, .int x1), (2, .int x2)]) : W p l e (rmD 2) s mi args below meth c H locs 0 0 Q (F0 mi 53 ls []) := by
  unfold f_X1_step_53 at h
  refine lv_aload_n C.1 C.2.1 dX1_step_53 rfl (lv_at hl 0 rfl) ?_
  refine lv_aload_n C.1 C.2.1 dX1_step_54 rfl (lv_at hl 0 rfl) ?_
  refine zg_X1_from C hW id_6 w_146 dX1_step_55 ?_
  obtain ⟨m_1, e_2, h⟩ := seqM_E h
  refine zp_X1_to C hW id_6 w_147 e_2 dX1_step_58 (fun H locs hW => ?_)
  exact w_X1_step_61 C hq  fu h  hW (lv_sub hl [0, 1, 2] rfl)
def f_X1_step_15 (fu : Nat)  : Nat → Int32 → Int32 → Mem → Option Mem
  | 0, _, _, _ => none
  | n + 1, x1, x2, m => if (m 280) ≤ (m 285) then (f_X1_step_53 fu x1 x2 m) else (chk (inb (m 285) 96) (if (m (900 + (m 285).toNatClampNeg)) = 32 then (seqM (upd m 285 ((m 285) + 1)) (fun m_2 : Mem => f_X1_step_15 fu n x1 x2 m_2)) else (f_X1_step_53 fu x1 x2 m)))
set_option maxHeartbeats 4000000 in
set_option maxRecDepth 100000 in
theorem w_X1_step_15 {X : TX} {p : Program} {l : Launch} {e : Env} {s : State} {mi : MethodId} {args : Array Value} {below : List Frame} {meth : Method} {c : Code} {Q : State → Prop} {mE : Mem} (C : Cx X p s mi args c RX1 cX1_step 3) (hq : RetV X p l e (rmD 2) s mi args below meth c cX1_step Q mE) {fu : Nat} : ∀ (n : Nat) {x1 : Int32} {x2 : Int32} {m : Mem} {H : Heap} {locs : List Loc} {ls : Array Slot}, f_X1_step_15 fu n x1 x2 m = some mE → Wd X s m H locs → lv_has ls 3 [(0, .ref (ad X 6 0)), (1, .int x1), (2, .int x2)] → W p l e (rmD 2) s mi args below meth c H locs 0 0 Q (F0 mi 15 ls []) := by
  intro n
  induction n with
  | zero =>
    intro x1 x2 m H locs ls h hW hl
    rw [f_X1_step_15] at h
    cases h
  | succ n ih =>
    intro x1 x2 m H locs ls h hW hl
    rw [f_X1_step_15] at h
    refine lv_aload_n C.1 C.2.1 dX1_step_15 rfl (lv_at hl 0 rfl) ?_
    refine zg_X1_from C hW id_6 w_146 dX1_step_16 ?_
    refine lv_aload_n C.1 C.2.1 dX1_step_19 rfl (lv_at hl 0 rfl) ?_
    refine zg_X1_length C hW id_6 w_137 dX1_step_20 ?_
    refine lv_icmp_ge (tgt := 53) C.1 C.2.1 dX1_step_23 (by decide) (fun hc_5 => ?_) (fun hc_5 => ?_)
    · have h := ite_t hc_5 h
      exact w_X1_step_53 C hq  h  hW (lv_sub hl [0, 1, 2] rfl)
    · have h := ite_f hc_5 h
      refine lv_aload_n C.1 C.2.1 dX1_step_26 rfl (lv_at hl 0 rfl) ?_
      refine zg_X1_bytes C hW id_6 w_136 dX1_step_27 ?_
      refine lv_aload_n C.1 C.2.1 dX1_step_30 rfl (lv_at hl 0 rfl) ?_
      refine zg_X1_from C hW id_6 w_146 dX1_step_31 ?_
      obtain ⟨hb_1, h⟩ := chk_E h
      refine zal_7 C hW id_7 (inb_E hb_1) dX1_step_34 ?_
      refine lv_bipush (v := 32) C.1 C.2.1 dX1_step_35 rfl ?_
      refine lv_icmp_ne (tgt := 53) C.1 C.2.1 dX1_step_37 (by decide) (fun hc_4 => ?_) (fun hc_4 => ?_)
      · have h := ite_f hc_4 h
        exact w_X1_step_53 C hq  h  hW (lv_sub hl [0, 1, 2] rfl)
      · have h := ite_t hc_4 h
        refine lv_aload_n C.1 C.2.1 dX1_step_40 rfl (lv_at hl 0 rfl) ?_
        refine lv_dup C.1 C.2.1 dX1_step_41 rfl ?_
        refine zg_X1_from C hW id_6 w_146 dX1_step_42 ?_
        refine lv_iconst (v := 1) C.1 C.2.1 dX1_step_45 rfl ?_
        refine lv_iadd C.1 C.2.1 dX1_step_46 ?_
        obtain ⟨m_2, e_3, h⟩ := seqM_E h
        refine zp_X1_from C hW id_6 w_146 e_3 dX1_step_47 (fun H locs hW => ?_)
        refine lv_goto (tgt := 15) C.1 C.2.1 dX1_step_50 (by decide) ?_
        exact ih h  hW (lv_sub hl [0, 1, 2] rfl)
def f_X1_step (fu : Nat)   (m : Mem) : Option Mem := seqM (m 286) (fun x_1 : Int32 => seqM (m 287) (fun x_3 : Int32 => seqM (upd m 285 x_1) (fun m_5 : Mem => f_X1_step_15 fu fu x_1 x_3 m_5)))
set_option maxHeartbeats 4000000 in
set_option maxRecDepth 100000 in
theorem w_X1_step {X : TX} {p : Program} {l : Launch} {e : Env} {s : State} {mi : MethodId} {args : Array Value} {below : List Frame} {meth : Method} {c : Code} {Q : State → Prop} {mE : Mem} (C : Cx X p s mi args c RX1 cX1_step 3) (hq : RetV X p l e (rmD 2) s mi args below meth c cX1_step Q mE) {fu : Nat}  {m : Mem} {H : Heap} {locs : List Loc} {ls : Array Slot} (h : f_X1_step fu  m = some mE)  (hW : Wd X s m H locs) (hl : lv_has ls 3 [(0, .ref (ad X 6 0))]) : W p l e (rmD 2) s mi args below meth c H locs 0 0 Q (F0 mi 0 ls []) := by
  unfold f_X1_step at h
  refine lv_aload_n C.1 C.2.1 dX1_step_0 rfl (lv_at hl 0 rfl) ?_
  refine zg_X1_to C hW id_6 w_147 dX1_step_1 ?_
  obtain ⟨x_1, e_2, h⟩ := seqM_E h
  refine lv_name e_2 ?_
  refine lv_istore_n (lv' := [(1, .int x_1), (0, .ref (ad X 6 0))]) C.1 C.2.1 dX1_step_4 rfl hl (by decide) rfl (fun ls hl => ?_)
  refine lv_aload_n C.1 C.2.1 dX1_step_5 rfl (lv_at hl 1 rfl) ?_
  refine zg_X1_isWord C hW id_6 w_148 dX1_step_6 ?_
  obtain ⟨x_3, e_4, h⟩ := seqM_E h
  refine lv_name e_4 ?_
  refine lv_istore_n (lv' := [(2, .int x_3), (1, .int x_1), (0, .ref (ad X 6 0))]) C.1 C.2.1 dX1_step_9 rfl hl (by decide) rfl (fun ls hl => ?_)
  refine lv_aload_n C.1 C.2.1 dX1_step_10 rfl (lv_at hl 2 rfl) ?_
  refine lv_iload_n C.1 C.2.1 dX1_step_11 rfl (lv_at hl 1 rfl) ?_
  obtain ⟨m_5, e_6, h⟩ := seqM_E h
  refine zp_X1_from C hW id_6 w_146 e_6 dX1_step_12 (fun H locs hW => ?_)
  exact w_X1_step_15 C hq  fu h  hW (lv_sub hl [2, 1, 0] rfl)
theorem c_X1_step {X : TX} {l : Launch} {fu : Nat}  {m mE : Mem} (h : f_X1_step fu  m = some mE)  : MetV X l yX1_step cX1_step 3 2 [.ref (ad X 6 0)] m mE :=
  met_V (by decide) (Nat.le_of_ble_eq_true rfl) (fun p e s mi args below meth c ls Q C hq hW hl => w_X1_step C hq h  hW (lv_sub hl [0] rfl))
theorem k_X1_step : CalV yX1_step cX1_step 3 none RX1 0 := ⟨w_714, w_11, w_64, w_715, by decide +kernel⟩
theorem dX1_isHere_0 : decode cX1_isHere 0 = .ok (.aload_n 0, 1) := by decide +kernel
theorem dX1_isHere_1 : decode cX1_isHere 1 = .ok (.getfield 68, 3) := by decide +kernel
theorem dX1_isHere_4 : decode cX1_isHere 4 = .ok (.aload_n 0, 1) := by decide +kernel
theorem dX1_isHere_5 : decode cX1_isHere 5 = .ok (.getfield 35, 3) := by decide +kernel
theorem dX1_isHere_8 : decode cX1_isHere 8 = .ok (.isub, 1) := by decide +kernel
theorem dX1_isHere_9 : decode cX1_isHere 9 = .ok (.aload_n 1, 1) := by decide +kernel
theorem dX1_isHere_10 : decode cX1_isHere 10 = .ok (.invokevirtual 101, 3) := by decide +kernel
theorem dX1_isHere_13 : decode cX1_isHere 13 = .ok (.if_icmp .eq 5, 3) := by decide +kernel
theorem dX1_isHere_16 : decode cX1_isHere 16 = .ok (.iconst 0, 1) := by decide +kernel
theorem dX1_isHere_17 : decode cX1_isHere 17 = .ok (.ireturn, 1) := by decide +kernel
theorem dX1_isHere_18 : decode cX1_isHere 18 = .ok (.iconst 0, 1) := by decide +kernel
theorem dX1_isHere_19 : decode cX1_isHere 19 = .ok (.istore_n 2, 1) := by decide +kernel
theorem dX1_isHere_20 : decode cX1_isHere 20 = .ok (.iload_n 2, 1) := by decide +kernel
theorem dX1_isHere_21 : decode cX1_isHere 21 = .ok (.aload_n 1, 1) := by decide +kernel
theorem dX1_isHere_22 : decode cX1_isHere 22 = .ok (.invokevirtual 101, 3) := by decide +kernel
theorem dX1_isHere_25 : decode cX1_isHere 25 = .ok (.if_icmp .ge 30, 3) := by decide +kernel
theorem dX1_isHere_28 : decode cX1_isHere 28 = .ok (.aload_n 0, 1) := by decide +kernel
theorem dX1_isHere_29 : decode cX1_isHere 29 = .ok (.getfield 9, 3) := by decide +kernel
theorem dX1_isHere_32 : decode cX1_isHere 32 = .ok (.aload_n 0, 1) := by decide +kernel
theorem dX1_isHere_33 : decode cX1_isHere 33 = .ok (.getfield 35, 3) := by decide +kernel
theorem dX1_isHere_36 : decode cX1_isHere 36 = .ok (.iload_n 2, 1) := by decide +kernel
theorem dX1_isHere_37 : decode cX1_isHere 37 = .ok (.iadd, 1) := by decide +kernel
theorem dX1_isHere_38 : decode cX1_isHere 38 = .ok (.iaload, 1) := by decide +kernel
theorem dX1_isHere_39 : decode cX1_isHere 39 = .ok (.aload_n 1, 1) := by decide +kernel
theorem dX1_isHere_40 : decode cX1_isHere 40 = .ok (.iload_n 2, 1) := by decide +kernel
theorem dX1_isHere_41 : decode cX1_isHere 41 = .ok (.invokevirtual 105, 3) := by decide +kernel
theorem dX1_isHere_44 : decode cX1_isHere 44 = .ok (.if_icmp .eq 5, 3) := by decide +kernel
theorem dX1_isHere_47 : decode cX1_isHere 47 = .ok (.iconst 0, 1) := by decide +kernel
theorem dX1_isHere_48 : decode cX1_isHere 48 = .ok (.ireturn, 1) := by decide +kernel
theorem dX1_isHere_49 : decode cX1_isHere 49 = .ok (.iinc 2 1, 3) := by decide +kernel
theorem dX1_isHere_52 : decode cX1_isHere 52 = .ok (.goto (-32), 3) := by decide +kernel
theorem dX1_isHere_55 : decode cX1_isHere 55 = .ok (.iconst 1, 1) := by decide +kernel
theorem dX1_isHere_56 : decode cX1_isHere 56 = .ok (.ireturn, 1) := by decide +kernel
def f_X1_isHere_20 (fu : Nat)  : Nat → Nat → Int32 → Mem → Option (Int32 × Mem)
  | 0, _, _, _ => none
  | n + 1, i1, x2, m => doI (f_J0_length_8abf5 fu i1 m) (fun r_3 m_2 => if r_3 ≤ x2 then (some (1, m_2)) else (chk (inb ((m_2 285) + x2) 96) (doI (f_J0_charAt_5068e fu i1 x2 m_2) (fun r_7 m_6 => if (m_2 (900 + ((m_2 285) + x2).toNatClampNeg)) = r_7 then (seqM (x2 + 1) (fun x_8 : Int32 => f_X1_isHere_20 fu n i1 x_8 m_6)) else (some (0, m_6))))))
set_option maxHeartbeats 4000000 in
set_option maxRecDepth 100000 in
theorem w_X1_isHere_20 {X : TX} {p : Program} {l : Launch} {e : Env} {s : State} {mi : MethodId} {args : Array Value} {below : List Frame} {meth : Method} {c : Code} {Q : State → Prop} {r : Int32} {mE : Mem} (C : Cx X p s mi args c RX1 cX1_isHere 3) (hq : RetI X p l e (rmD 4) s mi args below meth c cX1_isHere .boolean Q r mE) {fu : Nat} : ∀ (n : Nat) {i1 : Nat} {x2 : Int32} {m : Mem} {H : Heap} {locs : List Loc} {ls : Array Slot}, f_X1_isHere_20 fu n i1 x2 m = some (r, mE) → i1 < 6 → Wd X s m H locs → lv_has ls 3 [(0, .ref (ad X 6 0)), (1, .ref (adK X i1)), (2, .int x2)] → W p l e (rmD 4) s mi args below meth c H locs 0 0 Q (F0 mi 20 ls []) := by
  intro n
  induction n with
  | zero =>
    intro i1 x2 m H locs ls h g_i1 hW hl
    rw [f_X1_isHere_20] at h
    cases h
  | succ n ih =>
    intro i1 x2 m H locs ls h g_i1 hW hl
    rw [f_X1_isHere_20] at h
    refine lv_iload_n C.1 C.2.1 dX1_isHere_20 rfl (lv_at hl 2 rfl) ?_
    refine lv_aload_n C.1 C.2.1 dX1_isHere_21 rfl (lv_at hl 1 rfl) ?_
    obtain ⟨r_3, m_2, hc_1, h⟩ := doI_E h
    refine zr_cVI C hW (c_J0_length_8abf5 (i0 := i1) hc_1 g_i1) k_J0_length_8abf5 (zs_recv C hW g_i1) w_736 ⟨Nat.le_of_ble_eq_true rfl, Nat.le_of_ble_eq_true rfl⟩ ⟨Nat.le_refl 0, Nat.le_refl 0⟩ rfl hl.1 rfl (Nat.le_of_ble_eq_true rfl) dX1_isHere_22 (fun H locs hW => ?_)
    refine lv_icmp_ge (tgt := 55) C.1 C.2.1 dX1_isHere_25 (by decide) (fun hc_11 => ?_) (fun hc_11 => ?_)
    · have h := ite_t hc_11 h
      refine lv_iconst (v := 1) C.1 C.2.1 dX1_isHere_55 rfl ?_
      exact ret_i h hq rfl hW dX1_isHere_56
    · have h := ite_f hc_11 h
      refine lv_aload_n C.1 C.2.1 dX1_isHere_28 rfl (lv_at hl 0 rfl) ?_
      refine zg_X1_bytes C hW id_6 w_136 dX1_isHere_29 ?_
      refine lv_aload_n C.1 C.2.1 dX1_isHere_32 rfl (lv_at hl 0 rfl) ?_
      refine zg_X1_from C hW id_6 w_146 dX1_isHere_33 ?_
      refine lv_iload_n C.1 C.2.1 dX1_isHere_36 rfl (lv_at hl 2 rfl) ?_
      refine lv_iadd C.1 C.2.1 dX1_isHere_37 ?_
      obtain ⟨hb_4, h⟩ := chk_E h
      refine zal_7 C hW id_7 (inb_E hb_4) dX1_isHere_38 ?_
      refine lv_aload_n C.1 C.2.1 dX1_isHere_39 rfl (lv_at hl 1 rfl) ?_
      refine lv_iload_n C.1 C.2.1 dX1_isHere_40 rfl (lv_at hl 2 rfl) ?_
      obtain ⟨r_7, m_6, hc_5, h⟩ := doI_E h
      refine zr_cVI C hW (c_J0_charAt_5068e (i0 := i1) (x1 := x2) hc_5 g_i1) k_J0_charAt_5068e (zs_recv C hW g_i1) w_746 ⟨Nat.le_of_ble_eq_true rfl, Nat.le_of_ble_eq_true rfl⟩ ⟨Nat.le_refl 0, Nat.le_refl 0⟩ rfl hl.1 rfl (Nat.le_of_ble_eq_true rfl) dX1_isHere_41 (fun H locs hW => ?_)
      refine lv_icmp_eq (tgt := 49) C.1 C.2.1 dX1_isHere_44 (by decide) (fun hc_10 => ?_) (fun hc_10 => ?_)
      · have h := ite_t hc_10 h
        obtain ⟨x_8, e_9, h⟩ := seqM_E h
        refine lv_iinc (v := x_8) (lv' := [(2, .int x_8), (0, .ref (ad X 6 0)), (1, .ref (adK X i1))]) C.1 C.2.1 dX1_isHere_49 hl (k := 2) rfl (by rw [e_9]; rfl) (by decide) rfl (fun ls hl => ?_)
        refine lv_goto (tgt := 20) C.1 C.2.1 dX1_isHere_52 (by decide) ?_
        exact ih h g_i1 hW (lv_sub hl [1, 2, 0] rfl)
      · have h := ite_f hc_10 h
        refine lv_iconst (v := 0) C.1 C.2.1 dX1_isHere_47 rfl ?_
        exact ret_i h hq rfl hW dX1_isHere_48
def f_X1_isHere (fu : Nat)  (i1 : Nat) (m : Mem) : Option (Int32 × Mem) := doI (f_J0_length_8abf5 fu i1 m) (fun r_3 m_2 => if ((m 286) - (m 285)) = r_3 then (f_X1_isHere_20 fu fu i1 0 m_2) else (some (0, m_2)))
set_option maxHeartbeats 4000000 in
set_option maxRecDepth 100000 in
theorem w_X1_isHere {X : TX} {p : Program} {l : Launch} {e : Env} {s : State} {mi : MethodId} {args : Array Value} {below : List Frame} {meth : Method} {c : Code} {Q : State → Prop} {r : Int32} {mE : Mem} (C : Cx X p s mi args c RX1 cX1_isHere 3) (hq : RetI X p l e (rmD 4) s mi args below meth c cX1_isHere .boolean Q r mE) {fu : Nat} {i1 : Nat} {m : Mem} {H : Heap} {locs : List Loc} {ls : Array Slot} (h : f_X1_isHere fu i1 m = some (r, mE)) (g_i1 : i1 < 6) (hW : Wd X s m H locs) (hl : lv_has ls 3 [(0, .ref (ad X 6 0)), (1, .ref (adK X i1))]) : W p l e (rmD 4) s mi args below meth c H locs 0 0 Q (F0 mi 0 ls []) := by
  unfold f_X1_isHere at h
  refine lv_aload_n C.1 C.2.1 dX1_isHere_0 rfl (lv_at hl 0 rfl) ?_
  refine zg_X1_to C hW id_6 w_147 dX1_isHere_1 ?_
  refine lv_aload_n C.1 C.2.1 dX1_isHere_4 rfl (lv_at hl 0 rfl) ?_
  refine zg_X1_from C hW id_6 w_146 dX1_isHere_5 ?_
  refine lv_isub C.1 C.2.1 dX1_isHere_8 ?_
  refine lv_aload_n C.1 C.2.1 dX1_isHere_9 rfl (lv_at hl 1 rfl) ?_
  obtain ⟨r_3, m_2, hc_1, h⟩ := doI_E h
  refine zr_cVI C hW (c_J0_length_8abf5 (i0 := i1) hc_1 g_i1) k_J0_length_8abf5 (zs_recv C hW g_i1) w_736 ⟨Nat.le_of_ble_eq_true rfl, Nat.le_of_ble_eq_true rfl⟩ ⟨Nat.le_refl 0, Nat.le_refl 0⟩ rfl hl.1 rfl (Nat.le_of_ble_eq_true rfl) dX1_isHere_10 (fun H locs hW => ?_)
  refine lv_icmp_eq (tgt := 18) C.1 C.2.1 dX1_isHere_13 (by decide) (fun hc_4 => ?_) (fun hc_4 => ?_)
  · have h := ite_t hc_4 h
    refine lv_iconst (v := 0) C.1 C.2.1 dX1_isHere_18 rfl ?_
    refine lv_istore_n (lv' := [(2, .int 0), (0, .ref (ad X 6 0)), (1, .ref (adK X i1))]) C.1 C.2.1 dX1_isHere_19 rfl hl (by decide) rfl (fun ls hl => ?_)
    exact w_X1_isHere_20 C hq  fu h g_i1 hW (lv_sub hl [1, 2, 0] rfl)
  · have h := ite_f hc_4 h
    refine lv_iconst (v := 0) C.1 C.2.1 dX1_isHere_16 rfl ?_
    exact ret_i h hq rfl hW dX1_isHere_17
theorem c_X1_isHere {X : TX} {l : Launch} {fu : Nat} {i1 : Nat} {m mE : Mem} {r : Int32} (h : f_X1_isHere fu i1 m = some (r, mE)) (g_i1 : i1 < 6) : MetI X l yX1_isHere cX1_isHere 3 .boolean 4 [.ref (ad X 6 0), .ref (adK X i1)] m r mE :=
  met_I (by decide) (Nat.le_of_ble_eq_true rfl) (fun p e s mi args below meth c ls Q C hq hW hl => w_X1_isHere C hq h g_i1 hW (lv_sub hl [0, 1] rfl))
theorem k_X1_isHere : CalV yX1_isHere cX1_isHere 3 (some .boolean) RX1 1 := ⟨w_734, w_14, w_64, w_735, by decide +kernel⟩
theorem dX1_keyHere_0 : decode cX1_keyHere 0 = .ok (.aload_n 0, 1) := by decide +kernel
theorem dX1_keyHere_1 : decode cX1_keyHere 1 = .ok (.ldc 91, 2) := by decide +kernel
theorem dX1_keyHere_3 : decode cX1_keyHere 3 = .ok (.invokevirtual 93, 3) := by decide +kernel
theorem dX1_keyHere_6 : decode cX1_keyHere 6 = .ok (.ifCond .eq 5, 3) := by decide +kernel
theorem dX1_keyHere_9 : decode cX1_keyHere 9 = .ok (.iconst 0, 1) := by decide +kernel
theorem dX1_keyHere_10 : decode cX1_keyHere 10 = .ok (.ireturn, 1) := by decide +kernel
theorem dX1_keyHere_11 : decode cX1_keyHere 11 = .ok (.aload_n 0, 1) := by decide +kernel
theorem dX1_keyHere_12 : decode cX1_keyHere 12 = .ok (.ldc 97, 2) := by decide +kernel
theorem dX1_keyHere_14 : decode cX1_keyHere 14 = .ok (.invokevirtual 93, 3) := by decide +kernel
theorem dX1_keyHere_17 : decode cX1_keyHere 17 = .ok (.ifCond .eq 5, 3) := by decide +kernel
theorem dX1_keyHere_20 : decode cX1_keyHere 20 = .ok (.iconst 1, 1) := by decide +kernel
theorem dX1_keyHere_21 : decode cX1_keyHere 21 = .ok (.ireturn, 1) := by decide +kernel
theorem dX1_keyHere_22 : decode cX1_keyHere 22 = .ok (.aload_n 0, 1) := by decide +kernel
theorem dX1_keyHere_23 : decode cX1_keyHere 23 = .ok (.ldc 99, 2) := by decide +kernel
theorem dX1_keyHere_25 : decode cX1_keyHere 25 = .ok (.invokevirtual 93, 3) := by decide +kernel
theorem dX1_keyHere_28 : decode cX1_keyHere 28 = .ok (.ifCond .eq 7, 3) := by decide +kernel
theorem dX1_keyHere_31 : decode cX1_keyHere 31 = .ok (.iconst 2, 1) := by decide +kernel
theorem dX1_keyHere_32 : decode cX1_keyHere 32 = .ok (.goto 4, 3) := by decide +kernel
theorem dX1_keyHere_35 : decode cX1_keyHere 35 = .ok (.iconst (-1), 1) := by decide +kernel
theorem dX1_keyHere_36 : decode cX1_keyHere 36 = .ok (.ireturn, 1) := by decide +kernel
def f_X1_keyHere (fu : Nat)   (m : Mem) : Option (Int32 × Mem) := doI (f_X1_isHere fu 0 m) (fun r_3 m_2 => if r_3 = 0 then (doI (f_X1_isHere fu 1 m_2) (fun r_6 m_5 => if r_6 = 0 then (doI (f_X1_isHere fu 2 m_5) (fun r_9 m_8 => if r_9 = 0 then (some ((-1), m_8)) else (some (2, m_8)))) else (some (1, m_5)))) else (some (0, m_2)))
set_option maxHeartbeats 4000000 in
set_option maxRecDepth 100000 in
theorem w_X1_keyHere {X : TX} {p : Program} {l : Launch} {e : Env} {s : State} {mi : MethodId} {args : Array Value} {below : List Frame} {meth : Method} {c : Code} {Q : State → Prop} {r : Int32} {mE : Mem} (C : Cx X p s mi args c RX1 cX1_keyHere 1) (hq : RetI X p l e (rmD 5) s mi args below meth c cX1_keyHere .int Q r mE) {fu : Nat}  {m : Mem} {H : Heap} {locs : List Loc} {ls : Array Slot} (h : f_X1_keyHere fu  m = some (r, mE))  (hW : Wd X s m H locs) (hl : lv_has ls 1 [(0, .ref (ad X 6 0))]) : W p l e (rmD 5) s mi args below meth c H locs 0 0 Q (F0 mi 0 ls []) := by
  unfold f_X1_keyHere at h
  refine lv_aload_n C.1 C.2.1 dX1_keyHere_0 rfl (lv_at hl 0 rfl) ?_
  refine zs_ldc C C.2.2.2.2.2.1.2.2.2.2.1 dX1_keyHere_1 ?_
  obtain ⟨r_3, m_2, hc_1, h⟩ := doI_E h
  refine zr_cVI C hW (c_X1_isHere (i1 := 0) hc_1 (by decide)) k_X1_isHere (zr_recv C hW id_6 zco_6 rfl) w_732 ⟨Nat.le_of_ble_eq_true rfl, Nat.le_of_ble_eq_true rfl⟩ ⟨Nat.le_refl 0, Nat.le_refl 0⟩ rfl hl.1 rfl (Nat.le_of_ble_eq_true rfl) dX1_keyHere_3 (fun H locs hW => ?_)
  refine lv_if_eq (tgt := 11) C.1 C.2.1 dX1_keyHere_6 (by decide) (fun hc_12 => ?_) (fun hc_12 => ?_)
  · have h := ite_t hc_12 h
    refine lv_aload_n C.1 C.2.1 dX1_keyHere_11 rfl (lv_at hl 0 rfl) ?_
    refine zs_ldc C C.2.2.2.2.2.1.2.2.2.2.2.1 dX1_keyHere_12 ?_
    obtain ⟨r_6, m_5, hc_4, h⟩ := doI_E h
    refine zr_cVI C hW (c_X1_isHere (i1 := 1) hc_4 (by decide)) k_X1_isHere (zr_recv C hW id_6 zco_6 rfl) w_732 ⟨Nat.le_of_ble_eq_true rfl, Nat.le_of_ble_eq_true rfl⟩ ⟨Nat.le_refl 0, Nat.le_refl 0⟩ rfl hl.1 rfl (Nat.le_of_ble_eq_true rfl) dX1_keyHere_14 (fun H locs hW => ?_)
    refine lv_if_eq (tgt := 22) C.1 C.2.1 dX1_keyHere_17 (by decide) (fun hc_11 => ?_) (fun hc_11 => ?_)
    · have h := ite_t hc_11 h
      refine lv_aload_n C.1 C.2.1 dX1_keyHere_22 rfl (lv_at hl 0 rfl) ?_
      refine zs_ldc C C.2.2.2.2.2.1.2.2.2.2.2.2.1 dX1_keyHere_23 ?_
      obtain ⟨r_9, m_8, hc_7, h⟩ := doI_E h
      refine zr_cVI C hW (c_X1_isHere (i1 := 2) hc_7 (by decide)) k_X1_isHere (zr_recv C hW id_6 zco_6 rfl) w_732 ⟨Nat.le_of_ble_eq_true rfl, Nat.le_of_ble_eq_true rfl⟩ ⟨Nat.le_refl 0, Nat.le_refl 0⟩ rfl hl.1 rfl (Nat.le_of_ble_eq_true rfl) dX1_keyHere_25 (fun H locs hW => ?_)
      refine lv_if_eq (tgt := 35) C.1 C.2.1 dX1_keyHere_28 (by decide) (fun hc_10 => ?_) (fun hc_10 => ?_)
      · have h := ite_t hc_10 h
        refine lv_iconst (v := (-1)) C.1 C.2.1 dX1_keyHere_35 rfl ?_
        exact ret_i h hq rfl hW dX1_keyHere_36
      · have h := ite_f hc_10 h
        refine lv_iconst (v := 2) C.1 C.2.1 dX1_keyHere_31 rfl ?_
        refine lv_goto (tgt := 36) C.1 C.2.1 dX1_keyHere_32 (by decide) ?_
        exact ret_i h hq rfl hW dX1_keyHere_36
    · have h := ite_f hc_11 h
      refine lv_iconst (v := 1) C.1 C.2.1 dX1_keyHere_20 rfl ?_
      exact ret_i h hq rfl hW dX1_keyHere_21
  · have h := ite_f hc_12 h
    refine lv_iconst (v := 0) C.1 C.2.1 dX1_keyHere_9 rfl ?_
    exact ret_i h hq rfl hW dX1_keyHere_10
theorem c_X1_keyHere {X : TX} {l : Launch} {fu : Nat}  {m mE : Mem} {r : Int32} (h : f_X1_keyHere fu  m = some (r, mE))  : MetI X l yX1_keyHere cX1_keyHere 1 .int 5 [.ref (ad X 6 0)] m r mE :=
  met_I (by decide) (Nat.le_of_ble_eq_true rfl) (fun p e s mi args below meth c ls Q C hq hW hl => w_X1_keyHere C hq h  hW (lv_sub hl [0] rfl))
theorem k_X1_keyHere : CalV yX1_keyHere cX1_keyHere 1 (some .int) RX1 0 := ⟨w_729, w_13, w_64, w_730, by decide +kernel⟩
theorem dX1_takesAtom_0 : decode cX1_takesAtom 0 = .ok (.aload_n 0, 1) := by decide +kernel
theorem dX1_takesAtom_1 : decode cX1_takesAtom 1 = .ok (.getfield 18, 3) := by decide +kernel
theorem dX1_takesAtom_4 : decode cX1_takesAtom 4 = .ok (.iload_n 1, 1) := by decide +kernel
theorem dX1_takesAtom_5 : decode cX1_takesAtom 5 = .ok (.invokevirtual 132, 3) := by decide +kernel
theorem dX1_takesAtom_8 : decode cX1_takesAtom 8 = .ok (.aload_n 0, 1) := by decide +kernel
theorem dX1_takesAtom_9 : decode cX1_takesAtom 9 = .ok (.getfield 18, 3) := by decide +kernel
theorem dX1_takesAtom_12 : decode cX1_takesAtom 12 = .ok (.dup, 1) := by decide +kernel
theorem dX1_takesAtom_13 : decode cX1_takesAtom 13 = .ok (.getfield 135, 3) := by decide +kernel
theorem dX1_takesAtom_16 : decode cX1_takesAtom 16 = .ok (.iconst 1, 1) := by decide +kernel
theorem dX1_takesAtom_17 : decode cX1_takesAtom 17 = .ok (.iadd, 1) := by decide +kernel
theorem dX1_takesAtom_18 : decode cX1_takesAtom 18 = .ok (.putfield 135, 3) := by decide +kernel
theorem dX1_takesAtom_21 : decode cX1_takesAtom 21 = .ok (.aload_n 0, 1) := by decide +kernel
theorem dX1_takesAtom_22 : decode cX1_takesAtom 22 = .ok (.iconst 0, 1) := by decide +kernel
theorem dX1_takesAtom_23 : decode cX1_takesAtom 23 = .ok (.putfield 49, 3) := by decide +kernel
theorem dX1_takesAtom_26 : decode cX1_takesAtom 26 = .ok (.return_, 1) := by decide +kernel
def f_X1_takesAtom (fu : Nat)  (x1 : Int32) (m : Mem) : Option Mem := doV (f_X5_put fu 14 x1 m) (fun m_2 => seqM (upd m_2 (tf 14 1) ((m_2 (tf 14 1)) + 1)) (fun m_3 : Mem => seqM (upd m_3 284 0) (fun m_5 : Mem => some m_5)))
set_option maxHeartbeats 4000000 in
set_option maxRecDepth 100000 in
theorem w_X1_takesAtom {X : TX} {p : Program} {l : Launch} {e : Env} {s : State} {mi : MethodId} {args : Array Value} {below : List Frame} {meth : Method} {c : Code} {Q : State → Prop} {mE : Mem} (C : Cx X p s mi args c RX1 cX1_takesAtom 2) (hq : RetV X p l e (rmD 1) s mi args below meth c cX1_takesAtom Q mE) {fu : Nat} {x1 : Int32} {m : Mem} {H : Heap} {locs : List Loc} {ls : Array Slot} (h : f_X1_takesAtom fu x1 m = some mE)  (hW : Wd X s m H locs) (hl : lv_has ls 2 [(0, .ref (ad X 6 0)), (1, .int x1)]) : W p l e (rmD 1) s mi args below meth c H locs 0 0 Q (F0 mi 0 ls []) := by
  unfold f_X1_takesAtom at h
  refine lv_aload_n C.1 C.2.1 dX1_takesAtom_0 rfl (lv_at hl 0 rfl) ?_
  refine zg_X1_draft C hW id_6 w_139 dX1_takesAtom_1 ?_
  refine lv_iload_n C.1 C.2.1 dX1_takesAtom_4 rfl (lv_at hl 1 rfl) ?_
  obtain ⟨m_2, hc_1, h⟩ := doV_E h
  refine zr_cVV C hW (c_X5_put (i0 := 14) (x1 := x1) hc_1 id_3_14) k_X5_put (zr_recv C hW id_3_14 zco_3 rfl) w_798 ⟨Nat.le_of_ble_eq_true rfl, Nat.le_of_ble_eq_true rfl⟩ ⟨Nat.le_refl 0, Nat.le_refl 0⟩ rfl hl.1 rfl (Nat.le_of_ble_eq_true rfl) dX1_takesAtom_5 (fun H locs hW => ?_)
  refine lv_aload_n C.1 C.2.1 dX1_takesAtom_8 rfl (lv_at hl 0 rfl) ?_
  refine zg_X1_draft C hW id_6 w_139 dX1_takesAtom_9 ?_
  refine lv_dup C.1 C.2.1 dX1_takesAtom_12 rfl ?_
  refine zg_X5_atoms C hW id_3_14 w_104 dX1_takesAtom_13 ?_
  refine lv_iconst (v := 1) C.1 C.2.1 dX1_takesAtom_16 rfl ?_
  refine lv_iadd C.1 C.2.1 dX1_takesAtom_17 ?_
  obtain ⟨m_3, e_4, h⟩ := seqM_E h
  refine zp_X5_atoms C hW id_3_14 w_104 e_4 dX1_takesAtom_18 (fun H locs hW => ?_)
  refine lv_aload_n C.1 C.2.1 dX1_takesAtom_21 rfl (lv_at hl 0 rfl) ?_
  refine lv_iconst (v := 0) C.1 C.2.1 dX1_takesAtom_22 rfl ?_
  obtain ⟨m_5, e_6, h⟩ := seqM_E h
  refine zp_X1_pieceIsDue C hW id_6 w_145 (by decide) e_6 dX1_takesAtom_23 (fun H locs hW => ?_)
  exact ret_v h hq hW dX1_takesAtom_26
theorem c_X1_takesAtom {X : TX} {l : Launch} {fu : Nat} {x1 : Int32} {m mE : Mem} (h : f_X1_takesAtom fu x1 m = some mE)  : MetV X l yX1_takesAtom cX1_takesAtom 2 1 [.ref (ad X 6 0), .int x1] m mE :=
  met_V (by decide) (Nat.le_of_ble_eq_true rfl) (fun p e s mi args below meth c ls Q C hq hW hl => w_X1_takesAtom C hq h  hW (lv_sub hl [0, 1] rfl))
theorem k_X1_takesAtom : CalV yX1_takesAtom cX1_takesAtom 2 none RX1 1 := ⟨w_796, w_17, w_64, w_797, by decide +kernel⟩
theorem dX1_takesNumber_0 : decode cX1_takesNumber 0 = .ok (.aload_n 0, 1) := by decide +kernel
theorem dX1_takesNumber_1 : decode cX1_takesNumber 1 = .ok (.getfield 68, 3) := by decide +kernel
theorem dX1_takesNumber_4 : decode cX1_takesNumber 4 = .ok (.aload_n 0, 1) := by decide +kernel
theorem dX1_takesNumber_5 : decode cX1_takesNumber 5 = .ok (.getfield 35, 3) := by decide +kernel
theorem dX1_takesNumber_8 : decode cX1_takesNumber 8 = .ok (.isub, 1) := by decide +kernel
theorem dX1_takesNumber_9 : decode cX1_takesNumber 9 = .ok (.iconst 4, 1) := by decide +kernel
theorem dX1_takesNumber_10 : decode cX1_takesNumber 10 = .ok (.if_icmp .le 5, 3) := by decide +kernel
theorem dX1_takesNumber_13 : decode cX1_takesNumber 13 = .ok (.iconst 0, 1) := by decide +kernel
theorem dX1_takesNumber_14 : decode cX1_takesNumber 14 = .ok (.ireturn, 1) := by decide +kernel
theorem dX1_takesNumber_15 : decode cX1_takesNumber 15 = .ok (.iconst 0, 1) := by decide +kernel
theorem dX1_takesNumber_16 : decode cX1_takesNumber 16 = .ok (.istore_n 1, 1) := by decide +kernel
theorem dX1_takesNumber_17 : decode cX1_takesNumber 17 = .ok (.aload_n 0, 1) := by decide +kernel
theorem dX1_takesNumber_18 : decode cX1_takesNumber 18 = .ok (.getfield 35, 3) := by decide +kernel
theorem dX1_takesNumber_21 : decode cX1_takesNumber 21 = .ok (.istore_n 2, 1) := by decide +kernel
theorem dX1_takesNumber_22 : decode cX1_takesNumber 22 = .ok (.iload_n 2, 1) := by decide +kernel
theorem dX1_takesNumber_23 : decode cX1_takesNumber 23 = .ok (.aload_n 0, 1) := by decide +kernel
theorem dX1_takesNumber_24 : decode cX1_takesNumber 24 = .ok (.getfield 68, 3) := by decide +kernel
theorem dX1_takesNumber_27 : decode cX1_takesNumber 27 = .ok (.if_icmp .ge 24, 3) := by decide +kernel
theorem dX1_takesNumber_30 : decode cX1_takesNumber 30 = .ok (.iload_n 1, 1) := by decide +kernel
theorem dX1_takesNumber_31 : decode cX1_takesNumber 31 = .ok (.bipush 10, 2) := by decide +kernel
theorem dX1_takesNumber_33 : decode cX1_takesNumber 33 = .ok (.imul, 1) := by decide +kernel
theorem dX1_takesNumber_34 : decode cX1_takesNumber 34 = .ok (.aload_n 0, 1) := by decide +kernel
theorem dX1_takesNumber_35 : decode cX1_takesNumber 35 = .ok (.getfield 9, 3) := by decide +kernel
theorem dX1_takesNumber_38 : decode cX1_takesNumber 38 = .ok (.iload_n 2, 1) := by decide +kernel
theorem dX1_takesNumber_39 : decode cX1_takesNumber 39 = .ok (.iaload, 1) := by decide +kernel
theorem dX1_takesNumber_40 : decode cX1_takesNumber 40 = .ok (.iadd, 1) := by decide +kernel
theorem dX1_takesNumber_41 : decode cX1_takesNumber 41 = .ok (.bipush 48, 2) := by decide +kernel
theorem dX1_takesNumber_43 : decode cX1_takesNumber 43 = .ok (.isub, 1) := by decide +kernel
theorem dX1_takesNumber_44 : decode cX1_takesNumber 44 = .ok (.istore_n 1, 1) := by decide +kernel
theorem dX1_takesNumber_45 : decode cX1_takesNumber 45 = .ok (.iinc 2 1, 3) := by decide +kernel
theorem dX1_takesNumber_48 : decode cX1_takesNumber 48 = .ok (.goto (-26), 3) := by decide +kernel
theorem dX1_takesNumber_51 : decode cX1_takesNumber 51 = .ok (.aload_n 0, 1) := by decide +kernel
theorem dX1_takesNumber_52 : decode cX1_takesNumber 52 = .ok (.iload_n 1, 1) := by decide +kernel
theorem dX1_takesNumber_53 : decode cX1_takesNumber 53 = .ok (.invokevirtual 119, 3) := by decide +kernel
theorem dX1_takesNumber_56 : decode cX1_takesNumber 56 = .ok (.iconst 1, 1) := by decide +kernel
theorem dX1_takesNumber_57 : decode cX1_takesNumber 57 = .ok (.ireturn, 1) := by decide +kernel
def f_X1_takesNumber_22 (fu : Nat)  : Nat → Int32 → Int32 → Mem → Option (Int32 × Mem)
  | 0, _, _, _ => none
  | n + 1, x1, x2, m => if (m 286) ≤ x2 then (doV (f_X1_takesAtom fu x1 m) (fun m_2 => some (1, m_2))) else (chk (inb x2 96) (seqM (((x1 * 10) + (m (900 + x2.toNatClampNeg))) - 48) (fun x_4 : Int32 => seqM (x2 + 1) (fun x_6 : Int32 => f_X1_takesNumber_22 fu n x_4 x_6 m))))
set_option maxHeartbeats 4000000 in
set_option maxRecDepth 100000 in
theorem w_X1_takesNumber_22 {X : TX} {p : Program} {l : Launch} {e : Env} {s : State} {mi : MethodId} {args : Array Value} {below : List Frame} {meth : Method} {c : Code} {Q : State → Prop} {r : Int32} {mE : Mem} (C : Cx X p s mi args c RX1 cX1_takesNumber 3) (hq : RetI X p l e (rmD 2) s mi args below meth c cX1_takesNumber .boolean Q r mE) {fu : Nat} : ∀ (n : Nat) {x1 : Int32} {x2 : Int32} {m : Mem} {H : Heap} {locs : List Loc} {ls : Array Slot}, f_X1_takesNumber_22 fu n x1 x2 m = some (r, mE) → Wd X s m H locs → lv_has ls 3 [(0, .ref (ad X 6 0)), (1, .int x1), (2, .int x2)] → W p l e (rmD 2) s mi args below meth c H locs 0 0 Q (F0 mi 22 ls []) := by
  intro n
  induction n with
  | zero =>
    intro x1 x2 m H locs ls h hW hl
    rw [f_X1_takesNumber_22] at h
    cases h
  | succ n ih =>
    intro x1 x2 m H locs ls h hW hl
    rw [f_X1_takesNumber_22] at h
    refine lv_iload_n C.1 C.2.1 dX1_takesNumber_22 rfl (lv_at hl 2 rfl) ?_
    refine lv_aload_n C.1 C.2.1 dX1_takesNumber_23 rfl (lv_at hl 0 rfl) ?_
    refine zg_X1_to C hW id_6 w_147 dX1_takesNumber_24 ?_
    refine lv_icmp_ge (tgt := 51) C.1 C.2.1 dX1_takesNumber_27 (by decide) (fun hc_8 => ?_) (fun hc_8 => ?_)
    · have h := ite_t hc_8 h
      refine lv_aload_n C.1 C.2.1 dX1_takesNumber_51 rfl (lv_at hl 0 rfl) ?_
      refine lv_iload_n C.1 C.2.1 dX1_takesNumber_52 rfl (lv_at hl 1 rfl) ?_
      obtain ⟨m_2, hc_1, h⟩ := doV_E h
      refine zr_cVV C hW (c_X1_takesAtom (x1 := x1) hc_1 ) k_X1_takesAtom (zr_recv C hW id_6 zco_6 rfl) w_794 ⟨Nat.le_of_ble_eq_true rfl, Nat.le_of_ble_eq_true rfl⟩ ⟨Nat.le_refl 0, Nat.le_refl 0⟩ rfl hl.1 rfl (Nat.le_of_ble_eq_true rfl) dX1_takesNumber_53 (fun H locs hW => ?_)
      refine lv_iconst (v := 1) C.1 C.2.1 dX1_takesNumber_56 rfl ?_
      exact ret_i h hq rfl hW dX1_takesNumber_57
    · have h := ite_f hc_8 h
      refine lv_iload_n C.1 C.2.1 dX1_takesNumber_30 rfl (lv_at hl 1 rfl) ?_
      refine lv_bipush (v := 10) C.1 C.2.1 dX1_takesNumber_31 rfl ?_
      refine lv_imul C.1 C.2.1 dX1_takesNumber_33 ?_
      refine lv_aload_n C.1 C.2.1 dX1_takesNumber_34 rfl (lv_at hl 0 rfl) ?_
      refine zg_X1_bytes C hW id_6 w_136 dX1_takesNumber_35 ?_
      refine lv_iload_n C.1 C.2.1 dX1_takesNumber_38 rfl (lv_at hl 2 rfl) ?_
      obtain ⟨hb_3, h⟩ := chk_E h
      refine zal_7 C hW id_7 (inb_E hb_3) dX1_takesNumber_39 ?_
      refine lv_iadd C.1 C.2.1 dX1_takesNumber_40 ?_
      refine lv_bipush (v := 48) C.1 C.2.1 dX1_takesNumber_41 rfl ?_
      refine lv_isub C.1 C.2.1 dX1_takesNumber_43 ?_
      obtain ⟨x_4, e_5, h⟩ := seqM_E h
      refine lv_name e_5 ?_
      refine lv_istore_n (lv' := [(1, .int x_4), (0, .ref (ad X 6 0)), (2, .int x2)]) C.1 C.2.1 dX1_takesNumber_44 rfl hl (by decide) rfl (fun ls hl => ?_)
      obtain ⟨x_6, e_7, h⟩ := seqM_E h
      refine lv_iinc (v := x_6) (lv' := [(2, .int x_6), (1, .int x_4), (0, .ref (ad X 6 0))]) C.1 C.2.1 dX1_takesNumber_45 hl (k := 2) rfl (by rw [e_7]; rfl) (by decide) rfl (fun ls hl => ?_)
      refine lv_goto (tgt := 22) C.1 C.2.1 dX1_takesNumber_48 (by decide) ?_
      exact ih h  hW (lv_sub hl [2, 1, 0] rfl)
def f_X1_takesNumber (fu : Nat)   (m : Mem) : Option (Int32 × Mem) := if ((m 286) - (m 285)) ≤ 4 then (seqM (m 285) (fun x_1 : Int32 => f_X1_takesNumber_22 fu fu 0 x_1 m)) else (some (0, m))
set_option maxHeartbeats 4000000 in
set_option maxRecDepth 100000 in
theorem w_X1_takesNumber {X : TX} {p : Program} {l : Launch} {e : Env} {s : State} {mi : MethodId} {args : Array Value} {below : List Frame} {meth : Method} {c : Code} {Q : State → Prop} {r : Int32} {mE : Mem} (C : Cx X p s mi args c RX1 cX1_takesNumber 3) (hq : RetI X p l e (rmD 2) s mi args below meth c cX1_takesNumber .boolean Q r mE) {fu : Nat}  {m : Mem} {H : Heap} {locs : List Loc} {ls : Array Slot} (h : f_X1_takesNumber fu  m = some (r, mE))  (hW : Wd X s m H locs) (hl : lv_has ls 3 [(0, .ref (ad X 6 0))]) : W p l e (rmD 2) s mi args below meth c H locs 0 0 Q (F0 mi 0 ls []) := by
  unfold f_X1_takesNumber at h
  refine lv_aload_n C.1 C.2.1 dX1_takesNumber_0 rfl (lv_at hl 0 rfl) ?_
  refine zg_X1_to C hW id_6 w_147 dX1_takesNumber_1 ?_
  refine lv_aload_n C.1 C.2.1 dX1_takesNumber_4 rfl (lv_at hl 0 rfl) ?_
  refine zg_X1_from C hW id_6 w_146 dX1_takesNumber_5 ?_
  refine lv_isub C.1 C.2.1 dX1_takesNumber_8 ?_
  refine lv_iconst (v := 4) C.1 C.2.1 dX1_takesNumber_9 rfl ?_
  refine lv_icmp_le (tgt := 15) C.1 C.2.1 dX1_takesNumber_10 (by decide) (fun hc_3 => ?_) (fun hc_3 => ?_)
  · have h := ite_t hc_3 h
    refine lv_iconst (v := 0) C.1 C.2.1 dX1_takesNumber_15 rfl ?_
    refine lv_istore_n (lv' := [(1, .int 0), (0, .ref (ad X 6 0))]) C.1 C.2.1 dX1_takesNumber_16 rfl hl (by decide) rfl (fun ls hl => ?_)
    refine lv_aload_n C.1 C.2.1 dX1_takesNumber_17 rfl (lv_at hl 1 rfl) ?_
    refine zg_X1_from C hW id_6 w_146 dX1_takesNumber_18 ?_
    obtain ⟨x_1, e_2, h⟩ := seqM_E h
    refine lv_name e_2 ?_
    refine lv_istore_n (lv' := [(2, .int x_1), (1, .int 0), (0, .ref (ad X 6 0))]) C.1 C.2.1 dX1_takesNumber_21 rfl hl (by decide) rfl (fun ls hl => ?_)
    exact w_X1_takesNumber_22 C hq  fu h  hW (lv_sub hl [2, 1, 0] rfl)
  · have h := ite_f hc_3 h
    refine lv_iconst (v := 0) C.1 C.2.1 dX1_takesNumber_13 rfl ?_
    exact ret_i h hq rfl hW dX1_takesNumber_14
theorem c_X1_takesNumber {X : TX} {l : Launch} {fu : Nat}  {m mE : Mem} {r : Int32} (h : f_X1_takesNumber fu  m = some (r, mE))  : MetI X l yX1_takesNumber cX1_takesNumber 3 .boolean 2 [.ref (ad X 6 0)] m r mE :=
  met_I (by decide) (Nat.le_of_ble_eq_true rfl) (fun p e s mi args below meth c ls Q C hq hW hl => w_X1_takesNumber C hq h  hW (lv_sub hl [0] rfl))
theorem k_X1_takesNumber : CalV yX1_takesNumber cX1_takesNumber 3 (some .boolean) RX1 0 := ⟨w_792, w_16, w_64, w_793, by decide +kernel⟩
theorem dX1_takesName_0 : decode cX1_takesName 0 = .ok (.aload_n 0, 1) := by decide +kernel
theorem dX1_takesName_1 : decode cX1_takesName 1 = .ok (.getfield 18, 3) := by decide +kernel
theorem dX1_takesName_4 : decode cX1_takesName 4 = .ok (.getfield 46, 3) := by decide +kernel
theorem dX1_takesName_7 : decode cX1_takesName 7 = .ok (.ifCond .ne 8, 3) := by decide +kernel
theorem dX1_takesName_10 : decode cX1_takesName 10 = .ok (.ldc 122, 2) := by decide +kernel
theorem dX1_takesName_12 : decode cX1_takesName 12 = .ok (.goto 21, 3) := by decide +kernel
theorem dX1_takesName_15 : decode cX1_takesName 15 = .ok (.aload_n 0, 1) := by decide +kernel
theorem dX1_takesName_16 : decode cX1_takesName 16 = .ok (.getfield 18, 3) := by decide +kernel
theorem dX1_takesName_19 : decode cX1_takesName 19 = .ok (.getfield 46, 3) := by decide +kernel
theorem dX1_takesName_22 : decode cX1_takesName 22 = .ok (.iconst 1, 1) := by decide +kernel
theorem dX1_takesName_23 : decode cX1_takesName 23 = .ok (.if_icmp .ne 8, 3) := by decide +kernel
theorem dX1_takesName_26 : decode cX1_takesName 26 = .ok (.ldc 124, 2) := by decide +kernel
theorem dX1_takesName_28 : decode cX1_takesName 28 = .ok (.goto 5, 3) := by decide +kernel
theorem dX1_takesName_31 : decode cX1_takesName 31 = .ok (.ldc 126, 2) := by decide +kernel
theorem dX1_takesName_33 : decode cX1_takesName 33 = .ok (.astore_n 2, 1) := by decide +kernel
theorem dX1_takesName_34 : decode cX1_takesName 34 = .ok (.aload_n 2, 1) := by decide +kernel
theorem dX1_takesName_35 : decode cX1_takesName 35 = .ok (.iload_n 1, 1) := by decide +kernel
theorem dX1_takesName_36 : decode cX1_takesName 36 = .ok (.invokevirtual 128, 3) := by decide +kernel
theorem dX1_takesName_39 : decode cX1_takesName 39 = .ok (.istore_n 3, 1) := by decide +kernel
theorem dX1_takesName_40 : decode cX1_takesName 40 = .ok (.aload_n 0, 1) := by decide +kernel
theorem dX1_takesName_41 : decode cX1_takesName 41 = .ok (.getfield 68, 3) := by decide +kernel
theorem dX1_takesName_44 : decode cX1_takesName 44 = .ok (.aload_n 0, 1) := by decide +kernel
theorem dX1_takesName_45 : decode cX1_takesName 45 = .ok (.getfield 35, 3) := by decide +kernel
theorem dX1_takesName_48 : decode cX1_takesName 48 = .ok (.isub, 1) := by decide +kernel
theorem dX1_takesName_49 : decode cX1_takesName 49 = .ok (.iconst 1, 1) := by decide +kernel
theorem dX1_takesName_50 : decode cX1_takesName 50 = .ok (.if_icmp .ne 7, 3) := by decide +kernel
theorem dX1_takesName_53 : decode cX1_takesName 53 = .ok (.iload_n 3, 1) := by decide +kernel
theorem dX1_takesName_54 : decode cX1_takesName 54 = .ok (.ifCond .ge 5, 3) := by decide +kernel
theorem dX1_takesName_57 : decode cX1_takesName 57 = .ok (.iconst 0, 1) := by decide +kernel
theorem dX1_takesName_58 : decode cX1_takesName 58 = .ok (.ireturn, 1) := by decide +kernel
theorem dX1_takesName_59 : decode cX1_takesName 59 = .ok (.aload_n 0, 1) := by decide +kernel
theorem dX1_takesName_60 : decode cX1_takesName 60 = .ok (.iconst (-1), 1) := by decide +kernel
theorem dX1_takesName_61 : decode cX1_takesName 61 = .ok (.iload_n 3, 1) := by decide +kernel
theorem dX1_takesName_62 : decode cX1_takesName 62 = .ok (.isub, 1) := by decide +kernel
theorem dX1_takesName_63 : decode cX1_takesName 63 = .ok (.invokevirtual 119, 3) := by decide +kernel
theorem dX1_takesName_66 : decode cX1_takesName 66 = .ok (.iconst 1, 1) := by decide +kernel
theorem dX1_takesName_67 : decode cX1_takesName 67 = .ok (.ireturn, 1) := by decide +kernel
def f_X1_takesName_33 (fu : Nat)  (x1 : Int32) (j0 : Nat) (m : Mem) : Option (Int32 × Mem) := doI (f_J0_indexOf_0f7a4 fu j0 x1 m) (fun r_3 m_2 => if ((m_2 286) - (m_2 285)) = 1 then (if 0 ≤ r_3 then (doV (f_X1_takesAtom fu ((-1) - r_3) m_2) (fun m_5 => some (1, m_5))) else (some (0, m_2))) else (some (0, m_2)))
set_option maxHeartbeats 4000000 in
set_option maxRecDepth 100000 in
theorem w_X1_takesName_33 {X : TX} {p : Program} {l : Launch} {e : Env} {s : State} {mi : MethodId} {args : Array Value} {below : List Frame} {meth : Method} {c : Code} {Q : State → Prop} {r : Int32} {mE : Mem} (C : Cx X p s mi args c RX1 cX1_takesName 4) (hq : RetI X p l e (rmD 4) s mi args below meth c cX1_takesName .boolean Q r mE) {fu : Nat} {x1 : Int32} {j0 : Nat} {m : Mem} {H : Heap} {locs : List Loc} {ls : Array Slot} (h : f_X1_takesName_33 fu x1 j0 m = some (r, mE)) (g_j0 : j0 < 6) (hW : Wd X s m H locs) (hl : lv_has ls 4 [(0, .ref (ad X 6 0)), (1, .int x1)]) : W p l e (rmD 4) s mi args below meth c H locs 0 0 Q (F0 mi 33 ls [.ref (adK X j0)]) := by
  unfold f_X1_takesName_33 at h
  refine lv_astore_n (lv' := [(2, .ref (adK X j0)), (0, .ref (ad X 6 0)), (1, .int x1)]) C.1 C.2.1 dX1_takesName_33 rfl hl (by decide) rfl (fun ls hl => ?_)
  refine lv_aload_n C.1 C.2.1 dX1_takesName_34 rfl (lv_at hl 0 rfl) ?_
  refine lv_iload_n C.1 C.2.1 dX1_takesName_35 rfl (lv_at hl 2 rfl) ?_
  obtain ⟨r_3, m_2, hc_1, h⟩ := doI_E h
  refine zr_cVI C hW (c_J0_indexOf_0f7a4 (i0 := j0) (x1 := x1) hc_1 g_j0) k_J0_indexOf_0f7a4 (zs_recv C hW g_j0) w_809 ⟨Nat.le_of_ble_eq_true rfl, Nat.le_of_ble_eq_true rfl⟩ ⟨Nat.le_refl 0, Nat.le_refl 0⟩ rfl hl.1 rfl (Nat.le_of_ble_eq_true rfl) dX1_takesName_36 (fun H locs hW => ?_)
  refine lv_istore_n (lv' := [(3, .int r_3), (2, .ref (adK X j0)), (0, .ref (ad X 6 0)), (1, .int x1)]) C.1 C.2.1 dX1_takesName_39 rfl hl (by decide) rfl (fun ls hl => ?_)
  refine lv_aload_n C.1 C.2.1 dX1_takesName_40 rfl (lv_at hl 2 rfl) ?_
  refine zg_X1_to C hW id_6 w_147 dX1_takesName_41 ?_
  refine lv_aload_n C.1 C.2.1 dX1_takesName_44 rfl (lv_at hl 2 rfl) ?_
  refine zg_X1_from C hW id_6 w_146 dX1_takesName_45 ?_
  refine lv_isub C.1 C.2.1 dX1_takesName_48 ?_
  refine lv_iconst (v := 1) C.1 C.2.1 dX1_takesName_49 rfl ?_
  refine lv_icmp_ne (tgt := 57) C.1 C.2.1 dX1_takesName_50 (by decide) (fun hc_7 => ?_) (fun hc_7 => ?_)
  · have h := ite_f hc_7 h
    refine lv_iconst (v := 0) C.1 C.2.1 dX1_takesName_57 rfl ?_
    exact ret_i h hq rfl hW dX1_takesName_58
  · have h := ite_t hc_7 h
    refine lv_iload_n C.1 C.2.1 dX1_takesName_53 rfl (lv_at hl 0 rfl) ?_
    refine lv_if_ge (tgt := 59) C.1 C.2.1 dX1_takesName_54 (by decide) (fun hc_6 => ?_) (fun hc_6 => ?_)
    · have h := ite_t hc_6 h
      refine lv_aload_n C.1 C.2.1 dX1_takesName_59 rfl (lv_at hl 2 rfl) ?_
      refine lv_iconst (v := (-1)) C.1 C.2.1 dX1_takesName_60 rfl ?_
      refine lv_iload_n C.1 C.2.1 dX1_takesName_61 rfl (lv_at hl 0 rfl) ?_
      refine lv_isub C.1 C.2.1 dX1_takesName_62 ?_
      obtain ⟨m_5, hc_4, h⟩ := doV_E h
      refine zr_cVV C hW (c_X1_takesAtom (x1 := ((-1) - r_3)) hc_4 ) k_X1_takesAtom (zr_recv C hW id_6 zco_6 rfl) w_794 ⟨Nat.le_of_ble_eq_true rfl, Nat.le_of_ble_eq_true rfl⟩ ⟨Nat.le_refl 0, Nat.le_refl 0⟩ rfl hl.1 rfl (Nat.le_of_ble_eq_true rfl) dX1_takesName_63 (fun H locs hW => ?_)
      refine lv_iconst (v := 1) C.1 C.2.1 dX1_takesName_66 rfl ?_
      exact ret_i h hq rfl hW dX1_takesName_67
    · have h := ite_f hc_6 h
      refine lv_iconst (v := 0) C.1 C.2.1 dX1_takesName_57 rfl ?_
      exact ret_i h hq rfl hW dX1_takesName_58
def f_X1_takesName (fu : Nat)  (x1 : Int32) (m : Mem) : Option (Int32 × Mem) := if (m (tf 14 0)) = 0 then (f_X1_takesName_33 fu x1 3 m) else (if (m (tf 14 0)) = 1 then (f_X1_takesName_33 fu x1 4 m) else (f_X1_takesName_33 fu x1 5 m))
set_option maxHeartbeats 4000000 in
set_option maxRecDepth 100000 in
theorem w_X1_takesName {X : TX} {p : Program} {l : Launch} {e : Env} {s : State} {mi : MethodId} {args : Array Value} {below : List Frame} {meth : Method} {c : Code} {Q : State → Prop} {r : Int32} {mE : Mem} (C : Cx X p s mi args c RX1 cX1_takesName 4) (hq : RetI X p l e (rmD 4) s mi args below meth c cX1_takesName .boolean Q r mE) {fu : Nat} {x1 : Int32} {m : Mem} {H : Heap} {locs : List Loc} {ls : Array Slot} (h : f_X1_takesName fu x1 m = some (r, mE))  (hW : Wd X s m H locs) (hl : lv_has ls 4 [(0, .ref (ad X 6 0)), (1, .int x1)]) : W p l e (rmD 4) s mi args below meth c H locs 0 0 Q (F0 mi 0 ls []) := by
  unfold f_X1_takesName at h
  refine lv_aload_n C.1 C.2.1 dX1_takesName_0 rfl (lv_at hl 0 rfl) ?_
  refine zg_X1_draft C hW id_6 w_139 dX1_takesName_1 ?_
  refine zg_X5_key C hW id_3_14 w_101 dX1_takesName_4 ?_
  refine lv_if_ne (tgt := 15) C.1 C.2.1 dX1_takesName_7 (by decide) (fun hc_2 => ?_) (fun hc_2 => ?_)
  · have h := ite_f hc_2 h
    refine lv_aload_n C.1 C.2.1 dX1_takesName_15 rfl (lv_at hl 0 rfl) ?_
    refine zg_X1_draft C hW id_6 w_139 dX1_takesName_16 ?_
    refine zg_X5_key C hW id_3_14 w_101 dX1_takesName_19 ?_
    refine lv_iconst (v := 1) C.1 C.2.1 dX1_takesName_22 rfl ?_
    refine lv_icmp_ne (tgt := 31) C.1 C.2.1 dX1_takesName_23 (by decide) (fun hc_1 => ?_) (fun hc_1 => ?_)
    · have h := ite_f hc_1 h
      refine zs_ldc C C.2.2.2.2.2.1.2.2.2.2.2.2.2.2.2.1 dX1_takesName_31 ?_
      exact w_X1_takesName_33 C hq  h (by decide) hW (lv_sub hl [0, 1] rfl)
    · have h := ite_t hc_1 h
      refine zs_ldc C C.2.2.2.2.2.1.2.2.2.2.2.2.2.2.1 dX1_takesName_26 ?_
      refine lv_goto (tgt := 33) C.1 C.2.1 dX1_takesName_28 (by decide) ?_
      exact w_X1_takesName_33 C hq  h (by decide) hW (lv_sub hl [0, 1] rfl)
  · have h := ite_t hc_2 h
    refine zs_ldc C C.2.2.2.2.2.1.2.2.2.2.2.2.2.1 dX1_takesName_10 ?_
    refine lv_goto (tgt := 33) C.1 C.2.1 dX1_takesName_12 (by decide) ?_
    exact w_X1_takesName_33 C hq  h (by decide) hW (lv_sub hl [0, 1] rfl)
theorem c_X1_takesName {X : TX} {l : Launch} {fu : Nat} {x1 : Int32} {m mE : Mem} {r : Int32} (h : f_X1_takesName fu x1 m = some (r, mE))  : MetI X l yX1_takesName cX1_takesName 4 .boolean 4 [.ref (ad X 6 0), .int x1] m r mE :=
  met_I (by decide) (Nat.le_of_ble_eq_true rfl) (fun p e s mi args below meth c ls Q C hq hW hl => w_X1_takesName C hq h  hW (lv_sub hl [0, 1] rfl))
theorem k_X1_takesName : CalV yX1_takesName cX1_takesName 4 (some .boolean) RX1 1 := ⟨w_804, w_18, w_64, w_805, by decide +kernel⟩
theorem dX1_hold_0 : decode cX1_hold 0 = .ok (.aload_n 0, 1) := by decide +kernel
theorem dX1_hold_1 : decode cX1_hold 1 = .ok (.getfield 62, 3) := by decide +kernel
theorem dX1_hold_4 : decode cX1_hold 4 = .ok (.bipush 96, 2) := by decide +kernel
theorem dX1_hold_6 : decode cX1_hold 6 = .ok (.if_icmp .ge 23, 3) := by decide +kernel
theorem dX1_hold_9 : decode cX1_hold 9 = .ok (.aload_n 0, 1) := by decide +kernel
theorem dX1_hold_10 : decode cX1_hold 10 = .ok (.getfield 22, 3) := by decide +kernel
theorem dX1_hold_13 : decode cX1_hold 13 = .ok (.aload_n 0, 1) := by decide +kernel
theorem dX1_hold_14 : decode cX1_hold 14 = .ok (.getfield 62, 3) := by decide +kernel
theorem dX1_hold_17 : decode cX1_hold 17 = .ok (.iload_n 1, 1) := by decide +kernel
theorem dX1_hold_18 : decode cX1_hold 18 = .ok (.iastore, 1) := by decide +kernel
theorem dX1_hold_19 : decode cX1_hold 19 = .ok (.aload_n 0, 1) := by decide +kernel
theorem dX1_hold_20 : decode cX1_hold 20 = .ok (.dup, 1) := by decide +kernel
theorem dX1_hold_21 : decode cX1_hold 21 = .ok (.getfield 62, 3) := by decide +kernel
theorem dX1_hold_24 : decode cX1_hold 24 = .ok (.iconst 1, 1) := by decide +kernel
theorem dX1_hold_25 : decode cX1_hold 25 = .ok (.iadd, 1) := by decide +kernel
theorem dX1_hold_26 : decode cX1_hold 26 = .ok (.putfield 62, 3) := by decide +kernel
theorem dX1_hold_29 : decode cX1_hold 29 = .ok (.return_, 1) := by decide +kernel
def f_X1_hold (fu : Nat)  (x1 : Int32) (m : Mem) : Option Mem := if 96 ≤ (m 281) then (some m) else (chk (inb (m 281) 96) (seqM (upd m (1000 + (m 281).toNatClampNeg) x1) (fun m_2 : Mem => seqM (upd m_2 281 ((m_2 281) + 1)) (fun m_4 : Mem => some m_4))))
set_option maxHeartbeats 4000000 in
set_option maxRecDepth 100000 in
theorem w_X1_hold {X : TX} {p : Program} {l : Launch} {e : Env} {s : State} {mi : MethodId} {args : Array Value} {below : List Frame} {meth : Method} {c : Code} {Q : State → Prop} {mE : Mem} (C : Cx X p s mi args c RX1 cX1_hold 2) (hq : RetV X p l e (rmD 0) s mi args below meth c cX1_hold Q mE) {fu : Nat} {x1 : Int32} {m : Mem} {H : Heap} {locs : List Loc} {ls : Array Slot} (h : f_X1_hold fu x1 m = some mE)  (hW : Wd X s m H locs) (hl : lv_has ls 2 [(0, .ref (ad X 6 0)), (1, .int x1)]) : W p l e (rmD 0) s mi args below meth c H locs 0 0 Q (F0 mi 0 ls []) := by
  unfold f_X1_hold at h
  refine lv_aload_n C.1 C.2.1 dX1_hold_0 rfl (lv_at hl 0 rfl) ?_
  refine zg_X1_signsMany C hW id_6 w_142 dX1_hold_1 ?_
  refine lv_bipush (v := 96) C.1 C.2.1 dX1_hold_4 rfl ?_
  refine lv_icmp_ge (tgt := 29) C.1 C.2.1 dX1_hold_6 (by decide) (fun hc_6 => ?_) (fun hc_6 => ?_)
  · have h := ite_t hc_6 h
    exact ret_v h hq hW dX1_hold_29
  · have h := ite_f hc_6 h
    refine lv_aload_n C.1 C.2.1 dX1_hold_9 rfl (lv_at hl 0 rfl) ?_
    refine zg_X1_signs C hW id_6 w_141 dX1_hold_10 ?_
    refine lv_aload_n C.1 C.2.1 dX1_hold_13 rfl (lv_at hl 0 rfl) ?_
    refine zg_X1_signsMany C hW id_6 w_142 dX1_hold_14 ?_
    refine lv_iload_n C.1 C.2.1 dX1_hold_17 rfl (lv_at hl 1 rfl) ?_
    obtain ⟨hb_1, h⟩ := chk_E h
    obtain ⟨m_2, e_3, h⟩ := seqM_E h
    refine zas_8 C hW id_8 (inb_E hb_1) e_3 dX1_hold_18 (fun H locs hW => ?_)
    refine lv_aload_n C.1 C.2.1 dX1_hold_19 rfl (lv_at hl 0 rfl) ?_
    refine lv_dup C.1 C.2.1 dX1_hold_20 rfl ?_
    refine zg_X1_signsMany C hW id_6 w_142 dX1_hold_21 ?_
    refine lv_iconst (v := 1) C.1 C.2.1 dX1_hold_24 rfl ?_
    refine lv_iadd C.1 C.2.1 dX1_hold_25 ?_
    obtain ⟨m_4, e_5, h⟩ := seqM_E h
    refine zp_X1_signsMany C hW id_6 w_142 e_5 dX1_hold_26 (fun H locs hW => ?_)
    exact ret_v h hq hW dX1_hold_29
theorem c_X1_hold {X : TX} {l : Launch} {fu : Nat} {x1 : Int32} {m mE : Mem} (h : f_X1_hold fu x1 m = some mE)  : MetV X l yX1_hold cX1_hold 2 0 [.ref (ad X 6 0), .int x1] m mE :=
  met_V (by decide) (Nat.le_of_ble_eq_true rfl) (fun p e s mi args below meth c ls Q C hq hW hl => w_X1_hold C hq h  hW (lv_sub hl [0, 1] rfl))
theorem k_X1_hold : CalV yX1_hold cX1_hold 2 none RX1 1 := ⟨w_866, w_19, w_64, w_867, by decide +kernel⟩
theorem dX1_takesPiece_0 : decode cX1_takesPiece 0 = .ok (.aload_n 0, 1) := by decide +kernel
theorem dX1_takesPiece_1 : decode cX1_takesPiece 1 = .ok (.getfield 9, 3) := by decide +kernel
theorem dX1_takesPiece_4 : decode cX1_takesPiece 4 = .ok (.aload_n 0, 1) := by decide +kernel
theorem dX1_takesPiece_5 : decode cX1_takesPiece 5 = .ok (.getfield 35, 3) := by decide +kernel
theorem dX1_takesPiece_8 : decode cX1_takesPiece 8 = .ok (.iaload, 1) := by decide +kernel
theorem dX1_takesPiece_9 : decode cX1_takesPiece 9 = .ok (.istore_n 1, 1) := by decide +kernel
theorem dX1_takesPiece_10 : decode cX1_takesPiece 10 = .ok (.iload_n 1, 1) := by decide +kernel
theorem dX1_takesPiece_11 : decode cX1_takesPiece 11 = .ok (.invokestatic 78, 3) := by decide +kernel
theorem dX1_takesPiece_14 : decode cX1_takesPiece 14 = .ok (.ifCond .eq 8, 3) := by decide +kernel
theorem dX1_takesPiece_17 : decode cX1_takesPiece 17 = .ok (.aload_n 0, 1) := by decide +kernel
theorem dX1_takesPiece_18 : decode cX1_takesPiece 18 = .ok (.invokevirtual 109, 3) := by decide +kernel
theorem dX1_takesPiece_21 : decode cX1_takesPiece 21 = .ok (.ireturn, 1) := by decide +kernel
theorem dX1_takesPiece_22 : decode cX1_takesPiece 22 = .ok (.iload_n 1, 1) := by decide +kernel
theorem dX1_takesPiece_23 : decode cX1_takesPiece 23 = .ok (.invokestatic 74, 3) := by decide +kernel
theorem dX1_takesPiece_26 : decode cX1_takesPiece 26 = .ok (.ifCond .eq 10, 3) := by decide +kernel
theorem dX1_takesPiece_29 : decode cX1_takesPiece 29 = .ok (.aload_n 0, 1) := by decide +kernel
theorem dX1_takesPiece_30 : decode cX1_takesPiece 30 = .ok (.iload_n 1, 1) := by decide +kernel
theorem dX1_takesPiece_31 : decode cX1_takesPiece 31 = .ok (.i2c, 1) := by decide +kernel
theorem dX1_takesPiece_32 : decode cX1_takesPiece 32 = .ok (.invokevirtual 112, 3) := by decide +kernel
theorem dX1_takesPiece_35 : decode cX1_takesPiece 35 = .ok (.ireturn, 1) := by decide +kernel
theorem dX1_takesPiece_36 : decode cX1_takesPiece 36 = .ok (.iload_n 1, 1) := by decide +kernel
theorem dX1_takesPiece_37 : decode cX1_takesPiece 37 = .ok (.bipush 33, 2) := by decide +kernel
theorem dX1_takesPiece_39 : decode cX1_takesPiece 39 = .ok (.if_icmp .ne 29, 3) := by decide +kernel
theorem dX1_takesPiece_42 : decode cX1_takesPiece 42 = .ok (.aload_n 0, 1) := by decide +kernel
theorem dX1_takesPiece_43 : decode cX1_takesPiece 43 = .ok (.getfield 65, 3) := by decide +kernel
theorem dX1_takesPiece_46 : decode cX1_takesPiece 46 = .ok (.bipush 8, 2) := by decide +kernel
theorem dX1_takesPiece_48 : decode cX1_takesPiece 48 = .ok (.if_icmp .ge 20, 3) := by decide +kernel
theorem dX1_takesPiece_51 : decode cX1_takesPiece 51 = .ok (.aload_n 0, 1) := by decide +kernel
theorem dX1_takesPiece_52 : decode cX1_takesPiece 52 = .ok (.dup, 1) := by decide +kernel
theorem dX1_takesPiece_53 : decode cX1_takesPiece 53 = .ok (.getfield 65, 3) := by decide +kernel
theorem dX1_takesPiece_56 : decode cX1_takesPiece 56 = .ok (.iconst 1, 1) := by decide +kernel
theorem dX1_takesPiece_57 : decode cX1_takesPiece 57 = .ok (.iadd, 1) := by decide +kernel
theorem dX1_takesPiece_58 : decode cX1_takesPiece 58 = .ok (.putfield 65, 3) := by decide +kernel
theorem dX1_takesPiece_61 : decode cX1_takesPiece 61 = .ok (.aload_n 0, 1) := by decide +kernel
theorem dX1_takesPiece_62 : decode cX1_takesPiece 62 = .ok (.iload_n 1, 1) := by decide +kernel
theorem dX1_takesPiece_63 : decode cX1_takesPiece 63 = .ok (.invokevirtual 116, 3) := by decide +kernel
theorem dX1_takesPiece_66 : decode cX1_takesPiece 66 = .ok (.iconst 1, 1) := by decide +kernel
theorem dX1_takesPiece_67 : decode cX1_takesPiece 67 = .ok (.ireturn, 1) := by decide +kernel
theorem dX1_takesPiece_68 : decode cX1_takesPiece 68 = .ok (.iload_n 1, 1) := by decide +kernel
theorem dX1_takesPiece_69 : decode cX1_takesPiece 69 = .ok (.bipush 40, 2) := by decide +kernel
theorem dX1_takesPiece_71 : decode cX1_takesPiece 71 = .ok (.if_icmp .ne 29, 3) := by decide +kernel
theorem dX1_takesPiece_74 : decode cX1_takesPiece 74 = .ok (.aload_n 0, 1) := by decide +kernel
theorem dX1_takesPiece_75 : decode cX1_takesPiece 75 = .ok (.getfield 52, 3) := by decide +kernel
theorem dX1_takesPiece_78 : decode cX1_takesPiece 78 = .ok (.bipush 8, 2) := by decide +kernel
theorem dX1_takesPiece_80 : decode cX1_takesPiece 80 = .ok (.if_icmp .ge 20, 3) := by decide +kernel
theorem dX1_takesPiece_83 : decode cX1_takesPiece 83 = .ok (.aload_n 0, 1) := by decide +kernel
theorem dX1_takesPiece_84 : decode cX1_takesPiece 84 = .ok (.dup, 1) := by decide +kernel
theorem dX1_takesPiece_85 : decode cX1_takesPiece 85 = .ok (.getfield 52, 3) := by decide +kernel
theorem dX1_takesPiece_88 : decode cX1_takesPiece 88 = .ok (.iconst 1, 1) := by decide +kernel
theorem dX1_takesPiece_89 : decode cX1_takesPiece 89 = .ok (.iadd, 1) := by decide +kernel
theorem dX1_takesPiece_90 : decode cX1_takesPiece 90 = .ok (.putfield 52, 3) := by decide +kernel
theorem dX1_takesPiece_93 : decode cX1_takesPiece 93 = .ok (.aload_n 0, 1) := by decide +kernel
theorem dX1_takesPiece_94 : decode cX1_takesPiece 94 = .ok (.iload_n 1, 1) := by decide +kernel
theorem dX1_takesPiece_95 : decode cX1_takesPiece 95 = .ok (.invokevirtual 116, 3) := by decide +kernel
theorem dX1_takesPiece_98 : decode cX1_takesPiece 98 = .ok (.iconst 1, 1) := by decide +kernel
theorem dX1_takesPiece_99 : decode cX1_takesPiece 99 = .ok (.ireturn, 1) := by decide +kernel
theorem dX1_takesPiece_100 : decode cX1_takesPiece 100 = .ok (.iconst 0, 1) := by decide +kernel
theorem dX1_takesPiece_101 : decode cX1_takesPiece 101 = .ok (.ireturn, 1) := by decide +kernel
def f_X1_takesPiece_68 (fu : Nat)  (x1 : Int32) (m : Mem) : Option (Int32 × Mem) := if x1 = 40 then (if 8 ≤ (m 282) then (some (0, m)) else (seqM (upd m 282 ((m 282) + 1)) (fun m_1 : Mem => doV (f_X1_hold fu x1 m_1) (fun m_4 => some (1, m_4))))) else (some (0, m))
set_option maxHeartbeats 4000000 in
set_option maxRecDepth 100000 in
theorem w_X1_takesPiece_68 {X : TX} {p : Program} {l : Launch} {e : Env} {s : State} {mi : MethodId} {args : Array Value} {below : List Frame} {meth : Method} {c : Code} {Q : State → Prop} {r : Int32} {mE : Mem} (C : Cx X p s mi args c RX1 cX1_takesPiece 2) (hq : RetI X p l e (rmD 5) s mi args below meth c cX1_takesPiece .boolean Q r mE) {fu : Nat} {x1 : Int32} {m : Mem} {H : Heap} {locs : List Loc} {ls : Array Slot} (h : f_X1_takesPiece_68 fu x1 m = some (r, mE))  (hW : Wd X s m H locs) (hl : lv_has ls 2 [(0, .ref (ad X 6 0)), (1, .int x1)]) : W p l e (rmD 5) s mi args below meth c H locs 0 0 Q (F0 mi 68 ls []) := by
  unfold f_X1_takesPiece_68 at h
  refine lv_iload_n C.1 C.2.1 dX1_takesPiece_68 rfl (lv_at hl 1 rfl) ?_
  refine lv_bipush (v := 40) C.1 C.2.1 dX1_takesPiece_69 rfl ?_
  refine lv_icmp_ne (tgt := 100) C.1 C.2.1 dX1_takesPiece_71 (by decide) (fun hc_6 => ?_) (fun hc_6 => ?_)
  · have h := ite_f hc_6 h
    refine lv_iconst (v := 0) C.1 C.2.1 dX1_takesPiece_100 rfl ?_
    exact ret_i h hq rfl hW dX1_takesPiece_101
  · have h := ite_t hc_6 h
    refine lv_aload_n C.1 C.2.1 dX1_takesPiece_74 rfl (lv_at hl 0 rfl) ?_
    refine zg_X1_brackets C hW id_6 w_143 dX1_takesPiece_75 ?_
    refine lv_bipush (v := 8) C.1 C.2.1 dX1_takesPiece_78 rfl ?_
    refine lv_icmp_ge (tgt := 100) C.1 C.2.1 dX1_takesPiece_80 (by decide) (fun hc_5 => ?_) (fun hc_5 => ?_)
    · have h := ite_t hc_5 h
      refine lv_iconst (v := 0) C.1 C.2.1 dX1_takesPiece_100 rfl ?_
      exact ret_i h hq rfl hW dX1_takesPiece_101
    · have h := ite_f hc_5 h
      refine lv_aload_n C.1 C.2.1 dX1_takesPiece_83 rfl (lv_at hl 0 rfl) ?_
      refine lv_dup C.1 C.2.1 dX1_takesPiece_84 rfl ?_
      refine zg_X1_brackets C hW id_6 w_143 dX1_takesPiece_85 ?_
      refine lv_iconst (v := 1) C.1 C.2.1 dX1_takesPiece_88 rfl ?_
      refine lv_iadd C.1 C.2.1 dX1_takesPiece_89 ?_
      obtain ⟨m_1, e_2, h⟩ := seqM_E h
      refine zp_X1_brackets C hW id_6 w_143 e_2 dX1_takesPiece_90 (fun H locs hW => ?_)
      refine lv_aload_n C.1 C.2.1 dX1_takesPiece_93 rfl (lv_at hl 0 rfl) ?_
      refine lv_iload_n C.1 C.2.1 dX1_takesPiece_94 rfl (lv_at hl 1 rfl) ?_
      obtain ⟨m_4, hc_3, h⟩ := doV_E h
      refine zr_cVV C hW (c_X1_hold (x1 := x1) hc_3 ) k_X1_hold (zr_recv C hW id_6 zco_6 rfl) w_864 ⟨Nat.le_of_ble_eq_true rfl, Nat.le_of_ble_eq_true rfl⟩ ⟨Nat.le_refl 0, Nat.le_refl 0⟩ rfl hl.1 rfl (Nat.le_of_ble_eq_true rfl) dX1_takesPiece_95 (fun H locs hW => ?_)
      refine lv_iconst (v := 1) C.1 C.2.1 dX1_takesPiece_98 rfl ?_
      exact ret_i h hq rfl hW dX1_takesPiece_99
def f_X1_takesPiece (fu : Nat)   (m : Mem) : Option (Int32 × Mem) := chk (inb (m 285) 96) (seqM (m (900 + (m 285).toNatClampNeg)) (fun x_2 : Int32 => doI (f_X1_isDigit fu x_2 m) (fun r_6 m_5 => if r_6 = 0 then (doI (f_X1_isLetter fu x_2 m_5) (fun r_9 m_8 => if r_9 = 0 then (if x_2 = 33 then (if 8 ≤ (m_8 283) then (f_X1_takesPiece_68 fu x_2 m_8) else (seqM (upd m_8 283 ((m_8 283) + 1)) (fun m_10 : Mem => doV (f_X1_hold fu x_2 m_10) (fun m_13 => some (1, m_13))))) else (f_X1_takesPiece_68 fu x_2 m_8)) else (doI (f_X1_takesName fu ((x_2.toUInt32 % 65536).toInt32) m_8) (fun r_18 m_17 => chk (isB r_18) (some (r_18, m_17)))))) else (doI (f_X1_takesNumber fu  m_5) (fun r_23 m_22 => chk (isB r_23) (some (r_23, m_22)))))))
set_option maxHeartbeats 4000000 in
set_option maxRecDepth 100000 in
theorem w_X1_takesPiece {X : TX} {p : Program} {l : Launch} {e : Env} {s : State} {mi : MethodId} {args : Array Value} {below : List Frame} {meth : Method} {c : Code} {Q : State → Prop} {r : Int32} {mE : Mem} (C : Cx X p s mi args c RX1 cX1_takesPiece 2) (hq : RetI X p l e (rmD 5) s mi args below meth c cX1_takesPiece .boolean Q r mE) {fu : Nat}  {m : Mem} {H : Heap} {locs : List Loc} {ls : Array Slot} (h : f_X1_takesPiece fu  m = some (r, mE))  (hW : Wd X s m H locs) (hl : lv_has ls 2 [(0, .ref (ad X 6 0))]) : W p l e (rmD 5) s mi args below meth c H locs 0 0 Q (F0 mi 0 ls []) := by
  unfold f_X1_takesPiece at h
  refine lv_aload_n C.1 C.2.1 dX1_takesPiece_0 rfl (lv_at hl 0 rfl) ?_
  refine zg_X1_bytes C hW id_6 w_136 dX1_takesPiece_1 ?_
  refine lv_aload_n C.1 C.2.1 dX1_takesPiece_4 rfl (lv_at hl 0 rfl) ?_
  refine zg_X1_from C hW id_6 w_146 dX1_takesPiece_5 ?_
  obtain ⟨hb_1, h⟩ := chk_E h
  refine zal_7 C hW id_7 (inb_E hb_1) dX1_takesPiece_8 ?_
  obtain ⟨x_2, e_3, h⟩ := seqM_E h
  refine lv_name e_3 ?_
  refine lv_istore_n (lv' := [(1, .int x_2), (0, .ref (ad X 6 0))]) C.1 C.2.1 dX1_takesPiece_9 rfl hl (by decide) rfl (fun ls hl => ?_)
  refine lv_iload_n C.1 C.2.1 dX1_takesPiece_10 rfl (lv_at hl 0 rfl) ?_
  obtain ⟨r_6, m_5, hc_4, h⟩ := doI_E h
  refine zr_cSI C hW (c_X1_isDigit (x0 := x_2) hc_4 ) k_X1_isDigit w_720 ⟨Nat.le_of_ble_eq_true rfl, Nat.le_of_ble_eq_true rfl⟩ ⟨Nat.le_refl 0, Nat.le_refl 0⟩ rfl hl.1 rfl (Nat.le_of_ble_eq_true rfl) dX1_takesPiece_11 (fun H locs hW => ?_)
  refine lv_if_eq (tgt := 22) C.1 C.2.1 dX1_takesPiece_14 (by decide) (fun hc_25 => ?_) (fun hc_25 => ?_)
  · have h := ite_t hc_25 h
    refine lv_iload_n C.1 C.2.1 dX1_takesPiece_22 rfl (lv_at hl 0 rfl) ?_
    obtain ⟨r_9, m_8, hc_7, h⟩ := doI_E h
    refine zr_cSI C hW (c_X1_isLetter (x0 := x_2) hc_7 ) k_X1_isLetter w_716 ⟨Nat.le_of_ble_eq_true rfl, Nat.le_of_ble_eq_true rfl⟩ ⟨Nat.le_refl 0, Nat.le_refl 0⟩ rfl hl.1 rfl (Nat.le_of_ble_eq_true rfl) dX1_takesPiece_23 (fun H locs hW => ?_)
    refine lv_if_eq (tgt := 36) C.1 C.2.1 dX1_takesPiece_26 (by decide) (fun hc_20 => ?_) (fun hc_20 => ?_)
    · have h := ite_t hc_20 h
      refine lv_iload_n C.1 C.2.1 dX1_takesPiece_36 rfl (lv_at hl 0 rfl) ?_
      refine lv_bipush (v := 33) C.1 C.2.1 dX1_takesPiece_37 rfl ?_
      refine lv_icmp_ne (tgt := 68) C.1 C.2.1 dX1_takesPiece_39 (by decide) (fun hc_15 => ?_) (fun hc_15 => ?_)
      · have h := ite_f hc_15 h
        exact w_X1_takesPiece_68 C hq  h  hW (lv_sub hl [1, 0] rfl)
      · have h := ite_t hc_15 h
        refine lv_aload_n C.1 C.2.1 dX1_takesPiece_42 rfl (lv_at hl 1 rfl) ?_
        refine zg_X1_nots C hW id_6 w_144 dX1_takesPiece_43 ?_
        refine lv_bipush (v := 8) C.1 C.2.1 dX1_takesPiece_46 rfl ?_
        refine lv_icmp_ge (tgt := 68) C.1 C.2.1 dX1_takesPiece_48 (by decide) (fun hc_14 => ?_) (fun hc_14 => ?_)
        · have h := ite_t hc_14 h
          exact w_X1_takesPiece_68 C hq  h  hW (lv_sub hl [1, 0] rfl)
        · have h := ite_f hc_14 h
          refine lv_aload_n C.1 C.2.1 dX1_takesPiece_51 rfl (lv_at hl 1 rfl) ?_
          refine lv_dup C.1 C.2.1 dX1_takesPiece_52 rfl ?_
          refine zg_X1_nots C hW id_6 w_144 dX1_takesPiece_53 ?_
          refine lv_iconst (v := 1) C.1 C.2.1 dX1_takesPiece_56 rfl ?_
          refine lv_iadd C.1 C.2.1 dX1_takesPiece_57 ?_
          obtain ⟨m_10, e_11, h⟩ := seqM_E h
          refine zp_X1_nots C hW id_6 w_144 e_11 dX1_takesPiece_58 (fun H locs hW => ?_)
          refine lv_aload_n C.1 C.2.1 dX1_takesPiece_61 rfl (lv_at hl 1 rfl) ?_
          refine lv_iload_n C.1 C.2.1 dX1_takesPiece_62 rfl (lv_at hl 0 rfl) ?_
          obtain ⟨m_13, hc_12, h⟩ := doV_E h
          refine zr_cVV C hW (c_X1_hold (x1 := x_2) hc_12 ) k_X1_hold (zr_recv C hW id_6 zco_6 rfl) w_864 ⟨Nat.le_of_ble_eq_true rfl, Nat.le_of_ble_eq_true rfl⟩ ⟨Nat.le_refl 0, Nat.le_refl 0⟩ rfl hl.1 rfl (Nat.le_of_ble_eq_true rfl) dX1_takesPiece_63 (fun H locs hW => ?_)
          refine lv_iconst (v := 1) C.1 C.2.1 dX1_takesPiece_66 rfl ?_
          exact ret_i h hq rfl hW dX1_takesPiece_67
    · have h := ite_f hc_20 h
      refine lv_aload_n C.1 C.2.1 dX1_takesPiece_29 rfl (lv_at hl 1 rfl) ?_
      refine lv_iload_n C.1 C.2.1 dX1_takesPiece_30 rfl (lv_at hl 0 rfl) ?_
      refine lv_i2c (v := ((x_2.toUInt32 % 65536).toInt32)) C.1 C.2.1 dX1_takesPiece_31 rfl ?_
      obtain ⟨r_18, m_17, hc_16, h⟩ := doI_E h
      refine zr_cVI C hW (c_X1_takesName (x1 := ((x_2.toUInt32 % 65536).toInt32)) hc_16 ) k_X1_takesName (zr_recv C hW id_6 zco_6 rfl) w_802 ⟨Nat.le_of_ble_eq_true rfl, Nat.le_of_ble_eq_true rfl⟩ ⟨Nat.le_refl 0, Nat.le_refl 0⟩ rfl hl.1 rfl (Nat.le_of_ble_eq_true rfl) dX1_takesPiece_32 (fun H locs hW => ?_)
      obtain ⟨hb_19, h⟩ := chk_E h
      exact ret_i h hq (nar_B (isB_E hb_19)) hW dX1_takesPiece_35
  · have h := ite_f hc_25 h
    refine lv_aload_n C.1 C.2.1 dX1_takesPiece_17 rfl (lv_at hl 1 rfl) ?_
    obtain ⟨r_23, m_22, hc_21, h⟩ := doI_E h
    refine zr_cVI C hW (c_X1_takesNumber  hc_21 ) k_X1_takesNumber (zr_recv C hW id_6 zco_6 rfl) w_790 ⟨Nat.le_of_ble_eq_true rfl, Nat.le_of_ble_eq_true rfl⟩ ⟨Nat.le_refl 0, Nat.le_refl 0⟩ rfl hl.1 rfl (Nat.le_of_ble_eq_true rfl) dX1_takesPiece_18 (fun H locs hW => ?_)
    obtain ⟨hb_24, h⟩ := chk_E h
    exact ret_i h hq (nar_B (isB_E hb_24)) hW dX1_takesPiece_21
theorem c_X1_takesPiece {X : TX} {l : Launch} {fu : Nat}  {m mE : Mem} {r : Int32} (h : f_X1_takesPiece fu  m = some (r, mE))  : MetI X l yX1_takesPiece cX1_takesPiece 2 .boolean 5 [.ref (ad X 6 0)] m r mE :=
  met_I (by decide) (Nat.le_of_ble_eq_true rfl) (fun p e s mi args below meth c ls Q C hq hW hl => w_X1_takesPiece C hq h  hW (lv_sub hl [0] rfl))
theorem k_X1_takesPiece : CalV yX1_takesPiece cX1_takesPiece 2 (some .boolean) RX1 0 := ⟨w_788, w_15, w_64, w_789, by decide +kernel⟩
theorem dX1_rank_0 : decode cX1_rank 0 = .ok (.iload_n 0, 1) := by decide +kernel
theorem dX1_rank_1 : decode cX1_rank 1 = .ok (.lookupswitch 104 #[(33, 101), (38, 93), (42, 99), (43, 97), (45, 97), (47, 99), (60, 95), (61, 95), (62, 95), (124, 91)], 91) := by decide +kernel
theorem dX1_rank_92 : decode cX1_rank 92 = .ok (.iconst 1, 1) := by decide +kernel
theorem dX1_rank_93 : decode cX1_rank 93 = .ok (.ireturn, 1) := by decide +kernel
theorem dX1_rank_94 : decode cX1_rank 94 = .ok (.iconst 2, 1) := by decide +kernel
theorem dX1_rank_95 : decode cX1_rank 95 = .ok (.ireturn, 1) := by decide +kernel
theorem dX1_rank_96 : decode cX1_rank 96 = .ok (.iconst 3, 1) := by decide +kernel
theorem dX1_rank_97 : decode cX1_rank 97 = .ok (.ireturn, 1) := by decide +kernel
theorem dX1_rank_98 : decode cX1_rank 98 = .ok (.iconst 4, 1) := by decide +kernel
theorem dX1_rank_99 : decode cX1_rank 99 = .ok (.ireturn, 1) := by decide +kernel
theorem dX1_rank_100 : decode cX1_rank 100 = .ok (.iconst 5, 1) := by decide +kernel
theorem dX1_rank_101 : decode cX1_rank 101 = .ok (.ireturn, 1) := by decide +kernel
theorem dX1_rank_102 : decode cX1_rank 102 = .ok (.bipush 6, 2) := by decide +kernel
theorem dX1_rank_104 : decode cX1_rank 104 = .ok (.ireturn, 1) := by decide +kernel
theorem dX1_rank_105 : decode cX1_rank 105 = .ok (.iconst 0, 1) := by decide +kernel
theorem dX1_rank_106 : decode cX1_rank 106 = .ok (.ireturn, 1) := by decide +kernel
def f_X1_rank (fu : Nat)  (x0 : Int32) (m : Mem) : Option (Int32 × Mem) := if x0 = 33 then (some (6, m)) else (if x0 = 38 then (some (2, m)) else (if x0 = 42 then (some (5, m)) else (if x0 = 43 then (some (4, m)) else (if x0 = 45 then (some (4, m)) else (if x0 = 47 then (some (5, m)) else (if x0 = 60 then (some (3, m)) else (if x0 = 61 then (some (3, m)) else (if x0 = 62 then (some (3, m)) else (if x0 = 124 then (some (1, m)) else (some (0, m)))))))))))
set_option maxHeartbeats 4000000 in
set_option maxRecDepth 100000 in
theorem w_X1_rank {X : TX} {p : Program} {l : Launch} {e : Env} {s : State} {mi : MethodId} {args : Array Value} {below : List Frame} {meth : Method} {c : Code} {Q : State → Prop} {r : Int32} {mE : Mem} (C : Cx X p s mi args c RX1 cX1_rank 1) (hq : RetI X p l e (rmD 0) s mi args below meth c cX1_rank .int Q r mE) {fu : Nat} {x0 : Int32} {m : Mem} {H : Heap} {locs : List Loc} {ls : Array Slot} (h : f_X1_rank fu x0 m = some (r, mE))  (hW : Wd X s m H locs) (hl : lv_has ls 1 [(0, .int x0)]) : W p l e (rmD 0) s mi args below meth c H locs 0 0 Q (F0 mi 0 ls []) := by
  unfold f_X1_rank at h
  refine lv_iload_n C.1 C.2.1 dX1_rank_0 rfl (lv_at hl 0 rfl) ?_
  by_cases hc_1 : x0 = 33
  · have h := ite_t hc_1 h
    refine lv_lookup (tgt := 102) (off := 101) C.1 C.2.1 dX1_rank_1 (by decide) (by first | (rw [hc_1]; done) | (rw [hc_1]; decide) | (rw [hc_1]; rfl)) (by decide) ?_
    refine lv_bipush (v := 6) C.1 C.2.1 dX1_rank_102 rfl ?_
    exact ret_i h hq rfl hW dX1_rank_104
  · have h := ite_f hc_1 h
    by_cases hc_2 : x0 = 38
    · have h := ite_t hc_2 h
      refine lv_lookup (tgt := 94) (off := 93) C.1 C.2.1 dX1_rank_1 (by decide) (by first | (rw [hc_2]; done) | (rw [hc_2]; decide) | (rw [hc_2]; rfl)) (by decide) ?_
      refine lv_iconst (v := 2) C.1 C.2.1 dX1_rank_94 rfl ?_
      exact ret_i h hq rfl hW dX1_rank_95
    · have h := ite_f hc_2 h
      by_cases hc_3 : x0 = 42
      · have h := ite_t hc_3 h
        refine lv_lookup (tgt := 100) (off := 99) C.1 C.2.1 dX1_rank_1 (by decide) (by first | (rw [hc_3]; done) | (rw [hc_3]; decide) | (rw [hc_3]; rfl)) (by decide) ?_
        refine lv_iconst (v := 5) C.1 C.2.1 dX1_rank_100 rfl ?_
        exact ret_i h hq rfl hW dX1_rank_101
      · have h := ite_f hc_3 h
        by_cases hc_4 : x0 = 43
        · have h := ite_t hc_4 h
          refine lv_lookup (tgt := 98) (off := 97) C.1 C.2.1 dX1_rank_1 (by decide) (by first | (rw [hc_4]; done) | (rw [hc_4]; decide) | (rw [hc_4]; rfl)) (by decide) ?_
          refine lv_iconst (v := 4) C.1 C.2.1 dX1_rank_98 rfl ?_
          exact ret_i h hq rfl hW dX1_rank_99
        · have h := ite_f hc_4 h
          by_cases hc_5 : x0 = 45
          · have h := ite_t hc_5 h
            refine lv_lookup (tgt := 98) (off := 97) C.1 C.2.1 dX1_rank_1 (by decide) (by first | (rw [hc_5]; done) | (rw [hc_5]; decide) | (rw [hc_5]; rfl)) (by decide) ?_
            refine lv_iconst (v := 4) C.1 C.2.1 dX1_rank_98 rfl ?_
            exact ret_i h hq rfl hW dX1_rank_99
          · have h := ite_f hc_5 h
            by_cases hc_6 : x0 = 47
            · have h := ite_t hc_6 h
              refine lv_lookup (tgt := 100) (off := 99) C.1 C.2.1 dX1_rank_1 (by decide) (by first | (rw [hc_6]; done) | (rw [hc_6]; decide) | (rw [hc_6]; rfl)) (by decide) ?_
              refine lv_iconst (v := 5) C.1 C.2.1 dX1_rank_100 rfl ?_
              exact ret_i h hq rfl hW dX1_rank_101
            · have h := ite_f hc_6 h
              by_cases hc_7 : x0 = 60
              · have h := ite_t hc_7 h
                refine lv_lookup (tgt := 96) (off := 95) C.1 C.2.1 dX1_rank_1 (by decide) (by first | (rw [hc_7]; done) | (rw [hc_7]; decide) | (rw [hc_7]; rfl)) (by decide) ?_
                refine lv_iconst (v := 3) C.1 C.2.1 dX1_rank_96 rfl ?_
                exact ret_i h hq rfl hW dX1_rank_97
              · have h := ite_f hc_7 h
                by_cases hc_8 : x0 = 61
                · have h := ite_t hc_8 h
                  refine lv_lookup (tgt := 96) (off := 95) C.1 C.2.1 dX1_rank_1 (by decide) (by first | (rw [hc_8]; done) | (rw [hc_8]; decide) | (rw [hc_8]; rfl)) (by decide) ?_
                  refine lv_iconst (v := 3) C.1 C.2.1 dX1_rank_96 rfl ?_
                  exact ret_i h hq rfl hW dX1_rank_97
                · have h := ite_f hc_8 h
                  by_cases hc_9 : x0 = 62
                  · have h := ite_t hc_9 h
                    refine lv_lookup (tgt := 96) (off := 95) C.1 C.2.1 dX1_rank_1 (by decide) (by first | (rw [hc_9]; done) | (rw [hc_9]; decide) | (rw [hc_9]; rfl)) (by decide) ?_
                    refine lv_iconst (v := 3) C.1 C.2.1 dX1_rank_96 rfl ?_
                    exact ret_i h hq rfl hW dX1_rank_97
                  · have h := ite_f hc_9 h
                    by_cases hc_10 : x0 = 124
                    · have h := ite_t hc_10 h
                      refine lv_lookup (tgt := 92) (off := 91) C.1 C.2.1 dX1_rank_1 (by decide) (by first | (rw [hc_10]; done) | (rw [hc_10]; decide) | (rw [hc_10]; rfl)) (by decide) ?_
                      refine lv_iconst (v := 1) C.1 C.2.1 dX1_rank_92 rfl ?_
                      exact ret_i h hq rfl hW dX1_rank_93
                    · have h := ite_f hc_10 h
                      have nhc_1 := ne_k (33) rfl hc_1
                      have nhc_2 := ne_k (38) rfl hc_2
                      have nhc_3 := ne_k (42) rfl hc_3
                      have nhc_4 := ne_k (43) rfl hc_4
                      have nhc_5 := ne_k (45) rfl hc_5
                      have nhc_6 := ne_k (47) rfl hc_6
                      have nhc_7 := ne_k (60) rfl hc_7
                      have nhc_8 := ne_k (61) rfl hc_8
                      have nhc_9 := ne_k (62) rfl hc_9
                      have nhc_10 := ne_k (124) rfl hc_10
                      refine lv_lookup (tgt := 105) (off := 104) C.1 C.2.1 dX1_rank_1 (by decide) (by show Op.lookupswitch.offset [(33, 101), (38, 93), (42, 99), (43, 97), (45, 97), (47, 99), (60, 95), (61, 95), (62, 95), (124, 91)] 104 _ = _; rw [Op.lookupswitch.offset_cons, if_neg nhc_1.symm, Op.lookupswitch.offset_cons, if_neg nhc_2.symm, Op.lookupswitch.offset_cons, if_neg nhc_3.symm, Op.lookupswitch.offset_cons, if_neg nhc_4.symm, Op.lookupswitch.offset_cons, if_neg nhc_5.symm, Op.lookupswitch.offset_cons, if_neg nhc_6.symm, Op.lookupswitch.offset_cons, if_neg nhc_7.symm, Op.lookupswitch.offset_cons, if_neg nhc_8.symm, Op.lookupswitch.offset_cons, if_neg nhc_9.symm, Op.lookupswitch.offset_cons, if_neg nhc_10.symm, Op.lookupswitch.offset_nil]) (by decide) ?_
                      refine lv_iconst (v := 0) C.1 C.2.1 dX1_rank_105 rfl ?_
                      exact ret_i h hq rfl hW dX1_rank_106
theorem c_X1_rank {X : TX} {l : Launch} {fu : Nat} {x0 : Int32} {m mE : Mem} {r : Int32} (h : f_X1_rank fu x0 m = some (r, mE))  : MetI X l yX1_rank cX1_rank 1 .int 0 [.int x0] m r mE :=
  met_I (by decide) (Nat.le_of_ble_eq_true rfl) (fun p e s mi args below meth c ls Q C hq hW hl => w_X1_rank C hq h  hW (lv_sub hl [0] rfl))
theorem k_X1_rank : CalS yX1_rank cX1_rank 1 (some .int) 1 := ⟨w_885, w_64, w_886, by decide +kernel⟩
theorem dX1_topRank_0 : decode cX1_topRank 0 = .ok (.aload_n 0, 1) := by decide +kernel
theorem dX1_topRank_1 : decode cX1_topRank 1 = .ok (.getfield 62, 3) := by decide +kernel
theorem dX1_topRank_4 : decode cX1_topRank 4 = .ok (.iconst 1, 1) := by decide +kernel
theorem dX1_topRank_5 : decode cX1_topRank 5 = .ok (.if_icmp .ge 7, 3) := by decide +kernel
theorem dX1_topRank_8 : decode cX1_topRank 8 = .ok (.iconst 0, 1) := by decide +kernel
theorem dX1_topRank_9 : decode cX1_topRank 9 = .ok (.goto 17, 3) := by decide +kernel
theorem dX1_topRank_12 : decode cX1_topRank 12 = .ok (.aload_n 0, 1) := by decide +kernel
theorem dX1_topRank_13 : decode cX1_topRank 13 = .ok (.getfield 22, 3) := by decide +kernel
theorem dX1_topRank_16 : decode cX1_topRank 16 = .ok (.aload_n 0, 1) := by decide +kernel
theorem dX1_topRank_17 : decode cX1_topRank 17 = .ok (.getfield 62, 3) := by decide +kernel
theorem dX1_topRank_20 : decode cX1_topRank 20 = .ok (.iconst 1, 1) := by decide +kernel
theorem dX1_topRank_21 : decode cX1_topRank 21 = .ok (.isub, 1) := by decide +kernel
theorem dX1_topRank_22 : decode cX1_topRank 22 = .ok (.iaload, 1) := by decide +kernel
theorem dX1_topRank_23 : decode cX1_topRank 23 = .ok (.invokestatic 141, 3) := by decide +kernel
theorem dX1_topRank_26 : decode cX1_topRank 26 = .ok (.ireturn, 1) := by decide +kernel
def f_X1_topRank (fu : Nat)   (m : Mem) : Option (Int32 × Mem) := if 1 ≤ (m 281) then (chk (inb ((m 281) - 1) 96) (doI (f_X1_rank fu (m (1000 + ((m 281) - 1).toNatClampNeg)) m) (fun r_4 m_3 => some (r_4, m_3)))) else (some (0, m))
set_option maxHeartbeats 4000000 in
set_option maxRecDepth 100000 in
theorem w_X1_topRank {X : TX} {p : Program} {l : Launch} {e : Env} {s : State} {mi : MethodId} {args : Array Value} {below : List Frame} {meth : Method} {c : Code} {Q : State → Prop} {r : Int32} {mE : Mem} (C : Cx X p s mi args c RX1 cX1_topRank 1) (hq : RetI X p l e (rmD 1) s mi args below meth c cX1_topRank .int Q r mE) {fu : Nat}  {m : Mem} {H : Heap} {locs : List Loc} {ls : Array Slot} (h : f_X1_topRank fu  m = some (r, mE))  (hW : Wd X s m H locs) (hl : lv_has ls 1 [(0, .ref (ad X 6 0))]) : W p l e (rmD 1) s mi args below meth c H locs 0 0 Q (F0 mi 0 ls []) := by
  unfold f_X1_topRank at h
  refine lv_aload_n C.1 C.2.1 dX1_topRank_0 rfl (lv_at hl 0 rfl) ?_
  refine zg_X1_signsMany C hW id_6 w_142 dX1_topRank_1 ?_
  refine lv_iconst (v := 1) C.1 C.2.1 dX1_topRank_4 rfl ?_
  refine lv_icmp_ge (tgt := 12) C.1 C.2.1 dX1_topRank_5 (by decide) (fun hc_5 => ?_) (fun hc_5 => ?_)
  · have h := ite_t hc_5 h
    refine lv_aload_n C.1 C.2.1 dX1_topRank_12 rfl (lv_at hl 0 rfl) ?_
    refine zg_X1_signs C hW id_6 w_141 dX1_topRank_13 ?_
    refine lv_aload_n C.1 C.2.1 dX1_topRank_16 rfl (lv_at hl 0 rfl) ?_
    refine zg_X1_signsMany C hW id_6 w_142 dX1_topRank_17 ?_
    refine lv_iconst (v := 1) C.1 C.2.1 dX1_topRank_20 rfl ?_
    refine lv_isub C.1 C.2.1 dX1_topRank_21 ?_
    obtain ⟨hb_1, h⟩ := chk_E h
    refine zal_8 C hW id_8 (inb_E hb_1) dX1_topRank_22 ?_
    obtain ⟨r_4, m_3, hc_2, h⟩ := doI_E h
    refine zr_cSI C hW (c_X1_rank (x0 := (m (1000 + ((m 281) - 1).toNatClampNeg))) hc_2 ) k_X1_rank w_884 ⟨Nat.le_of_ble_eq_true rfl, Nat.le_of_ble_eq_true rfl⟩ ⟨Nat.le_refl 0, Nat.le_refl 0⟩ rfl hl.1 rfl (Nat.le_of_ble_eq_true rfl) dX1_topRank_23 (fun H locs hW => ?_)
    exact ret_i h hq rfl hW dX1_topRank_26
  · have h := ite_f hc_5 h
    refine lv_iconst (v := 0) C.1 C.2.1 dX1_topRank_8 rfl ?_
    refine lv_goto (tgt := 26) C.1 C.2.1 dX1_topRank_9 (by decide) ?_
    exact ret_i h hq rfl hW dX1_topRank_26
theorem c_X1_topRank {X : TX} {l : Launch} {fu : Nat}  {m mE : Mem} {r : Int32} (h : f_X1_topRank fu  m = some (r, mE))  : MetI X l yX1_topRank cX1_topRank 1 .int 1 [.ref (ad X 6 0)] m r mE :=
  met_I (by decide) (Nat.le_of_ble_eq_true rfl) (fun p e s mi args below meth c ls Q C hq hW hl => w_X1_topRank C hq h  hW (lv_sub hl [0] rfl))
theorem k_X1_topRank : CalV yX1_topRank cX1_topRank 1 (some .int) RX1 0 := ⟨w_882, w_23, w_64, w_883, by decide +kernel⟩
theorem dX1_release_0 : decode cX1_release 0 = .ok (.iconst 0, 1) := by decide +kernel
theorem dX1_release_1 : decode cX1_release 1 = .ok (.istore_n 2, 1) := by decide +kernel
theorem dX1_release_2 : decode cX1_release 2 = .ok (.iload_n 2, 1) := by decide +kernel
theorem dX1_release_3 : decode cX1_release 3 = .ok (.bipush 96, 2) := by decide +kernel
theorem dX1_release_5 : decode cX1_release 5 = .ok (.if_icmp .ge 68, 3) := by decide +kernel
theorem dX1_release_8 : decode cX1_release 8 = .ok (.aload_n 0, 1) := by decide +kernel
theorem dX1_release_9 : decode cX1_release 9 = .ok (.invokevirtual 144, 3) := by decide +kernel
theorem dX1_release_12 : decode cX1_release 12 = .ok (.iload_n 1, 1) := by decide +kernel
theorem dX1_release_13 : decode cX1_release 13 = .ok (.if_icmp .lt 60, 3) := by decide +kernel
theorem dX1_release_16 : decode cX1_release 16 = .ok (.aload_n 0, 1) := by decide +kernel
theorem dX1_release_17 : decode cX1_release 17 = .ok (.dup, 1) := by decide +kernel
theorem dX1_release_18 : decode cX1_release 18 = .ok (.getfield 62, 3) := by decide +kernel
theorem dX1_release_21 : decode cX1_release 21 = .ok (.iconst 1, 1) := by decide +kernel
theorem dX1_release_22 : decode cX1_release 22 = .ok (.isub, 1) := by decide +kernel
theorem dX1_release_23 : decode cX1_release 23 = .ok (.putfield 62, 3) := by decide +kernel
theorem dX1_release_26 : decode cX1_release 26 = .ok (.aload_n 0, 1) := by decide +kernel
theorem dX1_release_27 : decode cX1_release 27 = .ok (.getfield 22, 3) := by decide +kernel
theorem dX1_release_30 : decode cX1_release 30 = .ok (.aload_n 0, 1) := by decide +kernel
theorem dX1_release_31 : decode cX1_release 31 = .ok (.getfield 62, 3) := by decide +kernel
theorem dX1_release_34 : decode cX1_release 34 = .ok (.iaload, 1) := by decide +kernel
theorem dX1_release_35 : decode cX1_release 35 = .ok (.bipush 33, 2) := by decide +kernel
theorem dX1_release_37 : decode cX1_release 37 = .ok (.if_icmp .ne 13, 3) := by decide +kernel
theorem dX1_release_40 : decode cX1_release 40 = .ok (.aload_n 0, 1) := by decide +kernel
theorem dX1_release_41 : decode cX1_release 41 = .ok (.dup, 1) := by decide +kernel
theorem dX1_release_42 : decode cX1_release 42 = .ok (.getfield 65, 3) := by decide +kernel
theorem dX1_release_45 : decode cX1_release 45 = .ok (.iconst 1, 1) := by decide +kernel
theorem dX1_release_46 : decode cX1_release 46 = .ok (.isub, 1) := by decide +kernel
theorem dX1_release_47 : decode cX1_release 47 = .ok (.putfield 65, 3) := by decide +kernel
theorem dX1_release_50 : decode cX1_release 50 = .ok (.aload_n 0, 1) := by decide +kernel
theorem dX1_release_51 : decode cX1_release 51 = .ok (.getfield 18, 3) := by decide +kernel
theorem dX1_release_54 : decode cX1_release 54 = .ok (.aload_n 0, 1) := by decide +kernel
theorem dX1_release_55 : decode cX1_release 55 = .ok (.getfield 22, 3) := by decide +kernel
theorem dX1_release_58 : decode cX1_release 58 = .ok (.aload_n 0, 1) := by decide +kernel
theorem dX1_release_59 : decode cX1_release 59 = .ok (.getfield 62, 3) := by decide +kernel
theorem dX1_release_62 : decode cX1_release 62 = .ok (.iaload, 1) := by decide +kernel
theorem dX1_release_63 : decode cX1_release 63 = .ok (.ineg, 1) := by decide +kernel
theorem dX1_release_64 : decode cX1_release 64 = .ok (.invokevirtual 132, 3) := by decide +kernel
theorem dX1_release_67 : decode cX1_release 67 = .ok (.iinc 2 1, 3) := by decide +kernel
theorem dX1_release_70 : decode cX1_release 70 = .ok (.goto (-68), 3) := by decide +kernel
theorem dX1_release_73 : decode cX1_release 73 = .ok (.return_, 1) := by decide +kernel
def f_X1_release_50 (fu : Nat) (k_2 : Int32 → Int32 → Mem → Option Mem) (x1 : Int32) (x2 : Int32) (m : Mem) : Option Mem := chk (inb (m 281) 96) (doV (f_X5_put fu 14 (-(m (1000 + (m 281).toNatClampNeg))) m) (fun m_3 => seqM (x2 + 1) (fun x_4 : Int32 => k_2 x1 x_4 m_3)))
set_option maxHeartbeats 4000000 in
set_option maxRecDepth 100000 in
theorem w_X1_release_50 {X : TX} {p : Program} {l : Launch} {e : Env} {s : State} {mi : MethodId} {args : Array Value} {below : List Frame} {meth : Method} {c : Code} {Q : State → Prop} {mE : Mem} (C : Cx X p s mi args c RX1 cX1_release 3) (hq : RetV X p l e (rmD 2) s mi args below meth c cX1_release Q mE) {fu : Nat} {k_2 : Int32 → Int32 → Mem → Option Mem} (hk_2 : ∀ {x1 : Int32} {x2 : Int32} {m : Mem} {H : Heap} {locs : List Loc} {ls : Array Slot}, k_2 x1 x2 m = some mE → Wd X s m H locs → lv_has ls 3 [(0, .ref (ad X 6 0)), (1, .int x1), (2, .int x2)] → W p l e (rmD 2) s mi args below meth c H locs 0 0 Q (F0 mi 2 ls [])) {x1 : Int32} {x2 : Int32} {m : Mem} {H : Heap} {locs : List Loc} {ls : Array Slot} (h : f_X1_release_50 fu k_2 x1 x2 m = some mE)  (hW : Wd X s m H locs) (hl : lv_has ls 3 [(0, .ref (ad X 6 0)), (1, .int x1), (2, .int x2)]) : W p l e (rmD 2) s mi args below meth c H locs 0 0 Q (F0 mi 50 ls []) := by
  unfold f_X1_release_50 at h
  refine lv_aload_n C.1 C.2.1 dX1_release_50 rfl (lv_at hl 0 rfl) ?_
  refine zg_X1_draft C hW id_6 w_139 dX1_release_51 ?_
  refine lv_aload_n C.1 C.2.1 dX1_release_54 rfl (lv_at hl 0 rfl) ?_
  refine zg_X1_signs C hW id_6 w_141 dX1_release_55 ?_
  refine lv_aload_n C.1 C.2.1 dX1_release_58 rfl (lv_at hl 0 rfl) ?_
  refine zg_X1_signsMany C hW id_6 w_142 dX1_release_59 ?_
  obtain ⟨hb_1, h⟩ := chk_E h
  refine zal_8 C hW id_8 (inb_E hb_1) dX1_release_62 ?_
  refine lv_ineg C.1 C.2.1 dX1_release_63 ?_
  obtain ⟨m_3, hc_2, h⟩ := doV_E h
  refine zr_cVV C hW (c_X5_put (i0 := 14) (x1 := (-(m (1000 + (m 281).toNatClampNeg)))) hc_2 id_3_14) k_X5_put (zr_recv C hW id_3_14 zco_3 rfl) w_798 ⟨Nat.le_of_ble_eq_true rfl, Nat.le_of_ble_eq_true rfl⟩ ⟨Nat.le_refl 0, Nat.le_refl 0⟩ rfl hl.1 rfl (Nat.le_of_ble_eq_true rfl) dX1_release_64 (fun H locs hW => ?_)
  obtain ⟨x_4, e_5, h⟩ := seqM_E h
  refine lv_iinc (v := x_4) (lv' := [(2, .int x_4), (0, .ref (ad X 6 0)), (1, .int x1)]) C.1 C.2.1 dX1_release_67 hl (k := 2) rfl (by rw [e_5]; rfl) (by decide) rfl (fun ls hl => ?_)
  refine lv_goto (tgt := 2) C.1 C.2.1 dX1_release_70 (by decide) ?_
  exact hk_2 h  hW (lv_sub hl [1, 2, 0] rfl)
def f_X1_release_2 (fu : Nat)  : Nat → Int32 → Int32 → Mem → Option Mem
  | 0, _, _, _ => none
  | n + 1, x1, x2, m => if 96 ≤ x2 then (some m) else (doI (f_X1_topRank fu  m) (fun r_3 m_2 => if r_3 < x1 then (some m_2) else (seqM (upd m_2 281 ((m_2 281) - 1)) (fun m_4 : Mem => chk (inb (m_4 281) 96) (if (m_4 (1000 + (m_4 281).toNatClampNeg)) = 33 then (seqM (upd m_4 283 ((m_4 283) - 1)) (fun m_7 : Mem => f_X1_release_50 fu (f_X1_release_2 fu n) x1 x2 m_7)) else (f_X1_release_50 fu (f_X1_release_2 fu n) x1 x2 m_4))))))
set_option maxHeartbeats 4000000 in
set_option maxRecDepth 100000 in
theorem w_X1_release_2 {X : TX} {p : Program} {l : Launch} {e : Env} {s : State} {mi : MethodId} {args : Array Value} {below : List Frame} {meth : Method} {c : Code} {Q : State → Prop} {mE : Mem} (C : Cx X p s mi args c RX1 cX1_release 3) (hq : RetV X p l e (rmD 2) s mi args below meth c cX1_release Q mE) {fu : Nat} : ∀ (n : Nat) {x1 : Int32} {x2 : Int32} {m : Mem} {H : Heap} {locs : List Loc} {ls : Array Slot}, f_X1_release_2 fu n x1 x2 m = some mE → Wd X s m H locs → lv_has ls 3 [(0, .ref (ad X 6 0)), (1, .int x1), (2, .int x2)] → W p l e (rmD 2) s mi args below meth c H locs 0 0 Q (F0 mi 2 ls []) := by
  intro n
  induction n with
  | zero =>
    intro x1 x2 m H locs ls h hW hl
    rw [f_X1_release_2] at h
    cases h
  | succ n ih =>
    intro x1 x2 m H locs ls h hW hl
    rw [f_X1_release_2] at h
    refine lv_iload_n C.1 C.2.1 dX1_release_2 rfl (lv_at hl 2 rfl) ?_
    refine lv_bipush (v := 96) C.1 C.2.1 dX1_release_3 rfl ?_
    refine lv_icmp_ge (tgt := 73) C.1 C.2.1 dX1_release_5 (by decide) (fun hc_11 => ?_) (fun hc_11 => ?_)
    · have h := ite_t hc_11 h
      exact ret_v h hq hW dX1_release_73
    · have h := ite_f hc_11 h
      refine lv_aload_n C.1 C.2.1 dX1_release_8 rfl (lv_at hl 0 rfl) ?_
      obtain ⟨r_3, m_2, hc_1, h⟩ := doI_E h
      refine zr_cVI C hW (c_X1_topRank  hc_1 ) k_X1_topRank (zr_recv C hW id_6 zco_6 rfl) w_880 ⟨Nat.le_of_ble_eq_true rfl, Nat.le_of_ble_eq_true rfl⟩ ⟨Nat.le_refl 0, Nat.le_refl 0⟩ rfl hl.1 rfl (Nat.le_of_ble_eq_true rfl) dX1_release_9 (fun H locs hW => ?_)
      refine lv_iload_n C.1 C.2.1 dX1_release_12 rfl (lv_at hl 1 rfl) ?_
      refine lv_icmp_lt (tgt := 73) C.1 C.2.1 dX1_release_13 (by decide) (fun hc_10 => ?_) (fun hc_10 => ?_)
      · have h := ite_t hc_10 h
        exact ret_v h hq hW dX1_release_73
      · have h := ite_f hc_10 h
        refine lv_aload_n C.1 C.2.1 dX1_release_16 rfl (lv_at hl 0 rfl) ?_
        refine lv_dup C.1 C.2.1 dX1_release_17 rfl ?_
        refine zg_X1_signsMany C hW id_6 w_142 dX1_release_18 ?_
        refine lv_iconst (v := 1) C.1 C.2.1 dX1_release_21 rfl ?_
        refine lv_isub C.1 C.2.1 dX1_release_22 ?_
        obtain ⟨m_4, e_5, h⟩ := seqM_E h
        refine zp_X1_signsMany C hW id_6 w_142 e_5 dX1_release_23 (fun H locs hW => ?_)
        refine lv_aload_n C.1 C.2.1 dX1_release_26 rfl (lv_at hl 0 rfl) ?_
        refine zg_X1_signs C hW id_6 w_141 dX1_release_27 ?_
        refine lv_aload_n C.1 C.2.1 dX1_release_30 rfl (lv_at hl 0 rfl) ?_
        refine zg_X1_signsMany C hW id_6 w_142 dX1_release_31 ?_
        obtain ⟨hb_6, h⟩ := chk_E h
        refine zal_8 C hW id_8 (inb_E hb_6) dX1_release_34 ?_
        refine lv_bipush (v := 33) C.1 C.2.1 dX1_release_35 rfl ?_
        refine lv_icmp_ne (tgt := 50) C.1 C.2.1 dX1_release_37 (by decide) (fun hc_9 => ?_) (fun hc_9 => ?_)
        · have h := ite_f hc_9 h
          exact w_X1_release_50 C hq ih h  hW (lv_sub hl [0, 1, 2] rfl)
        · have h := ite_t hc_9 h
          refine lv_aload_n C.1 C.2.1 dX1_release_40 rfl (lv_at hl 0 rfl) ?_
          refine lv_dup C.1 C.2.1 dX1_release_41 rfl ?_
          refine zg_X1_nots C hW id_6 w_144 dX1_release_42 ?_
          refine lv_iconst (v := 1) C.1 C.2.1 dX1_release_45 rfl ?_
          refine lv_isub C.1 C.2.1 dX1_release_46 ?_
          obtain ⟨m_7, e_8, h⟩ := seqM_E h
          refine zp_X1_nots C hW id_6 w_144 e_8 dX1_release_47 (fun H locs hW => ?_)
          exact w_X1_release_50 C hq ih h  hW (lv_sub hl [0, 1, 2] rfl)
def f_X1_release (fu : Nat)  (x1 : Int32) (m : Mem) : Option Mem := f_X1_release_2 fu fu x1 0 m
set_option maxHeartbeats 4000000 in
set_option maxRecDepth 100000 in
theorem w_X1_release {X : TX} {p : Program} {l : Launch} {e : Env} {s : State} {mi : MethodId} {args : Array Value} {below : List Frame} {meth : Method} {c : Code} {Q : State → Prop} {mE : Mem} (C : Cx X p s mi args c RX1 cX1_release 3) (hq : RetV X p l e (rmD 2) s mi args below meth c cX1_release Q mE) {fu : Nat} {x1 : Int32} {m : Mem} {H : Heap} {locs : List Loc} {ls : Array Slot} (h : f_X1_release fu x1 m = some mE)  (hW : Wd X s m H locs) (hl : lv_has ls 3 [(0, .ref (ad X 6 0)), (1, .int x1)]) : W p l e (rmD 2) s mi args below meth c H locs 0 0 Q (F0 mi 0 ls []) := by
  unfold f_X1_release at h
  refine lv_iconst (v := 0) C.1 C.2.1 dX1_release_0 rfl ?_
  refine lv_istore_n (lv' := [(2, .int 0), (0, .ref (ad X 6 0)), (1, .int x1)]) C.1 C.2.1 dX1_release_1 rfl hl (by decide) rfl (fun ls hl => ?_)
  exact w_X1_release_2 C hq  fu h  hW (lv_sub hl [1, 2, 0] rfl)
theorem c_X1_release {X : TX} {l : Launch} {fu : Nat} {x1 : Int32} {m mE : Mem} (h : f_X1_release fu x1 m = some mE)  : MetV X l yX1_release cX1_release 3 2 [.ref (ad X 6 0), .int x1] m mE :=
  met_V (by decide) (Nat.le_of_ble_eq_true rfl) (fun p e s mi args below meth c ls Q C hq hW hl => w_X1_release C hq h  hW (lv_sub hl [0, 1] rfl))
theorem k_X1_release : CalV yX1_release cX1_release 3 none RX1 1 := ⟨w_878, w_22, w_64, w_879, by decide +kernel⟩
theorem dX1_closes_0 : decode cX1_closes 0 = .ok (.aload_n 0, 1) := by decide +kernel
theorem dX1_closes_1 : decode cX1_closes 1 = .ok (.getfield 52, 3) := by decide +kernel
theorem dX1_closes_4 : decode cX1_closes 4 = .ok (.iconst 1, 1) := by decide +kernel
theorem dX1_closes_5 : decode cX1_closes 5 = .ok (.if_icmp .ge 5, 3) := by decide +kernel
theorem dX1_closes_8 : decode cX1_closes 8 = .ok (.iconst 0, 1) := by decide +kernel
theorem dX1_closes_9 : decode cX1_closes 9 = .ok (.ireturn, 1) := by decide +kernel
theorem dX1_closes_10 : decode cX1_closes 10 = .ok (.aload_n 0, 1) := by decide +kernel
theorem dX1_closes_11 : decode cX1_closes 11 = .ok (.iconst 1, 1) := by decide +kernel
theorem dX1_closes_12 : decode cX1_closes 12 = .ok (.invokevirtual 55, 3) := by decide +kernel
theorem dX1_closes_15 : decode cX1_closes 15 = .ok (.aload_n 0, 1) := by decide +kernel
theorem dX1_closes_16 : decode cX1_closes 16 = .ok (.dup, 1) := by decide +kernel
theorem dX1_closes_17 : decode cX1_closes 17 = .ok (.getfield 52, 3) := by decide +kernel
theorem dX1_closes_20 : decode cX1_closes 20 = .ok (.iconst 1, 1) := by decide +kernel
theorem dX1_closes_21 : decode cX1_closes 21 = .ok (.isub, 1) := by decide +kernel
theorem dX1_closes_22 : decode cX1_closes 22 = .ok (.putfield 52, 3) := by decide +kernel
theorem dX1_closes_25 : decode cX1_closes 25 = .ok (.aload_n 0, 1) := by decide +kernel
theorem dX1_closes_26 : decode cX1_closes 26 = .ok (.dup, 1) := by decide +kernel
theorem dX1_closes_27 : decode cX1_closes 27 = .ok (.getfield 62, 3) := by decide +kernel
theorem dX1_closes_30 : decode cX1_closes 30 = .ok (.iconst 1, 1) := by decide +kernel
theorem dX1_closes_31 : decode cX1_closes 31 = .ok (.isub, 1) := by decide +kernel
theorem dX1_closes_32 : decode cX1_closes 32 = .ok (.putfield 62, 3) := by decide +kernel
theorem dX1_closes_35 : decode cX1_closes 35 = .ok (.iconst 1, 1) := by decide +kernel
theorem dX1_closes_36 : decode cX1_closes 36 = .ok (.ireturn, 1) := by decide +kernel
def f_X1_closes (fu : Nat)   (m : Mem) : Option (Int32 × Mem) := if 1 ≤ (m 282) then (doV (f_X1_release fu 1 m) (fun m_2 => seqM (upd m_2 282 ((m_2 282) - 1)) (fun m_3 : Mem => seqM (upd m_3 281 ((m_3 281) - 1)) (fun m_5 : Mem => some (1, m_5))))) else (some (0, m))
set_option maxHeartbeats 4000000 in
set_option maxRecDepth 100000 in
theorem w_X1_closes {X : TX} {p : Program} {l : Launch} {e : Env} {s : State} {mi : MethodId} {args : Array Value} {below : List Frame} {meth : Method} {c : Code} {Q : State → Prop} {r : Int32} {mE : Mem} (C : Cx X p s mi args c RX1 cX1_closes 1) (hq : RetI X p l e (rmD 3) s mi args below meth c cX1_closes .boolean Q r mE) {fu : Nat}  {m : Mem} {H : Heap} {locs : List Loc} {ls : Array Slot} (h : f_X1_closes fu  m = some (r, mE))  (hW : Wd X s m H locs) (hl : lv_has ls 1 [(0, .ref (ad X 6 0))]) : W p l e (rmD 3) s mi args below meth c H locs 0 0 Q (F0 mi 0 ls []) := by
  unfold f_X1_closes at h
  refine lv_aload_n C.1 C.2.1 dX1_closes_0 rfl (lv_at hl 0 rfl) ?_
  refine zg_X1_brackets C hW id_6 w_143 dX1_closes_1 ?_
  refine lv_iconst (v := 1) C.1 C.2.1 dX1_closes_4 rfl ?_
  refine lv_icmp_ge (tgt := 10) C.1 C.2.1 dX1_closes_5 (by decide) (fun hc_7 => ?_) (fun hc_7 => ?_)
  · have h := ite_t hc_7 h
    refine lv_aload_n C.1 C.2.1 dX1_closes_10 rfl (lv_at hl 0 rfl) ?_
    refine lv_iconst (v := 1) C.1 C.2.1 dX1_closes_11 rfl ?_
    obtain ⟨m_2, hc_1, h⟩ := doV_E h
    refine zr_cVV C hW (c_X1_release (x1 := 1) hc_1 ) k_X1_release (zr_recv C hW id_6 zco_6 rfl) w_876 ⟨Nat.le_of_ble_eq_true rfl, Nat.le_of_ble_eq_true rfl⟩ ⟨Nat.le_refl 0, Nat.le_refl 0⟩ rfl hl.1 rfl (Nat.le_of_ble_eq_true rfl) dX1_closes_12 (fun H locs hW => ?_)
    refine lv_aload_n C.1 C.2.1 dX1_closes_15 rfl (lv_at hl 0 rfl) ?_
    refine lv_dup C.1 C.2.1 dX1_closes_16 rfl ?_
    refine zg_X1_brackets C hW id_6 w_143 dX1_closes_17 ?_
    refine lv_iconst (v := 1) C.1 C.2.1 dX1_closes_20 rfl ?_
    refine lv_isub C.1 C.2.1 dX1_closes_21 ?_
    obtain ⟨m_3, e_4, h⟩ := seqM_E h
    refine zp_X1_brackets C hW id_6 w_143 e_4 dX1_closes_22 (fun H locs hW => ?_)
    refine lv_aload_n C.1 C.2.1 dX1_closes_25 rfl (lv_at hl 0 rfl) ?_
    refine lv_dup C.1 C.2.1 dX1_closes_26 rfl ?_
    refine zg_X1_signsMany C hW id_6 w_142 dX1_closes_27 ?_
    refine lv_iconst (v := 1) C.1 C.2.1 dX1_closes_30 rfl ?_
    refine lv_isub C.1 C.2.1 dX1_closes_31 ?_
    obtain ⟨m_5, e_6, h⟩ := seqM_E h
    refine zp_X1_signsMany C hW id_6 w_142 e_6 dX1_closes_32 (fun H locs hW => ?_)
    refine lv_iconst (v := 1) C.1 C.2.1 dX1_closes_35 rfl ?_
    exact ret_i h hq rfl hW dX1_closes_36
  · have h := ite_f hc_7 h
    refine lv_iconst (v := 0) C.1 C.2.1 dX1_closes_8 rfl ?_
    exact ret_i h hq rfl hW dX1_closes_9
theorem c_X1_closes {X : TX} {l : Launch} {fu : Nat}  {m mE : Mem} {r : Int32} (h : f_X1_closes fu  m = some (r, mE))  : MetI X l yX1_closes cX1_closes 1 .boolean 3 [.ref (ad X 6 0)] m r mE :=
  met_I (by decide) (Nat.le_of_ble_eq_true rfl) (fun p e s mi args below meth c ls Q C hq hW hl => w_X1_closes C hq h  hW (lv_sub hl [0] rfl))
theorem k_X1_closes : CalV yX1_closes cX1_closes 1 (some .boolean) RX1 0 := ⟨w_874, w_21, w_64, w_875, by decide +kernel⟩
theorem dX1_takesSign_0 : decode cX1_takesSign 0 = .ok (.aload_n 0, 1) := by decide +kernel
theorem dX1_takesSign_1 : decode cX1_takesSign 1 = .ok (.getfield 9, 3) := by decide +kernel
theorem dX1_takesSign_4 : decode cX1_takesSign 4 = .ok (.aload_n 0, 1) := by decide +kernel
theorem dX1_takesSign_5 : decode cX1_takesSign 5 = .ok (.getfield 35, 3) := by decide +kernel
theorem dX1_takesSign_8 : decode cX1_takesSign 8 = .ok (.iaload, 1) := by decide +kernel
theorem dX1_takesSign_9 : decode cX1_takesSign 9 = .ok (.istore_n 1, 1) := by decide +kernel
theorem dX1_takesSign_10 : decode cX1_takesSign 10 = .ok (.iload_n 1, 1) := by decide +kernel
theorem dX1_takesSign_11 : decode cX1_takesSign 11 = .ok (.bipush 41, 2) := by decide +kernel
theorem dX1_takesSign_13 : decode cX1_takesSign 13 = .ok (.if_icmp .ne 8, 3) := by decide +kernel
theorem dX1_takesSign_16 : decode cX1_takesSign 16 = .ok (.aload_n 0, 1) := by decide +kernel
theorem dX1_takesSign_17 : decode cX1_takesSign 17 = .ok (.invokevirtual 138, 3) := by decide +kernel
theorem dX1_takesSign_20 : decode cX1_takesSign 20 = .ok (.ireturn, 1) := by decide +kernel
theorem dX1_takesSign_21 : decode cX1_takesSign 21 = .ok (.iload_n 1, 1) := by decide +kernel
theorem dX1_takesSign_22 : decode cX1_takesSign 22 = .ok (.invokestatic 141, 3) := by decide +kernel
theorem dX1_takesSign_25 : decode cX1_takesSign 25 = .ok (.istore_n 2, 1) := by decide +kernel
theorem dX1_takesSign_26 : decode cX1_takesSign 26 = .ok (.iload_n 2, 1) := by decide +kernel
theorem dX1_takesSign_27 : decode cX1_takesSign 27 = .ok (.iconst 1, 1) := by decide +kernel
theorem dX1_takesSign_28 : decode cX1_takesSign 28 = .ok (.if_icmp .lt 9, 3) := by decide +kernel
theorem dX1_takesSign_31 : decode cX1_takesSign 31 = .ok (.iload_n 2, 1) := by decide +kernel
theorem dX1_takesSign_32 : decode cX1_takesSign 32 = .ok (.bipush 6, 2) := by decide +kernel
theorem dX1_takesSign_34 : decode cX1_takesSign 34 = .ok (.if_icmp .lt 5, 3) := by decide +kernel
theorem dX1_takesSign_37 : decode cX1_takesSign 37 = .ok (.iconst 0, 1) := by decide +kernel
theorem dX1_takesSign_38 : decode cX1_takesSign 38 = .ok (.ireturn, 1) := by decide +kernel
theorem dX1_takesSign_39 : decode cX1_takesSign 39 = .ok (.aload_n 0, 1) := by decide +kernel
theorem dX1_takesSign_40 : decode cX1_takesSign 40 = .ok (.iload_n 2, 1) := by decide +kernel
theorem dX1_takesSign_41 : decode cX1_takesSign 41 = .ok (.iconst 3, 1) := by decide +kernel
theorem dX1_takesSign_42 : decode cX1_takesSign 42 = .ok (.if_icmp .ne 7, 3) := by decide +kernel
theorem dX1_takesSign_45 : decode cX1_takesSign 45 = .ok (.iconst 4, 1) := by decide +kernel
theorem dX1_takesSign_46 : decode cX1_takesSign 46 = .ok (.goto 4, 3) := by decide +kernel
theorem dX1_takesSign_49 : decode cX1_takesSign 49 = .ok (.iload_n 2, 1) := by decide +kernel
theorem dX1_takesSign_50 : decode cX1_takesSign 50 = .ok (.invokevirtual 55, 3) := by decide +kernel
theorem dX1_takesSign_53 : decode cX1_takesSign 53 = .ok (.iload_n 2, 1) := by decide +kernel
theorem dX1_takesSign_54 : decode cX1_takesSign 54 = .ok (.iconst 3, 1) := by decide +kernel
theorem dX1_takesSign_55 : decode cX1_takesSign 55 = .ok (.if_icmp .ne 13, 3) := by decide +kernel
theorem dX1_takesSign_58 : decode cX1_takesSign 58 = .ok (.aload_n 0, 1) := by decide +kernel
theorem dX1_takesSign_59 : decode cX1_takesSign 59 = .ok (.invokevirtual 144, 3) := by decide +kernel
theorem dX1_takesSign_62 : decode cX1_takesSign 62 = .ok (.iconst 3, 1) := by decide +kernel
theorem dX1_takesSign_63 : decode cX1_takesSign 63 = .ok (.if_icmp .ne 5, 3) := by decide +kernel
theorem dX1_takesSign_66 : decode cX1_takesSign 66 = .ok (.iconst 0, 1) := by decide +kernel
theorem dX1_takesSign_67 : decode cX1_takesSign 67 = .ok (.ireturn, 1) := by decide +kernel
theorem dX1_takesSign_68 : decode cX1_takesSign 68 = .ok (.aload_n 0, 1) := by decide +kernel
theorem dX1_takesSign_69 : decode cX1_takesSign 69 = .ok (.iload_n 1, 1) := by decide +kernel
theorem dX1_takesSign_70 : decode cX1_takesSign 70 = .ok (.invokevirtual 116, 3) := by decide +kernel
theorem dX1_takesSign_73 : decode cX1_takesSign 73 = .ok (.aload_n 0, 1) := by decide +kernel
theorem dX1_takesSign_74 : decode cX1_takesSign 74 = .ok (.iconst 1, 1) := by decide +kernel
theorem dX1_takesSign_75 : decode cX1_takesSign 75 = .ok (.putfield 49, 3) := by decide +kernel
theorem dX1_takesSign_78 : decode cX1_takesSign 78 = .ok (.iconst 1, 1) := by decide +kernel
theorem dX1_takesSign_79 : decode cX1_takesSign 79 = .ok (.ireturn, 1) := by decide +kernel
def f_X1_takesSign_68 (fu : Nat)  (x1 : Int32) (m : Mem) : Option (Int32 × Mem) := doV (f_X1_hold fu x1 m) (fun m_2 => seqM (upd m_2 284 1) (fun m_3 : Mem => some (1, m_3)))
set_option maxHeartbeats 4000000 in
set_option maxRecDepth 100000 in
theorem w_X1_takesSign_68 {X : TX} {p : Program} {l : Launch} {e : Env} {s : State} {mi : MethodId} {args : Array Value} {below : List Frame} {meth : Method} {c : Code} {Q : State → Prop} {r : Int32} {mE : Mem} (C : Cx X p s mi args c RX1 cX1_takesSign 3) (hq : RetI X p l e (rmD 4) s mi args below meth c cX1_takesSign .boolean Q r mE) {fu : Nat} {x1 : Int32} {m : Mem} {H : Heap} {locs : List Loc} {ls : Array Slot} (h : f_X1_takesSign_68 fu x1 m = some (r, mE))  (hW : Wd X s m H locs) (hl : lv_has ls 3 [(0, .ref (ad X 6 0)), (1, .int x1)]) : W p l e (rmD 4) s mi args below meth c H locs 0 0 Q (F0 mi 68 ls []) := by
  unfold f_X1_takesSign_68 at h
  refine lv_aload_n C.1 C.2.1 dX1_takesSign_68 rfl (lv_at hl 0 rfl) ?_
  refine lv_iload_n C.1 C.2.1 dX1_takesSign_69 rfl (lv_at hl 1 rfl) ?_
  obtain ⟨m_2, hc_1, h⟩ := doV_E h
  refine zr_cVV C hW (c_X1_hold (x1 := x1) hc_1 ) k_X1_hold (zr_recv C hW id_6 zco_6 rfl) w_864 ⟨Nat.le_of_ble_eq_true rfl, Nat.le_of_ble_eq_true rfl⟩ ⟨Nat.le_refl 0, Nat.le_refl 0⟩ rfl hl.1 rfl (Nat.le_of_ble_eq_true rfl) dX1_takesSign_70 (fun H locs hW => ?_)
  refine lv_aload_n C.1 C.2.1 dX1_takesSign_73 rfl (lv_at hl 0 rfl) ?_
  refine lv_iconst (v := 1) C.1 C.2.1 dX1_takesSign_74 rfl ?_
  obtain ⟨m_3, e_4, h⟩ := seqM_E h
  refine zp_X1_pieceIsDue C hW id_6 w_145 (by decide) e_4 dX1_takesSign_75 (fun H locs hW => ?_)
  refine lv_iconst (v := 1) C.1 C.2.1 dX1_takesSign_78 rfl ?_
  exact ret_i h hq rfl hW dX1_takesSign_79
def f_X1_takesSign_50 (fu : Nat)  (x1 : Int32) (x2 : Int32) (y1 : Int32) (m : Mem) : Option (Int32 × Mem) := doV (f_X1_release fu y1 m) (fun m_2 => if x2 = 3 then (doI (f_X1_topRank fu  m_2) (fun r_5 m_4 => if r_5 = 3 then (some (0, m_4)) else (f_X1_takesSign_68 fu x1 m_4))) else (f_X1_takesSign_68 fu x1 m_2))
set_option maxHeartbeats 4000000 in
set_option maxRecDepth 100000 in
theorem w_X1_takesSign_50 {X : TX} {p : Program} {l : Launch} {e : Env} {s : State} {mi : MethodId} {args : Array Value} {below : List Frame} {meth : Method} {c : Code} {Q : State → Prop} {r : Int32} {mE : Mem} (C : Cx X p s mi args c RX1 cX1_takesSign 3) (hq : RetI X p l e (rmD 4) s mi args below meth c cX1_takesSign .boolean Q r mE) {fu : Nat} {x1 : Int32} {x2 : Int32} {y1 : Int32} {m : Mem} {H : Heap} {locs : List Loc} {ls : Array Slot} (h : f_X1_takesSign_50 fu x1 x2 y1 m = some (r, mE))  (hW : Wd X s m H locs) (hl : lv_has ls 3 [(0, .ref (ad X 6 0)), (1, .int x1), (2, .int x2)]) : W p l e (rmD 4) s mi args below meth c H locs 0 0 Q (F0 mi 50 ls [.int y1, .ref (ad X 6 0)]) := by
  unfold f_X1_takesSign_50 at h
  obtain ⟨m_2, hc_1, h⟩ := doV_E h
  refine zr_cVV C hW (c_X1_release (x1 := y1) hc_1 ) k_X1_release (zr_recv C hW id_6 zco_6 rfl) w_876 ⟨Nat.le_of_ble_eq_true rfl, Nat.le_of_ble_eq_true rfl⟩ ⟨Nat.le_refl 0, Nat.le_refl 0⟩ rfl hl.1 rfl (Nat.le_of_ble_eq_true rfl) dX1_takesSign_50 (fun H locs hW => ?_)
  refine lv_iload_n C.1 C.2.1 dX1_takesSign_53 rfl (lv_at hl 2 rfl) ?_
  refine lv_iconst (v := 3) C.1 C.2.1 dX1_takesSign_54 rfl ?_
  refine lv_icmp_ne (tgt := 68) C.1 C.2.1 dX1_takesSign_55 (by decide) (fun hc_7 => ?_) (fun hc_7 => ?_)
  · have h := ite_f hc_7 h
    exact w_X1_takesSign_68 C hq  h  hW (lv_sub hl [0, 1] rfl)
  · have h := ite_t hc_7 h
    refine lv_aload_n C.1 C.2.1 dX1_takesSign_58 rfl (lv_at hl 0 rfl) ?_
    obtain ⟨r_5, m_4, hc_3, h⟩ := doI_E h
    refine zr_cVI C hW (c_X1_topRank  hc_3 ) k_X1_topRank (zr_recv C hW id_6 zco_6 rfl) w_880 ⟨Nat.le_of_ble_eq_true rfl, Nat.le_of_ble_eq_true rfl⟩ ⟨Nat.le_refl 0, Nat.le_refl 0⟩ rfl hl.1 rfl (Nat.le_of_ble_eq_true rfl) dX1_takesSign_59 (fun H locs hW => ?_)
    refine lv_iconst (v := 3) C.1 C.2.1 dX1_takesSign_62 rfl ?_
    refine lv_icmp_ne (tgt := 68) C.1 C.2.1 dX1_takesSign_63 (by decide) (fun hc_6 => ?_) (fun hc_6 => ?_)
    · have h := ite_f hc_6 h
      exact w_X1_takesSign_68 C hq  h  hW (lv_sub hl [0, 1] rfl)
    · have h := ite_t hc_6 h
      refine lv_iconst (v := 0) C.1 C.2.1 dX1_takesSign_66 rfl ?_
      exact ret_i h hq rfl hW dX1_takesSign_67
def f_X1_takesSign (fu : Nat)   (m : Mem) : Option (Int32 × Mem) := chk (inb (m 285) 96) (seqM (m (900 + (m 285).toNatClampNeg)) (fun x_2 : Int32 => if x_2 = 41 then (doI (f_X1_closes fu  m) (fun r_12 m_11 => chk (isB r_12) (some (r_12, m_11)))) else (doI (f_X1_rank fu x_2 m) (fun r_6 m_5 => if r_6 < 1 then (some (0, m_5)) else (if r_6 < 6 then (if r_6 = 3 then (f_X1_takesSign_50 fu x_2 r_6 4 m_5) else (f_X1_takesSign_50 fu x_2 r_6 r_6 m_5)) else (some (0, m_5)))))))
set_option maxHeartbeats 4000000 in
set_option maxRecDepth 100000 in
theorem w_X1_takesSign {X : TX} {p : Program} {l : Launch} {e : Env} {s : State} {mi : MethodId} {args : Array Value} {below : List Frame} {meth : Method} {c : Code} {Q : State → Prop} {r : Int32} {mE : Mem} (C : Cx X p s mi args c RX1 cX1_takesSign 3) (hq : RetI X p l e (rmD 4) s mi args below meth c cX1_takesSign .boolean Q r mE) {fu : Nat}  {m : Mem} {H : Heap} {locs : List Loc} {ls : Array Slot} (h : f_X1_takesSign fu  m = some (r, mE))  (hW : Wd X s m H locs) (hl : lv_has ls 3 [(0, .ref (ad X 6 0))]) : W p l e (rmD 4) s mi args below meth c H locs 0 0 Q (F0 mi 0 ls []) := by
  unfold f_X1_takesSign at h
  refine lv_aload_n C.1 C.2.1 dX1_takesSign_0 rfl (lv_at hl 0 rfl) ?_
  refine zg_X1_bytes C hW id_6 w_136 dX1_takesSign_1 ?_
  refine lv_aload_n C.1 C.2.1 dX1_takesSign_4 rfl (lv_at hl 0 rfl) ?_
  refine zg_X1_from C hW id_6 w_146 dX1_takesSign_5 ?_
  obtain ⟨hb_1, h⟩ := chk_E h
  refine zal_7 C hW id_7 (inb_E hb_1) dX1_takesSign_8 ?_
  obtain ⟨x_2, e_3, h⟩ := seqM_E h
  refine lv_name e_3 ?_
  refine lv_istore_n (lv' := [(1, .int x_2), (0, .ref (ad X 6 0))]) C.1 C.2.1 dX1_takesSign_9 rfl hl (by decide) rfl (fun ls hl => ?_)
  refine lv_iload_n C.1 C.2.1 dX1_takesSign_10 rfl (lv_at hl 0 rfl) ?_
  refine lv_bipush (v := 41) C.1 C.2.1 dX1_takesSign_11 rfl ?_
  refine lv_icmp_ne (tgt := 21) C.1 C.2.1 dX1_takesSign_13 (by decide) (fun hc_14 => ?_) (fun hc_14 => ?_)
  · have h := ite_f hc_14 h
    refine lv_iload_n C.1 C.2.1 dX1_takesSign_21 rfl (lv_at hl 0 rfl) ?_
    obtain ⟨r_6, m_5, hc_4, h⟩ := doI_E h
    refine zr_cSI C hW (c_X1_rank (x0 := x_2) hc_4 ) k_X1_rank w_884 ⟨Nat.le_of_ble_eq_true rfl, Nat.le_of_ble_eq_true rfl⟩ ⟨Nat.le_refl 0, Nat.le_refl 0⟩ rfl hl.1 rfl (Nat.le_of_ble_eq_true rfl) dX1_takesSign_22 (fun H locs hW => ?_)
    refine lv_istore_n (lv' := [(2, .int r_6), (1, .int x_2), (0, .ref (ad X 6 0))]) C.1 C.2.1 dX1_takesSign_25 rfl hl (by decide) rfl (fun ls hl => ?_)
    refine lv_iload_n C.1 C.2.1 dX1_takesSign_26 rfl (lv_at hl 0 rfl) ?_
    refine lv_iconst (v := 1) C.1 C.2.1 dX1_takesSign_27 rfl ?_
    refine lv_icmp_lt (tgt := 37) C.1 C.2.1 dX1_takesSign_28 (by decide) (fun hc_9 => ?_) (fun hc_9 => ?_)
    · have h := ite_t hc_9 h
      refine lv_iconst (v := 0) C.1 C.2.1 dX1_takesSign_37 rfl ?_
      exact ret_i h hq rfl hW dX1_takesSign_38
    · have h := ite_f hc_9 h
      refine lv_iload_n C.1 C.2.1 dX1_takesSign_31 rfl (lv_at hl 0 rfl) ?_
      refine lv_bipush (v := 6) C.1 C.2.1 dX1_takesSign_32 rfl ?_
      refine lv_icmp_lt (tgt := 39) C.1 C.2.1 dX1_takesSign_34 (by decide) (fun hc_8 => ?_) (fun hc_8 => ?_)
      · have h := ite_t hc_8 h
        refine lv_aload_n C.1 C.2.1 dX1_takesSign_39 rfl (lv_at hl 2 rfl) ?_
        refine lv_iload_n C.1 C.2.1 dX1_takesSign_40 rfl (lv_at hl 0 rfl) ?_
        refine lv_iconst (v := 3) C.1 C.2.1 dX1_takesSign_41 rfl ?_
        refine lv_icmp_ne (tgt := 49) C.1 C.2.1 dX1_takesSign_42 (by decide) (fun hc_7 => ?_) (fun hc_7 => ?_)
        · have h := ite_f hc_7 h
          refine lv_iload_n C.1 C.2.1 dX1_takesSign_49 rfl (lv_at hl 0 rfl) ?_
          exact w_X1_takesSign_50 C hq  h  hW (lv_sub hl [2, 1, 0] rfl)
        · have h := ite_t hc_7 h
          refine lv_iconst (v := 4) C.1 C.2.1 dX1_takesSign_45 rfl ?_
          refine lv_goto (tgt := 50) C.1 C.2.1 dX1_takesSign_46 (by decide) ?_
          exact w_X1_takesSign_50 C hq  h  hW (lv_sub hl [2, 1, 0] rfl)
      · have h := ite_f hc_8 h
        refine lv_iconst (v := 0) C.1 C.2.1 dX1_takesSign_37 rfl ?_
        exact ret_i h hq rfl hW dX1_takesSign_38
  · have h := ite_t hc_14 h
    refine lv_aload_n C.1 C.2.1 dX1_takesSign_16 rfl (lv_at hl 1 rfl) ?_
    obtain ⟨r_12, m_11, hc_10, h⟩ := doI_E h
    refine zr_cVI C hW (c_X1_closes  hc_10 ) k_X1_closes (zr_recv C hW id_6 zco_6 rfl) w_872 ⟨Nat.le_of_ble_eq_true rfl, Nat.le_of_ble_eq_true rfl⟩ ⟨Nat.le_refl 0, Nat.le_refl 0⟩ rfl hl.1 rfl (Nat.le_of_ble_eq_true rfl) dX1_takesSign_17 (fun H locs hW => ?_)
    obtain ⟨hb_13, h⟩ := chk_E h
    exact ret_i h hq (nar_B (isB_E hb_13)) hW dX1_takesSign_20
theorem c_X1_takesSign {X : TX} {l : Launch} {fu : Nat}  {m mE : Mem} {r : Int32} (h : f_X1_takesSign fu  m = some (r, mE))  : MetI X l yX1_takesSign cX1_takesSign 3 .boolean 4 [.ref (ad X 6 0)] m r mE :=
  met_I (by decide) (Nat.le_of_ble_eq_true rfl) (fun p e s mi args below meth c ls Q C hq hW hl => w_X1_takesSign C hq h  hW (lv_sub hl [0] rfl))
theorem k_X1_takesSign : CalV yX1_takesSign cX1_takesSign 3 (some .boolean) RX1 0 := ⟨w_870, w_20, w_64, w_871, by decide +kernel⟩
theorem dX1_goesOn_0 : decode cX1_goesOn 0 = .ok (.aload_n 0, 1) := by decide +kernel
theorem dX1_goesOn_1 : decode cX1_goesOn 1 = .ok (.getfield 18, 3) := by decide +kernel
theorem dX1_goesOn_4 : decode cX1_goesOn 4 = .ok (.getfield 46, 3) := by decide +kernel
theorem dX1_goesOn_7 : decode cX1_goesOn 7 = .ok (.ifCond .ge 30, 3) := by decide +kernel
theorem dX1_goesOn_10 : decode cX1_goesOn 10 = .ok (.aload_n 0, 1) := by decide +kernel
theorem dX1_goesOn_11 : decode cX1_goesOn 11 = .ok (.getfield 18, 3) := by decide +kernel
theorem dX1_goesOn_14 : decode cX1_goesOn 14 = .ok (.aload_n 0, 1) := by decide +kernel
theorem dX1_goesOn_15 : decode cX1_goesOn 15 = .ok (.invokevirtual 81, 3) := by decide +kernel
theorem dX1_goesOn_18 : decode cX1_goesOn 18 = .ok (.putfield 46, 3) := by decide +kernel
theorem dX1_goesOn_21 : decode cX1_goesOn 21 = .ok (.aload_n 0, 1) := by decide +kernel
theorem dX1_goesOn_22 : decode cX1_goesOn 22 = .ok (.getfield 18, 3) := by decide +kernel
theorem dX1_goesOn_25 : decode cX1_goesOn 25 = .ok (.getfield 46, 3) := by decide +kernel
theorem dX1_goesOn_28 : decode cX1_goesOn 28 = .ok (.ifCond .lt 7, 3) := by decide +kernel
theorem dX1_goesOn_31 : decode cX1_goesOn 31 = .ok (.iconst 1, 1) := by decide +kernel
theorem dX1_goesOn_32 : decode cX1_goesOn 32 = .ok (.goto 4, 3) := by decide +kernel
theorem dX1_goesOn_35 : decode cX1_goesOn 35 = .ok (.iconst 0, 1) := by decide +kernel
theorem dX1_goesOn_36 : decode cX1_goesOn 36 = .ok (.ireturn, 1) := by decide +kernel
theorem dX1_goesOn_37 : decode cX1_goesOn 37 = .ok (.aload_n 0, 1) := by decide +kernel
theorem dX1_goesOn_38 : decode cX1_goesOn 38 = .ok (.getfield 49, 3) := by decide +kernel
theorem dX1_goesOn_41 : decode cX1_goesOn 41 = .ok (.ifCond .eq 10, 3) := by decide +kernel
theorem dX1_goesOn_44 : decode cX1_goesOn 44 = .ok (.aload_n 0, 1) := by decide +kernel
theorem dX1_goesOn_45 : decode cX1_goesOn 45 = .ok (.invokevirtual 85, 3) := by decide +kernel
theorem dX1_goesOn_48 : decode cX1_goesOn 48 = .ok (.goto 7, 3) := by decide +kernel
theorem dX1_goesOn_51 : decode cX1_goesOn 51 = .ok (.aload_n 0, 1) := by decide +kernel
theorem dX1_goesOn_52 : decode cX1_goesOn 52 = .ok (.invokevirtual 88, 3) := by decide +kernel
theorem dX1_goesOn_55 : decode cX1_goesOn 55 = .ok (.ireturn, 1) := by decide +kernel
def f_X1_goesOn (fu : Nat)   (m : Mem) : Option (Int32 × Mem) := if 0 ≤ (m (tf 14 0)) then (if (m 284) = 0 then (doI (f_X1_takesSign fu  m) (fun r_3 m_2 => chk (isB r_3) (some (r_3, m_2)))) else (doI (f_X1_takesPiece fu  m) (fun r_7 m_6 => chk (isB r_7) (some (r_7, m_6))))) else (doI (f_X1_keyHere fu  m) (fun r_12 m_11 => seqM (upd m_11 (tf 14 0) r_12) (fun m_13 : Mem => if (m_13 (tf 14 0)) < 0 then (some (0, m_13)) else (some (1, m_13)))))
set_option maxHeartbeats 4000000 in
set_option maxRecDepth 100000 in
theorem w_X1_goesOn {X : TX} {p : Program} {l : Launch} {e : Env} {s : State} {mi : MethodId} {args : Array Value} {below : List Frame} {meth : Method} {c : Code} {Q : State → Prop} {r : Int32} {mE : Mem} (C : Cx X p s mi args c RX1 cX1_goesOn 1) (hq : RetI X p l e (rmD 6) s mi args below meth c cX1_goesOn .boolean Q r mE) {fu : Nat}  {m : Mem} {H : Heap} {locs : List Loc} {ls : Array Slot} (h : f_X1_goesOn fu  m = some (r, mE))  (hW : Wd X s m H locs) (hl : lv_has ls 1 [(0, .ref (ad X 6 0))]) : W p l e (rmD 6) s mi args below meth c H locs 0 0 Q (F0 mi 0 ls []) := by
  unfold f_X1_goesOn at h
  refine lv_aload_n C.1 C.2.1 dX1_goesOn_0 rfl (lv_at hl 0 rfl) ?_
  refine zg_X1_draft C hW id_6 w_139 dX1_goesOn_1 ?_
  refine zg_X5_key C hW id_3_14 w_101 dX1_goesOn_4 ?_
  refine lv_if_ge (tgt := 37) C.1 C.2.1 dX1_goesOn_7 (by decide) (fun hc_16 => ?_) (fun hc_16 => ?_)
  · have h := ite_t hc_16 h
    refine lv_aload_n C.1 C.2.1 dX1_goesOn_37 rfl (lv_at hl 0 rfl) ?_
    refine zg_X1_pieceIsDue C hW id_6 w_145 dX1_goesOn_38 ?_
    refine lv_if_eq (tgt := 51) C.1 C.2.1 dX1_goesOn_41 (by decide) (fun hc_9 => ?_) (fun hc_9 => ?_)
    · have h := ite_t hc_9 h
      refine lv_aload_n C.1 C.2.1 dX1_goesOn_51 rfl (lv_at hl 0 rfl) ?_
      obtain ⟨r_3, m_2, hc_1, h⟩ := doI_E h
      refine zr_cVI C hW (c_X1_takesSign  hc_1 ) k_X1_takesSign (zr_recv C hW id_6 zco_6 rfl) w_868 ⟨Nat.le_of_ble_eq_true rfl, Nat.le_of_ble_eq_true rfl⟩ ⟨Nat.le_refl 0, Nat.le_refl 0⟩ rfl hl.1 rfl (Nat.le_of_ble_eq_true rfl) dX1_goesOn_52 (fun H locs hW => ?_)
      obtain ⟨hb_4, h⟩ := chk_E h
      exact ret_i h hq (nar_B (isB_E hb_4)) hW dX1_goesOn_55
    · have h := ite_f hc_9 h
      refine lv_aload_n C.1 C.2.1 dX1_goesOn_44 rfl (lv_at hl 0 rfl) ?_
      obtain ⟨r_7, m_6, hc_5, h⟩ := doI_E h
      refine zr_cVI C hW (c_X1_takesPiece  hc_5 ) k_X1_takesPiece (zr_recv C hW id_6 zco_6 rfl) w_786 ⟨Nat.le_of_ble_eq_true rfl, Nat.le_of_ble_eq_true rfl⟩ ⟨Nat.le_refl 0, Nat.le_refl 0⟩ rfl hl.1 rfl (Nat.le_of_ble_eq_true rfl) dX1_goesOn_45 (fun H locs hW => ?_)
      refine lv_goto (tgt := 55) C.1 C.2.1 dX1_goesOn_48 (by decide) ?_
      obtain ⟨hb_8, h⟩ := chk_E h
      exact ret_i h hq (nar_B (isB_E hb_8)) hW dX1_goesOn_55
  · have h := ite_f hc_16 h
    refine lv_aload_n C.1 C.2.1 dX1_goesOn_10 rfl (lv_at hl 0 rfl) ?_
    refine zg_X1_draft C hW id_6 w_139 dX1_goesOn_11 ?_
    refine lv_aload_n C.1 C.2.1 dX1_goesOn_14 rfl (lv_at hl 0 rfl) ?_
    obtain ⟨r_12, m_11, hc_10, h⟩ := doI_E h
    refine zr_cVI C hW (c_X1_keyHere  hc_10 ) k_X1_keyHere (zr_recv C hW id_6 zco_6 rfl) w_727 ⟨Nat.le_of_ble_eq_true rfl, Nat.le_of_ble_eq_true rfl⟩ ⟨Nat.le_refl 0, Nat.le_refl 0⟩ rfl hl.1 rfl (Nat.le_of_ble_eq_true rfl) dX1_goesOn_15 (fun H locs hW => ?_)
    obtain ⟨m_13, e_14, h⟩ := seqM_E h
    refine zp_X5_key C hW id_3_14 w_101 e_14 dX1_goesOn_18 (fun H locs hW => ?_)
    refine lv_aload_n C.1 C.2.1 dX1_goesOn_21 rfl (lv_at hl 0 rfl) ?_
    refine zg_X1_draft C hW id_6 w_139 dX1_goesOn_22 ?_
    refine zg_X5_key C hW id_3_14 w_101 dX1_goesOn_25 ?_
    refine lv_if_lt (tgt := 35) C.1 C.2.1 dX1_goesOn_28 (by decide) (fun hc_15 => ?_) (fun hc_15 => ?_)
    · have h := ite_t hc_15 h
      refine lv_iconst (v := 0) C.1 C.2.1 dX1_goesOn_35 rfl ?_
      exact ret_i h hq rfl hW dX1_goesOn_36
    · have h := ite_f hc_15 h
      refine lv_iconst (v := 1) C.1 C.2.1 dX1_goesOn_31 rfl ?_
      refine lv_goto (tgt := 36) C.1 C.2.1 dX1_goesOn_32 (by decide) ?_
      exact ret_i h hq rfl hW dX1_goesOn_36
theorem c_X1_goesOn {X : TX} {l : Launch} {fu : Nat}  {m mE : Mem} {r : Int32} (h : f_X1_goesOn fu  m = some (r, mE))  : MetI X l yX1_goesOn cX1_goesOn 1 .boolean 6 [.ref (ad X 6 0)] m r mE :=
  met_I (by decide) (Nat.le_of_ble_eq_true rfl) (fun p e s mi args below meth c ls Q C hq hW hl => w_X1_goesOn C hq h  hW (lv_sub hl [0] rfl))
theorem k_X1_goesOn : CalV yX1_goesOn cX1_goesOn 1 (some .boolean) RX1 0 := ⟨w_725, w_12, w_64, w_726, by decide +kernel⟩
theorem dX1_fault_0 : decode cX1_fault 0 = .ok (.aload_n 0, 1) := by decide +kernel
theorem dX1_fault_1 : decode cX1_fault 1 = .ok (.invokevirtual 29, 3) := by decide +kernel
theorem dX1_fault_4 : decode cX1_fault 4 = .ok (.iconst 0, 1) := by decide +kernel
theorem dX1_fault_5 : decode cX1_fault 5 = .ok (.istore_n 1, 1) := by decide +kernel
theorem dX1_fault_6 : decode cX1_fault 6 = .ok (.iload_n 1, 1) := by decide +kernel
theorem dX1_fault_7 : decode cX1_fault 7 = .ok (.bipush 96, 2) := by decide +kernel
theorem dX1_fault_9 : decode cX1_fault 9 = .ok (.if_icmp .ge 46, 3) := by decide +kernel
theorem dX1_fault_12 : decode cX1_fault 12 = .ok (.aload_n 0, 1) := by decide +kernel
theorem dX1_fault_13 : decode cX1_fault 13 = .ok (.invokevirtual 32, 3) := by decide +kernel
theorem dX1_fault_16 : decode cX1_fault 16 = .ok (.aload_n 0, 1) := by decide +kernel
theorem dX1_fault_17 : decode cX1_fault 17 = .ok (.getfield 35, 3) := by decide +kernel
theorem dX1_fault_20 : decode cX1_fault 20 = .ok (.aload_n 0, 1) := by decide +kernel
theorem dX1_fault_21 : decode cX1_fault 21 = .ok (.getfield 25, 3) := by decide +kernel
theorem dX1_fault_24 : decode cX1_fault 24 = .ok (.if_icmp .lt 6, 3) := by decide +kernel
theorem dX1_fault_27 : decode cX1_fault 27 = .ok (.goto 28, 3) := by decide +kernel
theorem dX1_fault_30 : decode cX1_fault 30 = .ok (.aload_n 0, 1) := by decide +kernel
theorem dX1_fault_31 : decode cX1_fault 31 = .ok (.getfield 38, 3) := by decide +kernel
theorem dX1_fault_34 : decode cX1_fault 34 = .ok (.ifCond .ne 10, 3) := by decide +kernel
theorem dX1_fault_37 : decode cX1_fault 37 = .ok (.aload_n 0, 1) := by decide +kernel
theorem dX1_fault_38 : decode cX1_fault 38 = .ok (.invokevirtual 42, 3) := by decide +kernel
theorem dX1_fault_41 : decode cX1_fault 41 = .ok (.ifCond .ne 8, 3) := by decide +kernel
theorem dX1_fault_44 : decode cX1_fault 44 = .ok (.aload_n 0, 1) := by decide +kernel
theorem dX1_fault_45 : decode cX1_fault 45 = .ok (.getfield 35, 3) := by decide +kernel
theorem dX1_fault_48 : decode cX1_fault 48 = .ok (.ireturn, 1) := by decide +kernel
theorem dX1_fault_49 : decode cX1_fault 49 = .ok (.iinc 1 1, 3) := by decide +kernel
theorem dX1_fault_52 : decode cX1_fault 52 = .ok (.goto (-46), 3) := by decide +kernel
theorem dX1_fault_55 : decode cX1_fault 55 = .ok (.aload_n 0, 1) := by decide +kernel
theorem dX1_fault_56 : decode cX1_fault 56 = .ok (.getfield 18, 3) := by decide +kernel
theorem dX1_fault_59 : decode cX1_fault 59 = .ok (.getfield 46, 3) := by decide +kernel
theorem dX1_fault_62 : decode cX1_fault 62 = .ok (.ifCond .lt 17, 3) := by decide +kernel
theorem dX1_fault_65 : decode cX1_fault 65 = .ok (.aload_n 0, 1) := by decide +kernel
theorem dX1_fault_66 : decode cX1_fault 66 = .ok (.getfield 49, 3) := by decide +kernel
theorem dX1_fault_69 : decode cX1_fault 69 = .ok (.ifCond .ne 10, 3) := by decide +kernel
theorem dX1_fault_72 : decode cX1_fault 72 = .ok (.aload_n 0, 1) := by decide +kernel
theorem dX1_fault_73 : decode cX1_fault 73 = .ok (.getfield 52, 3) := by decide +kernel
theorem dX1_fault_76 : decode cX1_fault 76 = .ok (.ifCond .le 8, 3) := by decide +kernel
theorem dX1_fault_79 : decode cX1_fault 79 = .ok (.aload_n 0, 1) := by decide +kernel
theorem dX1_fault_80 : decode cX1_fault 80 = .ok (.getfield 25, 3) := by decide +kernel
theorem dX1_fault_83 : decode cX1_fault 83 = .ok (.ireturn, 1) := by decide +kernel
theorem dX1_fault_84 : decode cX1_fault 84 = .ok (.aload_n 0, 1) := by decide +kernel
theorem dX1_fault_85 : decode cX1_fault 85 = .ok (.iconst 1, 1) := by decide +kernel
theorem dX1_fault_86 : decode cX1_fault 86 = .ok (.invokevirtual 55, 3) := by decide +kernel
theorem dX1_fault_89 : decode cX1_fault 89 = .ok (.iconst (-1), 1) := by decide +kernel
theorem dX1_fault_90 : decode cX1_fault 90 = .ok (.ireturn, 1) := by decide +kernel
def f_X1_fault_55 (fu : Nat)   (m : Mem) : Option (Int32 × Mem) := if (m (tf 14 0)) < 0 then (some ((m 280), m)) else (if (m 284) = 0 then (if (m 282) ≤ 0 then (doV (f_X1_release fu 1 m) (fun m_2 => some ((-1), m_2))) else (some ((m 280), m))) else (some ((m 280), m)))
set_option maxHeartbeats 4000000 in
set_option maxRecDepth 100000 in
theorem w_X1_fault_55 {X : TX} {p : Program} {l : Launch} {e : Env} {s : State} {mi : MethodId} {args : Array Value} {below : List Frame} {meth : Method} {c : Code} {Q : State → Prop} {r : Int32} {mE : Mem} (C : Cx X p s mi args c RX1 cX1_fault 2) (hq : RetI X p l e (rmD 7) s mi args below meth c cX1_fault .int Q r mE) {fu : Nat}  {m : Mem} {H : Heap} {locs : List Loc} {ls : Array Slot} (h : f_X1_fault_55 fu  m = some (r, mE))  (hW : Wd X s m H locs) (hl : lv_has ls 2 [(0, .ref (ad X 6 0))]) : W p l e (rmD 7) s mi args below meth c H locs 0 0 Q (F0 mi 55 ls []) := by
  unfold f_X1_fault_55 at h
  refine lv_aload_n C.1 C.2.1 dX1_fault_55 rfl (lv_at hl 0 rfl) ?_
  refine zg_X1_draft C hW id_6 w_139 dX1_fault_56 ?_
  refine zg_X5_key C hW id_3_14 w_101 dX1_fault_59 ?_
  refine lv_if_lt (tgt := 79) C.1 C.2.1 dX1_fault_62 (by decide) (fun hc_5 => ?_) (fun hc_5 => ?_)
  · have h := ite_t hc_5 h
    refine lv_aload_n C.1 C.2.1 dX1_fault_79 rfl (lv_at hl 0 rfl) ?_
    refine zg_X1_length C hW id_6 w_137 dX1_fault_80 ?_
    exact ret_i h hq rfl hW dX1_fault_83
  · have h := ite_f hc_5 h
    refine lv_aload_n C.1 C.2.1 dX1_fault_65 rfl (lv_at hl 0 rfl) ?_
    refine zg_X1_pieceIsDue C hW id_6 w_145 dX1_fault_66 ?_
    refine lv_if_ne (tgt := 79) C.1 C.2.1 dX1_fault_69 (by decide) (fun hc_4 => ?_) (fun hc_4 => ?_)
    · have h := ite_f hc_4 h
      refine lv_aload_n C.1 C.2.1 dX1_fault_79 rfl (lv_at hl 0 rfl) ?_
      refine zg_X1_length C hW id_6 w_137 dX1_fault_80 ?_
      exact ret_i h hq rfl hW dX1_fault_83
    · have h := ite_t hc_4 h
      refine lv_aload_n C.1 C.2.1 dX1_fault_72 rfl (lv_at hl 0 rfl) ?_
      refine zg_X1_brackets C hW id_6 w_143 dX1_fault_73 ?_
      refine lv_if_le (tgt := 84) C.1 C.2.1 dX1_fault_76 (by decide) (fun hc_3 => ?_) (fun hc_3 => ?_)
      · have h := ite_t hc_3 h
        refine lv_aload_n C.1 C.2.1 dX1_fault_84 rfl (lv_at hl 0 rfl) ?_
        refine lv_iconst (v := 1) C.1 C.2.1 dX1_fault_85 rfl ?_
        obtain ⟨m_2, hc_1, h⟩ := doV_E h
        refine zr_cVV C hW (c_X1_release (x1 := 1) hc_1 ) k_X1_release (zr_recv C hW id_6 zco_6 rfl) w_876 ⟨Nat.le_of_ble_eq_true rfl, Nat.le_of_ble_eq_true rfl⟩ ⟨Nat.le_refl 0, Nat.le_refl 0⟩ rfl hl.1 rfl (Nat.le_of_ble_eq_true rfl) dX1_fault_86 (fun H locs hW => ?_)
        refine lv_iconst (v := (-1)) C.1 C.2.1 dX1_fault_89 rfl ?_
        exact ret_i h hq rfl hW dX1_fault_90
      · have h := ite_f hc_3 h
        refine lv_aload_n C.1 C.2.1 dX1_fault_79 rfl (lv_at hl 0 rfl) ?_
        refine zg_X1_length C hW id_6 w_137 dX1_fault_80 ?_
        exact ret_i h hq rfl hW dX1_fault_83
def f_X1_fault_6 (fu : Nat)  : Nat → Int32 → Mem → Option (Int32 × Mem)
  | 0, _, _ => none
  | n + 1, x1, m => if 96 ≤ x1 then (f_X1_fault_55 fu m) else (doV (f_X1_step fu  m) (fun m_2 => if (m_2 285) < (m_2 280) then (if (m_2 288) = 0 then (doI (f_X1_goesOn fu  m_2) (fun r_5 m_4 => if r_5 = 0 then (some ((m_4 285), m_4)) else (seqM (x1 + 1) (fun x_6 : Int32 => f_X1_fault_6 fu n x_6 m_4)))) else (some ((m_2 285), m_2))) else (f_X1_fault_55 fu m_2)))
set_option maxHeartbeats 4000000 in
set_option maxRecDepth 100000 in
theorem w_X1_fault_6 {X : TX} {p : Program} {l : Launch} {e : Env} {s : State} {mi : MethodId} {args : Array Value} {below : List Frame} {meth : Method} {c : Code} {Q : State → Prop} {r : Int32} {mE : Mem} (C : Cx X p s mi args c RX1 cX1_fault 2) (hq : RetI X p l e (rmD 7) s mi args below meth c cX1_fault .int Q r mE) {fu : Nat} : ∀ (n : Nat) {x1 : Int32} {m : Mem} {H : Heap} {locs : List Loc} {ls : Array Slot}, f_X1_fault_6 fu n x1 m = some (r, mE) → Wd X s m H locs → lv_has ls 2 [(0, .ref (ad X 6 0)), (1, .int x1)] → W p l e (rmD 7) s mi args below meth c H locs 0 0 Q (F0 mi 6 ls []) := by
  intro n
  induction n with
  | zero =>
    intro x1 m H locs ls h hW hl
    rw [f_X1_fault_6] at h
    cases h
  | succ n ih =>
    intro x1 m H locs ls h hW hl
    rw [f_X1_fault_6] at h
    refine lv_iload_n C.1 C.2.1 dX1_fault_6 rfl (lv_at hl 1 rfl) ?_
    refine lv_bipush (v := 96) C.1 C.2.1 dX1_fault_7 rfl ?_
    refine lv_icmp_ge (tgt := 55) C.1 C.2.1 dX1_fault_9 (by decide) (fun hc_11 => ?_) (fun hc_11 => ?_)
    · have h := ite_t hc_11 h
      exact w_X1_fault_55 C hq  h  hW (lv_sub hl [0] rfl)
    · have h := ite_f hc_11 h
      refine lv_aload_n C.1 C.2.1 dX1_fault_12 rfl (lv_at hl 0 rfl) ?_
      obtain ⟨m_2, hc_1, h⟩ := doV_E h
      refine zr_cVV C hW (c_X1_step  hc_1 ) k_X1_step (zr_recv C hW id_6 zco_6 rfl) w_712 ⟨Nat.le_of_ble_eq_true rfl, Nat.le_of_ble_eq_true rfl⟩ ⟨Nat.le_refl 0, Nat.le_refl 0⟩ rfl hl.1 rfl (Nat.le_of_ble_eq_true rfl) dX1_fault_13 (fun H locs hW => ?_)
      refine lv_aload_n C.1 C.2.1 dX1_fault_16 rfl (lv_at hl 0 rfl) ?_
      refine zg_X1_from C hW id_6 w_146 dX1_fault_17 ?_
      refine lv_aload_n C.1 C.2.1 dX1_fault_20 rfl (lv_at hl 0 rfl) ?_
      refine zg_X1_length C hW id_6 w_137 dX1_fault_21 ?_
      refine lv_icmp_lt (tgt := 30) C.1 C.2.1 dX1_fault_24 (by decide) (fun hc_10 => ?_) (fun hc_10 => ?_)
      · have h := ite_t hc_10 h
        refine lv_aload_n C.1 C.2.1 dX1_fault_30 rfl (lv_at hl 0 rfl) ?_
        refine zg_X1_isGlued C hW id_6 w_149 dX1_fault_31 ?_
        refine lv_if_ne (tgt := 44) C.1 C.2.1 dX1_fault_34 (by decide) (fun hc_9 => ?_) (fun hc_9 => ?_)
        · have h := ite_f hc_9 h
          refine lv_aload_n C.1 C.2.1 dX1_fault_44 rfl (lv_at hl 0 rfl) ?_
          refine zg_X1_from C hW id_6 w_146 dX1_fault_45 ?_
          exact ret_i h hq rfl hW dX1_fault_48
        · have h := ite_t hc_9 h
          refine lv_aload_n C.1 C.2.1 dX1_fault_37 rfl (lv_at hl 0 rfl) ?_
          obtain ⟨r_5, m_4, hc_3, h⟩ := doI_E h
          refine zr_cVI C hW (c_X1_goesOn  hc_3 ) k_X1_goesOn (zr_recv C hW id_6 zco_6 rfl) w_723 ⟨Nat.le_of_ble_eq_true rfl, Nat.le_of_ble_eq_true rfl⟩ ⟨Nat.le_refl 0, Nat.le_refl 0⟩ rfl hl.1 rfl (Nat.le_of_ble_eq_true rfl) dX1_fault_38 (fun H locs hW => ?_)
          refine lv_if_ne (tgt := 49) C.1 C.2.1 dX1_fault_41 (by decide) (fun hc_8 => ?_) (fun hc_8 => ?_)
          · have h := ite_f hc_8 h
            obtain ⟨x_6, e_7, h⟩ := seqM_E h
            refine lv_iinc (v := x_6) (lv' := [(1, .int x_6), (0, .ref (ad X 6 0))]) C.1 C.2.1 dX1_fault_49 hl (k := 1) rfl (by rw [e_7]; rfl) (by decide) rfl (fun ls hl => ?_)
            refine lv_goto (tgt := 6) C.1 C.2.1 dX1_fault_52 (by decide) ?_
            exact ih h  hW (lv_sub hl [1, 0] rfl)
          · have h := ite_t hc_8 h
            refine lv_aload_n C.1 C.2.1 dX1_fault_44 rfl (lv_at hl 0 rfl) ?_
            refine zg_X1_from C hW id_6 w_146 dX1_fault_45 ?_
            exact ret_i h hq rfl hW dX1_fault_48
      · have h := ite_f hc_10 h
        refine lv_goto (tgt := 55) C.1 C.2.1 dX1_fault_27 (by decide) ?_
        exact w_X1_fault_55 C hq  h  hW (lv_sub hl [0] rfl)
def f_X1_fault (fu : Nat)   (m : Mem) : Option (Int32 × Mem) := doV (f_X1_start fu  m) (fun m_2 => f_X1_fault_6 fu fu 0 m_2)
set_option maxHeartbeats 4000000 in
set_option maxRecDepth 100000 in
theorem w_X1_fault {X : TX} {p : Program} {l : Launch} {e : Env} {s : State} {mi : MethodId} {args : Array Value} {below : List Frame} {meth : Method} {c : Code} {Q : State → Prop} {r : Int32} {mE : Mem} (C : Cx X p s mi args c RX1 cX1_fault 2) (hq : RetI X p l e (rmD 7) s mi args below meth c cX1_fault .int Q r mE) {fu : Nat}  {m : Mem} {H : Heap} {locs : List Loc} {ls : Array Slot} (h : f_X1_fault fu  m = some (r, mE))  (hW : Wd X s m H locs) (hl : lv_has ls 2 [(0, .ref (ad X 6 0))]) : W p l e (rmD 7) s mi args below meth c H locs 0 0 Q (F0 mi 0 ls []) := by
  unfold f_X1_fault at h
  refine lv_aload_n C.1 C.2.1 dX1_fault_0 rfl (lv_at hl 0 rfl) ?_
  obtain ⟨m_2, hc_1, h⟩ := doV_E h
  refine zr_cVV C hW (c_X1_start  hc_1 ) k_X1_start (zr_recv C hW id_6 zco_6 rfl) w_704 ⟨Nat.le_of_ble_eq_true rfl, Nat.le_of_ble_eq_true rfl⟩ ⟨Nat.le_refl 0, Nat.le_refl 0⟩ rfl hl.1 rfl (Nat.le_of_ble_eq_true rfl) dX1_fault_1 (fun H locs hW => ?_)
  refine lv_iconst (v := 0) C.1 C.2.1 dX1_fault_4 rfl ?_
  refine lv_istore_n (lv' := [(1, .int 0), (0, .ref (ad X 6 0))]) C.1 C.2.1 dX1_fault_5 rfl hl (by decide) rfl (fun ls hl => ?_)
  exact w_X1_fault_6 C hq  fu h  hW (lv_sub hl [1, 0] rfl)
theorem c_X1_fault {X : TX} {l : Launch} {fu : Nat}  {m mE : Mem} {r : Int32} (h : f_X1_fault fu  m = some (r, mE))  : MetI X l yX1_fault cX1_fault 2 .int 7 [.ref (ad X 6 0)] m r mE :=
  met_I (by decide) (Nat.le_of_ble_eq_true rfl) (fun p e s mi args below meth c ls Q C hq hW hl => w_X1_fault C hq h  hW (lv_sub hl [0] rfl))
theorem k_X1_fault : CalV yX1_fault cX1_fault 2 (some .int) RX1 0 := ⟨w_701, w_702, w_64, w_703, by decide +kernel⟩
