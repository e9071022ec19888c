theorem dX4_become_0 : decode cX4_become 0 = .ok (.aload_n 0, 1) := by decide +kernel
theorem dX4_become_1 : decode cX4_become 1 = .ok (.aload_n 1, 1) := by decide +kernel
theorem dX4_become_2 : decode cX4_become 2 = .ok (.getfield 39, 3) := by decide +kernel
theorem dX4_become_5 : decode cX4_become 5 = .ok (.putfield 39, 3) := by decide +kernel
theorem dX4_become_8 : decode cX4_become 8 = .ok (.iconst 0, 1) := by decide +kernel
theorem dX4_become_9 : decode cX4_become 9 = .ok (.istore_n 2, 1) := by decide +kernel
theorem dX4_become_10 : decode cX4_become 10 = .ok (.iload_n 2, 1) := by decide +kernel
theorem dX4_become_11 : decode cX4_become 11 = .ok (.aload_n 0, 1) := by decide +kernel
theorem dX4_become_12 : decode cX4_become 12 = .ok (.getfield 39, 3) := by decide +kernel
theorem dX4_become_15 : decode cX4_become 15 = .ok (.if_icmp .ge 24, 3) := by decide +kernel
theorem dX4_become_18 : decode cX4_become 18 = .ok (.aload_n 0, 1) := by decide +kernel
theorem dX4_become_19 : decode cX4_become 19 = .ok (.getfield 11, 3) := by decide +kernel
theorem dX4_become_22 : decode cX4_become 22 = .ok (.iload_n 2, 1) := by decide +kernel
theorem dX4_become_23 : decode cX4_become 23 = .ok (.aaload, 1) := by decide +kernel
theorem dX4_become_24 : decode cX4_become 24 = .ok (.aload_n 1, 1) := by decide +kernel
theorem dX4_become_25 : decode cX4_become 25 = .ok (.getfield 11, 3) := by decide +kernel
theorem dX4_become_28 : decode cX4_become 28 = .ok (.iload_n 2, 1) := by decide +kernel
theorem dX4_become_29 : decode cX4_become 29 = .ok (.aaload, 1) := by decide +kernel
theorem dX4_become_30 : decode cX4_become 30 = .ok (.invokevirtual 42, 3) := by decide +kernel
theorem dX4_become_33 : decode cX4_become 33 = .ok (.iinc 2 1, 3) := by decide +kernel
theorem dX4_become_36 : decode cX4_become 36 = .ok (.goto (-26), 3) := by decide +kernel
theorem dX4_become_39 : decode cX4_become 39 = .ok (.aload_n 0, 1) := by decide +kernel
theorem dX4_become_40 : decode cX4_become 40 = .ok (.aload_n 1, 1) := by decide +kernel
theorem dX4_become_41 : decode cX4_become 41 = .ok (.getfield 18, 3) := by decide +kernel
theorem dX4_become_44 : decode cX4_become 44 = .ok (.putfield 18, 3) := by decide +kernel
theorem dX4_become_47 : decode cX4_become 47 = .ok (.aload_n 0, 1) := by decide +kernel
theorem dX4_become_48 : decode cX4_become 48 = .ok (.aload_n 1, 1) := by decide +kernel
theorem dX4_become_49 : decode cX4_become 49 = .ok (.getfield 22, 3) := by decide +kernel
theorem dX4_become_52 : decode cX4_become 52 = .ok (.putfield 22, 3) := by decide +kernel
theorem dX4_become_55 : decode cX4_become 55 = .ok (.aload_n 0, 1) := by decide +kernel
theorem dX4_become_56 : decode cX4_become 56 = .ok (.aload_n 1, 1) := by decide +kernel
theorem dX4_become_57 : decode cX4_become 57 = .ok (.getfield 46, 3) := by decide +kernel
theorem dX4_become_60 : decode cX4_become 60 = .ok (.putfield 46, 3) := by decide +kernel
theorem dX4_become_63 : decode cX4_become 63 = .ok (.aload_n 0, 1) := by decide +kernel
theorem dX4_become_64 : decode cX4_become 64 = .ok (.aload_n 1, 1) := by decide +kernel
theorem dX4_become_65 : decode cX4_become 65 = .ok (.getfield 49, 3) := by decide +kernel
theorem dX4_become_68 : decode cX4_become 68 = .ok (.putfield 49, 3) := by decide +kernel
theorem dX4_become_71 : decode cX4_become 71 = .ok (.aload_n 0, 1) := by decide +kernel
theorem dX4_become_72 : decode cX4_become 72 = .ok (.aload_n 1, 1) := by decide +kernel
theorem dX4_become_73 : decode cX4_become 73 = .ok (.getfield 52, 3) := by decide +kernel
theorem dX4_become_76 : decode cX4_become 76 = .ok (.putfield 52, 3) := by decide +kernel
theorem dX4_become_79 : decode cX4_become 79 = .ok (.aload_n 0, 1) := by decide +kernel
theorem dX4_become_80 : decode cX4_become 80 = .ok (.aload_n 1, 1) := by decide +kernel
theorem dX4_become_81 : decode cX4_become 81 = .ok (.getfield 55, 3) := by decide +kernel
theorem dX4_become_84 : decode cX4_become 84 = .ok (.putfield 55, 3) := by decide +kernel
theorem dX4_become_87 : decode cX4_become 87 = .ok (.aload_n 0, 1) := by decide +kernel
theorem dX4_become_88 : decode cX4_become 88 = .ok (.aload_n 1, 1) := by decide +kernel
theorem dX4_become_89 : decode cX4_become 89 = .ok (.getfield 58, 3) := by decide +kernel
theorem dX4_become_92 : decode cX4_become 92 = .ok (.putfield 58, 3) := by decide +kernel
theorem dX4_become_95 : decode cX4_become 95 = .ok (.aload_n 0, 1) := by decide +kernel
theorem dX4_become_96 : decode cX4_become 96 = .ok (.aload_n 1, 1) := by decide +kernel
theorem dX4_become_97 : decode cX4_become 97 = .ok (.getfield 61, 3) := by decide +kernel
theorem dX4_become_100 : decode cX4_become 100 = .ok (.putfield 61, 3) := by decide +kernel
theorem dX4_become_103 : decode cX4_become 103 = .ok (.aload_n 0, 1) := by decide +kernel
theorem dX4_become_104 : decode cX4_become 104 = .ok (.aload_n 1, 1) := by decide +kernel
theorem dX4_become_105 : decode cX4_become 105 = .ok (.getfield 64, 3) := by decide +kernel
theorem dX4_become_108 : decode cX4_become 108 = .ok (.putfield 64, 3) := by decide +kernel
theorem dX4_become_111 : decode cX4_become 111 = .ok (.aload_n 0, 1) := by decide +kernel
theorem dX4_become_112 : decode cX4_become 112 = .ok (.aload_n 1, 1) := by decide +kernel
theorem dX4_become_113 : decode cX4_become 113 = .ok (.getfield 67, 3) := by decide +kernel
theorem dX4_become_116 : decode cX4_become 116 = .ok (.putfield 67, 3) := by decide +kernel
theorem dX4_become_119 : decode cX4_become 119 = .ok (.aload_n 0, 1) := by decide +kernel
theorem dX4_become_120 : decode cX4_become 120 = .ok (.aload_n 1, 1) := by decide +kernel
theorem dX4_become_121 : decode cX4_become 121 = .ok (.getfield 70, 3) := by decide +kernel
theorem dX4_become_124 : decode cX4_become 124 = .ok (.putfield 70, 3) := by decide +kernel
theorem dX4_become_127 : decode cX4_become 127 = .ok (.aload_n 0, 1) := by decide +kernel
theorem dX4_become_128 : decode cX4_become 128 = .ok (.aload_n 1, 1) := by decide +kernel
theorem dX4_become_129 : decode cX4_become 129 = .ok (.getfield 25, 3) := by decide +kernel
theorem dX4_become_132 : decode cX4_become 132 = .ok (.putfield 25, 3) := by decide +kernel
theorem dX4_become_135 : decode cX4_become 135 = .ok (.aload_n 0, 1) := by decide +kernel
theorem dX4_become_136 : decode cX4_become 136 = .ok (.aload_n 1, 1) := by decide +kernel
theorem dX4_become_137 : decode cX4_become 137 = .ok (.getfield 73, 3) := by decide +kernel
theorem dX4_become_140 : decode cX4_become 140 = .ok (.putfield 73, 3) := by decide +kernel
theorem dX4_become_143 : decode cX4_become 143 = .ok (.aload_n 0, 1) := by decide +kernel
theorem dX4_become_144 : decode cX4_become 144 = .ok (.aload_n 1, 1) := by decide +kernel
theorem dX4_become_145 : decode cX4_become 145 = .ok (.getfield 28, 3) := by decide +kernel
theorem dX4_become_148 : decode cX4_become 148 = .ok (.putfield 28, 3) := by decide +kernel
theorem dX4_become_151 : decode cX4_become 151 = .ok (.aload_n 0, 1) := by decide +kernel
theorem dX4_become_152 : decode cX4_become 152 = .ok (.aload_n 1, 1) := by decide +kernel
theorem dX4_become_153 : decode cX4_become 153 = .ok (.getfield 76, 3) := by decide +kernel
theorem dX4_become_156 : decode cX4_become 156 = .ok (.putfield 76, 3) := by decide +kernel
theorem dX4_become_159 : decode cX4_become 159 = .ok (.iconst 0, 1) := by decide +kernel
theorem dX4_become_160 : decode cX4_become 160 = .ok (.istore_n 2, 1) := by decide +kernel
theorem dX4_become_161 : decode cX4_become 161 = .ok (.iload_n 2, 1) := by decide +kernel
theorem dX4_become_162 : decode cX4_become 162 = .ok (.iconst 2, 1) := by decide +kernel
theorem dX4_become_163 : decode cX4_become 163 = .ok (.if_icmp .gt 21, 3) := by decide +kernel
theorem dX4_become_166 : decode cX4_become 166 = .ok (.aload_n 0, 1) := by decide +kernel
theorem dX4_become_167 : decode cX4_become 167 = .ok (.getfield 31, 3) := by decide +kernel
theorem dX4_become_170 : decode cX4_become 170 = .ok (.iload_n 2, 1) := by decide +kernel
theorem dX4_become_171 : decode cX4_become 171 = .ok (.aload_n 1, 1) := by decide +kernel
theorem dX4_become_172 : decode cX4_become 172 = .ok (.getfield 31, 3) := by decide +kernel
theorem dX4_become_175 : decode cX4_become 175 = .ok (.iload_n 2, 1) := by decide +kernel
theorem dX4_become_176 : decode cX4_become 176 = .ok (.iaload, 1) := by decide +kernel
theorem dX4_become_177 : decode cX4_become 177 = .ok (.iastore, 1) := by decide +kernel
theorem dX4_become_178 : decode cX4_become 178 = .ok (.iinc 2 1, 3) := by decide +kernel
theorem dX4_become_181 : decode cX4_become 181 = .ok (.goto (-20), 3) := by decide +kernel
theorem dX4_become_184 : decode cX4_become 184 = .ok (.return_, 1) := by decide +kernel
def f_X4_become_161 (fu : Nat)  : Nat → Nat → Nat → Int32 → Mem → Option Mem
  | 0, _, _, _, _ => none
  | n + 1, i0, i1, x2, m => if 2 < x2 then (some m) else (chk (inb x2 3) (chk (inb x2 3) (seqM (upd m ((51 + 70 * i0) + x2.toNatClampNeg) (m ((51 + 70 * i1) + x2.toNatClampNeg))) (fun m_3 : Mem => seqM (x2 + 1) (fun x_5 : Int32 => f_X4_become_161 fu n i0 i1 x_5 m_3)))))
set_option maxHeartbeats 4000000 in
set_option maxRecDepth 100000 in
theorem w_X4_become_161 {X : TX} {p : Program} {l : Launch} {e : Env} {s : State} {mi : MethodId} {args : Array Value} {below : List Frame} {meth : Method} {c : Code} {Q : State → Prop} {mE : Mem} (C : Cx X p s mi args c RX4 cX4_become 3) (hq : RetV X p l e (rmD 1) s mi args below meth c cX4_become Q mE) {fu : Nat} : ∀ (n : Nat) {i0 : Nat} {i1 : Nat} {x2 : Int32} {m : Mem} {H : Heap} {locs : List Loc} {ls : Array Slot}, f_X4_become_161 fu n i0 i1 x2 m = some mE → (9, i0) ∈ ids → (9, i1) ∈ ids → Wd X s m H locs → lv_has ls 3 [(0, .ref (ad X 9 i0)), (1, .ref (ad X 9 i1)), (2, .int x2)] → W p l e (rmD 1) s mi args below meth c H locs 0 0 Q (F0 mi 161 ls []) := by
  intro n
  induction n with
  | zero =>
    intro i0 i1 x2 m H locs ls h g_i0 g_i1 hW hl
    rw [f_X4_become_161] at h
    cases h
  | succ n ih =>
    intro i0 i1 x2 m H locs ls h g_i0 g_i1 hW hl
    rw [f_X4_become_161] at h
    refine lv_iload_n C.1 C.2.1 dX4_become_161 rfl (lv_at hl 2 rfl) ?_
    refine lv_iconst (v := 2) C.1 C.2.1 dX4_become_162 rfl ?_
    refine lv_icmp_gt (tgt := 184) C.1 C.2.1 dX4_become_163 (by decide) (fun hc_7 => ?_) (fun hc_7 => ?_)
    · have h := ite_t hc_7 h
      exact ret_v h hq hW dX4_become_184
    · have h := ite_f hc_7 h
      refine lv_aload_n C.1 C.2.1 dX4_become_166 rfl (lv_at hl 0 rfl) ?_
      refine zg_X4_counting C hW g_i0 w_258 dX4_become_167 ?_
      refine lv_iload_n C.1 C.2.1 dX4_become_170 rfl (lv_at hl 2 rfl) ?_
      refine lv_aload_n C.1 C.2.1 dX4_become_171 rfl (lv_at hl 1 rfl) ?_
      refine zg_X4_counting C hW g_i1 w_258 dX4_become_172 ?_
      refine lv_iload_n C.1 C.2.1 dX4_become_175 rfl (lv_at hl 2 rfl) ?_
      obtain ⟨hb_1, h⟩ := chk_E h
      refine zal_12 C hW (im_9_12 g_i1) (inb_E hb_1) dX4_become_176 ?_
      obtain ⟨hb_2, h⟩ := chk_E h
      obtain ⟨m_3, e_4, h⟩ := seqM_E h
      refine zas_12 C hW (im_9_12 g_i0) (inb_E hb_2) e_4 dX4_become_177 (fun H locs hW => ?_)
      obtain ⟨x_5, e_6, h⟩ := seqM_E h
      refine lv_iinc (v := x_5) (lv' := [(2, .int x_5), (0, .ref (ad X 9 i0)), (1, .ref (ad X 9 i1))]) C.1 C.2.1 dX4_become_178 hl (k := 2) rfl (by rw [e_6]; rfl) (by decide) rfl (fun ls hl => ?_)
      refine lv_goto (tgt := 161) C.1 C.2.1 dX4_become_181 (by decide) ?_
      exact ih h g_i0 g_i1 hW (lv_sub hl [1, 2, 0] rfl)
def f_X4_become_10 (fu : Nat)  : Nat → Nat → Nat → Int32 → Mem → Option Mem
  | 0, _, _, _, _ => none
  | n + 1, i0, i1, x2, m => if (m (sf i0 1)) ≤ x2 then (seqM (upd m (sf i0 5) (m (sf i1 5))) (fun m_1 : Mem => seqM (upd m_1 (sf i0 3) (m_1 (sf i1 3))) (fun m_3 : Mem => seqM (upd m_3 (sf i0 4) (m_3 (sf i1 4))) (fun m_5 : Mem => seqM (upd m_5 (sf i0 6) (m_5 (sf i1 6))) (fun m_7 : Mem => seqM (upd m_7 (sf i0 7) (m_7 (sf i1 7))) (fun m_9 : Mem => seqM (upd m_9 (sf i0 8) (m_9 (sf i1 8))) (fun m_11 : Mem => seqM (upd m_11 (sf i0 9) (m_11 (sf i1 9))) (fun m_13 : Mem => seqM (upd m_13 (sf i0 10) (m_13 (sf i1 10))) (fun m_15 : Mem => seqM (upd m_15 (sf i0 11) (m_15 (sf i1 11))) (fun m_17 : Mem => seqM (upd m_17 (sf i0 12) (m_17 (sf i1 12))) (fun m_19 : Mem => seqM (upd m_19 (sf i0 13) (m_19 (sf i1 13))) (fun m_21 : Mem => seqM (upd m_21 (sf i0 14) (m_21 (sf i1 14))) (fun m_23 : Mem => seqM (upd m_23 (sf i0 2) (m_23 (sf i1 2))) (fun m_25 : Mem => seqM (upd m_25 (sf i0 0) (m_25 (sf i1 0))) (fun m_27 : Mem => seqM (upd m_27 (sf i0 15) (m_27 (sf i1 15))) (fun m_29 : Mem => f_X4_become_161 fu fu i0 i1 0 m_29)))))))))))))))) else (chk (inb x2 5) (chk (inb x2 5) (doV (f_X7_become fu (10 * i0 + x2.toNatClampNeg) (10 * i1 + x2.toNatClampNeg) m) (fun m_34 => seqM (x2 + 1) (fun x_35 : Int32 => f_X4_become_10 fu n i0 i1 x_35 m_34)))))
set_option maxHeartbeats 4000000 in
set_option maxRecDepth 100000 in
theorem w_X4_become_10 {X : TX} {p : Program} {l : Launch} {e : Env} {s : State} {mi : MethodId} {args : Array Value} {below : List Frame} {meth : Method} {c : Code} {Q : State → Prop} {mE : Mem} (C : Cx X p s mi args c RX4 cX4_become 3) (hq : RetV X p l e (rmD 1) s mi args below meth c cX4_become Q mE) {fu : Nat} : ∀ (n : Nat) {i0 : Nat} {i1 : Nat} {x2 : Int32} {m : Mem} {H : Heap} {locs : List Loc} {ls : Array Slot}, f_X4_become_10 fu n i0 i1 x2 m = some mE → (9, i0) ∈ ids → (9, i1) ∈ ids → Wd X s m H locs → lv_has ls 3 [(0, .ref (ad X 9 i0)), (1, .ref (ad X 9 i1)), (2, .int x2)] → W p l e (rmD 1) s mi args below meth c H locs 0 0 Q (F0 mi 10 ls []) := by
  intro n
  induction n with
  | zero =>
    intro i0 i1 x2 m H locs ls h g_i0 g_i1 hW hl
    rw [f_X4_become_10] at h
    cases h
  | succ n ih =>
    intro i0 i1 x2 m H locs ls h g_i0 g_i1 hW hl
    rw [f_X4_become_10] at h
    refine lv_iload_n C.1 C.2.1 dX4_become_10 rfl (lv_at hl 2 rfl) ?_
    refine lv_aload_n C.1 C.2.1 dX4_become_11 rfl (lv_at hl 0 rfl) ?_
    refine zg_X4_many C hW g_i0 w_226 dX4_become_12 ?_
    refine lv_icmp_ge (tgt := 39) C.1 C.2.1 dX4_become_15 (by decide) (fun hc_37 => ?_) (fun hc_37 => ?_)
    · have h := ite_t hc_37 h
      refine lv_aload_n C.1 C.2.1 dX4_become_39 rfl (lv_at hl 0 rfl) ?_
      refine lv_aload_n C.1 C.2.1 dX4_become_40 rfl (lv_at hl 1 rfl) ?_
      refine zg_X4_listeners C hW g_i1 w_228 dX4_become_41 ?_
      obtain ⟨m_1, e_2, h⟩ := seqM_E h
      refine zp_X4_listeners C hW g_i0 w_228 e_2 dX4_become_44 (fun H locs hW => ?_)
      refine lv_aload_n C.1 C.2.1 dX4_become_47 rfl (lv_at hl 0 rfl) ?_
      refine lv_aload_n C.1 C.2.1 dX4_become_48 rfl (lv_at hl 1 rfl) ?_
      refine zg_X4_cut C hW g_i1 w_230 dX4_become_49 ?_
      obtain ⟨m_3, e_4, h⟩ := seqM_E h
      refine zp_X4_cut C hW g_i0 w_230 e_4 dX4_become_52 (fun H locs hW => ?_)
      refine lv_aload_n C.1 C.2.1 dX4_become_55 rfl (lv_at hl 0 rfl) ?_
      refine lv_aload_n C.1 C.2.1 dX4_become_56 rfl (lv_at hl 1 rfl) ?_
      refine zg_X4_fill C hW g_i1 w_232 dX4_become_57 ?_
      obtain ⟨m_5, e_6, h⟩ := seqM_E h
      refine zp_X4_fill C hW g_i0 w_232 e_6 dX4_become_60 (fun H locs hW => ?_)
      refine lv_aload_n C.1 C.2.1 dX4_become_63 rfl (lv_at hl 0 rfl) ?_
      refine lv_aload_n C.1 C.2.1 dX4_become_64 rfl (lv_at hl 1 rfl) ?_
      refine zg_X4_silence C hW g_i1 w_234 dX4_become_65 ?_
      obtain ⟨m_7, e_8, h⟩ := seqM_E h
      refine zp_X4_silence C hW g_i0 w_234 e_8 dX4_become_68 (fun H locs hW => ?_)
      refine lv_aload_n C.1 C.2.1 dX4_become_71 rfl (lv_at hl 0 rfl) ?_
      refine lv_aload_n C.1 C.2.1 dX4_become_72 rfl (lv_at hl 1 rfl) ?_
      refine zg_X4_silent C hW g_i1 w_236 dX4_become_73 ?_
      obtain ⟨m_9, e_10, h⟩ := seqM_E h
      refine zp_X4_silent C hW g_i0 w_236 e_10 dX4_become_76 (fun H locs hW => ?_)
      refine lv_aload_n C.1 C.2.1 dX4_become_79 rfl (lv_at hl 0 rfl) ?_
      refine lv_aload_n C.1 C.2.1 dX4_become_80 rfl (lv_at hl 1 rfl) ?_
      refine zg_X4_longestHole C hW g_i1 w_238 dX4_become_81 ?_
      obtain ⟨m_11, e_12, h⟩ := seqM_E h
      refine zp_X4_longestHole C hW g_i0 w_238 e_12 dX4_become_84 (fun H locs hW => ?_)
      refine lv_aload_n C.1 C.2.1 dX4_become_87 rfl (lv_at hl 0 rfl) ?_
      refine lv_aload_n C.1 C.2.1 dX4_become_88 rfl (lv_at hl 1 rfl) ?_
      refine zg_X4_breaths C hW g_i1 w_240 dX4_become_89 ?_
      obtain ⟨m_13, e_14, h⟩ := seqM_E h
      refine zp_X4_breaths C hW g_i0 w_240 e_14 dX4_become_92 (fun H locs hW => ?_)
      refine lv_aload_n C.1 C.2.1 dX4_become_95 rfl (lv_at hl 0 rfl) ?_
      refine lv_aload_n C.1 C.2.1 dX4_become_96 rfl (lv_at hl 1 rfl) ?_
      refine zg_X4_taken C hW g_i1 w_242 dX4_become_97 ?_
      obtain ⟨m_15, e_16, h⟩ := seqM_E h
      refine zp_X4_taken C hW g_i0 w_242 e_16 dX4_become_100 (fun H locs hW => ?_)
      refine lv_aload_n C.1 C.2.1 dX4_become_103 rfl (lv_at hl 0 rfl) ?_
      refine lv_aload_n C.1 C.2.1 dX4_become_104 rfl (lv_at hl 1 rfl) ?_
      refine zg_X4_crossed C hW g_i1 w_244 dX4_become_105 ?_
      obtain ⟨m_17, e_18, h⟩ := seqM_E h
      refine zp_X4_crossed C hW g_i0 w_244 e_18 dX4_become_108 (fun H locs hW => ?_)
      refine lv_aload_n C.1 C.2.1 dX4_become_111 rfl (lv_at hl 0 rfl) ?_
      refine lv_aload_n C.1 C.2.1 dX4_become_112 rfl (lv_at hl 1 rfl) ?_
      refine zg_X4_jingles C hW g_i1 w_246 dX4_become_113 ?_
      obtain ⟨m_19, e_20, h⟩ := seqM_E h
      refine zp_X4_jingles C hW g_i0 w_246 e_20 dX4_become_116 (fun H locs hW => ?_)
      refine lv_aload_n C.1 C.2.1 dX4_become_119 rfl (lv_at hl 0 rfl) ?_
      refine lv_aload_n C.1 C.2.1 dX4_become_120 rfl (lv_at hl 1 rfl) ?_
      refine zg_X4_cuts C hW g_i1 w_248 dX4_become_121 ?_
      obtain ⟨m_21, e_22, h⟩ := seqM_E h
      refine zp_X4_cuts C hW g_i0 w_248 e_22 dX4_become_124 (fun H locs hW => ?_)
      refine lv_aload_n C.1 C.2.1 dX4_become_127 rfl (lv_at hl 0 rfl) ?_
      refine lv_aload_n C.1 C.2.1 dX4_become_128 rfl (lv_at hl 1 rfl) ?_
      refine zg_X4_last C hW g_i1 w_250 dX4_become_129 ?_
      obtain ⟨m_23, e_24, h⟩ := seqM_E h
      refine zp_X4_last C hW g_i0 w_250 e_24 dX4_become_132 (fun H locs hW => ?_)
      refine lv_aload_n C.1 C.2.1 dX4_become_135 rfl (lv_at hl 0 rfl) ?_
      refine lv_aload_n C.1 C.2.1 dX4_become_136 rfl (lv_at hl 1 rfl) ?_
      refine zg_X4_tenth C hW g_i1 w_252 dX4_become_137 ?_
      obtain ⟨m_25, e_26, h⟩ := seqM_E h
      refine zp_X4_tenth C hW g_i0 w_252 e_26 dX4_become_140 (fun H locs hW => ?_)
      refine lv_aload_n C.1 C.2.1 dX4_become_143 rfl (lv_at hl 0 rfl) ?_
      refine lv_aload_n C.1 C.2.1 dX4_become_144 rfl (lv_at hl 1 rfl) ?_
      refine zg_X4_z C hW g_i1 w_254 dX4_become_145 ?_
      obtain ⟨m_27, e_28, h⟩ := seqM_E h
      refine zp_X4_z C hW g_i0 w_254 e_28 dX4_become_148 (fun H locs hW => ?_)
      refine lv_aload_n C.1 C.2.1 dX4_become_151 rfl (lv_at hl 0 rfl) ?_
      refine lv_aload_n C.1 C.2.1 dX4_become_152 rfl (lv_at hl 1 rfl) ?_
      refine zg_X4_textsMany C hW g_i1 w_256 dX4_become_153 ?_
      obtain ⟨m_29, e_30, h⟩ := seqM_E h
      refine zp_X4_textsMany C hW g_i0 w_256 e_30 dX4_become_156 (fun H locs hW => ?_)
      refine lv_iconst (v := 0) C.1 C.2.1 dX4_become_159 rfl ?_
      refine lv_istore_n (lv' := [(2, .int 0), (0, .ref (ad X 9 i0)), (1, .ref (ad X 9 i1))]) C.1 C.2.1 dX4_become_160 rfl hl (by decide) rfl (fun ls hl => ?_)
      exact w_X4_become_161 C hq  fu h g_i0 g_i1 hW (lv_sub hl [1, 2, 0] rfl)
    · have h := ite_f hc_37 h
      refine lv_aload_n C.1 C.2.1 dX4_become_18 rfl (lv_at hl 0 rfl) ?_
      refine zg_X4_voices C hW g_i0 w_224 dX4_become_19 ?_
      refine lv_iload_n C.1 C.2.1 dX4_become_22 rfl (lv_at hl 2 rfl) ?_
      obtain ⟨hb_31, h⟩ := chk_E h
      refine zaa_10 C hW (im_9_10 g_i0) (inb_E hb_31) dX4_become_23 ?_
      refine lv_aload_n C.1 C.2.1 dX4_become_24 rfl (lv_at hl 1 rfl) ?_
      refine zg_X4_voices C hW g_i1 w_224 dX4_become_25 ?_
      refine lv_iload_n C.1 C.2.1 dX4_become_28 rfl (lv_at hl 2 rfl) ?_
      obtain ⟨hb_32, h⟩ := chk_E h
      refine zaa_10 C hW (im_9_10 g_i1) (inb_E hb_32) dX4_become_29 ?_
      obtain ⟨m_34, hc_33, h⟩ := doV_E h
      refine zr_cVV C hW (c_X7_become (i0 := (10 * i0 + x2.toNatClampNeg)) (i1 := (10 * i1 + x2.toNatClampNeg)) hc_33 (ia_10 (im_9_10 g_i0) (inb_E hb_31)) (ia_10 (im_9_10 g_i1) (inb_E hb_32))) k_X7_become (zr_recv C hW (ia_10 (im_9_10 g_i0) (inb_E hb_31)) zco_11 rfl) w_593 ⟨Nat.le_of_ble_eq_true rfl, Nat.le_of_ble_eq_true rfl⟩ ⟨Nat.le_refl 0, Nat.le_refl 0⟩ rfl hl.1 rfl (Nat.le_of_ble_eq_true rfl) dX4_become_30 (fun H locs hW => ?_)
      obtain ⟨x_35, e_36, h⟩ := seqM_E h
      refine lv_iinc (v := x_35) (lv' := [(2, .int x_35), (0, .ref (ad X 9 i0)), (1, .ref (ad X 9 i1))]) C.1 C.2.1 dX4_become_33 hl (k := 2) rfl (by rw [e_36]; rfl) (by decide) rfl (fun ls hl => ?_)
      refine lv_goto (tgt := 10) C.1 C.2.1 dX4_become_36 (by decide) ?_
      exact ih h g_i0 g_i1 hW (lv_sub hl [1, 2, 0] rfl)
def f_X4_become (fu : Nat)  (i0 : Nat) (i1 : Nat) (m : Mem) : Option Mem := seqM (upd m (sf i0 1) (m (sf i1 1))) (fun m_1 : Mem => f_X4_become_10 fu fu i0 i1 0 m_1)
set_option maxHeartbeats 4000000 in
set_option maxRecDepth 100000 in
theorem w_X4_become {X : TX} {p : Program} {l : Launch} {e : Env} {s : State} {mi : MethodId} {args : Array Value} {below : List Frame} {meth : Method} {c : Code} {Q : State → Prop} {mE : Mem} (C : Cx X p s mi args c RX4 cX4_become 3) (hq : RetV X p l e (rmD 1) s mi args below meth c cX4_become Q mE) {fu : Nat} {i0 : Nat} {i1 : Nat} {m : Mem} {H : Heap} {locs : List Loc} {ls : Array Slot} (h : f_X4_become fu i0 i1 m = some mE) (g_i0 : (9, i0) ∈ ids) (g_i1 : (9, i1) ∈ ids) (hW : Wd X s m H locs) (hl : lv_has ls 3 [(0, .ref (ad X 9 i0)), (1, .ref (ad X 9 i1))]) : W p l e (rmD 1) s mi args below meth c H locs 0 0 Q (F0 mi 0 ls []) := by
  unfold f_X4_become at h
  refine lv_aload_n C.1 C.2.1 dX4_become_0 rfl (lv_at hl 0 rfl) ?_
  refine lv_aload_n C.1 C.2.1 dX4_become_1 rfl (lv_at hl 1 rfl) ?_
  refine zg_X4_many C hW g_i1 w_226 dX4_become_2 ?_
  obtain ⟨m_1, e_2, h⟩ := seqM_E h
  refine zp_X4_many C hW g_i0 w_226 e_2 dX4_become_5 (fun H locs hW => ?_)
  refine lv_iconst (v := 0) C.1 C.2.1 dX4_become_8 rfl ?_
  refine lv_istore_n (lv' := [(2, .int 0), (0, .ref (ad X 9 i0)), (1, .ref (ad X 9 i1))]) C.1 C.2.1 dX4_become_9 rfl hl (by decide) rfl (fun ls hl => ?_)
  exact w_X4_become_10 C hq  fu h g_i0 g_i1 hW (lv_sub hl [1, 2, 0] rfl)
theorem c_X4_become {X : TX} {l : Launch} {fu : Nat} {i0 : Nat} {i1 : Nat} {m mE : Mem} (h : f_X4_become fu i0 i1 m = some mE) (g_i0 : (9, i0) ∈ ids) (g_i1 : (9, i1) ∈ ids) : MetV X l yX4_become cX4_become 3 1 [.ref (ad X 9 i0), .ref (ad X 9 i1)] m mE :=
  met_V (by decide) (Nat.le_of_ble_eq_true rfl) (fun p e s mi args below meth c ls Q C hq hW hl => w_X4_become C hq h g_i0 g_i1 hW (lv_sub hl [0, 1] rfl))
theorem k_X4_become : CalV yX4_become cX4_become 3 none RX4 1 := ⟨w_590, w_591, w_65, w_592, by decide +kernel⟩
theorem dX4_has_0 : decode cX4_has 0 = .ok (.iload_n 1, 1) := by decide +kernel
theorem dX4_has_1 : decode cX4_has 1 = .ok (.ifCond .lt 15, 3) := by decide +kernel
theorem dX4_has_4 : decode cX4_has 4 = .ok (.iload_n 1, 1) := by decide +kernel
theorem dX4_has_5 : decode cX4_has 5 = .ok (.aload_n 0, 1) := by decide +kernel
theorem dX4_has_6 : decode cX4_has 6 = .ok (.getfield 39, 3) := by decide +kernel
theorem dX4_has_9 : decode cX4_has 9 = .ok (.if_icmp .ge 7, 3) := by decide +kernel
theorem dX4_has_12 : decode cX4_has 12 = .ok (.iconst 1, 1) := by decide +kernel
theorem dX4_has_13 : decode cX4_has 13 = .ok (.goto 4, 3) := by decide +kernel
theorem dX4_has_16 : decode cX4_has 16 = .ok (.iconst 0, 1) := by decide +kernel
theorem dX4_has_17 : decode cX4_has 17 = .ok (.ireturn, 1) := by decide +kernel
def f_X4_has (fu : Nat)  (i0 : Nat) (x1 : Int32) (m : Mem) : Option (Int32 × Mem) := if x1 < 0 then (some (0, m)) else (if (m (sf i0 1)) ≤ x1 then (some (0, m)) else (some (1, m)))
set_option maxHeartbeats 4000000 in
set_option maxRecDepth 100000 in
theorem w_X4_has {X : TX} {p : Program} {l : Launch} {e : Env} {s : State} {mi : MethodId} {args : Array Value} {below : List Frame} {meth : Method} {c : Code} {Q : State → Prop} {r : Int32} {mE : Mem} (C : Cx X p s mi args c RX4 cX4_has 2) (hq : RetI X p l e (rmD 0) s mi args below meth c cX4_has .boolean Q r mE) {fu : Nat} {i0 : Nat} {x1 : Int32} {m : Mem} {H : Heap} {locs : List Loc} {ls : Array Slot} (h : f_X4_has fu i0 x1 m = some (r, mE)) (g_i0 : (9, i0) ∈ ids) (hW : Wd X s m H locs) (hl : lv_has ls 2 [(0, .ref (ad X 9 i0)), (1, .int x1)]) : W p l e (rmD 0) s mi args below meth c H locs 0 0 Q (F0 mi 0 ls []) := by
  unfold f_X4_has at h
  refine lv_iload_n C.1 C.2.1 dX4_has_0 rfl (lv_at hl 1 rfl) ?_
  refine lv_if_lt (tgt := 16) C.1 C.2.1 dX4_has_1 (by decide) (fun hc_2 => ?_) (fun hc_2 => ?_)
  · have h := ite_t hc_2 h
    refine lv_iconst (v := 0) C.1 C.2.1 dX4_has_16 rfl ?_
    exact ret_i h hq rfl hW dX4_has_17
  · have h := ite_f hc_2 h
    refine lv_iload_n C.1 C.2.1 dX4_has_4 rfl (lv_at hl 1 rfl) ?_
    refine lv_aload_n C.1 C.2.1 dX4_has_5 rfl (lv_at hl 0 rfl) ?_
    refine zg_X4_many C hW g_i0 w_226 dX4_has_6 ?_
    refine lv_icmp_ge (tgt := 16) C.1 C.2.1 dX4_has_9 (by decide) (fun hc_1 => ?_) (fun hc_1 => ?_)
    · have h := ite_t hc_1 h
      refine lv_iconst (v := 0) C.1 C.2.1 dX4_has_16 rfl ?_
      exact ret_i h hq rfl hW dX4_has_17
    · have h := ite_f hc_1 h
      refine lv_iconst (v := 1) C.1 C.2.1 dX4_has_12 rfl ?_
      refine lv_goto (tgt := 17) C.1 C.2.1 dX4_has_13 (by decide) ?_
      exact ret_i h hq rfl hW dX4_has_17
theorem c_X4_has {X : TX} {l : Launch} {fu : Nat} {i0 : Nat} {x1 : Int32} {m mE : Mem} {r : Int32} (h : f_X4_has fu i0 x1 m = some (r, mE)) (g_i0 : (9, i0) ∈ ids) : MetI X l yX4_has cX4_has 2 .boolean 0 [.ref (ad X 9 i0), .int x1] m r mE :=
  met_I (by decide) (Nat.le_of_ble_eq_true rfl) (fun p e s mi args below meth c ls Q C hq hW hl => w_X4_has C hq h g_i0 hW (lv_sub hl [0, 1] rfl))
theorem k_X4_has : CalV yX4_has cX4_has 2 (some .boolean) RX4 1 := ⟨w_423, w_424, w_65, w_425, by decide +kernel⟩
theorem dX4_hasRoom_0 : decode cX4_hasRoom 0 = .ok (.aload_n 0, 1) := by decide +kernel
theorem dX4_hasRoom_1 : decode cX4_hasRoom 1 = .ok (.getfield 39, 3) := by decide +kernel
theorem dX4_hasRoom_4 : decode cX4_hasRoom 4 = .ok (.iconst 5, 1) := by decide +kernel
theorem dX4_hasRoom_5 : decode cX4_hasRoom 5 = .ok (.if_icmp .ge 7, 3) := by decide +kernel
theorem dX4_hasRoom_8 : decode cX4_hasRoom 8 = .ok (.iconst 1, 1) := by decide +kernel
theorem dX4_hasRoom_9 : decode cX4_hasRoom 9 = .ok (.goto 4, 3) := by decide +kernel
theorem dX4_hasRoom_12 : decode cX4_hasRoom 12 = .ok (.iconst 0, 1) := by decide +kernel
theorem dX4_hasRoom_13 : decode cX4_hasRoom 13 = .ok (.ireturn, 1) := by decide +kernel
def f_X4_hasRoom (fu : Nat)  (i0 : Nat) (m : Mem) : Option (Int32 × Mem) := if 5 ≤ (m (sf i0 1)) then (some (0, m)) else (some (1, m))
set_option maxHeartbeats 4000000 in
set_option maxRecDepth 100000 in
theorem w_X4_hasRoom {X : TX} {p : Program} {l : Launch} {e : Env} {s : State} {mi : MethodId} {args : Array Value} {below : List Frame} {meth : Method} {c : Code} {Q : State → Prop} {r : Int32} {mE : Mem} (C : Cx X p s mi args c RX4 cX4_hasRoom 1) (hq : RetI X p l e (rmD 0) s mi args below meth c cX4_hasRoom .boolean Q r mE) {fu : Nat} {i0 : Nat} {m : Mem} {H : Heap} {locs : List Loc} {ls : Array Slot} (h : f_X4_hasRoom fu i0 m = some (r, mE)) (g_i0 : (9, i0) ∈ ids) (hW : Wd X s m H locs) (hl : lv_has ls 1 [(0, .ref (ad X 9 i0))]) : W p l e (rmD 0) s mi args below meth c H locs 0 0 Q (F0 mi 0 ls []) := by
  unfold f_X4_hasRoom at h
  refine lv_aload_n C.1 C.2.1 dX4_hasRoom_0 rfl (lv_at hl 0 rfl) ?_
  refine zg_X4_many C hW g_i0 w_226 dX4_hasRoom_1 ?_
  refine lv_iconst (v := 5) C.1 C.2.1 dX4_hasRoom_4 rfl ?_
  refine lv_icmp_ge (tgt := 12) C.1 C.2.1 dX4_hasRoom_5 (by decide) (fun hc_1 => ?_) (fun hc_1 => ?_)
  · have h := ite_t hc_1 h
    refine lv_iconst (v := 0) C.1 C.2.1 dX4_hasRoom_12 rfl ?_
    exact ret_i h hq rfl hW dX4_hasRoom_13
  · have h := ite_f hc_1 h
    refine lv_iconst (v := 1) C.1 C.2.1 dX4_hasRoom_8 rfl ?_
    refine lv_goto (tgt := 13) C.1 C.2.1 dX4_hasRoom_9 (by decide) ?_
    exact ret_i h hq rfl hW dX4_hasRoom_13
theorem c_X4_hasRoom {X : TX} {l : Launch} {fu : Nat} {i0 : Nat} {m mE : Mem} {r : Int32} (h : f_X4_hasRoom fu i0 m = some (r, mE)) (g_i0 : (9, i0) ∈ ids) : MetI X l yX4_hasRoom cX4_hasRoom 1 .boolean 0 [.ref (ad X 9 i0)] m r mE :=
  met_I (by decide) (Nat.le_of_ble_eq_true rfl) (fun p e s mi args below meth c ls Q C hq hW hl => w_X4_hasRoom C hq h g_i0 hW (lv_sub hl [0] rfl))
theorem k_X4_hasRoom : CalV yX4_hasRoom cX4_hasRoom 1 (some .boolean) RX4 0 := ⟨w_410, w_411, w_65, w_412, by decide +kernel⟩
theorem dX4_seat_0 : decode cX4_seat 0 = .ok (.aload_n 0, 1) := by decide +kernel
theorem dX4_seat_1 : decode cX4_seat 1 = .ok (.getfield 39, 3) := by decide +kernel
theorem dX4_seat_4 : decode cX4_seat 4 = .ok (.istore 4, 2) := by decide +kernel
theorem dX4_seat_6 : decode cX4_seat 6 = .ok (.aload_n 0, 1) := by decide +kernel
theorem dX4_seat_7 : decode cX4_seat 7 = .ok (.getfield 11, 3) := by decide +kernel
theorem dX4_seat_10 : decode cX4_seat 10 = .ok (.iload 4, 2) := by decide +kernel
theorem dX4_seat_12 : decode cX4_seat 12 = .ok (.aaload, 1) := by decide +kernel
theorem dX4_seat_13 : decode cX4_seat 13 = .ok (.astore 5, 2) := by decide +kernel
theorem dX4_seat_15 : decode cX4_seat 15 = .ok (.aload 5, 2) := by decide +kernel
theorem dX4_seat_17 : decode cX4_seat 17 = .ok (.iload_n 1, 1) := by decide +kernel
theorem dX4_seat_18 : decode cX4_seat 18 = .ok (.putfield 79, 3) := by decide +kernel
theorem dX4_seat_21 : decode cX4_seat 21 = .ok (.aload 5, 2) := by decide +kernel
theorem dX4_seat_23 : decode cX4_seat 23 = .ok (.iload_n 2, 1) := by decide +kernel
theorem dX4_seat_24 : decode cX4_seat 24 = .ok (.putfield 82, 3) := by decide +kernel
theorem dX4_seat_27 : decode cX4_seat 27 = .ok (.aload 5, 2) := by decide +kernel
theorem dX4_seat_29 : decode cX4_seat 29 = .ok (.iload_n 3, 1) := by decide +kernel
theorem dX4_seat_30 : decode cX4_seat 30 = .ok (.putfield 85, 3) := by decide +kernel
theorem dX4_seat_33 : decode cX4_seat 33 = .ok (.aload 5, 2) := by decide +kernel
theorem dX4_seat_35 : decode cX4_seat 35 = .ok (.iconst 0, 1) := by decide +kernel
theorem dX4_seat_36 : decode cX4_seat 36 = .ok (.putfield 88, 3) := by decide +kernel
theorem dX4_seat_39 : decode cX4_seat 39 = .ok (.aload 5, 2) := by decide +kernel
theorem dX4_seat_41 : decode cX4_seat 41 = .ok (.iconst 0, 1) := by decide +kernel
theorem dX4_seat_42 : decode cX4_seat 42 = .ok (.putfield 91, 3) := by decide +kernel
theorem dX4_seat_45 : decode cX4_seat 45 = .ok (.aload 5, 2) := by decide +kernel
theorem dX4_seat_47 : decode cX4_seat 47 = .ok (.iconst 0, 1) := by decide +kernel
theorem dX4_seat_48 : decode cX4_seat 48 = .ok (.putfield 94, 3) := by decide +kernel
theorem dX4_seat_51 : decode cX4_seat 51 = .ok (.aload 5, 2) := by decide +kernel
theorem dX4_seat_53 : decode cX4_seat 53 = .ok (.iconst 0, 1) := by decide +kernel
theorem dX4_seat_54 : decode cX4_seat 54 = .ok (.putfield 97, 3) := by decide +kernel
theorem dX4_seat_57 : decode cX4_seat 57 = .ok (.aload_n 0, 1) := by decide +kernel
theorem dX4_seat_58 : decode cX4_seat 58 = .ok (.dup, 1) := by decide +kernel
theorem dX4_seat_59 : decode cX4_seat 59 = .ok (.getfield 39, 3) := by decide +kernel
theorem dX4_seat_62 : decode cX4_seat 62 = .ok (.iconst 1, 1) := by decide +kernel
theorem dX4_seat_63 : decode cX4_seat 63 = .ok (.iadd, 1) := by decide +kernel
theorem dX4_seat_64 : decode cX4_seat 64 = .ok (.putfield 39, 3) := by decide +kernel
theorem dX4_seat_67 : decode cX4_seat 67 = .ok (.iload 4, 2) := by decide +kernel
theorem dX4_seat_69 : decode cX4_seat 69 = .ok (.ireturn, 1) := by decide +kernel
def f_X4_seat (fu : Nat)  (i0 : Nat) (x1 : Int32) (x2 : Int32) (x3 : Int32) (m : Mem) : Option (Int32 × Mem) := seqM (m (sf i0 1)) (fun x_1 : Int32 => chk (inb x_1 5) (seqM (upd m (vf (10 * i0 + x_1.toNatClampNeg) 0) x1) (fun m_4 : Mem => seqM (upd m_4 (vf (10 * i0 + x_1.toNatClampNeg) 1) x2) (fun m_6 : Mem => seqM (upd m_6 (vf (10 * i0 + x_1.toNatClampNeg) 2) x3) (fun m_8 : Mem => seqM (upd m_8 (vf (10 * i0 + x_1.toNatClampNeg) 3) 0) (fun m_10 : Mem => seqM (upd m_10 (vf (10 * i0 + x_1.toNatClampNeg) 4) 0) (fun m_12 : Mem => seqM (upd m_12 (vf (10 * i0 + x_1.toNatClampNeg) 5) 0) (fun m_14 : Mem => seqM (upd m_14 (vf (10 * i0 + x_1.toNatClampNeg) 6) 0) (fun m_16 : Mem => seqM (upd m_16 (sf i0 1) ((m_16 (sf i0 1)) + 1)) (fun m_18 : Mem => some (x_1, m_18)))))))))))
set_option maxHeartbeats 4000000 in
set_option maxRecDepth 100000 in
theorem w_X4_seat {X : TX} {p : Program} {l : Launch} {e : Env} {s : State} {mi : MethodId} {args : Array Value} {below : List Frame} {meth : Method} {c : Code} {Q : State → Prop} {r : Int32} {mE : Mem} (C : Cx X p s mi args c RX4 cX4_seat 6) (hq : RetI X p l e (rmD 0) s mi args below meth c cX4_seat .int Q r mE) {fu : Nat} {i0 : Nat} {x1 : Int32} {x2 : Int32} {x3 : Int32} {m : Mem} {H : Heap} {locs : List Loc} {ls : Array Slot} (h : f_X4_seat fu i0 x1 x2 x3 m = some (r, mE)) (g_i0 : (9, i0) ∈ ids) (hW : Wd X s m H locs) (hl : lv_has ls 6 [(0, .ref (ad X 9 i0)), (1, .int x1), (2, .int x2), (3, .int x3)]) : W p l e (rmD 0) s mi args below meth c H locs 0 0 Q (F0 mi 0 ls []) := by
  unfold f_X4_seat at h
  refine lv_aload_n C.1 C.2.1 dX4_seat_0 rfl (lv_at hl 0 rfl) ?_
  refine zg_X4_many C hW g_i0 w_226 dX4_seat_1 ?_
  obtain ⟨x_1, e_2, h⟩ := seqM_E h
  refine lv_name e_2 ?_
  refine lv_istore (lv' := [(4, .int x_1), (0, .ref (ad X 9 i0)), (1, .int x1), (2, .int x2), (3, .int x3)]) C.1 C.2.1 dX4_seat_4 hl (by decide) rfl (fun ls hl => ?_)
  refine lv_aload_n C.1 C.2.1 dX4_seat_6 rfl (lv_at hl 1 rfl) ?_
  refine zg_X4_voices C hW g_i0 w_224 dX4_seat_7 ?_
  refine lv_iload C.1 C.2.1 dX4_seat_10 (lv_at hl 0 rfl) ?_
  obtain ⟨hb_3, h⟩ := chk_E h
  refine zaa_10 C hW (im_9_10 g_i0) (inb_E hb_3) dX4_seat_12 ?_
  refine lv_astore (lv' := [(5, .ref (ad X 11 (10 * i0 + x_1.toNatClampNeg))), (4, .int x_1), (0, .ref (ad X 9 i0)), (1, .int x1), (2, .int x2), (3, .int x3)]) C.1 C.2.1 dX4_seat_13 hl (by decide) rfl (fun ls hl => ?_)
  refine lv_aload C.1 C.2.1 dX4_seat_15 (lv_at hl 0 rfl) ?_
  refine lv_iload_n C.1 C.2.1 dX4_seat_17 rfl (lv_at hl 3 rfl) ?_
  obtain ⟨m_4, e_5, h⟩ := seqM_E h
  refine zp_X7_kind C hW (ia_10 (im_9_10 g_i0) (inb_E hb_3)) w_190 e_5 dX4_seat_18 (fun H locs hW => ?_)
  refine lv_aload C.1 C.2.1 dX4_seat_21 (lv_at hl 0 rfl) ?_
  refine lv_iload_n C.1 C.2.1 dX4_seat_23 rfl (lv_at hl 4 rfl) ?_
  obtain ⟨m_6, e_7, h⟩ := seqM_E h
  refine zp_X7_wait C hW (ia_10 (im_9_10 g_i0) (inb_E hb_3)) w_193 e_7 dX4_seat_24 (fun H locs hW => ?_)
  refine lv_aload C.1 C.2.1 dX4_seat_27 (lv_at hl 0 rfl) ?_
  refine lv_iload_n C.1 C.2.1 dX4_seat_29 rfl (lv_at hl 5 rfl) ?_
  obtain ⟨m_8, e_9, h⟩ := seqM_E h
  refine zp_X7_talk C hW (ia_10 (im_9_10 g_i0) (inb_E hb_3)) w_196 e_9 dX4_seat_30 (fun H locs hW => ?_)
  refine lv_aload C.1 C.2.1 dX4_seat_33 (lv_at hl 0 rfl) ?_
  refine lv_iconst (v := 0) C.1 C.2.1 dX4_seat_35 rfl ?_
  obtain ⟨m_10, e_11, h⟩ := seqM_E h
  refine zp_X7_pause C hW (ia_10 (im_9_10 g_i0) (inb_E hb_3)) w_199 e_11 dX4_seat_36 (fun H locs hW => ?_)
  refine lv_aload C.1 C.2.1 dX4_seat_39 (lv_at hl 0 rfl) ?_
  refine lv_iconst (v := 0) C.1 C.2.1 dX4_seat_41 rfl ?_
  obtain ⟨m_12, e_13, h⟩ := seqM_E h
  refine zp_X7_left C hW (ia_10 (im_9_10 g_i0) (inb_E hb_3)) w_202 e_13 dX4_seat_42 (fun H locs hW => ?_)
  refine lv_aload C.1 C.2.1 dX4_seat_45 (lv_at hl 0 rfl) ?_
  refine lv_iconst (v := 0) C.1 C.2.1 dX4_seat_47 rfl ?_
  obtain ⟨m_14, e_15, h⟩ := seqM_E h
  refine zp_X7_back C hW (ia_10 (im_9_10 g_i0) (inb_E hb_3)) w_205 e_15 dX4_seat_48 (fun H locs hW => ?_)
  refine lv_aload C.1 C.2.1 dX4_seat_51 (lv_at hl 0 rfl) ?_
  refine lv_iconst (v := 0) C.1 C.2.1 dX4_seat_53 rfl ?_
  obtain ⟨m_16, e_17, h⟩ := seqM_E h
  refine zp_X7_said C hW (ia_10 (im_9_10 g_i0) (inb_E hb_3)) w_208 e_17 dX4_seat_54 (fun H locs hW => ?_)
  refine lv_aload_n C.1 C.2.1 dX4_seat_57 rfl (lv_at hl 2 rfl) ?_
  refine lv_dup C.1 C.2.1 dX4_seat_58 rfl ?_
  refine zg_X4_many C hW g_i0 w_226 dX4_seat_59 ?_
  refine lv_iconst (v := 1) C.1 C.2.1 dX4_seat_62 rfl ?_
  refine lv_iadd C.1 C.2.1 dX4_seat_63 ?_
  obtain ⟨m_18, e_19, h⟩ := seqM_E h
  refine zp_X4_many C hW g_i0 w_226 e_19 dX4_seat_64 (fun H locs hW => ?_)
  refine lv_iload C.1 C.2.1 dX4_seat_67 (lv_at hl 1 rfl) ?_
  exact ret_i h hq rfl hW dX4_seat_69
theorem c_X4_seat {X : TX} {l : Launch} {fu : Nat} {i0 : Nat} {x1 : Int32} {x2 : Int32} {x3 : Int32} {m mE : Mem} {r : Int32} (h : f_X4_seat fu i0 x1 x2 x3 m = some (r, mE)) (g_i0 : (9, i0) ∈ ids) : MetI X l yX4_seat cX4_seat 6 .int 0 [.ref (ad X 9 i0), .int x1, .int x2, .int x3] m r mE :=
  met_I (by decide) (Nat.le_of_ble_eq_true rfl) (fun p e s mi args below meth c ls Q C hq hW hl => w_X4_seat C hq h g_i0 hW (lv_sub hl [0, 1, 2, 3] rfl))
theorem k_X4_seat : CalV yX4_seat cX4_seat 6 (some .int) RX4 3 := ⟨w_415, w_416, w_65, w_417, by decide +kernel⟩
theorem dX4_drawBelow_0 : decode cX4_drawBelow 0 = .ok (.aload_n 0, 1) := by decide +kernel
theorem dX4_drawBelow_1 : decode cX4_drawBelow 1 = .ok (.aload_n 0, 1) := by decide +kernel
theorem dX4_drawBelow_2 : decode cX4_drawBelow 2 = .ok (.getfield 28, 3) := by decide +kernel
theorem dX4_drawBelow_5 : decode cX4_drawBelow 5 = .ok (.ldc 112, 2) := by decide +kernel
theorem dX4_drawBelow_7 : decode cX4_drawBelow 7 = .ok (.imul, 1) := by decide +kernel
theorem dX4_drawBelow_8 : decode cX4_drawBelow 8 = .ok (.sipush 12345, 3) := by decide +kernel
theorem dX4_drawBelow_11 : decode cX4_drawBelow 11 = .ok (.iadd, 1) := by decide +kernel
theorem dX4_drawBelow_12 : decode cX4_drawBelow 12 = .ok (.putfield 28, 3) := by decide +kernel
theorem dX4_drawBelow_15 : decode cX4_drawBelow 15 = .ok (.iload_n 1, 1) := by decide +kernel
theorem dX4_drawBelow_16 : decode cX4_drawBelow 16 = .ok (.iconst 1, 1) := by decide +kernel
theorem dX4_drawBelow_17 : decode cX4_drawBelow 17 = .ok (.if_icmp .ge 7, 3) := by decide +kernel
theorem dX4_drawBelow_20 : decode cX4_drawBelow 20 = .ok (.iconst 0, 1) := by decide +kernel
theorem dX4_drawBelow_21 : decode cX4_drawBelow 21 = .ok (.goto 12, 3) := by decide +kernel
theorem dX4_drawBelow_24 : decode cX4_drawBelow 24 = .ok (.aload_n 0, 1) := by decide +kernel
theorem dX4_drawBelow_25 : decode cX4_drawBelow 25 = .ok (.getfield 28, 3) := by decide +kernel
theorem dX4_drawBelow_28 : decode cX4_drawBelow 28 = .ok (.bipush 8, 2) := by decide +kernel
theorem dX4_drawBelow_30 : decode cX4_drawBelow 30 = .ok (.iushr, 1) := by decide +kernel
theorem dX4_drawBelow_31 : decode cX4_drawBelow 31 = .ok (.iload_n 1, 1) := by decide +kernel
theorem dX4_drawBelow_32 : decode cX4_drawBelow 32 = .ok (.irem, 1) := by decide +kernel
theorem dX4_drawBelow_33 : decode cX4_drawBelow 33 = .ok (.ireturn, 1) := by decide +kernel
def f_X4_drawBelow (fu : Nat)  (i0 : Nat) (x1 : Int32) (m : Mem) : Option (Int32 × Mem) := seqM (upd m (sf i0 0) (((m (sf i0 0)) * 1103515245) + 12345)) (fun m_1 : Mem => if 1 ≤ x1 then (chk (nz x1) (some ((irem (ushr (m_1 (sf i0 0)) 8) x1), m_1))) else (some (0, m_1)))
set_option maxHeartbeats 4000000 in
set_option maxRecDepth 100000 in
theorem w_X4_drawBelow {X : TX} {p : Program} {l : Launch} {e : Env} {s : State} {mi : MethodId} {args : Array Value} {below : List Frame} {meth : Method} {c : Code} {Q : State → Prop} {r : Int32} {mE : Mem} (C : Cx X p s mi args c RX4 cX4_drawBelow 2) (hq : RetI X p l e (rmD 0) s mi args below meth c cX4_drawBelow .int Q r mE) {fu : Nat} {i0 : Nat} {x1 : Int32} {m : Mem} {H : Heap} {locs : List Loc} {ls : Array Slot} (h : f_X4_drawBelow fu i0 x1 m = some (r, mE)) (g_i0 : (9, i0) ∈ ids) (hW : Wd X s m H locs) (hl : lv_has ls 2 [(0, .ref (ad X 9 i0)), (1, .int x1)]) : W p l e (rmD 0) s mi args below meth c H locs 0 0 Q (F0 mi 0 ls []) := by
  unfold f_X4_drawBelow at h
  refine lv_aload_n C.1 C.2.1 dX4_drawBelow_0 rfl (lv_at hl 0 rfl) ?_
  refine lv_aload_n C.1 C.2.1 dX4_drawBelow_1 rfl (lv_at hl 0 rfl) ?_
  refine zg_X4_z C hW g_i0 w_254 dX4_drawBelow_2 ?_
  refine lv_ldc C.1 C.2.1 C.2.2.2.1 (C.2.2.2.2.1 _ w_502) dX4_drawBelow_5 ?_
  refine lv_imul C.1 C.2.1 dX4_drawBelow_7 ?_
  refine lv_sipush (v := 12345) C.1 C.2.1 dX4_drawBelow_8 rfl ?_
  refine lv_iadd C.1 C.2.1 dX4_drawBelow_11 ?_
  obtain ⟨m_1, e_2, h⟩ := seqM_E h
  refine zp_X4_z C hW g_i0 w_254 e_2 dX4_drawBelow_12 (fun H locs hW => ?_)
  refine lv_iload_n C.1 C.2.1 dX4_drawBelow_15 rfl (lv_at hl 1 rfl) ?_
  refine lv_iconst (v := 1) C.1 C.2.1 dX4_drawBelow_16 rfl ?_
  refine lv_icmp_ge (tgt := 24) C.1 C.2.1 dX4_drawBelow_17 (by decide) (fun hc_4 => ?_) (fun hc_4 => ?_)
  · have h := ite_t hc_4 h
    refine lv_aload_n C.1 C.2.1 dX4_drawBelow_24 rfl (lv_at hl 0 rfl) ?_
    refine zg_X4_z C hW g_i0 w_254 dX4_drawBelow_25 ?_
    refine lv_bipush (v := 8) C.1 C.2.1 dX4_drawBelow_28 rfl ?_
    refine lv_iushr (v := (ushr (m_1 (sf i0 0)) 8)) C.1 C.2.1 dX4_drawBelow_30 rfl ?_
    refine lv_iload_n C.1 C.2.1 dX4_drawBelow_31 rfl (lv_at hl 1 rfl) ?_
    obtain ⟨hb_3, h⟩ := chk_E h
    refine zr_irem C.1 C.2.1 dX4_drawBelow_32 (nz_E hb_3) ?_
    exact ret_i h hq rfl hW dX4_drawBelow_33
  · have h := ite_f hc_4 h
    refine lv_iconst (v := 0) C.1 C.2.1 dX4_drawBelow_20 rfl ?_
    refine lv_goto (tgt := 33) C.1 C.2.1 dX4_drawBelow_21 (by decide) ?_
    exact ret_i h hq rfl hW dX4_drawBelow_33
theorem c_X4_drawBelow {X : TX} {l : Launch} {fu : Nat} {i0 : Nat} {x1 : Int32} {m mE : Mem} {r : Int32} (h : f_X4_drawBelow fu i0 x1 m = some (r, mE)) (g_i0 : (9, i0) ∈ ids) : MetI X l yX4_drawBelow cX4_drawBelow 2 .int 0 [.ref (ad X 9 i0), .int x1] m r mE :=
  met_I (by decide) (Nat.le_of_ble_eq_true rfl) (fun p e s mi args below meth c ls Q C hq hW hl => w_X4_drawBelow C hq h g_i0 hW (lv_sub hl [0, 1] rfl))
theorem k_X4_drawBelow : CalV yX4_drawBelow cX4_drawBelow 2 (some .int) RX4 1 := ⟨w_500, w_1, w_65, w_501, by decide +kernel⟩
theorem dX4_seatDrawn_0 : decode cX4_seatDrawn 0 = .ok (.aload_n 0, 1) := by decide +kernel
theorem dX4_seatDrawn_1 : decode cX4_seatDrawn 1 = .ok (.bipush 6, 2) := by decide +kernel
theorem dX4_seatDrawn_3 : decode cX4_seatDrawn 3 = .ok (.invokevirtual 100, 3) := by decide +kernel
theorem dX4_seatDrawn_6 : decode cX4_seatDrawn 6 = .ok (.istore_n 1, 1) := by decide +kernel
theorem dX4_seatDrawn_7 : decode cX4_seatDrawn 7 = .ok (.iconst 1, 1) := by decide +kernel
theorem dX4_seatDrawn_8 : decode cX4_seatDrawn 8 = .ok (.aload_n 0, 1) := by decide +kernel
theorem dX4_seatDrawn_9 : decode cX4_seatDrawn 9 = .ok (.bipush 20, 2) := by decide +kernel
theorem dX4_seatDrawn_11 : decode cX4_seatDrawn 11 = .ok (.invokevirtual 100, 3) := by decide +kernel
theorem dX4_seatDrawn_14 : decode cX4_seatDrawn 14 = .ok (.iadd, 1) := by decide +kernel
theorem dX4_seatDrawn_15 : decode cX4_seatDrawn 15 = .ok (.istore_n 2, 1) := by decide +kernel
theorem dX4_seatDrawn_16 : decode cX4_seatDrawn 16 = .ok (.iconst 1, 1) := by decide +kernel
theorem dX4_seatDrawn_17 : decode cX4_seatDrawn 17 = .ok (.aload_n 0, 1) := by decide +kernel
theorem dX4_seatDrawn_18 : decode cX4_seatDrawn 18 = .ok (.bipush 40, 2) := by decide +kernel
theorem dX4_seatDrawn_20 : decode cX4_seatDrawn 20 = .ok (.invokevirtual 100, 3) := by decide +kernel
theorem dX4_seatDrawn_23 : decode cX4_seatDrawn 23 = .ok (.iadd, 1) := by decide +kernel
theorem dX4_seatDrawn_24 : decode cX4_seatDrawn 24 = .ok (.istore_n 3, 1) := by decide +kernel
theorem dX4_seatDrawn_25 : decode cX4_seatDrawn 25 = .ok (.aload_n 0, 1) := by decide +kernel
theorem dX4_seatDrawn_26 : decode cX4_seatDrawn 26 = .ok (.iload_n 1, 1) := by decide +kernel
theorem dX4_seatDrawn_27 : decode cX4_seatDrawn 27 = .ok (.iload_n 2, 1) := by decide +kernel
theorem dX4_seatDrawn_28 : decode cX4_seatDrawn 28 = .ok (.iload_n 3, 1) := by decide +kernel
theorem dX4_seatDrawn_29 : decode cX4_seatDrawn 29 = .ok (.invokevirtual 104, 3) := by decide +kernel
theorem dX4_seatDrawn_32 : decode cX4_seatDrawn 32 = .ok (.pop, 1) := by decide +kernel
theorem dX4_seatDrawn_33 : decode cX4_seatDrawn 33 = .ok (.return_, 1) := by decide +kernel
def f_X4_seatDrawn (fu : Nat)  (i0 : Nat) (m : Mem) : Option Mem := doI (f_X4_drawBelow fu i0 6 m) (fun r_3 m_2 => doI (f_X4_drawBelow fu i0 20 m_2) (fun r_6 m_5 => seqM (1 + r_6) (fun x_7 : Int32 => doI (f_X4_drawBelow fu i0 40 m_5) (fun r_11 m_10 => seqM (1 + r_11) (fun x_12 : Int32 => doI (f_X4_seat fu i0 r_3 x_7 x_12 m_10) (fun r_16 m_15 => some m_15))))))
set_option maxHeartbeats 4000000 in
set_option maxRecDepth 100000 in
theorem w_X4_seatDrawn {X : TX} {p : Program} {l : Launch} {e : Env} {s : State} {mi : MethodId} {args : Array Value} {below : List Frame} {meth : Method} {c : Code} {Q : State → Prop} {mE : Mem} (C : Cx X p s mi args c RX4 cX4_seatDrawn 4) (hq : RetV X p l e (rmD 1) s mi args below meth c cX4_seatDrawn Q mE) {fu : Nat} {i0 : Nat} {m : Mem} {H : Heap} {locs : List Loc} {ls : Array Slot} (h : f_X4_seatDrawn fu i0 m = some mE) (g_i0 : (9, i0) ∈ ids) (hW : Wd X s m H locs) (hl : lv_has ls 4 [(0, .ref (ad X 9 i0))]) : W p l e (rmD 1) s mi args below meth c H locs 0 0 Q (F0 mi 0 ls []) := by
  unfold f_X4_seatDrawn at h
  refine lv_aload_n C.1 C.2.1 dX4_seatDrawn_0 rfl (lv_at hl 0 rfl) ?_
  refine lv_bipush (v := 6) C.1 C.2.1 dX4_seatDrawn_1 rfl ?_
  obtain ⟨r_3, m_2, hc_1, h⟩ := doI_E h
  refine zr_cVI C hW (c_X4_drawBelow (i0 := i0) (x1 := 6) hc_1 g_i0) k_X4_drawBelow (zr_recv C hW g_i0 zco_9 rfl) w_498 ⟨Nat.le_of_ble_eq_true rfl, Nat.le_of_ble_eq_true rfl⟩ ⟨Nat.le_refl 0, Nat.le_refl 0⟩ rfl hl.1 rfl (Nat.le_of_ble_eq_true rfl) dX4_seatDrawn_3 (fun H locs hW => ?_)
  refine lv_istore_n (lv' := [(1, .int r_3), (0, .ref (ad X 9 i0))]) C.1 C.2.1 dX4_seatDrawn_6 rfl hl (by decide) rfl (fun ls hl => ?_)
  refine lv_iconst (v := 1) C.1 C.2.1 dX4_seatDrawn_7 rfl ?_
  refine lv_aload_n C.1 C.2.1 dX4_seatDrawn_8 rfl (lv_at hl 1 rfl) ?_
  refine lv_bipush (v := 20) C.1 C.2.1 dX4_seatDrawn_9 rfl ?_
  obtain ⟨r_6, m_5, hc_4, h⟩ := doI_E h
  refine zr_cVI C hW (c_X4_drawBelow (i0 := i0) (x1 := 20) hc_4 g_i0) k_X4_drawBelow (zr_recv C hW g_i0 zco_9 rfl) w_498 ⟨Nat.le_of_ble_eq_true rfl, Nat.le_of_ble_eq_true rfl⟩ ⟨Nat.le_refl 0, Nat.le_refl 0⟩ rfl hl.1 rfl (Nat.le_of_ble_eq_true rfl) dX4_seatDrawn_11 (fun H locs hW => ?_)
  refine lv_iadd C.1 C.2.1 dX4_seatDrawn_14 ?_
  obtain ⟨x_7, e_8, h⟩ := seqM_E h
  refine lv_name e_8 ?_
  refine lv_istore_n (lv' := [(2, .int x_7), (1, .int r_3), (0, .ref (ad X 9 i0))]) C.1 C.2.1 dX4_seatDrawn_15 rfl hl (by decide) rfl (fun ls hl => ?_)
  refine lv_iconst (v := 1) C.1 C.2.1 dX4_seatDrawn_16 rfl ?_
  refine lv_aload_n C.1 C.2.1 dX4_seatDrawn_17 rfl (lv_at hl 2 rfl) ?_
  refine lv_bipush (v := 40) C.1 C.2.1 dX4_seatDrawn_18 rfl ?_
  obtain ⟨r_11, m_10, hc_9, h⟩ := doI_E h
  refine zr_cVI C hW (c_X4_drawBelow (i0 := i0) (x1 := 40) hc_9 g_i0) k_X4_drawBelow (zr_recv C hW g_i0 zco_9 rfl) w_498 ⟨Nat.le_of_ble_eq_true rfl, Nat.le_of_ble_eq_true rfl⟩ ⟨Nat.le_refl 0, Nat.le_refl 0⟩ rfl hl.1 rfl (Nat.le_of_ble_eq_true rfl) dX4_seatDrawn_20 (fun H locs hW => ?_)
  refine lv_iadd C.1 C.2.1 dX4_seatDrawn_23 ?_
  obtain ⟨x_12, e_13, h⟩ := seqM_E h
  refine lv_name e_13 ?_
  refine lv_istore_n (lv' := [(3, .int x_12), (2, .int x_7), (1, .int r_3), (0, .ref (ad X 9 i0))]) C.1 C.2.1 dX4_seatDrawn_24 rfl hl (by decide) rfl (fun ls hl => ?_)
  refine lv_aload_n C.1 C.2.1 dX4_seatDrawn_25 rfl (lv_at hl 3 rfl) ?_
  refine lv_iload_n C.1 C.2.1 dX4_seatDrawn_26 rfl (lv_at hl 2 rfl) ?_
  refine lv_iload_n C.1 C.2.1 dX4_seatDrawn_27 rfl (lv_at hl 1 rfl) ?_
  refine lv_iload_n C.1 C.2.1 dX4_seatDrawn_28 rfl (lv_at hl 0 rfl) ?_
  obtain ⟨r_16, m_15, hc_14, h⟩ := doI_E h
  refine zr_cVI C hW (c_X4_seat (i0 := i0) (x1 := r_3) (x2 := x_7) (x3 := x_12) hc_14 g_i0) k_X4_seat (zr_recv C hW g_i0 zco_9 rfl) w_503 ⟨Nat.le_of_ble_eq_true rfl, Nat.le_of_ble_eq_true rfl⟩ ⟨Nat.le_refl 0, Nat.le_refl 0⟩ rfl hl.1 rfl (Nat.le_of_ble_eq_true rfl) dX4_seatDrawn_29 (fun H locs hW => ?_)
  refine lv_pop C.1 C.2.1 dX4_seatDrawn_32 rfl ?_
  exact ret_v h hq hW dX4_seatDrawn_33
theorem c_X4_seatDrawn {X : TX} {l : Launch} {fu : Nat} {i0 : Nat} {m mE : Mem} (h : f_X4_seatDrawn fu i0 m = some mE) (g_i0 : (9, i0) ∈ ids) : MetV X l yX4_seatDrawn cX4_seatDrawn 4 1 [.ref (ad X 9 i0)] m mE :=
  met_V (by decide) (Nat.le_of_ble_eq_true rfl) (fun p e s mi args below meth c ls Q C hq hW hl => w_X4_seatDrawn C hq h g_i0 hW (lv_sub hl [0] rfl))
theorem k_X4_seatDrawn : CalV yX4_seatDrawn cX4_seatDrawn 4 none RX4 0 := ⟨w_495, w_496, w_65, w_497, by decide +kernel⟩
theorem dX4_addText_0 : decode cX4_addText 0 = .ok (.iload_n 1, 1) := by decide +kernel
theorem dX4_addText_1 : decode cX4_addText 1 = .ok (.iconst 0, 1) := by decide +kernel
theorem dX4_addText_2 : decode cX4_addText 2 = .ok (.iconst 2, 1) := by decide +kernel
theorem dX4_addText_3 : decode cX4_addText 3 = .ok (.invokestatic 108, 3) := by decide +kernel
theorem dX4_addText_6 : decode cX4_addText 6 = .ok (.ifCond .eq 23, 3) := by decide +kernel
theorem dX4_addText_9 : decode cX4_addText 9 = .ok (.aload_n 0, 1) := by decide +kernel
theorem dX4_addText_10 : decode cX4_addText 10 = .ok (.getfield 31, 3) := by decide +kernel
theorem dX4_addText_13 : decode cX4_addText 13 = .ok (.iload_n 1, 1) := by decide +kernel
theorem dX4_addText_14 : decode cX4_addText 14 = .ok (.aload_n 0, 1) := by decide +kernel
theorem dX4_addText_15 : decode cX4_addText 15 = .ok (.getfield 76, 3) := by decide +kernel
theorem dX4_addText_18 : decode cX4_addText 18 = .ok (.iastore, 1) := by decide +kernel
theorem dX4_addText_19 : decode cX4_addText 19 = .ok (.aload_n 0, 1) := by decide +kernel
theorem dX4_addText_20 : decode cX4_addText 20 = .ok (.dup, 1) := by decide +kernel
theorem dX4_addText_21 : decode cX4_addText 21 = .ok (.getfield 76, 3) := by decide +kernel
theorem dX4_addText_24 : decode cX4_addText 24 = .ok (.iconst 1, 1) := by decide +kernel
theorem dX4_addText_25 : decode cX4_addText 25 = .ok (.iadd, 1) := by decide +kernel
theorem dX4_addText_26 : decode cX4_addText 26 = .ok (.putfield 76, 3) := by decide +kernel
theorem dX4_addText_29 : decode cX4_addText 29 = .ok (.return_, 1) := by decide +kernel
def f_X4_addText (fu : Nat)  (i0 : Nat) (x1 : Int32) (m : Mem) : Option Mem := doI (f_X8_within fu x1 0 2 m) (fun r_3 m_2 => if r_3 = 0 then (some m_2) else (chk (inb x1 3) (seqM (upd m_2 ((51 + 70 * i0) + x1.toNatClampNeg) (m_2 (sf i0 15))) (fun m_5 : Mem => seqM (upd m_5 (sf i0 15) ((m_5 (sf i0 15)) + 1)) (fun m_7 : Mem => some m_7)))))
set_option maxHeartbeats 4000000 in
set_option maxRecDepth 100000 in
theorem w_X4_addText {X : TX} {p : Program} {l : Launch} {e : Env} {s : State} {mi : MethodId} {args : Array Value} {below : List Frame} {meth : Method} {c : Code} {Q : State → Prop} {mE : Mem} (C : Cx X p s mi args c RX4 cX4_addText 2) (hq : RetV X p l e (rmD 1) s mi args below meth c cX4_addText Q mE) {fu : Nat} {i0 : Nat} {x1 : Int32} {m : Mem} {H : Heap} {locs : List Loc} {ls : Array Slot} (h : f_X4_addText fu i0 x1 m = some mE) (g_i0 : (9, i0) ∈ ids) (hW : Wd X s m H locs) (hl : lv_has ls 2 [(0, .ref (ad X 9 i0)), (1, .int x1)]) : W p l e (rmD 1) s mi args below meth c H locs 0 0 Q (F0 mi 0 ls []) := by
  unfold f_X4_addText at h
  refine lv_iload_n C.1 C.2.1 dX4_addText_0 rfl (lv_at hl 1 rfl) ?_
  refine lv_iconst (v := 0) C.1 C.2.1 dX4_addText_1 rfl ?_
  refine lv_iconst (v := 2) C.1 C.2.1 dX4_addText_2 rfl ?_
  obtain ⟨r_3, m_2, hc_1, h⟩ := doI_E h
  refine zr_cNI C hW (c_X8_within (x0 := x1) (x1 := 0) (x2 := 2) hc_1 ) k_X8_within C.2.2.2.2.2.1.2.2.1 ⟨Nat.le_of_ble_eq_true rfl, Nat.le_of_ble_eq_true rfl⟩ ⟨Nat.le_refl 0, Nat.le_refl 0⟩ rfl hl.1 rfl (Nat.le_of_ble_eq_true rfl) dX4_addText_3 (fun H locs hW => ?_)
  refine lv_if_eq (tgt := 29) C.1 C.2.1 dX4_addText_6 (by decide) (fun hc_9 => ?_) (fun hc_9 => ?_)
  · have h := ite_t hc_9 h
    exact ret_v h hq hW dX4_addText_29
  · have h := ite_f hc_9 h
    refine lv_aload_n C.1 C.2.1 dX4_addText_9 rfl (lv_at hl 0 rfl) ?_
    refine zg_X4_counting C hW g_i0 w_258 dX4_addText_10 ?_
    refine lv_iload_n C.1 C.2.1 dX4_addText_13 rfl (lv_at hl 1 rfl) ?_
    refine lv_aload_n C.1 C.2.1 dX4_addText_14 rfl (lv_at hl 0 rfl) ?_
    refine zg_X4_textsMany C hW g_i0 w_256 dX4_addText_15 ?_
    obtain ⟨hb_4, h⟩ := chk_E h
    obtain ⟨m_5, e_6, h⟩ := seqM_E h
    refine zas_12 C hW (im_9_12 g_i0) (inb_E hb_4) e_6 dX4_addText_18 (fun H locs hW => ?_)
    refine lv_aload_n C.1 C.2.1 dX4_addText_19 rfl (lv_at hl 0 rfl) ?_
    refine lv_dup C.1 C.2.1 dX4_addText_20 rfl ?_
    refine zg_X4_textsMany C hW g_i0 w_256 dX4_addText_21 ?_
    refine lv_iconst (v := 1) C.1 C.2.1 dX4_addText_24 rfl ?_
    refine lv_iadd C.1 C.2.1 dX4_addText_25 ?_
    obtain ⟨m_7, e_8, h⟩ := seqM_E h
    refine zp_X4_textsMany C hW g_i0 w_256 e_8 dX4_addText_26 (fun H locs hW => ?_)
    exact ret_v h hq hW dX4_addText_29
theorem c_X4_addText {X : TX} {l : Launch} {fu : Nat} {i0 : Nat} {x1 : Int32} {m mE : Mem} (h : f_X4_addText fu i0 x1 m = some mE) (g_i0 : (9, i0) ∈ ids) : MetV X l yX4_addText cX4_addText 2 1 [.ref (ad X 9 i0), .int x1] m mE :=
  met_V (by decide) (Nat.le_of_ble_eq_true rfl) (fun p e s mi args below meth c ls Q C hq hW hl => w_X4_addText C hq h g_i0 hW (lv_sub hl [0, 1] rfl))
theorem k_X4_addText : CalV yX4_addText cX4_addText 2 none RX4 1 := ⟨w_895, w_896, w_65, w_897, by decide +kernel⟩
theorem dX4_allows_0 : decode cX4_allows 0 = .ok (.iload_n 0, 1) := by decide +kernel
theorem dX4_allows_1 : decode cX4_allows 1 = .ok (.tableswitch 54 0 2 #[27, 36, 45], 27) := by decide +kernel
theorem dX4_allows_28 : decode cX4_allows 28 = .ok (.iload_n 1, 1) := by decide +kernel
theorem dX4_allows_29 : decode cX4_allows 29 = .ok (.iconst 0, 1) := by decide +kernel
theorem dX4_allows_30 : decode cX4_allows 30 = .ok (.sipush 9999, 3) := by decide +kernel
theorem dX4_allows_33 : decode cX4_allows 33 = .ok (.invokestatic 108, 3) := by decide +kernel
theorem dX4_allows_36 : decode cX4_allows 36 = .ok (.ireturn, 1) := by decide +kernel
theorem dX4_allows_37 : decode cX4_allows 37 = .ok (.iload_n 1, 1) := by decide +kernel
theorem dX4_allows_38 : decode cX4_allows 38 = .ok (.iconst 0, 1) := by decide +kernel
theorem dX4_allows_39 : decode cX4_allows 39 = .ok (.sipush 200, 3) := by decide +kernel
theorem dX4_allows_42 : decode cX4_allows 42 = .ok (.invokestatic 108, 3) := by decide +kernel
theorem dX4_allows_45 : decode cX4_allows 45 = .ok (.ireturn, 1) := by decide +kernel
theorem dX4_allows_46 : decode cX4_allows 46 = .ok (.iload_n 1, 1) := by decide +kernel
theorem dX4_allows_47 : decode cX4_allows 47 = .ok (.iconst 0, 1) := by decide +kernel
theorem dX4_allows_48 : decode cX4_allows 48 = .ok (.sipush 200, 3) := by decide +kernel
theorem dX4_allows_51 : decode cX4_allows 51 = .ok (.invokestatic 108, 3) := by decide +kernel
theorem dX4_allows_54 : decode cX4_allows 54 = .ok (.ireturn, 1) := by decide +kernel
theorem dX4_allows_55 : decode cX4_allows 55 = .ok (.iconst 0, 1) := by decide +kernel
theorem dX4_allows_56 : decode cX4_allows 56 = .ok (.ireturn, 1) := by decide +kernel
def f_X4_allows (fu : Nat)  (x0 : Int32) (x1 : Int32) (m : Mem) : Option (Int32 × Mem) := if x0 = 0 then (doI (f_X8_within fu x1 0 9999 m) (fun r_3 m_2 => chk (isB r_3) (some (r_3, m_2)))) else (if x0 = 1 then (doI (f_X8_within fu x1 0 200 m) (fun r_8 m_7 => chk (isB r_8) (some (r_8, m_7)))) else (if x0 = 2 then (doI (f_X8_within fu x1 0 200 m) (fun r_13 m_12 => chk (isB r_13) (some (r_13, m_12)))) else (some (0, m))))
set_option maxHeartbeats 4000000 in
set_option maxRecDepth 100000 in
theorem w_X4_allows {X : TX} {p : Program} {l : Launch} {e : Env} {s : State} {mi : MethodId} {args : Array Value} {below : List Frame} {meth : Method} {c : Code} {Q : State → Prop} {r : Int32} {mE : Mem} (C : Cx X p s mi args c RX4 cX4_allows 2) (hq : RetI X p l e (rmD 1) s mi args below meth c cX4_allows .boolean Q r mE) {fu : Nat} {x0 : Int32} {x1 : Int32} {m : Mem} {H : Heap} {locs : List Loc} {ls : Array Slot} (h : f_X4_allows fu x0 x1 m = some (r, mE))  (hW : Wd X s m H locs) (hl : lv_has ls 2 [(0, .int x0), (1, .int x1)]) : W p l e (rmD 1) s mi args below meth c H locs 0 0 Q (F0 mi 0 ls []) := by
  unfold f_X4_allows at h
  refine lv_iload_n C.1 C.2.1 dX4_allows_0 rfl (lv_at hl 0 rfl) ?_
  by_cases hc_5 : x0 = 0
  · have h := ite_t hc_5 h
    refine lv_tableIn (tgt := 28) C.1 C.2.1 dX4_allows_1 (by rw [hc_5]; decide) (by rw [hc_5]; decide) (by rw [hc_5]; rfl) (by decide) ?_
    refine lv_iload_n C.1 C.2.1 dX4_allows_28 rfl (lv_at hl 1 rfl) ?_
    refine lv_iconst (v := 0) C.1 C.2.1 dX4_allows_29 rfl ?_
    refine lv_sipush (v := 9999) C.1 C.2.1 dX4_allows_30 rfl ?_
    obtain ⟨r_3, m_2, hc_1, h⟩ := doI_E h
    refine zr_cNI C hW (c_X8_within (x0 := x1) (x1 := 0) (x2 := 9999) hc_1 ) k_X8_within C.2.2.2.2.2.1.2.2.1 ⟨Nat.le_of_ble_eq_true rfl, Nat.le_of_ble_eq_true rfl⟩ ⟨Nat.le_refl 0, Nat.le_refl 0⟩ rfl hl.1 rfl (Nat.le_of_ble_eq_true rfl) dX4_allows_33 (fun H locs hW => ?_)
    obtain ⟨hb_4, h⟩ := chk_E h
    exact ret_i h hq (nar_B (isB_E hb_4)) hW dX4_allows_36
  · have h := ite_f hc_5 h
    by_cases hc_10 : x0 = 1
    · have h := ite_t hc_10 h
      refine lv_tableIn (tgt := 37) C.1 C.2.1 dX4_allows_1 (by rw [hc_10]; decide) (by rw [hc_10]; decide) (by rw [hc_10]; rfl) (by decide) ?_
      refine lv_iload_n C.1 C.2.1 dX4_allows_37 rfl (lv_at hl 1 rfl) ?_
      refine lv_iconst (v := 0) C.1 C.2.1 dX4_allows_38 rfl ?_
      refine lv_sipush (v := 200) C.1 C.2.1 dX4_allows_39 rfl ?_
      obtain ⟨r_8, m_7, hc_6, h⟩ := doI_E h
      refine zr_cNI C hW (c_X8_within (x0 := x1) (x1 := 0) (x2 := 200) hc_6 ) k_X8_within C.2.2.2.2.2.1.2.2.1 ⟨Nat.le_of_ble_eq_true rfl, Nat.le_of_ble_eq_true rfl⟩ ⟨Nat.le_refl 0, Nat.le_refl 0⟩ rfl hl.1 rfl (Nat.le_of_ble_eq_true rfl) dX4_allows_42 (fun H locs hW => ?_)
      obtain ⟨hb_9, h⟩ := chk_E h
      exact ret_i h hq (nar_B (isB_E hb_9)) hW dX4_allows_45
    · have h := ite_f hc_10 h
      by_cases hc_15 : x0 = 2
      · have h := ite_t hc_15 h
        refine lv_tableIn (tgt := 46) C.1 C.2.1 dX4_allows_1 (by rw [hc_15]; decide) (by rw [hc_15]; decide) (by rw [hc_15]; rfl) (by decide) ?_
        refine lv_iload_n C.1 C.2.1 dX4_allows_46 rfl (lv_at hl 1 rfl) ?_
        refine lv_iconst (v := 0) C.1 C.2.1 dX4_allows_47 rfl ?_
        refine lv_sipush (v := 200) C.1 C.2.1 dX4_allows_48 rfl ?_
        obtain ⟨r_13, m_12, hc_11, h⟩ := doI_E h
        refine zr_cNI C hW (c_X8_within (x0 := x1) (x1 := 0) (x2 := 200) hc_11 ) k_X8_within C.2.2.2.2.2.1.2.2.1 ⟨Nat.le_of_ble_eq_true rfl, Nat.le_of_ble_eq_true rfl⟩ ⟨Nat.le_refl 0, Nat.le_refl 0⟩ rfl hl.1 rfl (Nat.le_of_ble_eq_true rfl) dX4_allows_51 (fun H locs hW => ?_)
        obtain ⟨hb_14, h⟩ := chk_E h
        exact ret_i h hq (nar_B (isB_E hb_14)) hW dX4_allows_54
      · have h := ite_f hc_15 h
        have nhc_5 := ne_k (0) rfl hc_5
        have nhc_10 := ne_k (1) rfl hc_10
        have nhc_15 := ne_k (2) rfl hc_15
        refine lv_tableOut (tgt := 55) C.1 C.2.1 dX4_allows_1 (by omega) (by decide) ?_
        refine lv_iconst (v := 0) C.1 C.2.1 dX4_allows_55 rfl ?_
        exact ret_i h hq rfl hW dX4_allows_56
theorem c_X4_allows {X : TX} {l : Launch} {fu : Nat} {x0 : Int32} {x1 : Int32} {m mE : Mem} {r : Int32} (h : f_X4_allows fu x0 x1 m = some (r, mE))  : MetI X l yX4_allows cX4_allows 2 .boolean 1 [.int x0, .int x1] m r mE :=
  met_I (by decide) (Nat.le_of_ble_eq_true rfl) (fun p e s mi args below meth c ls Q C hq hW hl => w_X4_allows C hq h  hW (lv_sub hl [0, 1] rfl))
theorem k_X4_allows : CalS yX4_allows cX4_allows 2 (some .boolean) 2 := ⟨w_483, w_65, w_484, by decide +kernel⟩
theorem dX4_put_0 : decode cX4_put 0 = .ok (.iload_n 1, 1) := by decide +kernel
theorem dX4_put_1 : decode cX4_put 1 = .ok (.ifCond .ne 16, 3) := by decide +kernel
theorem dX4_put_4 : decode cX4_put 4 = .ok (.aload_n 0, 1) := by decide +kernel
theorem dX4_put_5 : decode cX4_put 5 = .ok (.getfield 18, 3) := by decide +kernel
theorem dX4_put_8 : decode cX4_put 8 = .ok (.istore_n 3, 1) := by decide +kernel
theorem dX4_put_9 : decode cX4_put 9 = .ok (.aload_n 0, 1) := by decide +kernel
theorem dX4_put_10 : decode cX4_put 10 = .ok (.iload_n 2, 1) := by decide +kernel
theorem dX4_put_11 : decode cX4_put 11 = .ok (.putfield 18, 3) := by decide +kernel
theorem dX4_put_14 : decode cX4_put 14 = .ok (.goto 31, 3) := by decide +kernel
theorem dX4_put_17 : decode cX4_put 17 = .ok (.iload_n 1, 1) := by decide +kernel
theorem dX4_put_18 : decode cX4_put 18 = .ok (.iconst 1, 1) := by decide +kernel
theorem dX4_put_19 : decode cX4_put 19 = .ok (.if_icmp .ne 16, 3) := by decide +kernel
theorem dX4_put_22 : decode cX4_put 22 = .ok (.aload_n 0, 1) := by decide +kernel
theorem dX4_put_23 : decode cX4_put 23 = .ok (.getfield 22, 3) := by decide +kernel
theorem dX4_put_26 : decode cX4_put 26 = .ok (.istore_n 3, 1) := by decide +kernel
theorem dX4_put_27 : decode cX4_put 27 = .ok (.aload_n 0, 1) := by decide +kernel
theorem dX4_put_28 : decode cX4_put 28 = .ok (.iload_n 2, 1) := by decide +kernel
theorem dX4_put_29 : decode cX4_put 29 = .ok (.putfield 22, 3) := by decide +kernel
theorem dX4_put_32 : decode cX4_put 32 = .ok (.goto 13, 3) := by decide +kernel
theorem dX4_put_35 : decode cX4_put 35 = .ok (.aload_n 0, 1) := by decide +kernel
theorem dX4_put_36 : decode cX4_put 36 = .ok (.getfield 46, 3) := by decide +kernel
theorem dX4_put_39 : decode cX4_put 39 = .ok (.istore_n 3, 1) := by decide +kernel
theorem dX4_put_40 : decode cX4_put 40 = .ok (.aload_n 0, 1) := by decide +kernel
theorem dX4_put_41 : decode cX4_put 41 = .ok (.iload_n 2, 1) := by decide +kernel
theorem dX4_put_42 : decode cX4_put 42 = .ok (.putfield 46, 3) := by decide +kernel
theorem dX4_put_45 : decode cX4_put 45 = .ok (.iload_n 3, 1) := by decide +kernel
theorem dX4_put_46 : decode cX4_put 46 = .ok (.ireturn, 1) := by decide +kernel
def f_X4_put (fu : Nat)  (i0 : Nat) (x1 : Int32) (x2 : Int32) (m : Mem) : Option (Int32 × Mem) := if x1 = 0 then (seqM (m (sf i0 5)) (fun x_10 : Int32 => seqM (upd m (sf i0 5) x2) (fun m_12 : Mem => some (x_10, m_12)))) else (if x1 = 1 then (seqM (m (sf i0 3)) (fun x_5 : Int32 => seqM (upd m (sf i0 3) x2) (fun m_7 : Mem => some (x_5, m_7)))) else (seqM (m (sf i0 4)) (fun x_1 : Int32 => seqM (upd m (sf i0 4) x2) (fun m_3 : Mem => some (x_1, m_3)))))
set_option maxHeartbeats 4000000 in
set_option maxRecDepth 100000 in
theorem w_X4_put {X : TX} {p : Program} {l : Launch} {e : Env} {s : State} {mi : MethodId} {args : Array Value} {below : List Frame} {meth : Method} {c : Code} {Q : State → Prop} {r : Int32} {mE : Mem} (C : Cx X p s mi args c RX4 cX4_put 4) (hq : RetI X p l e (rmD 0) s mi args below meth c cX4_put .int Q r mE) {fu : Nat} {i0 : Nat} {x1 : Int32} {x2 : Int32} {m : Mem} {H : Heap} {locs : List Loc} {ls : Array Slot} (h : f_X4_put fu i0 x1 x2 m = some (r, mE)) (g_i0 : (9, i0) ∈ ids) (hW : Wd X s m H locs) (hl : lv_has ls 4 [(0, .ref (ad X 9 i0)), (1, .int x1), (2, .int x2)]) : W p l e (rmD 0) s mi args below meth c H locs 0 0 Q (F0 mi 0 ls []) := by
  unfold f_X4_put at h
  refine lv_iload_n C.1 C.2.1 dX4_put_0 rfl (lv_at hl 1 rfl) ?_
  refine lv_if_ne (tgt := 17) C.1 C.2.1 dX4_put_1 (by decide) (fun hc_14 => ?_) (fun hc_14 => ?_)
  · have h := ite_f hc_14 h
    refine lv_iload_n C.1 C.2.1 dX4_put_17 rfl (lv_at hl 1 rfl) ?_
    refine lv_iconst (v := 1) C.1 C.2.1 dX4_put_18 rfl ?_
    refine lv_icmp_ne (tgt := 35) C.1 C.2.1 dX4_put_19 (by decide) (fun hc_9 => ?_) (fun hc_9 => ?_)
    · have h := ite_f hc_9 h
      refine lv_aload_n C.1 C.2.1 dX4_put_35 rfl (lv_at hl 0 rfl) ?_
      refine zg_X4_fill C hW g_i0 w_232 dX4_put_36 ?_
      obtain ⟨x_1, e_2, h⟩ := seqM_E h
      refine lv_name e_2 ?_
      refine lv_istore_n (lv' := [(3, .int x_1), (0, .ref (ad X 9 i0)), (1, .int x1), (2, .int x2)]) C.1 C.2.1 dX4_put_39 rfl hl (by decide) rfl (fun ls hl => ?_)
      refine lv_aload_n C.1 C.2.1 dX4_put_40 rfl (lv_at hl 1 rfl) ?_
      refine lv_iload_n C.1 C.2.1 dX4_put_41 rfl (lv_at hl 3 rfl) ?_
      obtain ⟨m_3, e_4, h⟩ := seqM_E h
      refine zp_X4_fill C hW g_i0 w_232 e_4 dX4_put_42 (fun H locs hW => ?_)
      refine lv_iload_n C.1 C.2.1 dX4_put_45 rfl (lv_at hl 0 rfl) ?_
      exact ret_i h hq rfl hW dX4_put_46
    · have h := ite_t hc_9 h
      refine lv_aload_n C.1 C.2.1 dX4_put_22 rfl (lv_at hl 0 rfl) ?_
      refine zg_X4_cut C hW g_i0 w_230 dX4_put_23 ?_
      obtain ⟨x_5, e_6, h⟩ := seqM_E h
      refine lv_name e_6 ?_
      refine lv_istore_n (lv' := [(3, .int x_5), (0, .ref (ad X 9 i0)), (1, .int x1), (2, .int x2)]) C.1 C.2.1 dX4_put_26 rfl hl (by decide) rfl (fun ls hl => ?_)
      refine lv_aload_n C.1 C.2.1 dX4_put_27 rfl (lv_at hl 1 rfl) ?_
      refine lv_iload_n C.1 C.2.1 dX4_put_28 rfl (lv_at hl 3 rfl) ?_
      obtain ⟨m_7, e_8, h⟩ := seqM_E h
      refine zp_X4_cut C hW g_i0 w_230 e_8 dX4_put_29 (fun H locs hW => ?_)
      refine lv_goto (tgt := 45) C.1 C.2.1 dX4_put_32 (by decide) ?_
      refine lv_iload_n C.1 C.2.1 dX4_put_45 rfl (lv_at hl 0 rfl) ?_
      exact ret_i h hq rfl hW dX4_put_46
  · have h := ite_t hc_14 h
    refine lv_aload_n C.1 C.2.1 dX4_put_4 rfl (lv_at hl 0 rfl) ?_
    refine zg_X4_listeners C hW g_i0 w_228 dX4_put_5 ?_
    obtain ⟨x_10, e_11, h⟩ := seqM_E h
    refine lv_name e_11 ?_
    refine lv_istore_n (lv' := [(3, .int x_10), (0, .ref (ad X 9 i0)), (1, .int x1), (2, .int x2)]) C.1 C.2.1 dX4_put_8 rfl hl (by decide) rfl (fun ls hl => ?_)
    refine lv_aload_n C.1 C.2.1 dX4_put_9 rfl (lv_at hl 1 rfl) ?_
    refine lv_iload_n C.1 C.2.1 dX4_put_10 rfl (lv_at hl 3 rfl) ?_
    obtain ⟨m_12, e_13, h⟩ := seqM_E h
    refine zp_X4_listeners C hW g_i0 w_228 e_13 dX4_put_11 (fun H locs hW => ?_)
    refine lv_goto (tgt := 45) C.1 C.2.1 dX4_put_14 (by decide) ?_
    refine lv_iload_n C.1 C.2.1 dX4_put_45 rfl (lv_at hl 0 rfl) ?_
    exact ret_i h hq rfl hW dX4_put_46
theorem c_X4_put {X : TX} {l : Launch} {fu : Nat} {i0 : Nat} {x1 : Int32} {x2 : Int32} {m mE : Mem} {r : Int32} (h : f_X4_put fu i0 x1 x2 m = some (r, mE)) (g_i0 : (9, i0) ∈ ids) : MetI X l yX4_put cX4_put 4 .int 0 [.ref (ad X 9 i0), .int x1, .int x2] m r mE :=
  met_I (by decide) (Nat.le_of_ble_eq_true rfl) (fun p e s mi args below meth c ls Q C hq hW hl => w_X4_put C hq h g_i0 hW (lv_sub hl [0, 1, 2] rfl))
theorem k_X4_put : CalV yX4_put cX4_put 4 (some .int) RX4 2 := ⟨w_487, w_488, w_65, w_489, by decide +kernel⟩
theorem dX4_speakers_0 : decode cX4_speakers 0 = .ok (.iconst 0, 1) := by decide +kernel
theorem dX4_speakers_1 : decode cX4_speakers 1 = .ok (.istore_n 1, 1) := by decide +kernel
theorem dX4_speakers_2 : decode cX4_speakers 2 = .ok (.iconst 0, 1) := by decide +kernel
theorem dX4_speakers_3 : decode cX4_speakers 3 = .ok (.istore_n 2, 1) := by decide +kernel
theorem dX4_speakers_4 : decode cX4_speakers 4 = .ok (.iload_n 2, 1) := by decide +kernel
theorem dX4_speakers_5 : decode cX4_speakers 5 = .ok (.aload_n 0, 1) := by decide +kernel
theorem dX4_speakers_6 : decode cX4_speakers 6 = .ok (.getfield 39, 3) := by decide +kernel
theorem dX4_speakers_9 : decode cX4_speakers 9 = .ok (.if_icmp .ge 27, 3) := by decide +kernel
theorem dX4_speakers_12 : decode cX4_speakers 12 = .ok (.aload_n 0, 1) := by decide +kernel
theorem dX4_speakers_13 : decode cX4_speakers 13 = .ok (.getfield 11, 3) := by decide +kernel
theorem dX4_speakers_16 : decode cX4_speakers 16 = .ok (.iload_n 2, 1) := by decide +kernel
theorem dX4_speakers_17 : decode cX4_speakers 17 = .ok (.aaload, 1) := by decide +kernel
theorem dX4_speakers_18 : decode cX4_speakers 18 = .ok (.getfield 91, 3) := by decide +kernel
theorem dX4_speakers_21 : decode cX4_speakers 21 = .ok (.ifCond .le 9, 3) := by decide +kernel
theorem dX4_speakers_24 : decode cX4_speakers 24 = .ok (.iload_n 1, 1) := by decide +kernel
theorem dX4_speakers_25 : decode cX4_speakers 25 = .ok (.iconst 1, 1) := by decide +kernel
theorem dX4_speakers_26 : decode cX4_speakers 26 = .ok (.iload_n 2, 1) := by decide +kernel
theorem dX4_speakers_27 : decode cX4_speakers 27 = .ok (.ishl, 1) := by decide +kernel
theorem dX4_speakers_28 : decode cX4_speakers 28 = .ok (.ior, 1) := by decide +kernel
theorem dX4_speakers_29 : decode cX4_speakers 29 = .ok (.istore_n 1, 1) := by decide +kernel
theorem dX4_speakers_30 : decode cX4_speakers 30 = .ok (.iinc 2 1, 3) := by decide +kernel
theorem dX4_speakers_33 : decode cX4_speakers 33 = .ok (.goto (-29), 3) := by decide +kernel
theorem dX4_speakers_36 : decode cX4_speakers 36 = .ok (.iload_n 1, 1) := by decide +kernel
theorem dX4_speakers_37 : decode cX4_speakers 37 = .ok (.ireturn, 1) := by decide +kernel
def f_X4_speakers_30 (fu : Nat) (k_4 : Nat → Int32 → Int32 → Mem → Option (Int32 × Mem)) (i0 : Nat) (x1 : Int32) (x2 : Int32) (m : Mem) : Option (Int32 × Mem) := seqM (x2 + 1) (fun x_1 : Int32 => k_4 i0 x1 x_1 m)
set_option maxHeartbeats 4000000 in
set_option maxRecDepth 100000 in
theorem w_X4_speakers_30 {X : TX} {p : Program} {l : Launch} {e : Env} {s : State} {mi : MethodId} {args : Array Value} {below : List Frame} {meth : Method} {c : Code} {Q : State → Prop} {r : Int32} {mE : Mem} (C : Cx X p s mi args c RX4 cX4_speakers 3) (hq : RetI X p l e (rmD 0) s mi args below meth c cX4_speakers .int Q r mE) {fu : Nat} {k_4 : Nat → Int32 → Int32 → Mem → Option (Int32 × Mem)} (hk_4 : ∀ {i0 : Nat} {x1 : Int32} {x2 : Int32} {m : Mem} {H : Heap} {locs : List Loc} {ls : Array Slot}, k_4 i0 x1 x2 m = some (r, mE) → (9, i0) ∈ ids → Wd X s m H locs → lv_has ls 3 [(0, .ref (ad X 9 i0)), (1, .int x1), (2, .int x2)] → W p l e (rmD 0) s mi args below meth c H locs 0 0 Q (F0 mi 4 ls [])) {i0 : Nat} {x1 : Int32} {x2 : Int32} {m : Mem} {H : Heap} {locs : List Loc} {ls : Array Slot} (h : f_X4_speakers_30 fu k_4 i0 x1 x2 m = some (r, mE)) (g_i0 : (9, i0) ∈ ids) (hW : Wd X s m H locs) (hl : lv_has ls 3 [(0, .ref (ad X 9 i0)), (1, .int x1), (2, .int x2)]) : W p l e (rmD 0) s mi args below meth c H locs 0 0 Q (F0 mi 30 ls []) := by
  unfold f_X4_speakers_30 at h
  obtain ⟨x_1, e_2, h⟩ := seqM_E h
  refine lv_iinc (v := x_1) (lv' := [(2, .int x_1), (0, .ref (ad X 9 i0)), (1, .int x1)]) C.1 C.2.1 dX4_speakers_30 hl (k := 2) rfl (by rw [e_2]; rfl) (by decide) rfl (fun ls hl => ?_)
  refine lv_goto (tgt := 4) C.1 C.2.1 dX4_speakers_33 (by decide) ?_
  exact hk_4 h g_i0 hW (lv_sub hl [1, 2, 0] rfl)
def f_X4_speakers_4 (fu : Nat)  : Nat → Nat → Int32 → Int32 → Mem → Option (Int32 × Mem)
  | 0, _, _, _, _ => none
  | n + 1, i0, x1, x2, m => if (m (sf i0 1)) ≤ x2 then (some (x1, m)) else (chk (inb x2 5) (if (m (vf (10 * i0 + x2.toNatClampNeg) 4)) ≤ 0 then (f_X4_speakers_30 fu (f_X4_speakers_4 fu n) i0 x1 x2 m) else (seqM (x1 ||| (1 <<< (x2 &&& 31))) (fun x_2 : Int32 => f_X4_speakers_30 fu (f_X4_speakers_4 fu n) i0 x_2 x2 m))))
set_option maxHeartbeats 4000000 in
set_option maxRecDepth 100000 in
theorem w_X4_speakers_4 {X : TX} {p : Program} {l : Launch} {e : Env} {s : State} {mi : MethodId} {args : Array Value} {below : List Frame} {meth : Method} {c : Code} {Q : State → Prop} {r : Int32} {mE : Mem} (C : Cx X p s mi args c RX4 cX4_speakers 3) (hq : RetI X p l e (rmD 0) s mi args below meth c cX4_speakers .int Q r mE) {fu : Nat} : ∀ (n : Nat) {i0 : Nat} {x1 : Int32} {x2 : Int32} {m : Mem} {H : Heap} {locs : List Loc} {ls : Array Slot}, f_X4_speakers_4 fu n i0 x1 x2 m = some (r, mE) → (9, i0) ∈ ids → Wd X s m H locs → lv_has ls 3 [(0, .ref (ad X 9 i0)), (1, .int x1), (2, .int x2)] → W p l e (rmD 0) s mi args below meth c H locs 0 0 Q (F0 mi 4 ls []) := by
  intro n
  induction n with
  | zero =>
    intro i0 x1 x2 m H locs ls h g_i0 hW hl
    rw [f_X4_speakers_4] at h
    cases h
  | succ n ih =>
    intro i0 x1 x2 m H locs ls h g_i0 hW hl
    rw [f_X4_speakers_4] at h
    refine lv_iload_n C.1 C.2.1 dX4_speakers_4 rfl (lv_at hl 2 rfl) ?_
    refine lv_aload_n C.1 C.2.1 dX4_speakers_5 rfl (lv_at hl 0 rfl) ?_
    refine zg_X4_many C hW g_i0 w_226 dX4_speakers_6 ?_
    refine lv_icmp_ge (tgt := 36) C.1 C.2.1 dX4_speakers_9 (by decide) (fun hc_5 => ?_) (fun hc_5 => ?_)
    · have h := ite_t hc_5 h
      refine lv_iload_n C.1 C.2.1 dX4_speakers_36 rfl (lv_at hl 1 rfl) ?_
      exact ret_i h hq rfl hW dX4_speakers_37
    · have h := ite_f hc_5 h
      refine lv_aload_n C.1 C.2.1 dX4_speakers_12 rfl (lv_at hl 0 rfl) ?_
      refine zg_X4_voices C hW g_i0 w_224 dX4_speakers_13 ?_
      refine lv_iload_n C.1 C.2.1 dX4_speakers_16 rfl (lv_at hl 2 rfl) ?_
      obtain ⟨hb_1, h⟩ := chk_E h
      refine zaa_10 C hW (im_9_10 g_i0) (inb_E hb_1) dX4_speakers_17 ?_
      refine zg_X7_left C hW (ia_10 (im_9_10 g_i0) (inb_E hb_1)) w_202 dX4_speakers_18 ?_
      refine lv_if_le (tgt := 30) C.1 C.2.1 dX4_speakers_21 (by decide) (fun hc_4 => ?_) (fun hc_4 => ?_)
      · have h := ite_t hc_4 h
        exact w_X4_speakers_30 C hq ih h g_i0 hW (lv_sub hl [0, 1, 2] rfl)
      · have h := ite_f hc_4 h
        refine lv_iload_n C.1 C.2.1 dX4_speakers_24 rfl (lv_at hl 1 rfl) ?_
        refine lv_iconst (v := 1) C.1 C.2.1 dX4_speakers_25 rfl ?_
        refine lv_iload_n C.1 C.2.1 dX4_speakers_26 rfl (lv_at hl 2 rfl) ?_
        refine lv_ishl C.1 C.2.1 dX4_speakers_27 ?_
        refine lv_ior C.1 C.2.1 dX4_speakers_28 ?_
        obtain ⟨x_2, e_3, h⟩ := seqM_E h
        refine lv_name e_3 ?_
        refine lv_istore_n (lv' := [(1, .int x_2), (0, .ref (ad X 9 i0)), (2, .int x2)]) C.1 C.2.1 dX4_speakers_29 rfl hl (by decide) rfl (fun ls hl => ?_)
        exact w_X4_speakers_30 C hq ih h g_i0 hW (lv_sub hl [1, 0, 2] rfl)
def f_X4_speakers (fu : Nat)  (i0 : Nat) (m : Mem) : Option (Int32 × Mem) := f_X4_speakers_4 fu fu i0 0 0 m
set_option maxHeartbeats 4000000 in
set_option maxRecDepth 100000 in
theorem w_X4_speakers {X : TX} {p : Program} {l : Launch} {e : Env} {s : State} {mi : MethodId} {args : Array Value} {below : List Frame} {meth : Method} {c : Code} {Q : State → Prop} {r : Int32} {mE : Mem} (C : Cx X p s mi args c RX4 cX4_speakers 3) (hq : RetI X p l e (rmD 0) s mi args below meth c cX4_speakers .int Q r mE) {fu : Nat} {i0 : Nat} {m : Mem} {H : Heap} {locs : List Loc} {ls : Array Slot} (h : f_X4_speakers fu i0 m = some (r, mE)) (g_i0 : (9, i0) ∈ ids) (hW : Wd X s m H locs) (hl : lv_has ls 3 [(0, .ref (ad X 9 i0))]) : W p l e (rmD 0) s mi args below meth c H locs 0 0 Q (F0 mi 0 ls []) := by
  unfold f_X4_speakers at h
  refine lv_iconst (v := 0) C.1 C.2.1 dX4_speakers_0 rfl ?_
  refine lv_istore_n (lv' := [(1, .int 0), (0, .ref (ad X 9 i0))]) C.1 C.2.1 dX4_speakers_1 rfl hl (by decide) rfl (fun ls hl => ?_)
  refine lv_iconst (v := 0) C.1 C.2.1 dX4_speakers_2 rfl ?_
  refine lv_istore_n (lv' := [(2, .int 0), (1, .int 0), (0, .ref (ad X 9 i0))]) C.1 C.2.1 dX4_speakers_3 rfl hl (by decide) rfl (fun ls hl => ?_)
  exact w_X4_speakers_4 C hq  fu h g_i0 hW (lv_sub hl [2, 1, 0] rfl)
theorem c_X4_speakers {X : TX} {l : Launch} {fu : Nat} {i0 : Nat} {m mE : Mem} {r : Int32} (h : f_X4_speakers fu i0 m = some (r, mE)) (g_i0 : (9, i0) ∈ ids) : MetI X l yX4_speakers cX4_speakers 3 .int 0 [.ref (ad X 9 i0)] m r mE :=
  met_I (by decide) (Nat.le_of_ble_eq_true rfl) (fun p e s mi args below meth c ls Q C hq hW hl => w_X4_speakers C hq h g_i0 hW (lv_sub hl [0] rfl))
theorem k_X4_speakers : CalV yX4_speakers cX4_speakers 3 (some .int) RX4 0 := ⟨w_582, w_583, w_65, w_584, by decide +kernel⟩
theorem dX4_hear_0 : decode cX4_hear 0 = .ok (.iconst 1, 1) := by decide +kernel
theorem dX4_hear_1 : decode cX4_hear 1 = .ok (.istore_n 1, 1) := by decide +kernel
theorem dX4_hear_2 : decode cX4_hear 2 = .ok (.iconst 0, 1) := by decide +kernel
theorem dX4_hear_3 : decode cX4_hear 3 = .ok (.istore_n 2, 1) := by decide +kernel
theorem dX4_hear_4 : decode cX4_hear 4 = .ok (.iload_n 2, 1) := by decide +kernel
theorem dX4_hear_5 : decode cX4_hear 5 = .ok (.aload_n 0, 1) := by decide +kernel
theorem dX4_hear_6 : decode cX4_hear 6 = .ok (.getfield 39, 3) := by decide +kernel
theorem dX4_hear_9 : decode cX4_hear 9 = .ok (.if_icmp .ge 57, 3) := by decide +kernel
theorem dX4_hear_12 : decode cX4_hear 12 = .ok (.aload_n 0, 1) := by decide +kernel
theorem dX4_hear_13 : decode cX4_hear 13 = .ok (.getfield 11, 3) := by decide +kernel
theorem dX4_hear_16 : decode cX4_hear 16 = .ok (.iload_n 2, 1) := by decide +kernel
theorem dX4_hear_17 : decode cX4_hear 17 = .ok (.aaload, 1) := by decide +kernel
theorem dX4_hear_18 : decode cX4_hear 18 = .ok (.astore_n 3, 1) := by decide +kernel
theorem dX4_hear_19 : decode cX4_hear 19 = .ok (.aload_n 3, 1) := by decide +kernel
theorem dX4_hear_20 : decode cX4_hear 20 = .ok (.getfield 91, 3) := by decide +kernel
theorem dX4_hear_23 : decode cX4_hear 23 = .ok (.iconst 1, 1) := by decide +kernel
theorem dX4_hear_24 : decode cX4_hear 24 = .ok (.if_icmp .le 18, 3) := by decide +kernel
theorem dX4_hear_27 : decode cX4_hear 27 = .ok (.aload_n 3, 1) := by decide +kernel
theorem dX4_hear_28 : decode cX4_hear 28 = .ok (.dup, 1) := by decide +kernel
theorem dX4_hear_29 : decode cX4_hear 29 = .ok (.getfield 91, 3) := by decide +kernel
theorem dX4_hear_32 : decode cX4_hear 32 = .ok (.iconst 1, 1) := by decide +kernel
theorem dX4_hear_33 : decode cX4_hear 33 = .ok (.isub, 1) := by decide +kernel
theorem dX4_hear_34 : decode cX4_hear 34 = .ok (.putfield 91, 3) := by decide +kernel
theorem dX4_hear_37 : decode cX4_hear 37 = .ok (.iconst 0, 1) := by decide +kernel
theorem dX4_hear_38 : decode cX4_hear 38 = .ok (.istore_n 1, 1) := by decide +kernel
theorem dX4_hear_39 : decode cX4_hear 39 = .ok (.goto 21, 3) := by decide +kernel
theorem dX4_hear_42 : decode cX4_hear 42 = .ok (.aload_n 3, 1) := by decide +kernel
theorem dX4_hear_43 : decode cX4_hear 43 = .ok (.getfield 91, 3) := by decide +kernel
theorem dX4_hear_46 : decode cX4_hear 46 = .ok (.iconst 1, 1) := by decide +kernel
theorem dX4_hear_47 : decode cX4_hear 47 = .ok (.if_icmp .ne 13, 3) := by decide +kernel
theorem dX4_hear_50 : decode cX4_hear 50 = .ok (.aload_n 3, 1) := by decide +kernel
theorem dX4_hear_51 : decode cX4_hear 51 = .ok (.iconst 0, 1) := by decide +kernel
theorem dX4_hear_52 : decode cX4_hear 52 = .ok (.putfield 91, 3) := by decide +kernel
theorem dX4_hear_55 : decode cX4_hear 55 = .ok (.aload_n 0, 1) := by decide +kernel
theorem dX4_hear_56 : decode cX4_hear 56 = .ok (.iload_n 2, 1) := by decide +kernel
theorem dX4_hear_57 : decode cX4_hear 57 = .ok (.putfield 25, 3) := by decide +kernel
theorem dX4_hear_60 : decode cX4_hear 60 = .ok (.iinc 2 1, 3) := by decide +kernel
theorem dX4_hear_63 : decode cX4_hear 63 = .ok (.goto (-59), 3) := by decide +kernel
theorem dX4_hear_66 : decode cX4_hear 66 = .ok (.iload_n 1, 1) := by decide +kernel
theorem dX4_hear_67 : decode cX4_hear 67 = .ok (.ifCond .eq 41, 3) := by decide +kernel
theorem dX4_hear_70 : decode cX4_hear 70 = .ok (.aload_n 0, 1) := by decide +kernel
theorem dX4_hear_71 : decode cX4_hear 71 = .ok (.dup, 1) := by decide +kernel
theorem dX4_hear_72 : decode cX4_hear 72 = .ok (.getfield 49, 3) := by decide +kernel
theorem dX4_hear_75 : decode cX4_hear 75 = .ok (.iconst 1, 1) := by decide +kernel
theorem dX4_hear_76 : decode cX4_hear 76 = .ok (.iadd, 1) := by decide +kernel
theorem dX4_hear_77 : decode cX4_hear 77 = .ok (.putfield 49, 3) := by decide +kernel
theorem dX4_hear_80 : decode cX4_hear 80 = .ok (.aload_n 0, 1) := by decide +kernel
theorem dX4_hear_81 : decode cX4_hear 81 = .ok (.dup, 1) := by decide +kernel
theorem dX4_hear_82 : decode cX4_hear 82 = .ok (.getfield 52, 3) := by decide +kernel
theorem dX4_hear_85 : decode cX4_hear 85 = .ok (.iconst 1, 1) := by decide +kernel
theorem dX4_hear_86 : decode cX4_hear 86 = .ok (.iadd, 1) := by decide +kernel
theorem dX4_hear_87 : decode cX4_hear 87 = .ok (.putfield 52, 3) := by decide +kernel
theorem dX4_hear_90 : decode cX4_hear 90 = .ok (.aload_n 0, 1) := by decide +kernel
theorem dX4_hear_91 : decode cX4_hear 91 = .ok (.aload_n 0, 1) := by decide +kernel
theorem dX4_hear_92 : decode cX4_hear 92 = .ok (.getfield 55, 3) := by decide +kernel
theorem dX4_hear_95 : decode cX4_hear 95 = .ok (.aload_n 0, 1) := by decide +kernel
theorem dX4_hear_96 : decode cX4_hear 96 = .ok (.getfield 49, 3) := by decide +kernel
theorem dX4_hear_99 : decode cX4_hear 99 = .ok (.invokestatic 119, 3) := by decide +kernel
theorem dX4_hear_102 : decode cX4_hear 102 = .ok (.putfield 55, 3) := by decide +kernel
theorem dX4_hear_105 : decode cX4_hear 105 = .ok (.goto 8, 3) := by decide +kernel
theorem dX4_hear_108 : decode cX4_hear 108 = .ok (.aload_n 0, 1) := by decide +kernel
theorem dX4_hear_109 : decode cX4_hear 109 = .ok (.iconst 0, 1) := by decide +kernel
theorem dX4_hear_110 : decode cX4_hear 110 = .ok (.putfield 49, 3) := by decide +kernel
theorem dX4_hear_113 : decode cX4_hear 113 = .ok (.return_, 1) := by decide +kernel
def f_X4_hear_60 (fu : Nat) (k_4 : Nat → Int32 → Int32 → Mem → Option Mem) (i0 : Nat) (x1 : Int32) (x2 : Int32) (m : Mem) : Option Mem := seqM (x2 + 1) (fun x_1 : Int32 => k_4 i0 x1 x_1 m)
set_option maxHeartbeats 4000000 in
set_option maxRecDepth 100000 in
theorem w_X4_hear_60 {X : TX} {p : Program} {l : Launch} {e : Env} {s : State} {mi : MethodId} {args : Array Value} {below : List Frame} {meth : Method} {c : Code} {Q : State → Prop} {mE : Mem} (C : Cx X p s mi args c RX4 cX4_hear 4) (hq : RetV X p l e (rmD 1) s mi args below meth c cX4_hear Q mE) {fu : Nat} {k_4 : Nat → Int32 → Int32 → Mem → Option Mem} (hk_4 : ∀ {i0 : Nat} {x1 : Int32} {x2 : Int32} {m : Mem} {H : Heap} {locs : List Loc} {ls : Array Slot}, k_4 i0 x1 x2 m = some mE → (9, i0) ∈ ids → Wd X s m H locs → lv_has ls 4 [(0, .ref (ad X 9 i0)), (1, .int x1), (2, .int x2)] → W p l e (rmD 1) s mi args below meth c H locs 0 0 Q (F0 mi 4 ls [])) {i0 : Nat} {x1 : Int32} {x2 : Int32} {m : Mem} {H : Heap} {locs : List Loc} {ls : Array Slot} (h : f_X4_hear_60 fu k_4 i0 x1 x2 m = some mE) (g_i0 : (9, i0) ∈ ids) (hW : Wd X s m H locs) (hl : lv_has ls 4 [(0, .ref (ad X 9 i0)), (1, .int x1), (2, .int x2)]) : W p l e (rmD 1) s mi args below meth c H locs 0 0 Q (F0 mi 60 ls []) := by
  unfold f_X4_hear_60 at h
  obtain ⟨x_1, e_2, h⟩ := seqM_E h
  refine lv_iinc (v := x_1) (lv' := [(2, .int x_1), (0, .ref (ad X 9 i0)), (1, .int x1)]) C.1 C.2.1 dX4_hear_60 hl (k := 2) rfl (by rw [e_2]; rfl) (by decide) rfl (fun ls hl => ?_)
  refine lv_goto (tgt := 4) C.1 C.2.1 dX4_hear_63 (by decide) ?_
  exact hk_4 h g_i0 hW (lv_sub hl [1, 2, 0] rfl)
def f_X4_hear_4 (fu : Nat)  : Nat → Nat → Int32 → Int32 → Mem → Option Mem
  | 0, _, _, _, _ => none
  | n + 1, i0, x1, x2, m => if (m (sf i0 1)) ≤ x2 then (if x1 = 0 then (seqM (upd m (sf i0 6) 0) (fun m_1 : Mem => some m_1)) else (seqM (upd m (sf i0 6) ((m (sf i0 6)) + 1)) (fun m_3 : Mem => seqM (upd m_3 (sf i0 7) ((m_3 (sf i0 7)) + 1)) (fun m_5 : Mem => seqM (upd m_5 (sf i0 8) (if (m_5 (sf i0 8)) < (m_5 (sf i0 6)) then (m_5 (sf i0 6)) else (m_5 (sf i0 8)))) (fun m_7 : Mem => some m_7))))) else (chk (inb x2 5) (if (m (vf (10 * i0 + x2.toNatClampNeg) 4)) ≤ 1 then (if (m (vf (10 * i0 + x2.toNatClampNeg) 4)) = 1 then (seqM (upd m (vf (10 * i0 + x2.toNatClampNeg) 4) 0) (fun m_11 : Mem => seqM (upd m_11 (sf i0 14) x2) (fun m_13 : Mem => f_X4_hear_60 fu (f_X4_hear_4 fu n) i0 x1 x2 m_13))) else (f_X4_hear_60 fu (f_X4_hear_4 fu n) i0 x1 x2 m)) else (seqM (upd m (vf (10 * i0 + x2.toNatClampNeg) 4) ((m (vf (10 * i0 + x2.toNatClampNeg) 4)) - 1)) (fun m_16 : Mem => f_X4_hear_60 fu (f_X4_hear_4 fu n) i0 0 x2 m_16))))
set_option maxHeartbeats 4000000 in
set_option maxRecDepth 100000 in
theorem w_X4_hear_4 {X : TX} {p : Program} {l : Launch} {e : Env} {s : State} {mi : MethodId} {args : Array Value} {below : List Frame} {meth : Method} {c : Code} {Q : State → Prop} {mE : Mem} (C : Cx X p s mi args c RX4 cX4_hear 4) (hq : RetV X p l e (rmD 1) s mi args below meth c cX4_hear Q mE) {fu : Nat} : ∀ (n : Nat) {i0 : Nat} {x1 : Int32} {x2 : Int32} {m : Mem} {H : Heap} {locs : List Loc} {ls : Array Slot}, f_X4_hear_4 fu n i0 x1 x2 m = some mE → (9, i0) ∈ ids → Wd X s m H locs → lv_has ls 4 [(0, .ref (ad X 9 i0)), (1, .int x1), (2, .int x2)] → W p l e (rmD 1) s mi args below meth c H locs 0 0 Q (F0 mi 4 ls []) := by
  intro n
  induction n with
  | zero =>
    intro i0 x1 x2 m H locs ls h g_i0 hW hl
    rw [f_X4_hear_4] at h
    cases h
  | succ n ih =>
    intro i0 x1 x2 m H locs ls h g_i0 hW hl
    rw [f_X4_hear_4] at h
    refine lv_iload_n C.1 C.2.1 dX4_hear_4 rfl (lv_at hl 2 rfl) ?_
    refine lv_aload_n C.1 C.2.1 dX4_hear_5 rfl (lv_at hl 0 rfl) ?_
    refine zg_X4_many C hW g_i0 w_226 dX4_hear_6 ?_
    refine lv_icmp_ge (tgt := 66) C.1 C.2.1 dX4_hear_9 (by decide) (fun hc_19 => ?_) (fun hc_19 => ?_)
    · have h := ite_t hc_19 h
      refine lv_iload_n C.1 C.2.1 dX4_hear_66 rfl (lv_at hl 1 rfl) ?_
      refine lv_if_eq (tgt := 108) C.1 C.2.1 dX4_hear_67 (by decide) (fun hc_9 => ?_) (fun hc_9 => ?_)
      · have h := ite_t hc_9 h
        refine lv_aload_n C.1 C.2.1 dX4_hear_108 rfl (lv_at hl 0 rfl) ?_
        refine lv_iconst (v := 0) C.1 C.2.1 dX4_hear_109 rfl ?_
        obtain ⟨m_1, e_2, h⟩ := seqM_E h
        refine zp_X4_silence C hW g_i0 w_234 e_2 dX4_hear_110 (fun H locs hW => ?_)
        exact ret_v h hq hW dX4_hear_113
      · have h := ite_f hc_9 h
        refine lv_aload_n C.1 C.2.1 dX4_hear_70 rfl (lv_at hl 0 rfl) ?_
        refine lv_dup C.1 C.2.1 dX4_hear_71 rfl ?_
        refine zg_X4_silence C hW g_i0 w_234 dX4_hear_72 ?_
        refine lv_iconst (v := 1) C.1 C.2.1 dX4_hear_75 rfl ?_
        refine lv_iadd C.1 C.2.1 dX4_hear_76 ?_
        obtain ⟨m_3, e_4, h⟩ := seqM_E h
        refine zp_X4_silence C hW g_i0 w_234 e_4 dX4_hear_77 (fun H locs hW => ?_)
        refine lv_aload_n C.1 C.2.1 dX4_hear_80 rfl (lv_at hl 0 rfl) ?_
        refine lv_dup C.1 C.2.1 dX4_hear_81 rfl ?_
        refine zg_X4_silent C hW g_i0 w_236 dX4_hear_82 ?_
        refine lv_iconst (v := 1) C.1 C.2.1 dX4_hear_85 rfl ?_
        refine lv_iadd C.1 C.2.1 dX4_hear_86 ?_
        obtain ⟨m_5, e_6, h⟩ := seqM_E h
        refine zp_X4_silent C hW g_i0 w_236 e_6 dX4_hear_87 (fun H locs hW => ?_)
        refine lv_aload_n C.1 C.2.1 dX4_hear_90 rfl (lv_at hl 0 rfl) ?_
        refine lv_aload_n C.1 C.2.1 dX4_hear_91 rfl (lv_at hl 0 rfl) ?_
        refine zg_X4_longestHole C hW g_i0 w_238 dX4_hear_92 ?_
        refine lv_aload_n C.1 C.2.1 dX4_hear_95 rfl (lv_at hl 0 rfl) ?_
        refine zg_X4_silence C hW g_i0 w_234 dX4_hear_96 ?_
        refine va_mmax C.1 C.2.1 (C.2.2.1.trans hl.1.symm) C.2.2.2.1 (C.2.2.2.2.1 _ w_523) (C.2.2.2.2.1 _ w_431) (C.2.2.2.2.1 _ w_71) (C.2.2.2.2.1 _ w_432) (Nat.le_of_ble_eq_true rfl) (Nat.le_of_ble_eq_true rfl) (Nat.le_refl 0) (Nat.le_refl 0) dX4_hear_99 ?_
        obtain ⟨m_7, e_8, h⟩ := seqM_E h
        refine zp_X4_longestHole C hW g_i0 w_238 e_8 dX4_hear_102 (fun H locs hW => ?_)
        refine lv_goto (tgt := 113) C.1 C.2.1 dX4_hear_105 (by decide) ?_
        exact ret_v h hq hW dX4_hear_113
    · have h := ite_f hc_19 h
      refine lv_aload_n C.1 C.2.1 dX4_hear_12 rfl (lv_at hl 0 rfl) ?_
      refine zg_X4_voices C hW g_i0 w_224 dX4_hear_13 ?_
      refine lv_iload_n C.1 C.2.1 dX4_hear_16 rfl (lv_at hl 2 rfl) ?_
      obtain ⟨hb_10, h⟩ := chk_E h
      refine zaa_10 C hW (im_9_10 g_i0) (inb_E hb_10) dX4_hear_17 ?_
      refine lv_astore_n (lv' := [(3, .ref (ad X 11 (10 * i0 + x2.toNatClampNeg))), (0, .ref (ad X 9 i0)), (1, .int x1), (2, .int x2)]) C.1 C.2.1 dX4_hear_18 rfl hl (by decide) rfl (fun ls hl => ?_)
      refine lv_aload_n C.1 C.2.1 dX4_hear_19 rfl (lv_at hl 0 rfl) ?_
      refine zg_X7_left C hW (ia_10 (im_9_10 g_i0) (inb_E hb_10)) w_202 dX4_hear_20 ?_
      refine lv_iconst (v := 1) C.1 C.2.1 dX4_hear_23 rfl ?_
      refine lv_icmp_le (tgt := 42) C.1 C.2.1 dX4_hear_24 (by decide) (fun hc_18 => ?_) (fun hc_18 => ?_)
      · have h := ite_t hc_18 h
        refine lv_aload_n C.1 C.2.1 dX4_hear_42 rfl (lv_at hl 0 rfl) ?_
        refine zg_X7_left C hW (ia_10 (im_9_10 g_i0) (inb_E hb_10)) w_202 dX4_hear_43 ?_
        refine lv_iconst (v := 1) C.1 C.2.1 dX4_hear_46 rfl ?_
        refine lv_icmp_ne (tgt := 60) C.1 C.2.1 dX4_hear_47 (by decide) (fun hc_15 => ?_) (fun hc_15 => ?_)
        · have h := ite_f hc_15 h
          exact w_X4_hear_60 C hq ih h g_i0 hW (lv_sub hl [1, 2, 3] rfl)
        · have h := ite_t hc_15 h
          refine lv_aload_n C.1 C.2.1 dX4_hear_50 rfl (lv_at hl 0 rfl) ?_
          refine lv_iconst (v := 0) C.1 C.2.1 dX4_hear_51 rfl ?_
          obtain ⟨m_11, e_12, h⟩ := seqM_E h
          refine zp_X7_left C hW (ia_10 (im_9_10 g_i0) (inb_E hb_10)) w_202 e_12 dX4_hear_52 (fun H locs hW => ?_)
          refine lv_aload_n C.1 C.2.1 dX4_hear_55 rfl (lv_at hl 1 rfl) ?_
          refine lv_iload_n C.1 C.2.1 dX4_hear_56 rfl (lv_at hl 3 rfl) ?_
          obtain ⟨m_13, e_14, h⟩ := seqM_E h
          refine zp_X4_last C hW g_i0 w_250 e_14 dX4_hear_57 (fun H locs hW => ?_)
          exact w_X4_hear_60 C hq ih h g_i0 hW (lv_sub hl [1, 2, 3] rfl)
      · have h := ite_f hc_18 h
        refine lv_aload_n C.1 C.2.1 dX4_hear_27 rfl (lv_at hl 0 rfl) ?_
        refine lv_dup C.1 C.2.1 dX4_hear_28 rfl ?_
        refine zg_X7_left C hW (ia_10 (im_9_10 g_i0) (inb_E hb_10)) w_202 dX4_hear_29 ?_
        refine lv_iconst (v := 1) C.1 C.2.1 dX4_hear_32 rfl ?_
        refine lv_isub C.1 C.2.1 dX4_hear_33 ?_
        obtain ⟨m_16, e_17, h⟩ := seqM_E h
        refine zp_X7_left C hW (ia_10 (im_9_10 g_i0) (inb_E hb_10)) w_202 e_17 dX4_hear_34 (fun H locs hW => ?_)
        refine lv_iconst (v := 0) C.1 C.2.1 dX4_hear_37 rfl ?_
        refine lv_istore_n (lv' := [(1, .int 0), (3, .ref (ad X 11 (10 * i0 + x2.toNatClampNeg))), (0, .ref (ad X 9 i0)), (2, .int x2)]) C.1 C.2.1 dX4_hear_38 rfl hl (by decide) rfl (fun ls hl => ?_)
        refine lv_goto (tgt := 60) C.1 C.2.1 dX4_hear_39 (by decide) ?_
        exact w_X4_hear_60 C hq ih h g_i0 hW (lv_sub hl [2, 0, 3] rfl)
def f_X4_hear (fu : Nat)  (i0 : Nat) (m : Mem) : Option Mem := f_X4_hear_4 fu fu i0 1 0 m
set_option maxHeartbeats 4000000 in
set_option maxRecDepth 100000 in
theorem w_X4_hear {X : TX} {p : Program} {l : Launch} {e : Env} {s : State} {mi : MethodId} {args : Array Value} {below : List Frame} {meth : Method} {c : Code} {Q : State → Prop} {mE : Mem} (C : Cx X p s mi args c RX4 cX4_hear 4) (hq : RetV X p l e (rmD 1) s mi args below meth c cX4_hear Q mE) {fu : Nat} {i0 : Nat} {m : Mem} {H : Heap} {locs : List Loc} {ls : Array Slot} (h : f_X4_hear fu i0 m = some mE) (g_i0 : (9, i0) ∈ ids) (hW : Wd X s m H locs) (hl : lv_has ls 4 [(0, .ref (ad X 9 i0))]) : W p l e (rmD 1) s mi args below meth c H locs 0 0 Q (F0 mi 0 ls []) := by
  unfold f_X4_hear at h
  refine lv_iconst (v := 1) C.1 C.2.1 dX4_hear_0 rfl ?_
  refine lv_istore_n (lv' := [(1, .int 1), (0, .ref (ad X 9 i0))]) C.1 C.2.1 dX4_hear_1 rfl hl (by decide) rfl (fun ls hl => ?_)
  refine lv_iconst (v := 0) C.1 C.2.1 dX4_hear_2 rfl ?_
  refine lv_istore_n (lv' := [(2, .int 0), (1, .int 1), (0, .ref (ad X 9 i0))]) C.1 C.2.1 dX4_hear_3 rfl hl (by decide) rfl (fun ls hl => ?_)
  exact w_X4_hear_4 C hq  fu h g_i0 hW (lv_sub hl [2, 1, 0] rfl)
theorem c_X4_hear {X : TX} {l : Launch} {fu : Nat} {i0 : Nat} {m mE : Mem} (h : f_X4_hear fu i0 m = some mE) (g_i0 : (9, i0) ∈ ids) : MetV X l yX4_hear cX4_hear 4 1 [.ref (ad X 9 i0)] m mE :=
  met_V (by decide) (Nat.le_of_ble_eq_true rfl) (fun p e s mi args below meth c ls Q C hq hW hl => w_X4_hear C hq h g_i0 hW (lv_sub hl [0] rfl))
theorem k_X4_hear : CalV yX4_hear cX4_hear 4 none RX4 0 := ⟨w_520, w_521, w_65, w_522, by decide +kernel⟩
theorem dX4_whoIsReady_0 : decode cX4_whoIsReady 0 = .ok (.iconst 0, 1) := by decide +kernel
theorem dX4_whoIsReady_1 : decode cX4_whoIsReady 1 = .ok (.istore_n 1, 1) := by decide +kernel
theorem dX4_whoIsReady_2 : decode cX4_whoIsReady 2 = .ok (.iconst 0, 1) := by decide +kernel
theorem dX4_whoIsReady_3 : decode cX4_whoIsReady 3 = .ok (.istore_n 2, 1) := by decide +kernel
theorem dX4_whoIsReady_4 : decode cX4_whoIsReady 4 = .ok (.iload_n 2, 1) := by decide +kernel
theorem dX4_whoIsReady_5 : decode cX4_whoIsReady 5 = .ok (.aload_n 0, 1) := by decide +kernel
theorem dX4_whoIsReady_6 : decode cX4_whoIsReady 6 = .ok (.getfield 39, 3) := by decide +kernel
theorem dX4_whoIsReady_9 : decode cX4_whoIsReady 9 = .ok (.if_icmp .ge 44, 3) := by decide +kernel
theorem dX4_whoIsReady_12 : decode cX4_whoIsReady 12 = .ok (.aload_n 0, 1) := by decide +kernel
theorem dX4_whoIsReady_13 : decode cX4_whoIsReady 13 = .ok (.getfield 11, 3) := by decide +kernel
theorem dX4_whoIsReady_16 : decode cX4_whoIsReady 16 = .ok (.iload_n 2, 1) := by decide +kernel
theorem dX4_whoIsReady_17 : decode cX4_whoIsReady 17 = .ok (.aaload, 1) := by decide +kernel
theorem dX4_whoIsReady_18 : decode cX4_whoIsReady 18 = .ok (.aload_n 0, 1) := by decide +kernel
theorem dX4_whoIsReady_19 : decode cX4_whoIsReady 19 = .ok (.getfield 49, 3) := by decide +kernel
theorem dX4_whoIsReady_22 : decode cX4_whoIsReady 22 = .ok (.iload_n 2, 1) := by decide +kernel
theorem dX4_whoIsReady_23 : decode cX4_whoIsReady 23 = .ok (.aload_n 0, 1) := by decide +kernel
theorem dX4_whoIsReady_24 : decode cX4_whoIsReady 24 = .ok (.getfield 25, 3) := by decide +kernel
theorem dX4_whoIsReady_27 : decode cX4_whoIsReady 27 = .ok (.if_icmp .ne 7, 3) := by decide +kernel
theorem dX4_whoIsReady_30 : decode cX4_whoIsReady 30 = .ok (.iconst 1, 1) := by decide +kernel
theorem dX4_whoIsReady_31 : decode cX4_whoIsReady 31 = .ok (.goto 4, 3) := by decide +kernel
theorem dX4_whoIsReady_34 : decode cX4_whoIsReady 34 = .ok (.iconst 0, 1) := by decide +kernel
theorem dX4_whoIsReady_35 : decode cX4_whoIsReady 35 = .ok (.invokevirtual 136, 3) := by decide +kernel
theorem dX4_whoIsReady_38 : decode cX4_whoIsReady 38 = .ok (.ifCond .eq 9, 3) := by decide +kernel
theorem dX4_whoIsReady_41 : decode cX4_whoIsReady 41 = .ok (.iload_n 1, 1) := by decide +kernel
theorem dX4_whoIsReady_42 : decode cX4_whoIsReady 42 = .ok (.iconst 1, 1) := by decide +kernel
theorem dX4_whoIsReady_43 : decode cX4_whoIsReady 43 = .ok (.iload_n 2, 1) := by decide +kernel
theorem dX4_whoIsReady_44 : decode cX4_whoIsReady 44 = .ok (.ishl, 1) := by decide +kernel
theorem dX4_whoIsReady_45 : decode cX4_whoIsReady 45 = .ok (.ior, 1) := by decide +kernel
theorem dX4_whoIsReady_46 : decode cX4_whoIsReady 46 = .ok (.istore_n 1, 1) := by decide +kernel
theorem dX4_whoIsReady_47 : decode cX4_whoIsReady 47 = .ok (.iinc 2 1, 3) := by decide +kernel
theorem dX4_whoIsReady_50 : decode cX4_whoIsReady 50 = .ok (.goto (-46), 3) := by decide +kernel
theorem dX4_whoIsReady_53 : decode cX4_whoIsReady 53 = .ok (.iload_n 1, 1) := by decide +kernel
theorem dX4_whoIsReady_54 : decode cX4_whoIsReady 54 = .ok (.ireturn, 1) := by decide +kernel
def f_X4_whoIsReady_47 (fu : Nat) (k_4 : Nat → Int32 → Int32 → Mem → Option (Int32 × Mem)) (i0 : Nat) (x1 : Int32) (x2 : Int32) (m : Mem) : Option (Int32 × Mem) := seqM (x2 + 1) (fun x_1 : Int32 => k_4 i0 x1 x_1 m)
set_option maxHeartbeats 4000000 in
set_option maxRecDepth 100000 in
theorem w_X4_whoIsReady_47 {X : TX} {p : Program} {l : Launch} {e : Env} {s : State} {mi : MethodId} {args : Array Value} {below : List Frame} {meth : Method} {c : Code} {Q : State → Prop} {r : Int32} {mE : Mem} (C : Cx X p s mi args c RX4 cX4_whoIsReady 3) (hq : RetI X p l e (rmD 3) s mi args below meth c cX4_whoIsReady .int Q r mE) {fu : Nat} {k_4 : Nat → Int32 → Int32 → Mem → Option (Int32 × Mem)} (hk_4 : ∀ {i0 : Nat} {x1 : Int32} {x2 : Int32} {m : Mem} {H : Heap} {locs : List Loc} {ls : Array Slot}, k_4 i0 x1 x2 m = some (r, mE) → (9, i0) ∈ ids → Wd X s m H locs → lv_has ls 3 [(0, .ref (ad X 9 i0)), (1, .int x1), (2, .int x2)] → W p l e (rmD 3) s mi args below meth c H locs 0 0 Q (F0 mi 4 ls [])) {i0 : Nat} {x1 : Int32} {x2 : Int32} {m : Mem} {H : Heap} {locs : List Loc} {ls : Array Slot} (h : f_X4_whoIsReady_47 fu k_4 i0 x1 x2 m = some (r, mE)) (g_i0 : (9, i0) ∈ ids) (hW : Wd X s m H locs) (hl : lv_has ls 3 [(0, .ref (ad X 9 i0)), (1, .int x1), (2, .int x2)]) : W p l e (rmD 3) s mi args below meth c H locs 0 0 Q (F0 mi 47 ls []) := by
  unfold f_X4_whoIsReady_47 at h
  obtain ⟨x_1, e_2, h⟩ := seqM_E h
  refine lv_iinc (v := x_1) (lv' := [(2, .int x_1), (0, .ref (ad X 9 i0)), (1, .int x1)]) C.1 C.2.1 dX4_whoIsReady_47 hl (k := 2) rfl (by rw [e_2]; rfl) (by decide) rfl (fun ls hl => ?_)
  refine lv_goto (tgt := 4) C.1 C.2.1 dX4_whoIsReady_50 (by decide) ?_
  exact hk_4 h g_i0 hW (lv_sub hl [1, 2, 0] rfl)
def f_X4_whoIsReady_35 (fu : Nat) (k_4 : Nat → Int32 → Int32 → Mem → Option (Int32 × Mem)) (i0 : Nat) (x1 : Int32) (x2 : Int32) (j0 : Nat) (y1 : Int32) (y2 : Int32) (m : Mem) : Option (Int32 × Mem) := doI (f_X7_isReady fu j0 y1 y2 m) (fun r_3 m_2 => if r_3 = 0 then (f_X4_whoIsReady_47 fu k_4 i0 x1 x2 m_2) else (seqM (x1 ||| (1 <<< (x2 &&& 31))) (fun x_4 : Int32 => f_X4_whoIsReady_47 fu k_4 i0 x_4 x2 m_2)))
set_option maxHeartbeats 4000000 in
set_option maxRecDepth 100000 in
theorem w_X4_whoIsReady_35 {X : TX} {p : Program} {l : Launch} {e : Env} {s : State} {mi : MethodId} {args : Array Value} {below : List Frame} {meth : Method} {c : Code} {Q : State → Prop} {r : Int32} {mE : Mem} (C : Cx X p s mi args c RX4 cX4_whoIsReady 3) (hq : RetI X p l e (rmD 3) s mi args below meth c cX4_whoIsReady .int Q r mE) {fu : Nat} {k_4 : Nat → Int32 → Int32 → Mem → Option (Int32 × Mem)} (hk_4 : ∀ {i0 : Nat} {x1 : Int32} {x2 : Int32} {m : Mem} {H : Heap} {locs : List Loc} {ls : Array Slot}, k_4 i0 x1 x2 m = some (r, mE) → (9, i0) ∈ ids → Wd X s m H locs → lv_has ls 3 [(0, .ref (ad X 9 i0)), (1, .int x1), (2, .int x2)] → W p l e (rmD 3) s mi args below meth c H locs 0 0 Q (F0 mi 4 ls [])) {i0 : Nat} {x1 : Int32} {x2 : Int32} {j0 : Nat} {y1 : Int32} {y2 : Int32} {m : Mem} {H : Heap} {locs : List Loc} {ls : Array Slot} (h : f_X4_whoIsReady_35 fu k_4 i0 x1 x2 j0 y1 y2 m = some (r, mE)) (g_i0 : (9, i0) ∈ ids) (g_j0 : (11, j0) ∈ ids) (hW : Wd X s m H locs) (hl : lv_has ls 3 [(0, .ref (ad X 9 i0)), (1, .int x1), (2, .int x2)]) : W p l e (rmD 3) s mi args below meth c H locs 0 0 Q (F0 mi 35 ls [.int y2, .int y1, .ref (ad X 11 j0)]) := by
  unfold f_X4_whoIsReady_35 at h
  obtain ⟨r_3, m_2, hc_1, h⟩ := doI_E h
  refine zr_cVI C hW (c_X7_isReady (i0 := j0) (x1 := y1) (x2 := y2) hc_1 g_j0) k_X7_isReady (zr_recv C hW g_j0 zco_11 rfl) w_532 ⟨Nat.le_of_ble_eq_true rfl, Nat.le_of_ble_eq_true rfl⟩ ⟨Nat.le_refl 0, Nat.le_refl 0⟩ rfl hl.1 rfl (Nat.le_of_ble_eq_true rfl) dX4_whoIsReady_35 (fun H locs hW => ?_)
  refine lv_if_eq (tgt := 47) C.1 C.2.1 dX4_whoIsReady_38 (by decide) (fun hc_6 => ?_) (fun hc_6 => ?_)
  · have h := ite_t hc_6 h
    exact w_X4_whoIsReady_47 C hq hk_4 h g_i0 hW (lv_sub hl [0, 1, 2] rfl)
  · have h := ite_f hc_6 h
    refine lv_iload_n C.1 C.2.1 dX4_whoIsReady_41 rfl (lv_at hl 1 rfl) ?_
    refine lv_iconst (v := 1) C.1 C.2.1 dX4_whoIsReady_42 rfl ?_
    refine lv_iload_n C.1 C.2.1 dX4_whoIsReady_43 rfl (lv_at hl 2 rfl) ?_
    refine lv_ishl C.1 C.2.1 dX4_whoIsReady_44 ?_
    refine lv_ior C.1 C.2.1 dX4_whoIsReady_45 ?_
    obtain ⟨x_4, e_5, h⟩ := seqM_E h
    refine lv_name e_5 ?_
    refine lv_istore_n (lv' := [(1, .int x_4), (0, .ref (ad X 9 i0)), (2, .int x2)]) C.1 C.2.1 dX4_whoIsReady_46 rfl hl (by decide) rfl (fun ls hl => ?_)
    exact w_X4_whoIsReady_47 C hq hk_4 h g_i0 hW (lv_sub hl [1, 0, 2] rfl)
def f_X4_whoIsReady_4 (fu : Nat)  : Nat → Nat → Int32 → Int32 → Mem → Option (Int32 × Mem)
  | 0, _, _, _, _ => none
  | n + 1, i0, x1, x2, m => if (m (sf i0 1)) ≤ x2 then (some (x1, m)) else (chk (inb x2 5) (if x2 = (m (sf i0 14)) then (f_X4_whoIsReady_35 fu (f_X4_whoIsReady_4 fu n) i0 x1 x2 (10 * i0 + x2.toNatClampNeg) (m (sf i0 6)) 1 m) else (f_X4_whoIsReady_35 fu (f_X4_whoIsReady_4 fu n) i0 x1 x2 (10 * i0 + x2.toNatClampNeg) (m (sf i0 6)) 0 m)))
set_option maxHeartbeats 4000000 in
set_option maxRecDepth 100000 in
theorem w_X4_whoIsReady_4 {X : TX} {p : Program} {l : Launch} {e : Env} {s : State} {mi : MethodId} {args : Array Value} {below : List Frame} {meth : Method} {c : Code} {Q : State → Prop} {r : Int32} {mE : Mem} (C : Cx X p s mi args c RX4 cX4_whoIsReady 3) (hq : RetI X p l e (rmD 3) s mi args below meth c cX4_whoIsReady .int Q r mE) {fu : Nat} : ∀ (n : Nat) {i0 : Nat} {x1 : Int32} {x2 : Int32} {m : Mem} {H : Heap} {locs : List Loc} {ls : Array Slot}, f_X4_whoIsReady_4 fu n i0 x1 x2 m = some (r, mE) → (9, i0) ∈ ids → Wd X s m H locs → lv_has ls 3 [(0, .ref (ad X 9 i0)), (1, .int x1), (2, .int x2)] → W p l e (rmD 3) s mi args below meth c H locs 0 0 Q (F0 mi 4 ls []) := by
  intro n
  induction n with
  | zero =>
    intro i0 x1 x2 m H locs ls h g_i0 hW hl
    rw [f_X4_whoIsReady_4] at h
    cases h
  | succ n ih =>
    intro i0 x1 x2 m H locs ls h g_i0 hW hl
    rw [f_X4_whoIsReady_4] at h
    refine lv_iload_n C.1 C.2.1 dX4_whoIsReady_4 rfl (lv_at hl 2 rfl) ?_
    refine lv_aload_n C.1 C.2.1 dX4_whoIsReady_5 rfl (lv_at hl 0 rfl) ?_
    refine zg_X4_many C hW g_i0 w_226 dX4_whoIsReady_6 ?_
    refine lv_icmp_ge (tgt := 53) C.1 C.2.1 dX4_whoIsReady_9 (by decide) (fun hc_3 => ?_) (fun hc_3 => ?_)
    · have h := ite_t hc_3 h
      refine lv_iload_n C.1 C.2.1 dX4_whoIsReady_53 rfl (lv_at hl 1 rfl) ?_
      exact ret_i h hq rfl hW dX4_whoIsReady_54
    · have h := ite_f hc_3 h
      refine lv_aload_n C.1 C.2.1 dX4_whoIsReady_12 rfl (lv_at hl 0 rfl) ?_
      refine zg_X4_voices C hW g_i0 w_224 dX4_whoIsReady_13 ?_
      refine lv_iload_n C.1 C.2.1 dX4_whoIsReady_16 rfl (lv_at hl 2 rfl) ?_
      obtain ⟨hb_1, h⟩ := chk_E h
      refine zaa_10 C hW (im_9_10 g_i0) (inb_E hb_1) dX4_whoIsReady_17 ?_
      refine lv_aload_n C.1 C.2.1 dX4_whoIsReady_18 rfl (lv_at hl 0 rfl) ?_
      refine zg_X4_silence C hW g_i0 w_234 dX4_whoIsReady_19 ?_
      refine lv_iload_n C.1 C.2.1 dX4_whoIsReady_22 rfl (lv_at hl 2 rfl) ?_
      refine lv_aload_n C.1 C.2.1 dX4_whoIsReady_23 rfl (lv_at hl 0 rfl) ?_
      refine zg_X4_last C hW g_i0 w_250 dX4_whoIsReady_24 ?_
      refine lv_icmp_ne (tgt := 34) C.1 C.2.1 dX4_whoIsReady_27 (by decide) (fun hc_2 => ?_) (fun hc_2 => ?_)
      · have h := ite_f hc_2 h
        refine lv_iconst (v := 0) C.1 C.2.1 dX4_whoIsReady_34 rfl ?_
        exact w_X4_whoIsReady_35 C hq ih h g_i0 (ia_10 (im_9_10 g_i0) (inb_E hb_1)) hW (lv_sub hl [0, 1, 2] rfl)
      · have h := ite_t hc_2 h
        refine lv_iconst (v := 1) C.1 C.2.1 dX4_whoIsReady_30 rfl ?_
        refine lv_goto (tgt := 35) C.1 C.2.1 dX4_whoIsReady_31 (by decide) ?_
        exact w_X4_whoIsReady_35 C hq ih h g_i0 (ia_10 (im_9_10 g_i0) (inb_E hb_1)) hW (lv_sub hl [0, 1, 2] rfl)
def f_X4_whoIsReady (fu : Nat)  (i0 : Nat) (m : Mem) : Option (Int32 × Mem) := f_X4_whoIsReady_4 fu fu i0 0 0 m
set_option maxHeartbeats 4000000 in
set_option maxRecDepth 100000 in
theorem w_X4_whoIsReady {X : TX} {p : Program} {l : Launch} {e : Env} {s : State} {mi : MethodId} {args : Array Value} {below : List Frame} {meth : Method} {c : Code} {Q : State → Prop} {r : Int32} {mE : Mem} (C : Cx X p s mi args c RX4 cX4_whoIsReady 3) (hq : RetI X p l e (rmD 3) s mi args below meth c cX4_whoIsReady .int Q r mE) {fu : Nat} {i0 : Nat} {m : Mem} {H : Heap} {locs : List Loc} {ls : Array Slot} (h : f_X4_whoIsReady fu i0 m = some (r, mE)) (g_i0 : (9, i0) ∈ ids) (hW : Wd X s m H locs) (hl : lv_has ls 3 [(0, .ref (ad X 9 i0))]) : W p l e (rmD 3) s mi args below meth c H locs 0 0 Q (F0 mi 0 ls []) := by
  unfold f_X4_whoIsReady at h
  refine lv_iconst (v := 0) C.1 C.2.1 dX4_whoIsReady_0 rfl ?_
  refine lv_istore_n (lv' := [(1, .int 0), (0, .ref (ad X 9 i0))]) C.1 C.2.1 dX4_whoIsReady_1 rfl hl (by decide) rfl (fun ls hl => ?_)
  refine lv_iconst (v := 0) C.1 C.2.1 dX4_whoIsReady_2 rfl ?_
  refine lv_istore_n (lv' := [(2, .int 0), (1, .int 0), (0, .ref (ad X 9 i0))]) C.1 C.2.1 dX4_whoIsReady_3 rfl hl (by decide) rfl (fun ls hl => ?_)
  exact w_X4_whoIsReady_4 C hq  fu h g_i0 hW (lv_sub hl [2, 1, 0] rfl)
theorem c_X4_whoIsReady {X : TX} {l : Launch} {fu : Nat} {i0 : Nat} {m mE : Mem} {r : Int32} (h : f_X4_whoIsReady fu i0 m = some (r, mE)) (g_i0 : (9, i0) ∈ ids) : MetI X l yX4_whoIsReady cX4_whoIsReady 3 .int 3 [.ref (ad X 9 i0)] m r mE :=
  met_I (by decide) (Nat.le_of_ble_eq_true rfl) (fun p e s mi args below meth c ls Q C hq hW hl => w_X4_whoIsReady C hq h g_i0 hW (lv_sub hl [0] rfl))
theorem k_X4_whoIsReady : CalV yX4_whoIsReady cX4_whoIsReady 3 (some .int) RX4 0 := ⟨w_530, w_2, w_65, w_531, by decide +kernel⟩
theorem dX4_turningOff_0 : decode cX4_turningOff 0 = .ok (.aload_n 0, 1) := by decide +kernel
theorem dX4_turningOff_1 : decode cX4_turningOff 1 = .ok (.getfield 31, 3) := by decide +kernel
theorem dX4_turningOff_4 : decode cX4_turningOff 4 = .ok (.iconst 0, 1) := by decide +kernel
theorem dX4_turningOff_5 : decode cX4_turningOff 5 = .ok (.iaload, 1) := by decide +kernel
theorem dX4_turningOff_6 : decode cX4_turningOff 6 = .ok (.istore_n 1, 1) := by decide +kernel
theorem dX4_turningOff_7 : decode cX4_turningOff 7 = .ok (.iload_n 1, 1) := by decide +kernel
theorem dX4_turningOff_8 : decode cX4_turningOff 8 = .ok (.ifCond .ge 13, 3) := by decide +kernel
theorem dX4_turningOff_11 : decode cX4_turningOff 11 = .ok (.aload_n 0, 1) := by decide +kernel
theorem dX4_turningOff_12 : decode cX4_turningOff 12 = .ok (.getfield 49, 3) := by decide +kernel
theorem dX4_turningOff_15 : decode cX4_turningOff 15 = .ok (.bipush 20, 2) := by decide +kernel
theorem dX4_turningOff_17 : decode cX4_turningOff 17 = .ok (.idiv, 1) := by decide +kernel
theorem dX4_turningOff_18 : decode cX4_turningOff 18 = .ok (.goto 23, 3) := by decide +kernel
theorem dX4_turningOff_21 : decode cX4_turningOff 21 = .ok (.aload_n 0, 1) := by decide +kernel
theorem dX4_turningOff_22 : decode cX4_turningOff 22 = .ok (.getfield 35, 3) := by decide +kernel
theorem dX4_turningOff_25 : decode cX4_turningOff 25 = .ok (.iload_n 1, 1) := by decide +kernel
theorem dX4_turningOff_26 : decode cX4_turningOff 26 = .ok (.aload_n 0, 1) := by decide +kernel
theorem dX4_turningOff_27 : decode cX4_turningOff 27 = .ok (.getfield 49, 3) := by decide +kernel
theorem dX4_turningOff_30 : decode cX4_turningOff 30 = .ok (.aload_n 0, 1) := by decide +kernel
theorem dX4_turningOff_31 : decode cX4_turningOff 31 = .ok (.getfield 18, 3) := by decide +kernel
theorem dX4_turningOff_34 : decode cX4_turningOff 34 = .ok (.aload_n 0, 1) := by decide +kernel
theorem dX4_turningOff_35 : decode cX4_turningOff 35 = .ok (.getfield 55, 3) := by decide +kernel
theorem dX4_turningOff_38 : decode cX4_turningOff 38 = .ok (.invokevirtual 167, 3) := by decide +kernel
theorem dX4_turningOff_41 : decode cX4_turningOff 41 = .ok (.ireturn, 1) := by decide +kernel
def f_X4_turningOff (fu : Nat)  (i0 : Nat) (m : Mem) : Option (Int32 × Mem) := seqM (m ((51 + 70 * i0) + (0 : Int32).toNatClampNeg)) (fun x_1 : Int32 => if 0 ≤ x_1 then (doI (f_X6_give fu x_1 (m (sf i0 6)) (m (sf i0 5)) (m (sf i0 8)) m) (fun r_5 m_4 => some (r_5, m_4))) else (some (((m (sf i0 6)) / 20), m)))
set_option maxHeartbeats 4000000 in
set_option maxRecDepth 100000 in
theorem w_X4_turningOff {X : TX} {p : Program} {l : Launch} {e : Env} {s : State} {mi : MethodId} {args : Array Value} {below : List Frame} {meth : Method} {c : Code} {Q : State → Prop} {r : Int32} {mE : Mem} (C : Cx X p s mi args c RX4 cX4_turningOff 2) (hq : RetI X p l e (rmD 2) s mi args below meth c cX4_turningOff .int Q r mE) {fu : Nat} {i0 : Nat} {m : Mem} {H : Heap} {locs : List Loc} {ls : Array Slot} (h : f_X4_turningOff fu i0 m = some (r, mE)) (g_i0 : (9, i0) ∈ ids) (hW : Wd X s m H locs) (hl : lv_has ls 2 [(0, .ref (ad X 9 i0))]) : W p l e (rmD 2) s mi args below meth c H locs 0 0 Q (F0 mi 0 ls []) := by
  unfold f_X4_turningOff at h
  refine lv_aload_n C.1 C.2.1 dX4_turningOff_0 rfl (lv_at hl 0 rfl) ?_
  refine zg_X4_counting C hW g_i0 w_258 dX4_turningOff_1 ?_
  refine lv_iconst (v := 0) C.1 C.2.1 dX4_turningOff_4 rfl ?_
  refine zal_12 C hW (im_9_12 g_i0) (inb_E (by decide)) dX4_turningOff_5 ?_
  obtain ⟨x_1, e_2, h⟩ := seqM_E h
  refine lv_name e_2 ?_
  refine lv_istore_n (lv' := [(1, .int x_1), (0, .ref (ad X 9 i0))]) C.1 C.2.1 dX4_turningOff_6 rfl hl (by decide) rfl (fun ls hl => ?_)
  refine lv_iload_n C.1 C.2.1 dX4_turningOff_7 rfl (lv_at hl 0 rfl) ?_
  refine lv_if_ge (tgt := 21) C.1 C.2.1 dX4_turningOff_8 (by decide) (fun hc_6 => ?_) (fun hc_6 => ?_)
  · have h := ite_t hc_6 h
    refine lv_aload_n C.1 C.2.1 dX4_turningOff_21 rfl (lv_at hl 1 rfl) ?_
    refine zg_X4_texts C hW g_i0 w_260 dX4_turningOff_22 ?_
    refine lv_iload_n C.1 C.2.1 dX4_turningOff_25 rfl (lv_at hl 0 rfl) ?_
    refine lv_aload_n C.1 C.2.1 dX4_turningOff_26 rfl (lv_at hl 1 rfl) ?_
    refine zg_X4_silence C hW g_i0 w_234 dX4_turningOff_27 ?_
    refine lv_aload_n C.1 C.2.1 dX4_turningOff_30 rfl (lv_at hl 1 rfl) ?_
    refine zg_X4_listeners C hW g_i0 w_228 dX4_turningOff_31 ?_
    refine lv_aload_n C.1 C.2.1 dX4_turningOff_34 rfl (lv_at hl 1 rfl) ?_
    refine zg_X4_longestHole C hW g_i0 w_238 dX4_turningOff_35 ?_
    obtain ⟨r_5, m_4, hc_3, h⟩ := doI_E h
    refine zr_cVI C hW (c_X6_give (x1 := x_1) (x2 := (m (sf i0 6))) (x3 := (m (sf i0 5))) (x4 := (m (sf i0 8))) hc_3 ) k_X6_give (zr_recv C hW id_1 zco_1 rfl) w_545 ⟨Nat.le_of_ble_eq_true rfl, Nat.le_of_ble_eq_true rfl⟩ ⟨Nat.le_refl 0, Nat.le_refl 0⟩ rfl hl.1 rfl (Nat.le_of_ble_eq_true rfl) dX4_turningOff_38 (fun H locs hW => ?_)
    exact ret_i h hq rfl hW dX4_turningOff_41
  · have h := ite_f hc_6 h
    refine lv_aload_n C.1 C.2.1 dX4_turningOff_11 rfl (lv_at hl 1 rfl) ?_
    refine zg_X4_silence C hW g_i0 w_234 dX4_turningOff_12 ?_
    refine lv_bipush (v := 20) C.1 C.2.1 dX4_turningOff_15 rfl ?_
    refine lv_idiv C.1 C.2.1 dX4_turningOff_17 (by decide) ?_
    refine lv_goto (tgt := 41) C.1 C.2.1 dX4_turningOff_18 (by decide) ?_
    exact ret_i h hq rfl hW dX4_turningOff_41
theorem c_X4_turningOff {X : TX} {l : Launch} {fu : Nat} {i0 : Nat} {m mE : Mem} {r : Int32} (h : f_X4_turningOff fu i0 m = some (r, mE)) (g_i0 : (9, i0) ∈ ids) : MetI X l yX4_turningOff cX4_turningOff 2 .int 2 [.ref (ad X 9 i0)] m r mE :=
  met_I (by decide) (Nat.le_of_ble_eq_true rfl) (fun p e s mi args below meth c ls Q C hq hW hl => w_X4_turningOff C hq h g_i0 hW (lv_sub hl [0] rfl))
theorem k_X4_turningOff : CalV yX4_turningOff cX4_turningOff 2 (some .int) RX4 0 := ⟨w_543, w_4, w_65, w_544, by decide +kernel⟩
theorem dX4_bearSilence_0 : decode cX4_bearSilence 0 = .ok (.aload_n 0, 1) := by decide +kernel
theorem dX4_bearSilence_1 : decode cX4_bearSilence 1 = .ok (.getfield 46, 3) := by decide +kernel
theorem dX4_bearSilence_4 : decode cX4_bearSilence 4 = .ok (.ifCond .eq 49, 3) := by decide +kernel
theorem dX4_bearSilence_7 : decode cX4_bearSilence 7 = .ok (.aload_n 0, 1) := by decide +kernel
theorem dX4_bearSilence_8 : decode cX4_bearSilence 8 = .ok (.getfield 49, 3) := by decide +kernel
theorem dX4_bearSilence_11 : decode cX4_bearSilence 11 = .ok (.aload_n 0, 1) := by decide +kernel
theorem dX4_bearSilence_12 : decode cX4_bearSilence 12 = .ok (.getfield 46, 3) := by decide +kernel
theorem dX4_bearSilence_15 : decode cX4_bearSilence 15 = .ok (.if_icmp .ne 38, 3) := by decide +kernel
theorem dX4_bearSilence_18 : decode cX4_bearSilence 18 = .ok (.aload_n 0, 1) := by decide +kernel
theorem dX4_bearSilence_19 : decode cX4_bearSilence 19 = .ok (.iconst 0, 1) := by decide +kernel
theorem dX4_bearSilence_20 : decode cX4_bearSilence 20 = .ok (.aload_n 0, 1) := by decide +kernel
theorem dX4_bearSilence_21 : decode cX4_bearSilence 21 = .ok (.getfield 18, 3) := by decide +kernel
theorem dX4_bearSilence_24 : decode cX4_bearSilence 24 = .ok (.aload_n 0, 1) := by decide +kernel
theorem dX4_bearSilence_25 : decode cX4_bearSilence 25 = .ok (.getfield 67, 3) := by decide +kernel
theorem dX4_bearSilence_28 : decode cX4_bearSilence 28 = .ok (.isub, 1) := by decide +kernel
theorem dX4_bearSilence_29 : decode cX4_bearSilence 29 = .ok (.invokestatic 119, 3) := by decide +kernel
theorem dX4_bearSilence_32 : decode cX4_bearSilence 32 = .ok (.putfield 18, 3) := by decide +kernel
theorem dX4_bearSilence_35 : decode cX4_bearSilence 35 = .ok (.aload_n 0, 1) := by decide +kernel
theorem dX4_bearSilence_36 : decode cX4_bearSilence 36 = .ok (.dup, 1) := by decide +kernel
theorem dX4_bearSilence_37 : decode cX4_bearSilence 37 = .ok (.getfield 67, 3) := by decide +kernel
theorem dX4_bearSilence_40 : decode cX4_bearSilence 40 = .ok (.iconst 1, 1) := by decide +kernel
theorem dX4_bearSilence_41 : decode cX4_bearSilence 41 = .ok (.iadd, 1) := by decide +kernel
theorem dX4_bearSilence_42 : decode cX4_bearSilence 42 = .ok (.putfield 67, 3) := by decide +kernel
theorem dX4_bearSilence_45 : decode cX4_bearSilence 45 = .ok (.aload_n 0, 1) := by decide +kernel
theorem dX4_bearSilence_46 : decode cX4_bearSilence 46 = .ok (.iconst 0, 1) := by decide +kernel
theorem dX4_bearSilence_47 : decode cX4_bearSilence 47 = .ok (.putfield 49, 3) := by decide +kernel
theorem dX4_bearSilence_50 : decode cX4_bearSilence 50 = .ok (.goto 73, 3) := by decide +kernel
theorem dX4_bearSilence_53 : decode cX4_bearSilence 53 = .ok (.aload_n 0, 1) := by decide +kernel
theorem dX4_bearSilence_54 : decode cX4_bearSilence 54 = .ok (.getfield 22, 3) := by decide +kernel
theorem dX4_bearSilence_57 : decode cX4_bearSilence 57 = .ok (.ifCond .eq 42, 3) := by decide +kernel
theorem dX4_bearSilence_60 : decode cX4_bearSilence 60 = .ok (.aload_n 0, 1) := by decide +kernel
theorem dX4_bearSilence_61 : decode cX4_bearSilence 61 = .ok (.getfield 49, 3) := by decide +kernel
theorem dX4_bearSilence_64 : decode cX4_bearSilence 64 = .ok (.aload_n 0, 1) := by decide +kernel
theorem dX4_bearSilence_65 : decode cX4_bearSilence 65 = .ok (.getfield 22, 3) := by decide +kernel
theorem dX4_bearSilence_68 : decode cX4_bearSilence 68 = .ok (.if_icmp .lt 31, 3) := by decide +kernel
theorem dX4_bearSilence_71 : decode cX4_bearSilence 71 = .ok (.aload_n 0, 1) := by decide +kernel
theorem dX4_bearSilence_72 : decode cX4_bearSilence 72 = .ok (.dup, 1) := by decide +kernel
theorem dX4_bearSilence_73 : decode cX4_bearSilence 73 = .ok (.getfield 18, 3) := by decide +kernel
theorem dX4_bearSilence_76 : decode cX4_bearSilence 76 = .ok (.iconst 2, 1) := by decide +kernel
theorem dX4_bearSilence_77 : decode cX4_bearSilence 77 = .ok (.idiv, 1) := by decide +kernel
theorem dX4_bearSilence_78 : decode cX4_bearSilence 78 = .ok (.putfield 18, 3) := by decide +kernel
theorem dX4_bearSilence_81 : decode cX4_bearSilence 81 = .ok (.aload_n 0, 1) := by decide +kernel
theorem dX4_bearSilence_82 : decode cX4_bearSilence 82 = .ok (.dup, 1) := by decide +kernel
theorem dX4_bearSilence_83 : decode cX4_bearSilence 83 = .ok (.getfield 70, 3) := by decide +kernel
theorem dX4_bearSilence_86 : decode cX4_bearSilence 86 = .ok (.iconst 1, 1) := by decide +kernel
theorem dX4_bearSilence_87 : decode cX4_bearSilence 87 = .ok (.iadd, 1) := by decide +kernel
theorem dX4_bearSilence_88 : decode cX4_bearSilence 88 = .ok (.putfield 70, 3) := by decide +kernel
theorem dX4_bearSilence_91 : decode cX4_bearSilence 91 = .ok (.aload_n 0, 1) := by decide +kernel
theorem dX4_bearSilence_92 : decode cX4_bearSilence 92 = .ok (.iconst 0, 1) := by decide +kernel
theorem dX4_bearSilence_93 : decode cX4_bearSilence 93 = .ok (.putfield 49, 3) := by decide +kernel
theorem dX4_bearSilence_96 : decode cX4_bearSilence 96 = .ok (.goto 27, 3) := by decide +kernel
theorem dX4_bearSilence_99 : decode cX4_bearSilence 99 = .ok (.aload_n 0, 1) := by decide +kernel
theorem dX4_bearSilence_100 : decode cX4_bearSilence 100 = .ok (.dup, 1) := by decide +kernel
theorem dX4_bearSilence_101 : decode cX4_bearSilence 101 = .ok (.getfield 18, 3) := by decide +kernel
theorem dX4_bearSilence_104 : decode cX4_bearSilence 104 = .ok (.iconst 0, 1) := by decide +kernel
theorem dX4_bearSilence_105 : decode cX4_bearSilence 105 = .ok (.aload_n 0, 1) := by decide +kernel
theorem dX4_bearSilence_106 : decode cX4_bearSilence 106 = .ok (.invokevirtual 161, 3) := by decide +kernel
theorem dX4_bearSilence_109 : decode cX4_bearSilence 109 = .ok (.aload_n 0, 1) := by decide +kernel
theorem dX4_bearSilence_110 : decode cX4_bearSilence 110 = .ok (.getfield 18, 3) := by decide +kernel
theorem dX4_bearSilence_113 : decode cX4_bearSilence 113 = .ok (.invokestatic 164, 3) := by decide +kernel
theorem dX4_bearSilence_116 : decode cX4_bearSilence 116 = .ok (.invokestatic 119, 3) := by decide +kernel
theorem dX4_bearSilence_119 : decode cX4_bearSilence 119 = .ok (.isub, 1) := by decide +kernel
theorem dX4_bearSilence_120 : decode cX4_bearSilence 120 = .ok (.putfield 18, 3) := by decide +kernel
theorem dX4_bearSilence_123 : decode cX4_bearSilence 123 = .ok (.return_, 1) := by decide +kernel
def f_X4_bearSilence_99 (fu : Nat)  (i0 : Nat) (m : Mem) : Option Mem := doI (f_X4_turningOff fu i0 m) (fun r_3 m_2 => seqM (upd m_2 (sf i0 5) ((m (sf i0 5)) - (if 0 < (if (m_2 (sf i0 5)) < r_3 then (m_2 (sf i0 5)) else r_3) then (if (m_2 (sf i0 5)) < r_3 then (m_2 (sf i0 5)) else r_3) else 0))) (fun m_4 : Mem => some m_4))
set_option maxHeartbeats 4000000 in
set_option maxRecDepth 100000 in
theorem w_X4_bearSilence_99 {X : TX} {p : Program} {l : Launch} {e : Env} {s : State} {mi : MethodId} {args : Array Value} {below : List Frame} {meth : Method} {c : Code} {Q : State → Prop} {mE : Mem} (C : Cx X p s mi args c RX4 cX4_bearSilence 1) (hq : RetV X p l e (rmD 3) s mi args below meth c cX4_bearSilence Q mE) {fu : Nat} {i0 : Nat} {m : Mem} {H : Heap} {locs : List Loc} {ls : Array Slot} (h : f_X4_bearSilence_99 fu i0 m = some mE) (g_i0 : (9, i0) ∈ ids) (hW : Wd X s m H locs) (hl : lv_has ls 1 [(0, .ref (ad X 9 i0))]) : W p l e (rmD 3) s mi args below meth c H locs 0 0 Q (F0 mi 99 ls []) := by
  unfold f_X4_bearSilence_99 at h
  refine lv_aload_n C.1 C.2.1 dX4_bearSilence_99 rfl (lv_at hl 0 rfl) ?_
  refine lv_dup C.1 C.2.1 dX4_bearSilence_100 rfl ?_
  refine zg_X4_listeners C hW g_i0 w_228 dX4_bearSilence_101 ?_
  refine lv_iconst (v := 0) C.1 C.2.1 dX4_bearSilence_104 rfl ?_
  refine lv_aload_n C.1 C.2.1 dX4_bearSilence_105 rfl (lv_at hl 0 rfl) ?_
  obtain ⟨r_3, m_2, hc_1, h⟩ := doI_E h
  refine zr_cVI C hW (c_X4_turningOff (i0 := i0) hc_1 g_i0) k_X4_turningOff (zr_recv C hW g_i0 zco_9 rfl) w_541 ⟨Nat.le_of_ble_eq_true rfl, Nat.le_of_ble_eq_true rfl⟩ ⟨Nat.le_refl 0, Nat.le_refl 0⟩ rfl hl.1 rfl (Nat.le_of_ble_eq_true rfl) dX4_bearSilence_106 (fun H locs hW => ?_)
  refine lv_aload_n C.1 C.2.1 dX4_bearSilence_109 rfl (lv_at hl 0 rfl) ?_
  refine zg_X4_listeners C hW g_i0 w_228 dX4_bearSilence_110 ?_
  refine va_mmin C.1 C.2.1 (C.2.2.1.trans hl.1.symm) C.2.2.2.1 (C.2.2.2.2.1 _ w_552) (C.2.2.2.2.1 _ w_513) (C.2.2.2.2.1 _ w_71) (C.2.2.2.2.1 _ w_514) (Nat.le_of_ble_eq_true rfl) (Nat.le_of_ble_eq_true rfl) (Nat.le_refl 0) (Nat.le_refl 0) dX4_bearSilence_113 ?_
  refine va_mmax C.1 C.2.1 (C.2.2.1.trans hl.1.symm) C.2.2.2.1 (C.2.2.2.2.1 _ w_523) (C.2.2.2.2.1 _ w_431) (C.2.2.2.2.1 _ w_71) (C.2.2.2.2.1 _ w_432) (Nat.le_of_ble_eq_true rfl) (Nat.le_of_ble_eq_true rfl) (Nat.le_refl 0) (Nat.le_refl 0) dX4_bearSilence_116 ?_
  refine lv_isub C.1 C.2.1 dX4_bearSilence_119 ?_
  obtain ⟨m_4, e_5, h⟩ := seqM_E h
  refine zp_X4_listeners C hW g_i0 w_228 e_5 dX4_bearSilence_120 (fun H locs hW => ?_)
  exact ret_v h hq hW dX4_bearSilence_123
def f_X4_bearSilence_53 (fu : Nat)  (i0 : Nat) (m : Mem) : Option Mem := if (m (sf i0 3)) = 0 then (f_X4_bearSilence_99 fu i0 m) else (if (m (sf i0 6)) < (m (sf i0 3)) then (f_X4_bearSilence_99 fu i0 m) else (seqM (upd m (sf i0 5) ((m (sf i0 5)) / 2)) (fun m_1 : Mem => seqM (upd m_1 (sf i0 13) ((m_1 (sf i0 13)) + 1)) (fun m_3 : Mem => seqM (upd m_3 (sf i0 6) 0) (fun m_5 : Mem => some m_5)))))
set_option maxHeartbeats 4000000 in
set_option maxRecDepth 100000 in
theorem w_X4_bearSilence_53 {X : TX} {p : Program} {l : Launch} {e : Env} {s : State} {mi : MethodId} {args : Array Value} {below : List Frame} {meth : Method} {c : Code} {Q : State → Prop} {mE : Mem} (C : Cx X p s mi args c RX4 cX4_bearSilence 1) (hq : RetV X p l e (rmD 3) s mi args below meth c cX4_bearSilence Q mE) {fu : Nat} {i0 : Nat} {m : Mem} {H : Heap} {locs : List Loc} {ls : Array Slot} (h : f_X4_bearSilence_53 fu i0 m = some mE) (g_i0 : (9, i0) ∈ ids) (hW : Wd X s m H locs) (hl : lv_has ls 1 [(0, .ref (ad X 9 i0))]) : W p l e (rmD 3) s mi args below meth c H locs 0 0 Q (F0 mi 53 ls []) := by
  unfold f_X4_bearSilence_53 at h
  refine lv_aload_n C.1 C.2.1 dX4_bearSilence_53 rfl (lv_at hl 0 rfl) ?_
  refine zg_X4_cut C hW g_i0 w_230 dX4_bearSilence_54 ?_
  refine lv_if_eq (tgt := 99) C.1 C.2.1 dX4_bearSilence_57 (by decide) (fun hc_8 => ?_) (fun hc_8 => ?_)
  · have h := ite_t hc_8 h
    exact w_X4_bearSilence_99 C hq  h g_i0 hW (lv_sub hl [0] rfl)
  · have h := ite_f hc_8 h
    refine lv_aload_n C.1 C.2.1 dX4_bearSilence_60 rfl (lv_at hl 0 rfl) ?_
    refine zg_X4_silence C hW g_i0 w_234 dX4_bearSilence_61 ?_
    refine lv_aload_n C.1 C.2.1 dX4_bearSilence_64 rfl (lv_at hl 0 rfl) ?_
    refine zg_X4_cut C hW g_i0 w_230 dX4_bearSilence_65 ?_
    refine lv_icmp_lt (tgt := 99) C.1 C.2.1 dX4_bearSilence_68 (by decide) (fun hc_7 => ?_) (fun hc_7 => ?_)
    · have h := ite_t hc_7 h
      exact w_X4_bearSilence_99 C hq  h g_i0 hW (lv_sub hl [0] rfl)
    · have h := ite_f hc_7 h
      refine lv_aload_n C.1 C.2.1 dX4_bearSilence_71 rfl (lv_at hl 0 rfl) ?_
      refine lv_dup C.1 C.2.1 dX4_bearSilence_72 rfl ?_
      refine zg_X4_listeners C hW g_i0 w_228 dX4_bearSilence_73 ?_
      refine lv_iconst (v := 2) C.1 C.2.1 dX4_bearSilence_76 rfl ?_
      refine lv_idiv C.1 C.2.1 dX4_bearSilence_77 (by decide) ?_
      obtain ⟨m_1, e_2, h⟩ := seqM_E h
      refine zp_X4_listeners C hW g_i0 w_228 e_2 dX4_bearSilence_78 (fun H locs hW => ?_)
      refine lv_aload_n C.1 C.2.1 dX4_bearSilence_81 rfl (lv_at hl 0 rfl) ?_
      refine lv_dup C.1 C.2.1 dX4_bearSilence_82 rfl ?_
      refine zg_X4_cuts C hW g_i0 w_248 dX4_bearSilence_83 ?_
      refine lv_iconst (v := 1) C.1 C.2.1 dX4_bearSilence_86 rfl ?_
      refine lv_iadd C.1 C.2.1 dX4_bearSilence_87 ?_
      obtain ⟨m_3, e_4, h⟩ := seqM_E h
      refine zp_X4_cuts C hW g_i0 w_248 e_4 dX4_bearSilence_88 (fun H locs hW => ?_)
      refine lv_aload_n C.1 C.2.1 dX4_bearSilence_91 rfl (lv_at hl 0 rfl) ?_
      refine lv_iconst (v := 0) C.1 C.2.1 dX4_bearSilence_92 rfl ?_
      obtain ⟨m_5, e_6, h⟩ := seqM_E h
      refine zp_X4_silence C hW g_i0 w_234 e_6 dX4_bearSilence_93 (fun H locs hW => ?_)
      refine lv_goto (tgt := 123) C.1 C.2.1 dX4_bearSilence_96 (by decide) ?_
      exact ret_v h hq hW dX4_bearSilence_123
def f_X4_bearSilence (fu : Nat)  (i0 : Nat) (m : Mem) : Option Mem := if (m (sf i0 4)) = 0 then (f_X4_bearSilence_53 fu i0 m) else (if (m (sf i0 6)) = (m (sf i0 4)) then (seqM (upd m (sf i0 5) (if 0 < ((m (sf i0 5)) - (m (sf i0 12))) then ((m (sf i0 5)) - (m (sf i0 12))) else 0)) (fun m_1 : Mem => seqM (upd m_1 (sf i0 12) ((m_1 (sf i0 12)) + 1)) (fun m_3 : Mem => seqM (upd m_3 (sf i0 6) 0) (fun m_5 : Mem => some m_5)))) else (f_X4_bearSilence_53 fu i0 m))
set_option maxHeartbeats 4000000 in
set_option maxRecDepth 100000 in
theorem w_X4_bearSilence {X : TX} {p : Program} {l : Launch} {e : Env} {s : State} {mi : MethodId} {args : Array Value} {below : List Frame} {meth : Method} {c : Code} {Q : State → Prop} {mE : Mem} (C : Cx X p s mi args c RX4 cX4_bearSilence 1) (hq : RetV X p l e (rmD 3) s mi args below meth c cX4_bearSilence Q mE) {fu : Nat} {i0 : Nat} {m : Mem} {H : Heap} {locs : List Loc} {ls : Array Slot} (h : f_X4_bearSilence fu i0 m = some mE) (g_i0 : (9, i0) ∈ ids) (hW : Wd X s m H locs) (hl : lv_has ls 1 [(0, .ref (ad X 9 i0))]) : W p l e (rmD 3) s mi args below meth c H locs 0 0 Q (F0 mi 0 ls []) := by
  unfold f_X4_bearSilence at h
  refine lv_aload_n C.1 C.2.1 dX4_bearSilence_0 rfl (lv_at hl 0 rfl) ?_
  refine zg_X4_fill C hW g_i0 w_232 dX4_bearSilence_1 ?_
  refine lv_if_eq (tgt := 53) C.1 C.2.1 dX4_bearSilence_4 (by decide) (fun hc_8 => ?_) (fun hc_8 => ?_)
  · have h := ite_t hc_8 h
    exact w_X4_bearSilence_53 C hq  h g_i0 hW (lv_sub hl [0] rfl)
  · have h := ite_f hc_8 h
    refine lv_aload_n C.1 C.2.1 dX4_bearSilence_7 rfl (lv_at hl 0 rfl) ?_
    refine zg_X4_silence C hW g_i0 w_234 dX4_bearSilence_8 ?_
    refine lv_aload_n C.1 C.2.1 dX4_bearSilence_11 rfl (lv_at hl 0 rfl) ?_
    refine zg_X4_fill C hW g_i0 w_232 dX4_bearSilence_12 ?_
    refine lv_icmp_ne (tgt := 53) C.1 C.2.1 dX4_bearSilence_15 (by decide) (fun hc_7 => ?_) (fun hc_7 => ?_)
    · have h := ite_f hc_7 h
      exact w_X4_bearSilence_53 C hq  h g_i0 hW (lv_sub hl [0] rfl)
    · have h := ite_t hc_7 h
      refine lv_aload_n C.1 C.2.1 dX4_bearSilence_18 rfl (lv_at hl 0 rfl) ?_
      refine lv_iconst (v := 0) C.1 C.2.1 dX4_bearSilence_19 rfl ?_
      refine lv_aload_n C.1 C.2.1 dX4_bearSilence_20 rfl (lv_at hl 0 rfl) ?_
      refine zg_X4_listeners C hW g_i0 w_228 dX4_bearSilence_21 ?_
      refine lv_aload_n C.1 C.2.1 dX4_bearSilence_24 rfl (lv_at hl 0 rfl) ?_
      refine zg_X4_jingles C hW g_i0 w_246 dX4_bearSilence_25 ?_
      refine lv_isub C.1 C.2.1 dX4_bearSilence_28 ?_
      refine va_mmax C.1 C.2.1 (C.2.2.1.trans hl.1.symm) C.2.2.2.1 (C.2.2.2.2.1 _ w_523) (C.2.2.2.2.1 _ w_431) (C.2.2.2.2.1 _ w_71) (C.2.2.2.2.1 _ w_432) (Nat.le_of_ble_eq_true rfl) (Nat.le_of_ble_eq_true rfl) (Nat.le_refl 0) (Nat.le_refl 0) dX4_bearSilence_29 ?_
      obtain ⟨m_1, e_2, h⟩ := seqM_E h
      refine zp_X4_listeners C hW g_i0 w_228 e_2 dX4_bearSilence_32 (fun H locs hW => ?_)
      refine lv_aload_n C.1 C.2.1 dX4_bearSilence_35 rfl (lv_at hl 0 rfl) ?_
      refine lv_dup C.1 C.2.1 dX4_bearSilence_36 rfl ?_
      refine zg_X4_jingles C hW g_i0 w_246 dX4_bearSilence_37 ?_
      refine lv_iconst (v := 1) C.1 C.2.1 dX4_bearSilence_40 rfl ?_
      refine lv_iadd C.1 C.2.1 dX4_bearSilence_41 ?_
      obtain ⟨m_3, e_4, h⟩ := seqM_E h
      refine zp_X4_jingles C hW g_i0 w_246 e_4 dX4_bearSilence_42 (fun H locs hW => ?_)
      refine lv_aload_n C.1 C.2.1 dX4_bearSilence_45 rfl (lv_at hl 0 rfl) ?_
      refine lv_iconst (v := 0) C.1 C.2.1 dX4_bearSilence_46 rfl ?_
      obtain ⟨m_5, e_6, h⟩ := seqM_E h
      refine zp_X4_silence C hW g_i0 w_234 e_6 dX4_bearSilence_47 (fun H locs hW => ?_)
      refine lv_goto (tgt := 123) C.1 C.2.1 dX4_bearSilence_50 (by decide) ?_
      exact ret_v h hq hW dX4_bearSilence_123
theorem c_X4_bearSilence {X : TX} {l : Launch} {fu : Nat} {i0 : Nat} {m mE : Mem} (h : f_X4_bearSilence fu i0 m = some mE) (g_i0 : (9, i0) ∈ ids) : MetV X l yX4_bearSilence cX4_bearSilence 1 3 [.ref (ad X 9 i0)] m mE :=
  met_V (by decide) (Nat.le_of_ble_eq_true rfl) (fun p e s mi args below meth c ls Q C hq hW hl => w_X4_bearSilence C hq h g_i0 hW (lv_sub hl [0] rfl))
theorem k_X4_bearSilence : CalV yX4_bearSilence cX4_bearSilence 1 none RX4 0 := ⟨w_539, w_3, w_65, w_540, by decide +kernel⟩
theorem dX4_begin_0 : decode cX4_begin 0 = .ok (.aload_n 1, 1) := by decide +kernel
theorem dX4_begin_1 : decode cX4_begin 1 = .ok (.iconst 1, 1) := by decide +kernel
theorem dX4_begin_2 : decode cX4_begin 2 = .ok (.aload_n 0, 1) := by decide +kernel
theorem dX4_begin_3 : decode cX4_begin 3 = .ok (.aload_n 1, 1) := by decide +kernel
theorem dX4_begin_4 : decode cX4_begin 4 = .ok (.invokevirtual 158, 3) := by decide +kernel
theorem dX4_begin_7 : decode cX4_begin 7 = .ok (.invokevirtual 100, 3) := by decide +kernel
theorem dX4_begin_10 : decode cX4_begin 10 = .ok (.iadd, 1) := by decide +kernel
theorem dX4_begin_11 : decode cX4_begin 11 = .ok (.putfield 91, 3) := by decide +kernel
theorem dX4_begin_14 : decode cX4_begin 14 = .ok (.aload_n 1, 1) := by decide +kernel
theorem dX4_begin_15 : decode cX4_begin 15 = .ok (.dup, 1) := by decide +kernel
theorem dX4_begin_16 : decode cX4_begin 16 = .ok (.getfield 97, 3) := by decide +kernel
theorem dX4_begin_19 : decode cX4_begin 19 = .ok (.iconst 1, 1) := by decide +kernel
theorem dX4_begin_20 : decode cX4_begin 20 = .ok (.iadd, 1) := by decide +kernel
theorem dX4_begin_21 : decode cX4_begin 21 = .ok (.putfield 97, 3) := by decide +kernel
theorem dX4_begin_24 : decode cX4_begin 24 = .ok (.aload_n 1, 1) := by decide +kernel
theorem dX4_begin_25 : decode cX4_begin 25 = .ok (.iconst 0, 1) := by decide +kernel
theorem dX4_begin_26 : decode cX4_begin 26 = .ok (.putfield 94, 3) := by decide +kernel
theorem dX4_begin_29 : decode cX4_begin 29 = .ok (.return_, 1) := by decide +kernel
def f_X4_begin (fu : Nat)  (i0 : Nat) (i1 : Nat) (m : Mem) : Option Mem := doI (f_X7_talks fu i1 m) (fun r_3 m_2 => doI (f_X4_drawBelow fu i0 r_3 m_2) (fun r_6 m_5 => seqM (upd m_5 (vf i1 4) (1 + r_6)) (fun m_7 : Mem => seqM (upd m_7 (vf i1 6) ((m_7 (vf i1 6)) + 1)) (fun m_9 : Mem => seqM (upd m_9 (vf i1 5) 0) (fun m_11 : Mem => some m_11)))))
set_option maxHeartbeats 4000000 in
set_option maxRecDepth 100000 in
theorem w_X4_begin {X : TX} {p : Program} {l : Launch} {e : Env} {s : State} {mi : MethodId} {args : Array Value} {below : List Frame} {meth : Method} {c : Code} {Q : State → Prop} {mE : Mem} (C : Cx X p s mi args c RX4 cX4_begin 2) (hq : RetV X p l e (rmD 1) s mi args below meth c cX4_begin Q mE) {fu : Nat} {i0 : Nat} {i1 : Nat} {m : Mem} {H : Heap} {locs : List Loc} {ls : Array Slot} (h : f_X4_begin fu i0 i1 m = some mE) (g_i0 : (9, i0) ∈ ids) (g_i1 : (11, i1) ∈ ids) (hW : Wd X s m H locs) (hl : lv_has ls 2 [(0, .ref (ad X 9 i0)), (1, .ref (ad X 11 i1))]) : W p l e (rmD 1) s mi args below meth c H locs 0 0 Q (F0 mi 0 ls []) := by
  unfold f_X4_begin at h
  refine lv_aload_n C.1 C.2.1 dX4_begin_0 rfl (lv_at hl 1 rfl) ?_
  refine lv_iconst (v := 1) C.1 C.2.1 dX4_begin_1 rfl ?_
  refine lv_aload_n C.1 C.2.1 dX4_begin_2 rfl (lv_at hl 0 rfl) ?_
  refine lv_aload_n C.1 C.2.1 dX4_begin_3 rfl (lv_at hl 1 rfl) ?_
  obtain ⟨r_3, m_2, hc_1, h⟩ := doI_E h
  refine zr_cVI C hW (c_X7_talks (i0 := i1) hc_1 g_i1) k_X7_talks (zr_recv C hW g_i1 zco_11 rfl) w_572 ⟨Nat.le_of_ble_eq_true rfl, Nat.le_of_ble_eq_true rfl⟩ ⟨Nat.le_refl 0, Nat.le_refl 0⟩ rfl hl.1 rfl (Nat.le_of_ble_eq_true rfl) dX4_begin_4 (fun H locs hW => ?_)
  obtain ⟨r_6, m_5, hc_4, h⟩ := doI_E h
  refine zr_cVI C hW (c_X4_drawBelow (i0 := i0) (x1 := r_3) hc_4 g_i0) k_X4_drawBelow (zr_recv C hW g_i0 zco_9 rfl) w_498 ⟨Nat.le_of_ble_eq_true rfl, Nat.le_of_ble_eq_true rfl⟩ ⟨Nat.le_refl 0, Nat.le_refl 0⟩ rfl hl.1 rfl (Nat.le_of_ble_eq_true rfl) dX4_begin_7 (fun H locs hW => ?_)
  refine lv_iadd C.1 C.2.1 dX4_begin_10 ?_
  obtain ⟨m_7, e_8, h⟩ := seqM_E h
  refine zp_X7_left C hW g_i1 w_202 e_8 dX4_begin_11 (fun H locs hW => ?_)
  refine lv_aload_n C.1 C.2.1 dX4_begin_14 rfl (lv_at hl 1 rfl) ?_
  refine lv_dup C.1 C.2.1 dX4_begin_15 rfl ?_
  refine zg_X7_said C hW g_i1 w_208 dX4_begin_16 ?_
  refine lv_iconst (v := 1) C.1 C.2.1 dX4_begin_19 rfl ?_
  refine lv_iadd C.1 C.2.1 dX4_begin_20 ?_
  obtain ⟨m_9, e_10, h⟩ := seqM_E h
  refine zp_X7_said C hW g_i1 w_208 e_10 dX4_begin_21 (fun H locs hW => ?_)
  refine lv_aload_n C.1 C.2.1 dX4_begin_24 rfl (lv_at hl 1 rfl) ?_
  refine lv_iconst (v := 0) C.1 C.2.1 dX4_begin_25 rfl ?_
  obtain ⟨m_11, e_12, h⟩ := seqM_E h
  refine zp_X7_back C hW g_i1 w_205 e_12 dX4_begin_26 (fun H locs hW => ?_)
  exact ret_v h hq hW dX4_begin_29
theorem c_X4_begin {X : TX} {l : Launch} {fu : Nat} {i0 : Nat} {i1 : Nat} {m mE : Mem} (h : f_X4_begin fu i0 i1 m = some mE) (g_i0 : (9, i0) ∈ ids) (g_i1 : (11, i1) ∈ ids) : MetV X l yX4_begin cX4_begin 2 1 [.ref (ad X 9 i0), .ref (ad X 11 i1)] m mE :=
  met_V (by decide) (Nat.le_of_ble_eq_true rfl) (fun p e s mi args below meth c ls Q C hq hW hl => w_X4_begin C hq h g_i0 g_i1 hW (lv_sub hl [0, 1] rfl))
theorem k_X4_begin : CalV yX4_begin cX4_begin 2 none RX4 1 := ⟨w_570, w_7, w_65, w_571, by decide +kernel⟩
theorem dX4_cross_0 : decode cX4_cross 0 = .ok (.iconst 1, 1) := by decide +kernel
theorem dX4_cross_1 : decode cX4_cross 1 = .ok (.istore_n 2, 1) := by decide +kernel
theorem dX4_cross_2 : decode cX4_cross 2 = .ok (.aload_n 0, 1) := by decide +kernel
theorem dX4_cross_3 : decode cX4_cross 3 = .ok (.dup, 1) := by decide +kernel
theorem dX4_cross_4 : decode cX4_cross 4 = .ok (.getfield 64, 3) := by decide +kernel
theorem dX4_cross_7 : decode cX4_cross 7 = .ok (.iconst 1, 1) := by decide +kernel
theorem dX4_cross_8 : decode cX4_cross 8 = .ok (.iadd, 1) := by decide +kernel
theorem dX4_cross_9 : decode cX4_cross 9 = .ok (.putfield 64, 3) := by decide +kernel
theorem dX4_cross_12 : decode cX4_cross 12 = .ok (.iconst 0, 1) := by decide +kernel
theorem dX4_cross_13 : decode cX4_cross 13 = .ok (.istore_n 3, 1) := by decide +kernel
theorem dX4_cross_14 : decode cX4_cross 14 = .ok (.iload_n 3, 1) := by decide +kernel
theorem dX4_cross_15 : decode cX4_cross 15 = .ok (.aload_n 0, 1) := by decide +kernel
theorem dX4_cross_16 : decode cX4_cross 16 = .ok (.getfield 39, 3) := by decide +kernel
theorem dX4_cross_19 : decode cX4_cross 19 = .ok (.if_icmp .ge 55, 3) := by decide +kernel
theorem dX4_cross_22 : decode cX4_cross 22 = .ok (.iload_n 1, 1) := by decide +kernel
theorem dX4_cross_23 : decode cX4_cross 23 = .ok (.iconst 1, 1) := by decide +kernel
theorem dX4_cross_24 : decode cX4_cross 24 = .ok (.iload_n 3, 1) := by decide +kernel
theorem dX4_cross_25 : decode cX4_cross 25 = .ok (.ishl, 1) := by decide +kernel
theorem dX4_cross_26 : decode cX4_cross 26 = .ok (.iand, 1) := by decide +kernel
theorem dX4_cross_27 : decode cX4_cross 27 = .ok (.ifCond .eq 41, 3) := by decide +kernel
theorem dX4_cross_30 : decode cX4_cross 30 = .ok (.aload_n 0, 1) := by decide +kernel
theorem dX4_cross_31 : decode cX4_cross 31 = .ok (.getfield 11, 3) := by decide +kernel
theorem dX4_cross_34 : decode cX4_cross 34 = .ok (.iload_n 3, 1) := by decide +kernel
theorem dX4_cross_35 : decode cX4_cross 35 = .ok (.aaload, 1) := by decide +kernel
theorem dX4_cross_36 : decode cX4_cross 36 = .ok (.astore 4, 2) := by decide +kernel
theorem dX4_cross_38 : decode cX4_cross 38 = .ok (.aload 4, 2) := by decide +kernel
theorem dX4_cross_40 : decode cX4_cross 40 = .ok (.invokevirtual 154, 3) := by decide +kernel
theorem dX4_cross_43 : decode cX4_cross 43 = .ok (.ifCond .eq 17, 3) := by decide +kernel
theorem dX4_cross_46 : decode cX4_cross 46 = .ok (.aload 4, 2) := by decide +kernel
theorem dX4_cross_48 : decode cX4_cross 48 = .ok (.aload_n 0, 1) := by decide +kernel
theorem dX4_cross_49 : decode cX4_cross 49 = .ok (.bipush 6, 2) := by decide +kernel
theorem dX4_cross_51 : decode cX4_cross 51 = .ok (.invokevirtual 100, 3) := by decide +kernel
theorem dX4_cross_54 : decode cX4_cross 54 = .ok (.putfield 94, 3) := by decide +kernel
theorem dX4_cross_57 : decode cX4_cross 57 = .ok (.goto 11, 3) := by decide +kernel
theorem dX4_cross_60 : decode cX4_cross 60 = .ok (.aload_n 0, 1) := by decide +kernel
theorem dX4_cross_61 : decode cX4_cross 61 = .ok (.aload 4, 2) := by decide +kernel
theorem dX4_cross_63 : decode cX4_cross 63 = .ok (.invokevirtual 151, 3) := by decide +kernel
theorem dX4_cross_66 : decode cX4_cross 66 = .ok (.iconst 0, 1) := by decide +kernel
theorem dX4_cross_67 : decode cX4_cross 67 = .ok (.istore_n 2, 1) := by decide +kernel
theorem dX4_cross_68 : decode cX4_cross 68 = .ok (.iinc 3 1, 3) := by decide +kernel
theorem dX4_cross_71 : decode cX4_cross 71 = .ok (.goto (-57), 3) := by decide +kernel
theorem dX4_cross_74 : decode cX4_cross 74 = .ok (.iload_n 2, 1) := by decide +kernel
theorem dX4_cross_75 : decode cX4_cross 75 = .ok (.ifCond .eq 8, 3) := by decide +kernel
theorem dX4_cross_78 : decode cX4_cross 78 = .ok (.aload_n 0, 1) := by decide +kernel
theorem dX4_cross_79 : decode cX4_cross 79 = .ok (.iconst 0, 1) := by decide +kernel
theorem dX4_cross_80 : decode cX4_cross 80 = .ok (.putfield 49, 3) := by decide +kernel
theorem dX4_cross_83 : decode cX4_cross 83 = .ok (.return_, 1) := by decide +kernel
def f_X4_cross_68 (fu : Nat) (k_14 : Nat → Int32 → Int32 → Int32 → Mem → Option Mem) (i0 : Nat) (x1 : Int32) (x2 : Int32) (x3 : Int32) (m : Mem) : Option Mem := seqM (x3 + 1) (fun x_1 : Int32 => k_14 i0 x1 x2 x_1 m)
set_option maxHeartbeats 4000000 in
set_option maxRecDepth 100000 in
theorem w_X4_cross_68 {X : TX} {p : Program} {l : Launch} {e : Env} {s : State} {mi : MethodId} {args : Array Value} {below : List Frame} {meth : Method} {c : Code} {Q : State → Prop} {mE : Mem} (C : Cx X p s mi args c RX4 cX4_cross 5) (hq : RetV X p l e (rmD 2) s mi args below meth c cX4_cross Q mE) {fu : Nat} {k_14 : Nat → Int32 → Int32 → Int32 → Mem → Option Mem} (hk_14 : ∀ {i0 : Nat} {x1 : Int32} {x2 : Int32} {x3 : Int32} {m : Mem} {H : Heap} {locs : List Loc} {ls : Array Slot}, k_14 i0 x1 x2 x3 m = some mE → (9, i0) ∈ ids → Wd X s m H locs → lv_has ls 5 [(0, .ref (ad X 9 i0)), (1, .int x1), (2, .int x2), (3, .int x3)] → W p l e (rmD 2) s mi args below meth c H locs 0 0 Q (F0 mi 14 ls [])) {i0 : Nat} {x1 : Int32} {x2 : Int32} {x3 : Int32} {m : Mem} {H : Heap} {locs : List Loc} {ls : Array Slot} (h : f_X4_cross_68 fu k_14 i0 x1 x2 x3 m = some mE) (g_i0 : (9, i0) ∈ ids) (hW : Wd X s m H locs) (hl : lv_has ls 5 [(0, .ref (ad X 9 i0)), (1, .int x1), (2, .int x2), (3, .int x3)]) : W p l e (rmD 2) s mi args below meth c H locs 0 0 Q (F0 mi 68 ls []) := by
  unfold f_X4_cross_68 at h
  obtain ⟨x_1, e_2, h⟩ := seqM_E h
  refine lv_iinc (v := x_1) (lv' := [(3, .int x_1), (0, .ref (ad X 9 i0)), (1, .int x1), (2, .int x2)]) C.1 C.2.1 dX4_cross_68 hl (k := 3) rfl (by rw [e_2]; rfl) (by decide) rfl (fun ls hl => ?_)
  refine lv_goto (tgt := 14) C.1 C.2.1 dX4_cross_71 (by decide) ?_
  exact hk_14 h g_i0 hW (lv_sub hl [1, 2, 3, 0] rfl)
def f_X4_cross_14 (fu : Nat)  : Nat → Nat → Int32 → Int32 → Int32 → Mem → Option Mem
  | 0, _, _, _, _, _ => none
  | n + 1, i0, x1, x2, x3, m => if (m (sf i0 1)) ≤ x3 then (if x2 = 0 then (some m) else (seqM (upd m (sf i0 6) 0) (fun m_1 : Mem => some m_1))) else (if (x1 &&& (1 <<< (x3 &&& 31))) = 0 then (f_X4_cross_68 fu (f_X4_cross_14 fu n) i0 x1 x2 x3 m) else (chk (inb x3 5) (doI (f_X7_yields fu (10 * i0 + x3.toNatClampNeg) m) (fun r_7 m_6 => if r_7 = 0 then (doV (f_X4_begin fu i0 (10 * i0 + x3.toNatClampNeg) m_6) (fun m_9 => f_X4_cross_68 fu (f_X4_cross_14 fu n) i0 x1 0 x3 m_9)) else (doI (f_X4_drawBelow fu i0 6 m_6) (fun r_12 m_11 => seqM (upd m_11 (vf (10 * i0 + x3.toNatClampNeg) 5) r_12) (fun m_13 : Mem => f_X4_cross_68 fu (f_X4_cross_14 fu n) i0 x1 x2 x3 m_13)))))))
set_option maxHeartbeats 4000000 in
set_option maxRecDepth 100000 in
theorem w_X4_cross_14 {X : TX} {p : Program} {l : Launch} {e : Env} {s : State} {mi : MethodId} {args : Array Value} {below : List Frame} {meth : Method} {c : Code} {Q : State → Prop} {mE : Mem} (C : Cx X p s mi args c RX4 cX4_cross 5) (hq : RetV X p l e (rmD 2) s mi args below meth c cX4_cross Q mE) {fu : Nat} : ∀ (n : Nat) {i0 : Nat} {x1 : Int32} {x2 : Int32} {x3 : Int32} {m : Mem} {H : Heap} {locs : List Loc} {ls : Array Slot}, f_X4_cross_14 fu n i0 x1 x2 x3 m = some mE → (9, i0) ∈ ids → Wd X s m H locs → lv_has ls 5 [(0, .ref (ad X 9 i0)), (1, .int x1), (2, .int x2), (3, .int x3)] → W p l e (rmD 2) s mi args below meth c H locs 0 0 Q (F0 mi 14 ls []) := by
  intro n
  induction n with
  | zero =>
    intro i0 x1 x2 x3 m H locs ls h g_i0 hW hl
    rw [f_X4_cross_14] at h
    cases h
  | succ n ih =>
    intro i0 x1 x2 x3 m H locs ls h g_i0 hW hl
    rw [f_X4_cross_14] at h
    refine lv_iload_n C.1 C.2.1 dX4_cross_14 rfl (lv_at hl 3 rfl) ?_
    refine lv_aload_n C.1 C.2.1 dX4_cross_15 rfl (lv_at hl 0 rfl) ?_
    refine zg_X4_many C hW g_i0 w_226 dX4_cross_16 ?_
    refine lv_icmp_ge (tgt := 74) C.1 C.2.1 dX4_cross_19 (by decide) (fun hc_17 => ?_) (fun hc_17 => ?_)
    · have h := ite_t hc_17 h
      refine lv_iload_n C.1 C.2.1 dX4_cross_74 rfl (lv_at hl 2 rfl) ?_
      refine lv_if_eq (tgt := 83) C.1 C.2.1 dX4_cross_75 (by decide) (fun hc_3 => ?_) (fun hc_3 => ?_)
      · have h := ite_t hc_3 h
        exact ret_v h hq hW dX4_cross_83
      · have h := ite_f hc_3 h
        refine lv_aload_n C.1 C.2.1 dX4_cross_78 rfl (lv_at hl 0 rfl) ?_
        refine lv_iconst (v := 0) C.1 C.2.1 dX4_cross_79 rfl ?_
        obtain ⟨m_1, e_2, h⟩ := seqM_E h
        refine zp_X4_silence C hW g_i0 w_234 e_2 dX4_cross_80 (fun H locs hW => ?_)
        exact ret_v h hq hW dX4_cross_83
    · have h := ite_f hc_17 h
      refine lv_iload_n C.1 C.2.1 dX4_cross_22 rfl (lv_at hl 1 rfl) ?_
      refine lv_iconst (v := 1) C.1 C.2.1 dX4_cross_23 rfl ?_
      refine lv_iload_n C.1 C.2.1 dX4_cross_24 rfl (lv_at hl 3 rfl) ?_
      refine lv_ishl C.1 C.2.1 dX4_cross_25 ?_
      refine lv_iand C.1 C.2.1 dX4_cross_26 ?_
      refine lv_if_eq (tgt := 68) C.1 C.2.1 dX4_cross_27 (by decide) (fun hc_16 => ?_) (fun hc_16 => ?_)
      · have h := ite_t hc_16 h
        exact w_X4_cross_68 C hq ih h g_i0 hW (lv_sub hl [0, 1, 2, 3] rfl)
      · have h := ite_f hc_16 h
        refine lv_aload_n C.1 C.2.1 dX4_cross_30 rfl (lv_at hl 0 rfl) ?_
        refine zg_X4_voices C hW g_i0 w_224 dX4_cross_31 ?_
        refine lv_iload_n C.1 C.2.1 dX4_cross_34 rfl (lv_at hl 3 rfl) ?_
        obtain ⟨hb_4, h⟩ := chk_E h
        refine zaa_10 C hW (im_9_10 g_i0) (inb_E hb_4) dX4_cross_35 ?_
        refine lv_astore (lv' := [(4, .ref (ad X 11 (10 * i0 + x3.toNatClampNeg))), (0, .ref (ad X 9 i0)), (1, .int x1), (2, .int x2), (3, .int x3)]) C.1 C.2.1 dX4_cross_36 hl (by decide) rfl (fun ls hl => ?_)
        refine lv_aload C.1 C.2.1 dX4_cross_38 (lv_at hl 0 rfl) ?_
        obtain ⟨r_7, m_6, hc_5, h⟩ := doI_E h
        refine zr_cVI C hW (c_X7_yields (i0 := (10 * i0 + x3.toNatClampNeg)) hc_5 (ia_10 (im_9_10 g_i0) (inb_E hb_4))) k_X7_yields (zr_recv C hW (ia_10 (im_9_10 g_i0) (inb_E hb_4)) zco_11 rfl) w_567 ⟨Nat.le_of_ble_eq_true rfl, Nat.le_of_ble_eq_true rfl⟩ ⟨Nat.le_refl 0, Nat.le_refl 0⟩ rfl hl.1 rfl (Nat.le_of_ble_eq_true rfl) dX4_cross_40 (fun H locs hW => ?_)
        refine lv_if_eq (tgt := 60) C.1 C.2.1 dX4_cross_43 (by decide) (fun hc_15 => ?_) (fun hc_15 => ?_)
        · have h := ite_t hc_15 h
          refine lv_aload_n C.1 C.2.1 dX4_cross_60 rfl (lv_at hl 1 rfl) ?_
          refine lv_aload C.1 C.2.1 dX4_cross_61 (lv_at hl 0 rfl) ?_
          obtain ⟨m_9, hc_8, h⟩ := doV_E h
          refine zr_cVV C hW (c_X4_begin (i0 := i0) (i1 := (10 * i0 + x3.toNatClampNeg)) hc_8 g_i0 (ia_10 (im_9_10 g_i0) (inb_E hb_4))) k_X4_begin (zr_recv C hW g_i0 zco_9 rfl) w_568 ⟨Nat.le_of_ble_eq_true rfl, Nat.le_of_ble_eq_true rfl⟩ ⟨Nat.le_refl 0, Nat.le_refl 0⟩ rfl hl.1 rfl (Nat.le_of_ble_eq_true rfl) dX4_cross_63 (fun H locs hW => ?_)
          refine lv_iconst (v := 0) C.1 C.2.1 dX4_cross_66 rfl ?_
          refine lv_istore_n (lv' := [(2, .int 0), (4, .ref (ad X 11 (10 * i0 + x3.toNatClampNeg))), (0, .ref (ad X 9 i0)), (1, .int x1), (3, .int x3)]) C.1 C.2.1 dX4_cross_67 rfl hl (by decide) rfl (fun ls hl => ?_)
          exact w_X4_cross_68 C hq ih h g_i0 hW (lv_sub hl [2, 3, 0, 4] rfl)
        · have h := ite_f hc_15 h
          refine lv_aload C.1 C.2.1 dX4_cross_46 (lv_at hl 0 rfl) ?_
          refine lv_aload_n C.1 C.2.1 dX4_cross_48 rfl (lv_at hl 1 rfl) ?_
          refine lv_bipush (v := 6) C.1 C.2.1 dX4_cross_49 rfl ?_
          obtain ⟨r_12, m_11, hc_10, h⟩ := doI_E h
          refine zr_cVI C hW (c_X4_drawBelow (i0 := i0) (x1 := 6) hc_10 g_i0) k_X4_drawBelow (zr_recv C hW g_i0 zco_9 rfl) w_498 ⟨Nat.le_of_ble_eq_true rfl, Nat.le_of_ble_eq_true rfl⟩ ⟨Nat.le_refl 0, Nat.le_refl 0⟩ rfl hl.1 rfl (Nat.le_of_ble_eq_true rfl) dX4_cross_51 (fun H locs hW => ?_)
          obtain ⟨m_13, e_14, h⟩ := seqM_E h
          refine zp_X7_back C hW (ia_10 (im_9_10 g_i0) (inb_E hb_4)) w_205 e_14 dX4_cross_54 (fun H locs hW => ?_)
          refine lv_goto (tgt := 68) C.1 C.2.1 dX4_cross_57 (by decide) ?_
          exact w_X4_cross_68 C hq ih h g_i0 hW (lv_sub hl [1, 2, 3, 4] rfl)
def f_X4_cross (fu : Nat)  (i0 : Nat) (x1 : Int32) (m : Mem) : Option Mem := seqM (upd m (sf i0 11) ((m (sf i0 11)) + 1)) (fun m_1 : Mem => f_X4_cross_14 fu fu i0 x1 1 0 m_1)
set_option maxHeartbeats 4000000 in
set_option maxRecDepth 100000 in
theorem w_X4_cross {X : TX} {p : Program} {l : Launch} {e : Env} {s : State} {mi : MethodId} {args : Array Value} {below : List Frame} {meth : Method} {c : Code} {Q : State → Prop} {mE : Mem} (C : Cx X p s mi args c RX4 cX4_cross 5) (hq : RetV X p l e (rmD 2) s mi args below meth c cX4_cross Q mE) {fu : Nat} {i0 : Nat} {x1 : Int32} {m : Mem} {H : Heap} {locs : List Loc} {ls : Array Slot} (h : f_X4_cross fu i0 x1 m = some mE) (g_i0 : (9, i0) ∈ ids) (hW : Wd X s m H locs) (hl : lv_has ls 5 [(0, .ref (ad X 9 i0)), (1, .int x1)]) : W p l e (rmD 2) s mi args below meth c H locs 0 0 Q (F0 mi 0 ls []) := by
  unfold f_X4_cross at h
  refine lv_iconst (v := 1) C.1 C.2.1 dX4_cross_0 rfl ?_
  refine lv_istore_n (lv' := [(2, .int 1), (0, .ref (ad X 9 i0)), (1, .int x1)]) C.1 C.2.1 dX4_cross_1 rfl hl (by decide) rfl (fun ls hl => ?_)
  refine lv_aload_n C.1 C.2.1 dX4_cross_2 rfl (lv_at hl 1 rfl) ?_
  refine lv_dup C.1 C.2.1 dX4_cross_3 rfl ?_
  refine zg_X4_crossed C hW g_i0 w_244 dX4_cross_4 ?_
  refine lv_iconst (v := 1) C.1 C.2.1 dX4_cross_7 rfl ?_
  refine lv_iadd C.1 C.2.1 dX4_cross_8 ?_
  obtain ⟨m_1, e_2, h⟩ := seqM_E h
  refine zp_X4_crossed C hW g_i0 w_244 e_2 dX4_cross_9 (fun H locs hW => ?_)
  refine lv_iconst (v := 0) C.1 C.2.1 dX4_cross_12 rfl ?_
  refine lv_istore_n (lv' := [(3, .int 0), (2, .int 1), (0, .ref (ad X 9 i0)), (1, .int x1)]) C.1 C.2.1 dX4_cross_13 rfl hl (by decide) rfl (fun ls hl => ?_)
  exact w_X4_cross_14 C hq  fu h g_i0 hW (lv_sub hl [2, 3, 1, 0] rfl)
theorem c_X4_cross {X : TX} {l : Launch} {fu : Nat} {i0 : Nat} {x1 : Int32} {m mE : Mem} (h : f_X4_cross fu i0 x1 m = some mE) (g_i0 : (9, i0) ∈ ids) : MetV X l yX4_cross cX4_cross 5 2 [.ref (ad X 9 i0), .int x1] m mE :=
  met_V (by decide) (Nat.le_of_ble_eq_true rfl) (fun p e s mi args below meth c ls Q C hq hW hl => w_X4_cross C hq h g_i0 hW (lv_sub hl [0, 1] rfl))
theorem k_X4_cross : CalV yX4_cross cX4_cross 5 none RX4 1 := ⟨w_565, w_6, w_65, w_566, by decide +kernel⟩
theorem dX4_beginAlone_0 : decode cX4_beginAlone 0 = .ok (.iload_n 1, 1) := by decide +kernel
theorem dX4_beginAlone_1 : decode cX4_beginAlone 1 = .ok (.aload_n 0, 1) := by decide +kernel
theorem dX4_beginAlone_2 : decode cX4_beginAlone 2 = .ok (.getfield 25, 3) := by decide +kernel
theorem dX4_beginAlone_5 : decode cX4_beginAlone 5 = .ok (.if_icmp .ne 16, 3) := by decide +kernel
theorem dX4_beginAlone_8 : decode cX4_beginAlone 8 = .ok (.aload_n 0, 1) := by decide +kernel
theorem dX4_beginAlone_9 : decode cX4_beginAlone 9 = .ok (.dup, 1) := by decide +kernel
theorem dX4_beginAlone_10 : decode cX4_beginAlone 10 = .ok (.getfield 58, 3) := by decide +kernel
theorem dX4_beginAlone_13 : decode cX4_beginAlone 13 = .ok (.iconst 1, 1) := by decide +kernel
theorem dX4_beginAlone_14 : decode cX4_beginAlone 14 = .ok (.iadd, 1) := by decide +kernel
theorem dX4_beginAlone_15 : decode cX4_beginAlone 15 = .ok (.putfield 58, 3) := by decide +kernel
theorem dX4_beginAlone_18 : decode cX4_beginAlone 18 = .ok (.goto 13, 3) := by decide +kernel
theorem dX4_beginAlone_21 : decode cX4_beginAlone 21 = .ok (.aload_n 0, 1) := by decide +kernel
theorem dX4_beginAlone_22 : decode cX4_beginAlone 22 = .ok (.dup, 1) := by decide +kernel
theorem dX4_beginAlone_23 : decode cX4_beginAlone 23 = .ok (.getfield 61, 3) := by decide +kernel
theorem dX4_beginAlone_26 : decode cX4_beginAlone 26 = .ok (.iconst 1, 1) := by decide +kernel
theorem dX4_beginAlone_27 : decode cX4_beginAlone 27 = .ok (.iadd, 1) := by decide +kernel
theorem dX4_beginAlone_28 : decode cX4_beginAlone 28 = .ok (.putfield 61, 3) := by decide +kernel
theorem dX4_beginAlone_31 : decode cX4_beginAlone 31 = .ok (.aload_n 0, 1) := by decide +kernel
theorem dX4_beginAlone_32 : decode cX4_beginAlone 32 = .ok (.aload_n 0, 1) := by decide +kernel
theorem dX4_beginAlone_33 : decode cX4_beginAlone 33 = .ok (.getfield 11, 3) := by decide +kernel
theorem dX4_beginAlone_36 : decode cX4_beginAlone 36 = .ok (.iload_n 1, 1) := by decide +kernel
theorem dX4_beginAlone_37 : decode cX4_beginAlone 37 = .ok (.aaload, 1) := by decide +kernel
theorem dX4_beginAlone_38 : decode cX4_beginAlone 38 = .ok (.invokevirtual 151, 3) := by decide +kernel
theorem dX4_beginAlone_41 : decode cX4_beginAlone 41 = .ok (.return_, 1) := by decide +kernel
def f_X4_beginAlone_31 (fu : Nat)  (i0 : Nat) (x1 : Int32) (m : Mem) : Option Mem := chk (inb x1 5) (doV (f_X4_begin fu i0 (10 * i0 + x1.toNatClampNeg) m) (fun m_3 => some m_3))
set_option maxHeartbeats 4000000 in
set_option maxRecDepth 100000 in
theorem w_X4_beginAlone_31 {X : TX} {p : Program} {l : Launch} {e : Env} {s : State} {mi : MethodId} {args : Array Value} {below : List Frame} {meth : Method} {c : Code} {Q : State → Prop} {mE : Mem} (C : Cx X p s mi args c RX4 cX4_beginAlone 2) (hq : RetV X p l e (rmD 2) s mi args below meth c cX4_beginAlone Q mE) {fu : Nat} {i0 : Nat} {x1 : Int32} {m : Mem} {H : Heap} {locs : List Loc} {ls : Array Slot} (h : f_X4_beginAlone_31 fu i0 x1 m = some mE) (g_i0 : (9, i0) ∈ ids) (hW : Wd X s m H locs) (hl : lv_has ls 2 [(0, .ref (ad X 9 i0)), (1, .int x1)]) : W p l e (rmD 2) s mi args below meth c H locs 0 0 Q (F0 mi 31 ls []) := by
  unfold f_X4_beginAlone_31 at h
  refine lv_aload_n C.1 C.2.1 dX4_beginAlone_31 rfl (lv_at hl 0 rfl) ?_
  refine lv_aload_n C.1 C.2.1 dX4_beginAlone_32 rfl (lv_at hl 0 rfl) ?_
  refine zg_X4_voices C hW g_i0 w_224 dX4_beginAlone_33 ?_
  refine lv_iload_n C.1 C.2.1 dX4_beginAlone_36 rfl (lv_at hl 1 rfl) ?_
  obtain ⟨hb_1, h⟩ := chk_E h
  refine zaa_10 C hW (im_9_10 g_i0) (inb_E hb_1) dX4_beginAlone_37 ?_
  obtain ⟨m_3, hc_2, h⟩ := doV_E h
  refine zr_cVV C hW (c_X4_begin (i0 := i0) (i1 := (10 * i0 + x1.toNatClampNeg)) hc_2 g_i0 (ia_10 (im_9_10 g_i0) (inb_E hb_1))) k_X4_begin (zr_recv C hW g_i0 zco_9 rfl) w_568 ⟨Nat.le_of_ble_eq_true rfl, Nat.le_of_ble_eq_true rfl⟩ ⟨Nat.le_refl 0, Nat.le_refl 0⟩ rfl hl.1 rfl (Nat.le_of_ble_eq_true rfl) dX4_beginAlone_38 (fun H locs hW => ?_)
  exact ret_v h hq hW dX4_beginAlone_41
def f_X4_beginAlone (fu : Nat)  (i0 : Nat) (x1 : Int32) (m : Mem) : Option Mem := if x1 = (m (sf i0 14)) then (seqM (upd m (sf i0 9) ((m (sf i0 9)) + 1)) (fun m_3 : Mem => f_X4_beginAlone_31 fu i0 x1 m_3)) else (seqM (upd m (sf i0 10) ((m (sf i0 10)) + 1)) (fun m_1 : Mem => f_X4_beginAlone_31 fu i0 x1 m_1))
set_option maxHeartbeats 4000000 in
set_option maxRecDepth 100000 in
theorem w_X4_beginAlone {X : TX} {p : Program} {l : Launch} {e : Env} {s : State} {mi : MethodId} {args : Array Value} {below : List Frame} {meth : Method} {c : Code} {Q : State → Prop} {mE : Mem} (C : Cx X p s mi args c RX4 cX4_beginAlone 2) (hq : RetV X p l e (rmD 2) s mi args below meth c cX4_beginAlone Q mE) {fu : Nat} {i0 : Nat} {x1 : Int32} {m : Mem} {H : Heap} {locs : List Loc} {ls : Array Slot} (h : f_X4_beginAlone fu i0 x1 m = some mE) (g_i0 : (9, i0) ∈ ids) (hW : Wd X s m H locs) (hl : lv_has ls 2 [(0, .ref (ad X 9 i0)), (1, .int x1)]) : W p l e (rmD 2) s mi args below meth c H locs 0 0 Q (F0 mi 0 ls []) := by
  unfold f_X4_beginAlone at h
  refine lv_iload_n C.1 C.2.1 dX4_beginAlone_0 rfl (lv_at hl 1 rfl) ?_
  refine lv_aload_n C.1 C.2.1 dX4_beginAlone_1 rfl (lv_at hl 0 rfl) ?_
  refine zg_X4_last C hW g_i0 w_250 dX4_beginAlone_2 ?_
  refine lv_icmp_ne (tgt := 21) C.1 C.2.1 dX4_beginAlone_5 (by decide) (fun hc_5 => ?_) (fun hc_5 => ?_)
  · have h := ite_f hc_5 h
    refine lv_aload_n C.1 C.2.1 dX4_beginAlone_21 rfl (lv_at hl 0 rfl) ?_
    refine lv_dup C.1 C.2.1 dX4_beginAlone_22 rfl ?_
    refine zg_X4_taken C hW g_i0 w_242 dX4_beginAlone_23 ?_
    refine lv_iconst (v := 1) C.1 C.2.1 dX4_beginAlone_26 rfl ?_
    refine lv_iadd C.1 C.2.1 dX4_beginAlone_27 ?_
    obtain ⟨m_1, e_2, h⟩ := seqM_E h
    refine zp_X4_taken C hW g_i0 w_242 e_2 dX4_beginAlone_28 (fun H locs hW => ?_)
    exact w_X4_beginAlone_31 C hq  h g_i0 hW (lv_sub hl [0, 1] rfl)
  · have h := ite_t hc_5 h
    refine lv_aload_n C.1 C.2.1 dX4_beginAlone_8 rfl (lv_at hl 0 rfl) ?_
    refine lv_dup C.1 C.2.1 dX4_beginAlone_9 rfl ?_
    refine zg_X4_breaths C hW g_i0 w_240 dX4_beginAlone_10 ?_
    refine lv_iconst (v := 1) C.1 C.2.1 dX4_beginAlone_13 rfl ?_
    refine lv_iadd C.1 C.2.1 dX4_beginAlone_14 ?_
    obtain ⟨m_3, e_4, h⟩ := seqM_E h
    refine zp_X4_breaths C hW g_i0 w_240 e_4 dX4_beginAlone_15 (fun H locs hW => ?_)
    refine lv_goto (tgt := 31) C.1 C.2.1 dX4_beginAlone_18 (by decide) ?_
    exact w_X4_beginAlone_31 C hq  h g_i0 hW (lv_sub hl [0, 1] rfl)
theorem c_X4_beginAlone {X : TX} {l : Launch} {fu : Nat} {i0 : Nat} {x1 : Int32} {m mE : Mem} (h : f_X4_beginAlone fu i0 x1 m = some mE) (g_i0 : (9, i0) ∈ ids) : MetV X l yX4_beginAlone cX4_beginAlone 2 2 [.ref (ad X 9 i0), .int x1] m mE :=
  met_V (by decide) (Nat.le_of_ble_eq_true rfl) (fun p e s mi args below meth c ls Q C hq hW hl => w_X4_beginAlone C hq h g_i0 hW (lv_sub hl [0, 1] rfl))
theorem k_X4_beginAlone : CalV yX4_beginAlone cX4_beginAlone 2 none RX4 1 := ⟨w_575, w_8, w_65, w_576, by decide +kernel⟩
theorem dX4_answerSilence_0 : decode cX4_answerSilence 0 = .ok (.iload_n 1, 1) := by decide +kernel
theorem dX4_answerSilence_1 : decode cX4_answerSilence 1 = .ok (.invokestatic 140, 3) := by decide +kernel
theorem dX4_answerSilence_4 : decode cX4_answerSilence 4 = .ok (.iconst 1, 1) := by decide +kernel
theorem dX4_answerSilence_5 : decode cX4_answerSilence 5 = .ok (.if_icmp .le 9, 3) := by decide +kernel
theorem dX4_answerSilence_8 : decode cX4_answerSilence 8 = .ok (.aload_n 0, 1) := by decide +kernel
theorem dX4_answerSilence_9 : decode cX4_answerSilence 9 = .ok (.iload_n 1, 1) := by decide +kernel
theorem dX4_answerSilence_10 : decode cX4_answerSilence 10 = .ok (.invokevirtual 145, 3) := by decide +kernel
theorem dX4_answerSilence_13 : decode cX4_answerSilence 13 = .ok (.return_, 1) := by decide +kernel
theorem dX4_answerSilence_14 : decode cX4_answerSilence 14 = .ok (.iconst 0, 1) := by decide +kernel
theorem dX4_answerSilence_15 : decode cX4_answerSilence 15 = .ok (.istore_n 2, 1) := by decide +kernel
theorem dX4_answerSilence_16 : decode cX4_answerSilence 16 = .ok (.iload_n 2, 1) := by decide +kernel
theorem dX4_answerSilence_17 : decode cX4_answerSilence 17 = .ok (.aload_n 0, 1) := by decide +kernel
theorem dX4_answerSilence_18 : decode cX4_answerSilence 18 = .ok (.getfield 39, 3) := by decide +kernel
theorem dX4_answerSilence_21 : decode cX4_answerSilence 21 = .ok (.if_icmp .ge 21, 3) := by decide +kernel
theorem dX4_answerSilence_24 : decode cX4_answerSilence 24 = .ok (.iload_n 1, 1) := by decide +kernel
theorem dX4_answerSilence_25 : decode cX4_answerSilence 25 = .ok (.iconst 1, 1) := by decide +kernel
theorem dX4_answerSilence_26 : decode cX4_answerSilence 26 = .ok (.iload_n 2, 1) := by decide +kernel
theorem dX4_answerSilence_27 : decode cX4_answerSilence 27 = .ok (.ishl, 1) := by decide +kernel
theorem dX4_answerSilence_28 : decode cX4_answerSilence 28 = .ok (.if_icmp .ne 8, 3) := by decide +kernel
theorem dX4_answerSilence_31 : decode cX4_answerSilence 31 = .ok (.aload_n 0, 1) := by decide +kernel
theorem dX4_answerSilence_32 : decode cX4_answerSilence 32 = .ok (.iload_n 2, 1) := by decide +kernel
theorem dX4_answerSilence_33 : decode cX4_answerSilence 33 = .ok (.invokevirtual 148, 3) := by decide +kernel
theorem dX4_answerSilence_36 : decode cX4_answerSilence 36 = .ok (.iinc 2 1, 3) := by decide +kernel
theorem dX4_answerSilence_39 : decode cX4_answerSilence 39 = .ok (.goto (-23), 3) := by decide +kernel
theorem dX4_answerSilence_42 : decode cX4_answerSilence 42 = .ok (.return_, 1) := by decide +kernel
def f_X4_answerSilence_36 (fu : Nat) (k_16 : Nat → Int32 → Int32 → Mem → Option Mem) (i0 : Nat) (x1 : Int32) (x2 : Int32) (m : Mem) : Option Mem := seqM (x2 + 1) (fun x_1 : Int32 => k_16 i0 x1 x_1 m)
set_option maxHeartbeats 4000000 in
set_option maxRecDepth 100000 in
theorem w_X4_answerSilence_36 {X : TX} {p : Program} {l : Launch} {e : Env} {s : State} {mi : MethodId} {args : Array Value} {below : List Frame} {meth : Method} {c : Code} {Q : State → Prop} {mE : Mem} (C : Cx X p s mi args c RX4 cX4_answerSilence 3) (hq : RetV X p l e (rmD 3) s mi args below meth c cX4_answerSilence Q mE) {fu : Nat} {k_16 : Nat → Int32 → Int32 → Mem → Option Mem} (hk_16 : ∀ {i0 : Nat} {x1 : Int32} {x2 : Int32} {m : Mem} {H : Heap} {locs : List Loc} {ls : Array Slot}, k_16 i0 x1 x2 m = some mE → (9, i0) ∈ ids → Wd X s m H locs → lv_has ls 3 [(0, .ref (ad X 9 i0)), (1, .int x1), (2, .int x2)] → W p l e (rmD 3) s mi args below meth c H locs 0 0 Q (F0 mi 16 ls [])) {i0 : Nat} {x1 : Int32} {x2 : Int32} {m : Mem} {H : Heap} {locs : List Loc} {ls : Array Slot} (h : f_X4_answerSilence_36 fu k_16 i0 x1 x2 m = some mE) (g_i0 : (9, i0) ∈ ids) (hW : Wd X s m H locs) (hl : lv_has ls 3 [(0, .ref (ad X 9 i0)), (1, .int x1), (2, .int x2)]) : W p l e (rmD 3) s mi args below meth c H locs 0 0 Q (F0 mi 36 ls []) := by
  unfold f_X4_answerSilence_36 at h
  obtain ⟨x_1, e_2, h⟩ := seqM_E h
  refine lv_iinc (v := x_1) (lv' := [(2, .int x_1), (0, .ref (ad X 9 i0)), (1, .int x1)]) C.1 C.2.1 dX4_answerSilence_36 hl (k := 2) rfl (by rw [e_2]; rfl) (by decide) rfl (fun ls hl => ?_)
  refine lv_goto (tgt := 16) C.1 C.2.1 dX4_answerSilence_39 (by decide) ?_
  exact hk_16 h g_i0 hW (lv_sub hl [1, 2, 0] rfl)
def f_X4_answerSilence_16 (fu : Nat)  : Nat → Nat → Int32 → Int32 → Mem → Option Mem
  | 0, _, _, _, _ => none
  | n + 1, i0, x1, x2, m => if (m (sf i0 1)) ≤ x2 then (some m) else (if x1 = (1 <<< (x2 &&& 31)) then (doV (f_X4_beginAlone fu i0 x2 m) (fun m_2 => f_X4_answerSilence_36 fu (f_X4_answerSilence_16 fu n) i0 x1 x2 m_2)) else (f_X4_answerSilence_36 fu (f_X4_answerSilence_16 fu n) i0 x1 x2 m))
set_option maxHeartbeats 4000000 in
set_option maxRecDepth 100000 in
theorem w_X4_answerSilence_16 {X : TX} {p : Program} {l : Launch} {e : Env} {s : State} {mi : MethodId} {args : Array Value} {below : List Frame} {meth : Method} {c : Code} {Q : State → Prop} {mE : Mem} (C : Cx X p s mi args c RX4 cX4_answerSilence 3) (hq : RetV X p l e (rmD 3) s mi args below meth c cX4_answerSilence Q mE) {fu : Nat} : ∀ (n : Nat) {i0 : Nat} {x1 : Int32} {x2 : Int32} {m : Mem} {H : Heap} {locs : List Loc} {ls : Array Slot}, f_X4_answerSilence_16 fu n i0 x1 x2 m = some mE → (9, i0) ∈ ids → Wd X s m H locs → lv_has ls 3 [(0, .ref (ad X 9 i0)), (1, .int x1), (2, .int x2)] → W p l e (rmD 3) s mi args below meth c H locs 0 0 Q (F0 mi 16 ls []) := by
  intro n
  induction n with
  | zero =>
    intro i0 x1 x2 m H locs ls h g_i0 hW hl
    rw [f_X4_answerSilence_16] at h
    cases h
  | succ n ih =>
    intro i0 x1 x2 m H locs ls h g_i0 hW hl
    rw [f_X4_answerSilence_16] at h
    refine lv_iload_n C.1 C.2.1 dX4_answerSilence_16 rfl (lv_at hl 2 rfl) ?_
    refine lv_aload_n C.1 C.2.1 dX4_answerSilence_17 rfl (lv_at hl 0 rfl) ?_
    refine zg_X4_many C hW g_i0 w_226 dX4_answerSilence_18 ?_
    refine lv_icmp_ge (tgt := 42) C.1 C.2.1 dX4_answerSilence_21 (by decide) (fun hc_4 => ?_) (fun hc_4 => ?_)
    · have h := ite_t hc_4 h
      exact ret_v h hq hW dX4_answerSilence_42
    · have h := ite_f hc_4 h
      refine lv_iload_n C.1 C.2.1 dX4_answerSilence_24 rfl (lv_at hl 1 rfl) ?_
      refine lv_iconst (v := 1) C.1 C.2.1 dX4_answerSilence_25 rfl ?_
      refine lv_iload_n C.1 C.2.1 dX4_answerSilence_26 rfl (lv_at hl 2 rfl) ?_
      refine lv_ishl C.1 C.2.1 dX4_answerSilence_27 ?_
      refine lv_icmp_ne (tgt := 36) C.1 C.2.1 dX4_answerSilence_28 (by decide) (fun hc_3 => ?_) (fun hc_3 => ?_)
      · have h := ite_f hc_3 h
        exact w_X4_answerSilence_36 C hq ih h g_i0 hW (lv_sub hl [0, 1, 2] rfl)
      · have h := ite_t hc_3 h
        refine lv_aload_n C.1 C.2.1 dX4_answerSilence_31 rfl (lv_at hl 0 rfl) ?_
        refine lv_iload_n C.1 C.2.1 dX4_answerSilence_32 rfl (lv_at hl 2 rfl) ?_
        obtain ⟨m_2, hc_1, h⟩ := doV_E h
        refine zr_cVV C hW (c_X4_beginAlone (i0 := i0) (x1 := x2) hc_1 g_i0) k_X4_beginAlone (zr_recv C hW g_i0 zco_9 rfl) w_573 ⟨Nat.le_of_ble_eq_true rfl, Nat.le_of_ble_eq_true rfl⟩ ⟨Nat.le_refl 0, Nat.le_refl 0⟩ rfl hl.1 rfl (Nat.le_of_ble_eq_true rfl) dX4_answerSilence_33 (fun H locs hW => ?_)
        exact w_X4_answerSilence_36 C hq ih h g_i0 hW (lv_sub hl [0, 1, 2] rfl)
def f_X4_answerSilence (fu : Nat)  (i0 : Nat) (x1 : Int32) (m : Mem) : Option Mem := doI (f_J6_bitCount_0f7a4 fu x1 m) (fun r_3 m_2 => if r_3 ≤ 1 then (f_X4_answerSilence_16 fu fu i0 x1 0 m_2) else (doV (f_X4_cross fu i0 x1 m_2) (fun m_5 => some m_5)))
set_option maxHeartbeats 4000000 in
set_option maxRecDepth 100000 in
theorem w_X4_answerSilence {X : TX} {p : Program} {l : Launch} {e : Env} {s : State} {mi : MethodId} {args : Array Value} {below : List Frame} {meth : Method} {c : Code} {Q : State → Prop} {mE : Mem} (C : Cx X p s mi args c RX4 cX4_answerSilence 3) (hq : RetV X p l e (rmD 3) s mi args below meth c cX4_answerSilence Q mE) {fu : Nat} {i0 : Nat} {x1 : Int32} {m : Mem} {H : Heap} {locs : List Loc} {ls : Array Slot} (h : f_X4_answerSilence fu i0 x1 m = some mE) (g_i0 : (9, i0) ∈ ids) (hW : Wd X s m H locs) (hl : lv_has ls 3 [(0, .ref (ad X 9 i0)), (1, .int x1)]) : W p l e (rmD 3) s mi args below meth c H locs 0 0 Q (F0 mi 0 ls []) := by
  unfold f_X4_answerSilence at h
  refine lv_iload_n C.1 C.2.1 dX4_answerSilence_0 rfl (lv_at hl 1 rfl) ?_
  obtain ⟨r_3, m_2, hc_1, h⟩ := doI_E h
  refine zr_cSI C hW (c_J6_bitCount_0f7a4 (x0 := x1) hc_1 ) k_J6_bitCount_0f7a4 w_557 ⟨Nat.le_of_ble_eq_true rfl, Nat.le_of_ble_eq_true rfl⟩ ⟨Nat.le_refl 0, Nat.le_refl 0⟩ rfl hl.1 rfl (Nat.le_of_ble_eq_true rfl) dX4_answerSilence_1 (fun H locs hW => ?_)
  refine lv_iconst (v := 1) C.1 C.2.1 dX4_answerSilence_4 rfl ?_
  refine lv_icmp_le (tgt := 14) C.1 C.2.1 dX4_answerSilence_5 (by decide) (fun hc_6 => ?_) (fun hc_6 => ?_)
  · have h := ite_t hc_6 h
    refine lv_iconst (v := 0) C.1 C.2.1 dX4_answerSilence_14 rfl ?_
    refine lv_istore_n (lv' := [(2, .int 0), (0, .ref (ad X 9 i0)), (1, .int x1)]) C.1 C.2.1 dX4_answerSilence_15 rfl hl (by decide) rfl (fun ls hl => ?_)
    exact w_X4_answerSilence_16 C hq  fu h g_i0 hW (lv_sub hl [1, 2, 0] rfl)
  · have h := ite_f hc_6 h
    refine lv_aload_n C.1 C.2.1 dX4_answerSilence_8 rfl (lv_at hl 0 rfl) ?_
    refine lv_iload_n C.1 C.2.1 dX4_answerSilence_9 rfl (lv_at hl 1 rfl) ?_
    obtain ⟨m_5, hc_4, h⟩ := doV_E h
    refine zr_cVV C hW (c_X4_cross (i0 := i0) (x1 := x1) hc_4 g_i0) k_X4_cross (zr_recv C hW g_i0 zco_9 rfl) w_563 ⟨Nat.le_of_ble_eq_true rfl, Nat.le_of_ble_eq_true rfl⟩ ⟨Nat.le_refl 0, Nat.le_refl 0⟩ rfl hl.1 rfl (Nat.le_of_ble_eq_true rfl) dX4_answerSilence_10 (fun H locs hW => ?_)
    exact ret_v h hq hW dX4_answerSilence_13
theorem c_X4_answerSilence {X : TX} {l : Launch} {fu : Nat} {i0 : Nat} {x1 : Int32} {m mE : Mem} (h : f_X4_answerSilence fu i0 x1 m = some mE) (g_i0 : (9, i0) ∈ ids) : MetV X l yX4_answerSilence cX4_answerSilence 3 3 [.ref (ad X 9 i0), .int x1] m mE :=
  met_V (by decide) (Nat.le_of_ble_eq_true rfl) (fun p e s mi args below meth c ls Q C hq hW hl => w_X4_answerSilence C hq h g_i0 hW (lv_sub hl [0, 1] rfl))
theorem k_X4_answerSilence : CalV yX4_answerSilence cX4_answerSilence 3 none RX4 1 := ⟨w_555, w_5, w_65, w_556, by decide +kernel⟩
theorem dX4_goOn_0 : decode cX4_goOn 0 = .ok (.aload_n 0, 1) := by decide +kernel
theorem dX4_goOn_1 : decode cX4_goOn 1 = .ok (.getfield 49, 3) := by decide +kernel
theorem dX4_goOn_4 : decode cX4_goOn 4 = .ok (.ifCond .eq 24, 3) := by decide +kernel
theorem dX4_goOn_7 : decode cX4_goOn 7 = .ok (.aload_n 0, 1) := by decide +kernel
theorem dX4_goOn_8 : decode cX4_goOn 8 = .ok (.invokevirtual 125, 3) := by decide +kernel
theorem dX4_goOn_11 : decode cX4_goOn 11 = .ok (.istore_n 1, 1) := by decide +kernel
theorem dX4_goOn_12 : decode cX4_goOn 12 = .ok (.iload_n 1, 1) := by decide +kernel
theorem dX4_goOn_13 : decode cX4_goOn 13 = .ok (.ifCond .ne 10, 3) := by decide +kernel
theorem dX4_goOn_16 : decode cX4_goOn 16 = .ok (.aload_n 0, 1) := by decide +kernel
theorem dX4_goOn_17 : decode cX4_goOn 17 = .ok (.invokevirtual 129, 3) := by decide +kernel
theorem dX4_goOn_20 : decode cX4_goOn 20 = .ok (.goto 8, 3) := by decide +kernel
theorem dX4_goOn_23 : decode cX4_goOn 23 = .ok (.aload_n 0, 1) := by decide +kernel
theorem dX4_goOn_24 : decode cX4_goOn 24 = .ok (.iload_n 1, 1) := by decide +kernel
theorem dX4_goOn_25 : decode cX4_goOn 25 = .ok (.invokevirtual 132, 3) := by decide +kernel
theorem dX4_goOn_28 : decode cX4_goOn 28 = .ok (.aload_n 0, 1) := by decide +kernel
theorem dX4_goOn_29 : decode cX4_goOn 29 = .ok (.dup, 1) := by decide +kernel
theorem dX4_goOn_30 : decode cX4_goOn 30 = .ok (.getfield 73, 3) := by decide +kernel
theorem dX4_goOn_33 : decode cX4_goOn 33 = .ok (.iconst 1, 1) := by decide +kernel
theorem dX4_goOn_34 : decode cX4_goOn 34 = .ok (.iadd, 1) := by decide +kernel
theorem dX4_goOn_35 : decode cX4_goOn 35 = .ok (.putfield 73, 3) := by decide +kernel
theorem dX4_goOn_38 : decode cX4_goOn 38 = .ok (.return_, 1) := by decide +kernel
def f_X4_goOn_28 (fu : Nat)  (i0 : Nat) (m : Mem) : Option Mem := seqM (upd m (sf i0 2) ((m (sf i0 2)) + 1)) (fun m_1 : Mem => some m_1)
set_option maxHeartbeats 4000000 in
set_option maxRecDepth 100000 in
theorem w_X4_goOn_28 {X : TX} {p : Program} {l : Launch} {e : Env} {s : State} {mi : MethodId} {args : Array Value} {below : List Frame} {meth : Method} {c : Code} {Q : State → Prop} {mE : Mem} (C : Cx X p s mi args c RX4 cX4_goOn 2) (hq : RetV X p l e (rmD 4) s mi args below meth c cX4_goOn Q mE) {fu : Nat} {i0 : Nat} {m : Mem} {H : Heap} {locs : List Loc} {ls : Array Slot} (h : f_X4_goOn_28 fu i0 m = some mE) (g_i0 : (9, i0) ∈ ids) (hW : Wd X s m H locs) (hl : lv_has ls 2 [(0, .ref (ad X 9 i0))]) : W p l e (rmD 4) s mi args below meth c H locs 0 0 Q (F0 mi 28 ls []) := by
  unfold f_X4_goOn_28 at h
  refine lv_aload_n C.1 C.2.1 dX4_goOn_28 rfl (lv_at hl 0 rfl) ?_
  refine lv_dup C.1 C.2.1 dX4_goOn_29 rfl ?_
  refine zg_X4_tenth C hW g_i0 w_252 dX4_goOn_30 ?_
  refine lv_iconst (v := 1) C.1 C.2.1 dX4_goOn_33 rfl ?_
  refine lv_iadd C.1 C.2.1 dX4_goOn_34 ?_
  obtain ⟨m_1, e_2, h⟩ := seqM_E h
  refine zp_X4_tenth C hW g_i0 w_252 e_2 dX4_goOn_35 (fun H locs hW => ?_)
  exact ret_v h hq hW dX4_goOn_38
def f_X4_goOn (fu : Nat)  (i0 : Nat) (m : Mem) : Option Mem := if (m (sf i0 6)) = 0 then (f_X4_goOn_28 fu i0 m) else (doI (f_X4_whoIsReady fu i0 m) (fun r_3 m_2 => if r_3 = 0 then (doV (f_X4_bearSilence fu i0 m_2) (fun m_7 => f_X4_goOn_28 fu i0 m_7)) else (doV (f_X4_answerSilence fu i0 r_3 m_2) (fun m_5 => f_X4_goOn_28 fu i0 m_5))))
set_option maxHeartbeats 4000000 in
set_option maxRecDepth 100000 in
theorem w_X4_goOn {X : TX} {p : Program} {l : Launch} {e : Env} {s : State} {mi : MethodId} {args : Array Value} {below : List Frame} {meth : Method} {c : Code} {Q : State → Prop} {mE : Mem} (C : Cx X p s mi args c RX4 cX4_goOn 2) (hq : RetV X p l e (rmD 4) s mi args below meth c cX4_goOn Q mE) {fu : Nat} {i0 : Nat} {m : Mem} {H : Heap} {locs : List Loc} {ls : Array Slot} (h : f_X4_goOn fu i0 m = some mE) (g_i0 : (9, i0) ∈ ids) (hW : Wd X s m H locs) (hl : lv_has ls 2 [(0, .ref (ad X 9 i0))]) : W p l e (rmD 4) s mi args below meth c H locs 0 0 Q (F0 mi 0 ls []) := by
  unfold f_X4_goOn at h
  refine lv_aload_n C.1 C.2.1 dX4_goOn_0 rfl (lv_at hl 0 rfl) ?_
  refine zg_X4_silence C hW g_i0 w_234 dX4_goOn_1 ?_
  refine lv_if_eq (tgt := 28) C.1 C.2.1 dX4_goOn_4 (by decide) (fun hc_9 => ?_) (fun hc_9 => ?_)
  · have h := ite_t hc_9 h
    exact w_X4_goOn_28 C hq  h g_i0 hW (lv_sub hl [0] rfl)
  · have h := ite_f hc_9 h
    refine lv_aload_n C.1 C.2.1 dX4_goOn_7 rfl (lv_at hl 0 rfl) ?_
    obtain ⟨r_3, m_2, hc_1, h⟩ := doI_E h
    refine zr_cVI C hW (c_X4_whoIsReady (i0 := i0) hc_1 g_i0) k_X4_whoIsReady (zr_recv C hW g_i0 zco_9 rfl) w_528 ⟨Nat.le_of_ble_eq_true rfl, Nat.le_of_ble_eq_true rfl⟩ ⟨Nat.le_refl 0, Nat.le_refl 0⟩ rfl hl.1 rfl (Nat.le_of_ble_eq_true rfl) dX4_goOn_8 (fun H locs hW => ?_)
    refine lv_istore_n (lv' := [(1, .int r_3), (0, .ref (ad X 9 i0))]) C.1 C.2.1 dX4_goOn_11 rfl hl (by decide) rfl (fun ls hl => ?_)
    refine lv_iload_n C.1 C.2.1 dX4_goOn_12 rfl (lv_at hl 0 rfl) ?_
    refine lv_if_ne (tgt := 23) C.1 C.2.1 dX4_goOn_13 (by decide) (fun hc_8 => ?_) (fun hc_8 => ?_)
    · have h := ite_f hc_8 h
      refine lv_aload_n C.1 C.2.1 dX4_goOn_23 rfl (lv_at hl 1 rfl) ?_
      refine lv_iload_n C.1 C.2.1 dX4_goOn_24 rfl (lv_at hl 0 rfl) ?_
      obtain ⟨m_5, hc_4, h⟩ := doV_E h
      refine zr_cVV C hW (c_X4_answerSilence (i0 := i0) (x1 := r_3) hc_4 g_i0) k_X4_answerSilence (zr_recv C hW g_i0 zco_9 rfl) w_553 ⟨Nat.le_of_ble_eq_true rfl, Nat.le_of_ble_eq_true rfl⟩ ⟨Nat.le_refl 0, Nat.le_refl 0⟩ rfl hl.1 rfl (Nat.le_of_ble_eq_true rfl) dX4_goOn_25 (fun H locs hW => ?_)
      exact w_X4_goOn_28 C hq  h g_i0 hW (lv_sub hl [1] rfl)
    · have h := ite_t hc_8 h
      refine lv_aload_n C.1 C.2.1 dX4_goOn_16 rfl (lv_at hl 1 rfl) ?_
      obtain ⟨m_7, hc_6, h⟩ := doV_E h
      refine zr_cVV C hW (c_X4_bearSilence (i0 := i0) hc_6 g_i0) k_X4_bearSilence (zr_recv C hW g_i0 zco_9 rfl) w_537 ⟨Nat.le_of_ble_eq_true rfl, Nat.le_of_ble_eq_true rfl⟩ ⟨Nat.le_refl 0, Nat.le_refl 0⟩ rfl hl.1 rfl (Nat.le_of_ble_eq_true rfl) dX4_goOn_17 (fun H locs hW => ?_)
      refine lv_goto (tgt := 28) C.1 C.2.1 dX4_goOn_20 (by decide) ?_
      exact w_X4_goOn_28 C hq  h g_i0 hW (lv_sub hl [1] rfl)
theorem c_X4_goOn {X : TX} {l : Launch} {fu : Nat} {i0 : Nat} {m mE : Mem} (h : f_X4_goOn fu i0 m = some mE) (g_i0 : (9, i0) ∈ ids) : MetV X l yX4_goOn cX4_goOn 2 4 [.ref (ad X 9 i0)] m mE :=
  met_V (by decide) (Nat.le_of_ble_eq_true rfl) (fun p e s mi args below meth c ls Q C hq hW hl => w_X4_goOn C hq h g_i0 hW (lv_sub hl [0] rfl))
theorem k_X4_goOn : CalV yX4_goOn cX4_goOn 2 none RX4 0 := ⟨w_525, w_526, w_65, w_527, by decide +kernel⟩
theorem dX4_run_0 : decode cX4_run 0 = .ok (.iconst 0, 1) := by decide +kernel
theorem dX4_run_1 : decode cX4_run 1 = .ok (.istore_n 2, 1) := by decide +kernel
theorem dX4_run_2 : decode cX4_run 2 = .ok (.iload_n 2, 1) := by decide +kernel
theorem dX4_run_3 : decode cX4_run 3 = .ok (.iload_n 1, 1) := by decide +kernel
theorem dX4_run_4 : decode cX4_run 4 = .ok (.if_icmp .ge 17, 3) := by decide +kernel
theorem dX4_run_7 : decode cX4_run 7 = .ok (.aload_n 0, 1) := by decide +kernel
theorem dX4_run_8 : decode cX4_run 8 = .ok (.invokevirtual 113, 3) := by decide +kernel
theorem dX4_run_11 : decode cX4_run 11 = .ok (.aload_n 0, 1) := by decide +kernel
theorem dX4_run_12 : decode cX4_run 12 = .ok (.invokevirtual 116, 3) := by decide +kernel
theorem dX4_run_15 : decode cX4_run 15 = .ok (.iinc 2 1, 3) := by decide +kernel
theorem dX4_run_18 : decode cX4_run 18 = .ok (.goto (-16), 3) := by decide +kernel
theorem dX4_run_21 : decode cX4_run 21 = .ok (.return_, 1) := by decide +kernel
def f_X4_run_2 (fu : Nat)  : Nat → Nat → Int32 → Int32 → Mem → Option Mem
  | 0, _, _, _, _ => none
  | n + 1, i0, x1, x2, m => if x1 ≤ x2 then (some m) else (doV (f_X4_hear fu i0 m) (fun m_2 => doV (f_X4_goOn fu i0 m_2) (fun m_4 => seqM (x2 + 1) (fun x_5 : Int32 => f_X4_run_2 fu n i0 x1 x_5 m_4))))
set_option maxHeartbeats 4000000 in
set_option maxRecDepth 100000 in
theorem w_X4_run_2 {X : TX} {p : Program} {l : Launch} {e : Env} {s : State} {mi : MethodId} {args : Array Value} {below : List Frame} {meth : Method} {c : Code} {Q : State → Prop} {mE : Mem} (C : Cx X p s mi args c RX4 cX4_run 3) (hq : RetV X p l e (rmD 5) s mi args below meth c cX4_run Q mE) {fu : Nat} : ∀ (n : Nat) {i0 : Nat} {x1 : Int32} {x2 : Int32} {m : Mem} {H : Heap} {locs : List Loc} {ls : Array Slot}, f_X4_run_2 fu n i0 x1 x2 m = some mE → (9, i0) ∈ ids → Wd X s m H locs → lv_has ls 3 [(0, .ref (ad X 9 i0)), (1, .int x1), (2, .int x2)] → W p l e (rmD 5) s mi args below meth c H locs 0 0 Q (F0 mi 2 ls []) := by
  intro n
  induction n with
  | zero =>
    intro i0 x1 x2 m H locs ls h g_i0 hW hl
    rw [f_X4_run_2] at h
    cases h
  | succ n ih =>
    intro i0 x1 x2 m H locs ls h g_i0 hW hl
    rw [f_X4_run_2] at h
    refine lv_iload_n C.1 C.2.1 dX4_run_2 rfl (lv_at hl 2 rfl) ?_
    refine lv_iload_n C.1 C.2.1 dX4_run_3 rfl (lv_at hl 1 rfl) ?_
    refine lv_icmp_ge (tgt := 21) C.1 C.2.1 dX4_run_4 (by decide) (fun hc_7 => ?_) (fun hc_7 => ?_)
    · have h := ite_t hc_7 h
      exact ret_v h hq hW dX4_run_21
    · have h := ite_f hc_7 h
      refine lv_aload_n C.1 C.2.1 dX4_run_7 rfl (lv_at hl 0 rfl) ?_
      obtain ⟨m_2, hc_1, h⟩ := doV_E h
      refine zr_cVV C hW (c_X4_hear (i0 := i0) hc_1 g_i0) k_X4_hear (zr_recv C hW g_i0 zco_9 rfl) w_519 ⟨Nat.le_of_ble_eq_true rfl, Nat.le_of_ble_eq_true rfl⟩ ⟨Nat.le_refl 0, Nat.le_refl 0⟩ rfl hl.1 rfl (Nat.le_of_ble_eq_true rfl) dX4_run_8 (fun H locs hW => ?_)
      refine lv_aload_n C.1 C.2.1 dX4_run_11 rfl (lv_at hl 0 rfl) ?_
      obtain ⟨m_4, hc_3, h⟩ := doV_E h
      refine zr_cVV C hW (c_X4_goOn (i0 := i0) hc_3 g_i0) k_X4_goOn (zr_recv C hW g_i0 zco_9 rfl) w_524 ⟨Nat.le_of_ble_eq_true rfl, Nat.le_of_ble_eq_true rfl⟩ ⟨Nat.le_refl 0, Nat.le_refl 0⟩ rfl hl.1 rfl (Nat.le_of_ble_eq_true rfl) dX4_run_12 (fun H locs hW => ?_)
      obtain ⟨x_5, e_6, h⟩ := seqM_E h
      refine lv_iinc (v := x_5) (lv' := [(2, .int x_5), (0, .ref (ad X 9 i0)), (1, .int x1)]) C.1 C.2.1 dX4_run_15 hl (k := 2) rfl (by rw [e_6]; rfl) (by decide) rfl (fun ls hl => ?_)
      refine lv_goto (tgt := 2) C.1 C.2.1 dX4_run_18 (by decide) ?_
      exact ih h g_i0 hW (lv_sub hl [1, 2, 0] rfl)
def f_X4_run (fu : Nat)  (i0 : Nat) (x1 : Int32) (m : Mem) : Option Mem := f_X4_run_2 fu fu i0 x1 0 m
set_option maxHeartbeats 4000000 in
set_option maxRecDepth 100000 in
theorem w_X4_run {X : TX} {p : Program} {l : Launch} {e : Env} {s : State} {mi : MethodId} {args : Array Value} {below : List Frame} {meth : Method} {c : Code} {Q : State → Prop} {mE : Mem} (C : Cx X p s mi args c RX4 cX4_run 3) (hq : RetV X p l e (rmD 5) s mi args below meth c cX4_run Q mE) {fu : Nat} {i0 : Nat} {x1 : Int32} {m : Mem} {H : Heap} {locs : List Loc} {ls : Array Slot} (h : f_X4_run fu i0 x1 m = some mE) (g_i0 : (9, i0) ∈ ids) (hW : Wd X s m H locs) (hl : lv_has ls 3 [(0, .ref (ad X 9 i0)), (1, .int x1)]) : W p l e (rmD 5) s mi args below meth c H locs 0 0 Q (F0 mi 0 ls []) := by
  unfold f_X4_run at h
  refine lv_iconst (v := 0) C.1 C.2.1 dX4_run_0 rfl ?_
  refine lv_istore_n (lv' := [(2, .int 0), (0, .ref (ad X 9 i0)), (1, .int x1)]) C.1 C.2.1 dX4_run_1 rfl hl (by decide) rfl (fun ls hl => ?_)
  exact w_X4_run_2 C hq  fu h g_i0 hW (lv_sub hl [1, 2, 0] rfl)
theorem c_X4_run {X : TX} {l : Launch} {fu : Nat} {i0 : Nat} {x1 : Int32} {m mE : Mem} (h : f_X4_run fu i0 x1 m = some mE) (g_i0 : (9, i0) ∈ ids) : MetV X l yX4_run cX4_run 3 5 [.ref (ad X 9 i0), .int x1] m mE :=
  met_V (by decide) (Nat.le_of_ble_eq_true rfl) (fun p e s mi args below meth c ls Q C hq hW hl => w_X4_run C hq h g_i0 hW (lv_sub hl [0, 1] rfl))
theorem k_X4_run : CalV yX4_run cX4_run 3 none RX4 1 := ⟨w_516, w_517, w_65, w_518, by decide +kernel⟩
theorem dX4_firstWhoSaidMore_0 : decode cX4_firstWhoSaidMore 0 = .ok (.iconst 0, 1) := by decide +kernel
theorem dX4_firstWhoSaidMore_1 : decode cX4_firstWhoSaidMore 1 = .ok (.istore_n 2, 1) := by decide +kernel
theorem dX4_firstWhoSaidMore_2 : decode cX4_firstWhoSaidMore 2 = .ok (.iload_n 2, 1) := by decide +kernel
theorem dX4_firstWhoSaidMore_3 : decode cX4_firstWhoSaidMore 3 = .ok (.aload_n 0, 1) := by decide +kernel
theorem dX4_firstWhoSaidMore_4 : decode cX4_firstWhoSaidMore 4 = .ok (.getfield 39, 3) := by decide +kernel
theorem dX4_firstWhoSaidMore_7 : decode cX4_firstWhoSaidMore 7 = .ok (.if_icmp .ge 40, 3) := by decide +kernel
theorem dX4_firstWhoSaidMore_10 : decode cX4_firstWhoSaidMore 10 = .ok (.iload_n 2, 1) := by decide +kernel
theorem dX4_firstWhoSaidMore_11 : decode cX4_firstWhoSaidMore 11 = .ok (.aload_n 1, 1) := by decide +kernel
theorem dX4_firstWhoSaidMore_12 : decode cX4_firstWhoSaidMore 12 = .ok (.getfield 39, 3) := by decide +kernel
theorem dX4_firstWhoSaidMore_15 : decode cX4_firstWhoSaidMore 15 = .ok (.if_icmp .ge 32, 3) := by decide +kernel
theorem dX4_firstWhoSaidMore_18 : decode cX4_firstWhoSaidMore 18 = .ok (.aload_n 0, 1) := by decide +kernel
theorem dX4_firstWhoSaidMore_19 : decode cX4_firstWhoSaidMore 19 = .ok (.getfield 11, 3) := by decide +kernel
theorem dX4_firstWhoSaidMore_22 : decode cX4_firstWhoSaidMore 22 = .ok (.iload_n 2, 1) := by decide +kernel
theorem dX4_firstWhoSaidMore_23 : decode cX4_firstWhoSaidMore 23 = .ok (.aaload, 1) := by decide +kernel
theorem dX4_firstWhoSaidMore_24 : decode cX4_firstWhoSaidMore 24 = .ok (.getfield 97, 3) := by decide +kernel
theorem dX4_firstWhoSaidMore_27 : decode cX4_firstWhoSaidMore 27 = .ok (.aload_n 1, 1) := by decide +kernel
theorem dX4_firstWhoSaidMore_28 : decode cX4_firstWhoSaidMore 28 = .ok (.getfield 11, 3) := by decide +kernel
theorem dX4_firstWhoSaidMore_31 : decode cX4_firstWhoSaidMore 31 = .ok (.iload_n 2, 1) := by decide +kernel
theorem dX4_firstWhoSaidMore_32 : decode cX4_firstWhoSaidMore 32 = .ok (.aaload, 1) := by decide +kernel
theorem dX4_firstWhoSaidMore_33 : decode cX4_firstWhoSaidMore 33 = .ok (.getfield 97, 3) := by decide +kernel
theorem dX4_firstWhoSaidMore_36 : decode cX4_firstWhoSaidMore 36 = .ok (.if_icmp .le 5, 3) := by decide +kernel
theorem dX4_firstWhoSaidMore_39 : decode cX4_firstWhoSaidMore 39 = .ok (.iload_n 2, 1) := by decide +kernel
theorem dX4_firstWhoSaidMore_40 : decode cX4_firstWhoSaidMore 40 = .ok (.ireturn, 1) := by decide +kernel
theorem dX4_firstWhoSaidMore_41 : decode cX4_firstWhoSaidMore 41 = .ok (.iinc 2 1, 3) := by decide +kernel
theorem dX4_firstWhoSaidMore_44 : decode cX4_firstWhoSaidMore 44 = .ok (.goto (-42), 3) := by decide +kernel
theorem dX4_firstWhoSaidMore_47 : decode cX4_firstWhoSaidMore 47 = .ok (.iconst (-1), 1) := by decide +kernel
theorem dX4_firstWhoSaidMore_48 : decode cX4_firstWhoSaidMore 48 = .ok (.ireturn, 1) := by decide +kernel
def f_X4_firstWhoSaidMore_2 (fu : Nat)  : Nat → Nat → Nat → Int32 → Mem → Option (Int32 × Mem)
  | 0, _, _, _, _ => none
  | n + 1, i0, i1, x2, m => if (m (sf i0 1)) ≤ x2 then (some ((-1), m)) else (if (m (sf i1 1)) ≤ x2 then (some ((-1), m)) else (chk (inb x2 5) (chk (inb x2 5) (if (m (vf (10 * i0 + x2.toNatClampNeg) 6)) ≤ (m (vf (10 * i1 + x2.toNatClampNeg) 6)) then (seqM (x2 + 1) (fun x_3 : Int32 => f_X4_firstWhoSaidMore_2 fu n i0 i1 x_3 m)) else (some (x2, m))))))
set_option maxHeartbeats 4000000 in
set_option maxRecDepth 100000 in
theorem w_X4_firstWhoSaidMore_2 {X : TX} {p : Program} {l : Launch} {e : Env} {s : State} {mi : MethodId} {args : Array Value} {below : List Frame} {meth : Method} {c : Code} {Q : State → Prop} {r : Int32} {mE : Mem} (C : Cx X p s mi args c RX4 cX4_firstWhoSaidMore 3) (hq : RetI X p l e (rmD 0) s mi args below meth c cX4_firstWhoSaidMore .int Q r mE) {fu : Nat} : ∀ (n : Nat) {i0 : Nat} {i1 : Nat} {x2 : Int32} {m : Mem} {H : Heap} {locs : List Loc} {ls : Array Slot}, f_X4_firstWhoSaidMore_2 fu n i0 i1 x2 m = some (r, mE) → (9, i0) ∈ ids → (9, i1) ∈ ids → Wd X s m H locs → lv_has ls 3 [(0, .ref (ad X 9 i0)), (1, .ref (ad X 9 i1)), (2, .int x2)] → W p l e (rmD 0) s mi args below meth c H locs 0 0 Q (F0 mi 2 ls []) := by
  intro n
  induction n with
  | zero =>
    intro i0 i1 x2 m H locs ls h g_i0 g_i1 hW hl
    rw [f_X4_firstWhoSaidMore_2] at h
    cases h
  | succ n ih =>
    intro i0 i1 x2 m H locs ls h g_i0 g_i1 hW hl
    rw [f_X4_firstWhoSaidMore_2] at h
    refine lv_iload_n C.1 C.2.1 dX4_firstWhoSaidMore_2 rfl (lv_at hl 2 rfl) ?_
    refine lv_aload_n C.1 C.2.1 dX4_firstWhoSaidMore_3 rfl (lv_at hl 0 rfl) ?_
    refine zg_X4_many C hW g_i0 w_226 dX4_firstWhoSaidMore_4 ?_
    refine lv_icmp_ge (tgt := 47) C.1 C.2.1 dX4_firstWhoSaidMore_7 (by decide) (fun hc_7 => ?_) (fun hc_7 => ?_)
    · have h := ite_t hc_7 h
      refine lv_iconst (v := (-1)) C.1 C.2.1 dX4_firstWhoSaidMore_47 rfl ?_
      exact ret_i h hq rfl hW dX4_firstWhoSaidMore_48
    · have h := ite_f hc_7 h
      refine lv_iload_n C.1 C.2.1 dX4_firstWhoSaidMore_10 rfl (lv_at hl 2 rfl) ?_
      refine lv_aload_n C.1 C.2.1 dX4_firstWhoSaidMore_11 rfl (lv_at hl 1 rfl) ?_
      refine zg_X4_many C hW g_i1 w_226 dX4_firstWhoSaidMore_12 ?_
      refine lv_icmp_ge (tgt := 47) C.1 C.2.1 dX4_firstWhoSaidMore_15 (by decide) (fun hc_6 => ?_) (fun hc_6 => ?_)
      · have h := ite_t hc_6 h
        refine lv_iconst (v := (-1)) C.1 C.2.1 dX4_firstWhoSaidMore_47 rfl ?_
        exact ret_i h hq rfl hW dX4_firstWhoSaidMore_48
      · have h := ite_f hc_6 h
        refine lv_aload_n C.1 C.2.1 dX4_firstWhoSaidMore_18 rfl (lv_at hl 0 rfl) ?_
        refine zg_X4_voices C hW g_i0 w_224 dX4_firstWhoSaidMore_19 ?_
        refine lv_iload_n C.1 C.2.1 dX4_firstWhoSaidMore_22 rfl (lv_at hl 2 rfl) ?_
        obtain ⟨hb_1, h⟩ := chk_E h
        refine zaa_10 C hW (im_9_10 g_i0) (inb_E hb_1) dX4_firstWhoSaidMore_23 ?_
        refine zg_X7_said C hW (ia_10 (im_9_10 g_i0) (inb_E hb_1)) w_208 dX4_firstWhoSaidMore_24 ?_
        refine lv_aload_n C.1 C.2.1 dX4_firstWhoSaidMore_27 rfl (lv_at hl 1 rfl) ?_
        refine zg_X4_voices C hW g_i1 w_224 dX4_firstWhoSaidMore_28 ?_
        refine lv_iload_n C.1 C.2.1 dX4_firstWhoSaidMore_31 rfl (lv_at hl 2 rfl) ?_
        obtain ⟨hb_2, h⟩ := chk_E h
        refine zaa_10 C hW (im_9_10 g_i1) (inb_E hb_2) dX4_firstWhoSaidMore_32 ?_
        refine zg_X7_said C hW (ia_10 (im_9_10 g_i1) (inb_E hb_2)) w_208 dX4_firstWhoSaidMore_33 ?_
        refine lv_icmp_le (tgt := 41) C.1 C.2.1 dX4_firstWhoSaidMore_36 (by decide) (fun hc_5 => ?_) (fun hc_5 => ?_)
        · have h := ite_t hc_5 h
          obtain ⟨x_3, e_4, h⟩ := seqM_E h
          refine lv_iinc (v := x_3) (lv' := [(2, .int x_3), (0, .ref (ad X 9 i0)), (1, .ref (ad X 9 i1))]) C.1 C.2.1 dX4_firstWhoSaidMore_41 hl (k := 2) rfl (by rw [e_4]; rfl) (by decide) rfl (fun ls hl => ?_)
          refine lv_goto (tgt := 2) C.1 C.2.1 dX4_firstWhoSaidMore_44 (by decide) ?_
          exact ih h g_i0 g_i1 hW (lv_sub hl [1, 2, 0] rfl)
        · have h := ite_f hc_5 h
          refine lv_iload_n C.1 C.2.1 dX4_firstWhoSaidMore_39 rfl (lv_at hl 2 rfl) ?_
          exact ret_i h hq rfl hW dX4_firstWhoSaidMore_40
def f_X4_firstWhoSaidMore (fu : Nat)  (i0 : Nat) (i1 : Nat) (m : Mem) : Option (Int32 × Mem) := f_X4_firstWhoSaidMore_2 fu fu i0 i1 0 m
set_option maxHeartbeats 4000000 in
set_option maxRecDepth 100000 in
theorem w_X4_firstWhoSaidMore {X : TX} {p : Program} {l : Launch} {e : Env} {s : State} {mi : MethodId} {args : Array Value} {below : List Frame} {meth : Method} {c : Code} {Q : State → Prop} {r : Int32} {mE : Mem} (C : Cx X p s mi args c RX4 cX4_firstWhoSaidMore 3) (hq : RetI X p l e (rmD 0) s mi args below meth c cX4_firstWhoSaidMore .int Q r mE) {fu : Nat} {i0 : Nat} {i1 : Nat} {m : Mem} {H : Heap} {locs : List Loc} {ls : Array Slot} (h : f_X4_firstWhoSaidMore fu i0 i1 m = some (r, mE)) (g_i0 : (9, i0) ∈ ids) (g_i1 : (9, i1) ∈ ids) (hW : Wd X s m H locs) (hl : lv_has ls 3 [(0, .ref (ad X 9 i0)), (1, .ref (ad X 9 i1))]) : W p l e (rmD 0) s mi args below meth c H locs 0 0 Q (F0 mi 0 ls []) := by
  unfold f_X4_firstWhoSaidMore at h
  refine lv_iconst (v := 0) C.1 C.2.1 dX4_firstWhoSaidMore_0 rfl ?_
  refine lv_istore_n (lv' := [(2, .int 0), (0, .ref (ad X 9 i0)), (1, .ref (ad X 9 i1))]) C.1 C.2.1 dX4_firstWhoSaidMore_1 rfl hl (by decide) rfl (fun ls hl => ?_)
  exact w_X4_firstWhoSaidMore_2 C hq  fu h g_i0 g_i1 hW (lv_sub hl [1, 2, 0] rfl)
theorem c_X4_firstWhoSaidMore {X : TX} {l : Launch} {fu : Nat} {i0 : Nat} {i1 : Nat} {m mE : Mem} {r : Int32} (h : f_X4_firstWhoSaidMore fu i0 i1 m = some (r, mE)) (g_i0 : (9, i0) ∈ ids) (g_i1 : (9, i1) ∈ ids) : MetI X l yX4_firstWhoSaidMore cX4_firstWhoSaidMore 3 .int 0 [.ref (ad X 9 i0), .ref (ad X 9 i1)] m r mE :=
  met_I (by decide) (Nat.le_of_ble_eq_true rfl) (fun p e s mi args below meth c ls Q C hq hW hl => w_X4_firstWhoSaidMore C hq h g_i0 g_i1 hW (lv_sub hl [0, 1] rfl))
theorem k_X4_firstWhoSaidMore : CalV yX4_firstWhoSaidMore cX4_firstWhoSaidMore 3 (some .int) RX4 1 := ⟨w_602, w_603, w_65, w_604, by decide +kernel⟩
