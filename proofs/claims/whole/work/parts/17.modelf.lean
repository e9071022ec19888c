theorem dX9_copy_0 : decode cX9_copy 0 = .ok (.iload_n 1, 1) := by decide +kernel
theorem dX9_copy_1 : decode cX9_copy 1 = .ok (.invokestatic 188, 3) := by decide +kernel
theorem dX9_copy_4 : decode cX9_copy 4 = .ok (.ifCond .eq 10, 3) := by decide +kernel
theorem dX9_copy_7 : decode cX9_copy 7 = .ok (.iload_n 3, 1) := by decide +kernel
theorem dX9_copy_8 : decode cX9_copy 8 = .ok (.invokestatic 188, 3) := by decide +kernel
theorem dX9_copy_11 : decode cX9_copy 11 = .ok (.ifCond .ne 6, 3) := by decide +kernel
theorem dX9_copy_14 : decode cX9_copy 14 = .ok (.ldc 91, 2) := by decide +kernel
theorem dX9_copy_16 : decode cX9_copy 16 = .ok (.ireturn, 1) := by decide +kernel
theorem dX9_copy_17 : decode cX9_copy 17 = .ok (.aload_n 0, 1) := by decide +kernel
theorem dX9_copy_18 : decode cX9_copy 18 = .ok (.getfield 52, 3) := by decide +kernel
theorem dX9_copy_21 : decode cX9_copy 21 = .ok (.iload_n 1, 1) := by decide +kernel
theorem dX9_copy_22 : decode cX9_copy 22 = .ok (.iaload, 1) := by decide +kernel
theorem dX9_copy_23 : decode cX9_copy 23 = .ok (.ifCond .lt 12, 3) := by decide +kernel
theorem dX9_copy_26 : decode cX9_copy 26 = .ok (.aload_n 0, 1) := by decide +kernel
theorem dX9_copy_27 : decode cX9_copy 27 = .ok (.getfield 52, 3) := by decide +kernel
theorem dX9_copy_30 : decode cX9_copy 30 = .ok (.iload_n 3, 1) := by decide +kernel
theorem dX9_copy_31 : decode cX9_copy 31 = .ok (.iaload, 1) := by decide +kernel
theorem dX9_copy_32 : decode cX9_copy 32 = .ok (.ifCond .ge 6, 3) := by decide +kernel
theorem dX9_copy_35 : decode cX9_copy 35 = .ok (.ldc 191, 2) := by decide +kernel
theorem dX9_copy_37 : decode cX9_copy 37 = .ok (.ireturn, 1) := by decide +kernel
theorem dX9_copy_38 : decode cX9_copy 38 = .ok (.aload_n 0, 1) := by decide +kernel
theorem dX9_copy_39 : decode cX9_copy 39 = .ok (.getfield 52, 3) := by decide +kernel
theorem dX9_copy_42 : decode cX9_copy 42 = .ok (.iload_n 1, 1) := by decide +kernel
theorem dX9_copy_43 : decode cX9_copy 43 = .ok (.iaload, 1) := by decide +kernel
theorem dX9_copy_44 : decode cX9_copy 44 = .ok (.aload_n 0, 1) := by decide +kernel
theorem dX9_copy_45 : decode cX9_copy 45 = .ok (.getfield 52, 3) := by decide +kernel
theorem dX9_copy_48 : decode cX9_copy 48 = .ok (.iload_n 3, 1) := by decide +kernel
theorem dX9_copy_49 : decode cX9_copy 49 = .ok (.iaload, 1) := by decide +kernel
theorem dX9_copy_50 : decode cX9_copy 50 = .ok (.if_icmp .eq 6, 3) := by decide +kernel
theorem dX9_copy_53 : decode cX9_copy 53 = .ok (.ldc 121, 2) := by decide +kernel
theorem dX9_copy_55 : decode cX9_copy 55 = .ok (.ireturn, 1) := by decide +kernel
theorem dX9_copy_56 : decode cX9_copy 56 = .ok (.iload_n 2, 1) := by decide +kernel
theorem dX9_copy_57 : decode cX9_copy 57 = .ok (.ifCond .lt 40, 3) := by decide +kernel
theorem dX9_copy_60 : decode cX9_copy 60 = .ok (.iload 4, 2) := by decide +kernel
theorem dX9_copy_62 : decode cX9_copy 62 = .ok (.ifCond .lt 35, 3) := by decide +kernel
theorem dX9_copy_65 : decode cX9_copy 65 = .ok (.iload 5, 2) := by decide +kernel
theorem dX9_copy_67 : decode cX9_copy 67 = .ok (.ifCond .lt 30, 3) := by decide +kernel
theorem dX9_copy_70 : decode cX9_copy 70 = .ok (.iload_n 2, 1) := by decide +kernel
theorem dX9_copy_71 : decode cX9_copy 71 = .ok (.aload_n 0, 1) := by decide +kernel
theorem dX9_copy_72 : decode cX9_copy 72 = .ok (.getfield 55, 3) := by decide +kernel
theorem dX9_copy_75 : decode cX9_copy 75 = .ok (.iload_n 1, 1) := by decide +kernel
theorem dX9_copy_76 : decode cX9_copy 76 = .ok (.iaload, 1) := by decide +kernel
theorem dX9_copy_77 : decode cX9_copy 77 = .ok (.iload 5, 2) := by decide +kernel
theorem dX9_copy_79 : decode cX9_copy 79 = .ok (.isub, 1) := by decide +kernel
theorem dX9_copy_80 : decode cX9_copy 80 = .ok (.if_icmp .gt 17, 3) := by decide +kernel
theorem dX9_copy_83 : decode cX9_copy 83 = .ok (.iload 4, 2) := by decide +kernel
theorem dX9_copy_85 : decode cX9_copy 85 = .ok (.aload_n 0, 1) := by decide +kernel
theorem dX9_copy_86 : decode cX9_copy 86 = .ok (.getfield 55, 3) := by decide +kernel
theorem dX9_copy_89 : decode cX9_copy 89 = .ok (.iload_n 3, 1) := by decide +kernel
theorem dX9_copy_90 : decode cX9_copy 90 = .ok (.iaload, 1) := by decide +kernel
theorem dX9_copy_91 : decode cX9_copy 91 = .ok (.iload 5, 2) := by decide +kernel
theorem dX9_copy_93 : decode cX9_copy 93 = .ok (.isub, 1) := by decide +kernel
theorem dX9_copy_94 : decode cX9_copy 94 = .ok (.if_icmp .le 7, 3) := by decide +kernel
theorem dX9_copy_97 : decode cX9_copy 97 = .ok (.ldc_w 260, 3) := by decide +kernel
theorem dX9_copy_100 : decode cX9_copy 100 = .ok (.ireturn, 1) := by decide +kernel
theorem dX9_copy_101 : decode cX9_copy 101 = .ok (.iconst 0, 1) := by decide +kernel
theorem dX9_copy_102 : decode cX9_copy 102 = .ok (.istore 6, 2) := by decide +kernel
theorem dX9_copy_104 : decode cX9_copy 104 = .ok (.iload 6, 2) := by decide +kernel
theorem dX9_copy_106 : decode cX9_copy 106 = .ok (.iload 5, 2) := by decide +kernel
theorem dX9_copy_108 : decode cX9_copy 108 = .ok (.if_icmp .ge 30, 3) := by decide +kernel
theorem dX9_copy_111 : decode cX9_copy 111 = .ok (.aload_n 0, 1) := by decide +kernel
theorem dX9_copy_112 : decode cX9_copy 112 = .ok (.getfield 73, 3) := by decide +kernel
theorem dX9_copy_115 : decode cX9_copy 115 = .ok (.iload 6, 2) := by decide +kernel
theorem dX9_copy_117 : decode cX9_copy 117 = .ok (.aload_n 0, 1) := by decide +kernel
theorem dX9_copy_118 : decode cX9_copy 118 = .ok (.getfield 58, 3) := by decide +kernel
theorem dX9_copy_121 : decode cX9_copy 121 = .ok (.bipush 24, 2) := by decide +kernel
theorem dX9_copy_123 : decode cX9_copy 123 = .ok (.iload_n 1, 1) := by decide +kernel
theorem dX9_copy_124 : decode cX9_copy 124 = .ok (.imul, 1) := by decide +kernel
theorem dX9_copy_125 : decode cX9_copy 125 = .ok (.iload_n 2, 1) := by decide +kernel
theorem dX9_copy_126 : decode cX9_copy 126 = .ok (.iadd, 1) := by decide +kernel
theorem dX9_copy_127 : decode cX9_copy 127 = .ok (.iload 6, 2) := by decide +kernel
theorem dX9_copy_129 : decode cX9_copy 129 = .ok (.iadd, 1) := by decide +kernel
theorem dX9_copy_130 : decode cX9_copy 130 = .ok (.iaload, 1) := by decide +kernel
theorem dX9_copy_131 : decode cX9_copy 131 = .ok (.iastore, 1) := by decide +kernel
theorem dX9_copy_132 : decode cX9_copy 132 = .ok (.iinc 6 1, 3) := by decide +kernel
theorem dX9_copy_135 : decode cX9_copy 135 = .ok (.goto (-31), 3) := by decide +kernel
theorem dX9_copy_138 : decode cX9_copy 138 = .ok (.iconst 0, 1) := by decide +kernel
theorem dX9_copy_139 : decode cX9_copy 139 = .ok (.istore 6, 2) := by decide +kernel
theorem dX9_copy_141 : decode cX9_copy 141 = .ok (.iload 6, 2) := by decide +kernel
theorem dX9_copy_143 : decode cX9_copy 143 = .ok (.iload 5, 2) := by decide +kernel
theorem dX9_copy_145 : decode cX9_copy 145 = .ok (.if_icmp .ge 31, 3) := by decide +kernel
theorem dX9_copy_148 : decode cX9_copy 148 = .ok (.aload_n 0, 1) := by decide +kernel
theorem dX9_copy_149 : decode cX9_copy 149 = .ok (.getfield 58, 3) := by decide +kernel
theorem dX9_copy_152 : decode cX9_copy 152 = .ok (.bipush 24, 2) := by decide +kernel
theorem dX9_copy_154 : decode cX9_copy 154 = .ok (.iload_n 3, 1) := by decide +kernel
theorem dX9_copy_155 : decode cX9_copy 155 = .ok (.imul, 1) := by decide +kernel
theorem dX9_copy_156 : decode cX9_copy 156 = .ok (.iload 4, 2) := by decide +kernel
theorem dX9_copy_158 : decode cX9_copy 158 = .ok (.iadd, 1) := by decide +kernel
theorem dX9_copy_159 : decode cX9_copy 159 = .ok (.iload 6, 2) := by decide +kernel
theorem dX9_copy_161 : decode cX9_copy 161 = .ok (.iadd, 1) := by decide +kernel
theorem dX9_copy_162 : decode cX9_copy 162 = .ok (.aload_n 0, 1) := by decide +kernel
theorem dX9_copy_163 : decode cX9_copy 163 = .ok (.getfield 73, 3) := by decide +kernel
theorem dX9_copy_166 : decode cX9_copy 166 = .ok (.iload 6, 2) := by decide +kernel
theorem dX9_copy_168 : decode cX9_copy 168 = .ok (.iaload, 1) := by decide +kernel
theorem dX9_copy_169 : decode cX9_copy 169 = .ok (.iastore, 1) := by decide +kernel
theorem dX9_copy_170 : decode cX9_copy 170 = .ok (.iinc 6 1, 3) := by decide +kernel
theorem dX9_copy_173 : decode cX9_copy 173 = .ok (.goto (-32), 3) := by decide +kernel
theorem dX9_copy_176 : decode cX9_copy 176 = .ok (.iload 5, 2) := by decide +kernel
theorem dX9_copy_178 : decode cX9_copy 178 = .ok (.ireturn, 1) := by decide +kernel
def f_X9_copy_141 (fu : Nat)  : Nat → Int32 → Int32 → Int32 → Int32 → Mem → Option (Int32 × Mem)
  | 0, _, _, _, _, _ => none
  | n + 1, x3, x4, x5, x6, m => if x5 ≤ x6 then (some (x5, m)) else (chk (inb x6 24) (chk (inb (((24 * x3) + x4) + x6) 96) (seqM (upd m (3830 + (((24 * x3) + x4) + x6).toNatClampNeg) (m (3960 + x6.toNatClampNeg))) (fun m_3 : Mem => seqM (x6 + 1) (fun x_5 : Int32 => f_X9_copy_141 fu n x3 x4 x5 x_5 m_3)))))
set_option maxHeartbeats 4000000 in
set_option maxRecDepth 100000 in
theorem w_X9_copy_141 {X : TX} {p : Program} {l : Launch} {e : Env} {s : State} {mi : MethodId} {args : Array Value} {below : List Frame} {meth : Method} {c : Code} {Q : State → Prop} {r : Int32} {mE : Mem} (C : Cx X p s mi args c RX9 cX9_copy 7) (hq : RetI X p l e (rmD 2) s mi args below meth c cX9_copy .int Q r mE) {fu : Nat} : ∀ (n : Nat) {x3 : Int32} {x4 : Int32} {x5 : Int32} {x6 : Int32} {m : Mem} {H : Heap} {locs : List Loc} {ls : Array Slot}, f_X9_copy_141 fu n x3 x4 x5 x6 m = some (r, mE) → Wd X s m H locs → lv_has ls 7 [(0, .ref (ad X 20 0)), (3, .int x3), (4, .int x4), (5, .int x5), (6, .int x6)] → W p l e (rmD 2) s mi args below meth c H locs 0 0 Q (F0 mi 141 ls []) := by
  intro n
  induction n with
  | zero =>
    intro x3 x4 x5 x6 m H locs ls h hW hl
    rw [f_X9_copy_141] at h
    cases h
  | succ n ih =>
    intro x3 x4 x5 x6 m H locs ls h hW hl
    rw [f_X9_copy_141] at h
    refine lv_iload C.1 C.2.1 dX9_copy_141 (lv_at hl 4 rfl) ?_
    refine lv_iload C.1 C.2.1 dX9_copy_143 (lv_at hl 3 rfl) ?_
    refine lv_icmp_ge (tgt := 176) C.1 C.2.1 dX9_copy_145 (by decide) (fun hc_7 => ?_) (fun hc_7 => ?_)
    · have h := ite_t hc_7 h
      refine lv_iload C.1 C.2.1 dX9_copy_176 (lv_at hl 3 rfl) ?_
      exact ret_i h hq rfl hW dX9_copy_178
    · have h := ite_f hc_7 h
      refine lv_aload_n C.1 C.2.1 dX9_copy_148 rfl (lv_at hl 0 rfl) ?_
      refine zg_X9_cells C hW id_20 w_1031 dX9_copy_149 ?_
      refine lv_bipush (v := 24) C.1 C.2.1 dX9_copy_152 rfl ?_
      refine lv_iload_n C.1 C.2.1 dX9_copy_154 rfl (lv_at hl 1 rfl) ?_
      refine lv_imul C.1 C.2.1 dX9_copy_155 ?_
      refine lv_iload C.1 C.2.1 dX9_copy_156 (lv_at hl 2 rfl) ?_
      refine lv_iadd C.1 C.2.1 dX9_copy_158 ?_
      refine lv_iload C.1 C.2.1 dX9_copy_159 (lv_at hl 4 rfl) ?_
      refine lv_iadd C.1 C.2.1 dX9_copy_161 ?_
      refine lv_aload_n C.1 C.2.1 dX9_copy_162 rfl (lv_at hl 0 rfl) ?_
      refine zg_X9_moved C hW id_20 w_1036 dX9_copy_163 ?_
      refine lv_iload C.1 C.2.1 dX9_copy_166 (lv_at hl 4 rfl) ?_
      obtain ⟨hb_1, h⟩ := chk_E h
      refine zal_39 C hW id_39 (inb_E hb_1) dX9_copy_168 ?_
      obtain ⟨hb_2, h⟩ := chk_E h
      obtain ⟨m_3, e_4, h⟩ := seqM_E h
      refine zas_34 C hW id_34 (inb_E hb_2) e_4 dX9_copy_169 (fun H locs hW => ?_)
      obtain ⟨x_5, e_6, h⟩ := seqM_E h
      refine lv_iinc (v := x_5) (lv' := [(6, .int x_5), (0, .ref (ad X 20 0)), (3, .int x3), (4, .int x4), (5, .int x5)]) C.1 C.2.1 dX9_copy_170 hl (k := 4) rfl (by rw [e_6]; rfl) (by decide) rfl (fun ls hl => ?_)
      refine lv_goto (tgt := 141) C.1 C.2.1 dX9_copy_173 (by decide) ?_
      exact ih h  hW (lv_sub hl [1, 2, 3, 4, 0] rfl)
def f_X9_copy_104 (fu : Nat)  : Nat → Int32 → Int32 → Int32 → Int32 → Int32 → Int32 → Mem → Option (Int32 × Mem)
  | 0, _, _, _, _, _, _, _ => none
  | n + 1, x1, x2, x3, x4, x5, x6, m => if x5 ≤ x6 then (f_X9_copy_141 fu fu x3 x4 x5 0 m) else (chk (inb (((24 * x1) + x2) + x6) 96) (chk (inb x6 24) (seqM (upd m (3960 + x6.toNatClampNeg) (m (3830 + (((24 * x1) + x2) + x6).toNatClampNeg))) (fun m_3 : Mem => seqM (x6 + 1) (fun x_5 : Int32 => f_X9_copy_104 fu n x1 x2 x3 x4 x5 x_5 m_3)))))
set_option maxHeartbeats 4000000 in
set_option maxRecDepth 100000 in
theorem w_X9_copy_104 {X : TX} {p : Program} {l : Launch} {e : Env} {s : State} {mi : MethodId} {args : Array Value} {below : List Frame} {meth : Method} {c : Code} {Q : State → Prop} {r : Int32} {mE : Mem} (C : Cx X p s mi args c RX9 cX9_copy 7) (hq : RetI X p l e (rmD 2) s mi args below meth c cX9_copy .int Q r mE) {fu : Nat} : ∀ (n : Nat) {x1 : Int32} {x2 : Int32} {x3 : Int32} {x4 : Int32} {x5 : Int32} {x6 : Int32} {m : Mem} {H : Heap} {locs : List Loc} {ls : Array Slot}, f_X9_copy_104 fu n x1 x2 x3 x4 x5 x6 m = some (r, mE) → Wd X s m H locs → lv_has ls 7 [(0, .ref (ad X 20 0)), (1, .int x1), (2, .int x2), (3, .int x3), (4, .int x4), (5, .int x5), (6, .int x6)] → W p l e (rmD 2) s mi args below meth c H locs 0 0 Q (F0 mi 104 ls []) := by
  intro n
  induction n with
  | zero =>
    intro x1 x2 x3 x4 x5 x6 m H locs ls h hW hl
    rw [f_X9_copy_104] at h
    cases h
  | succ n ih =>
    intro x1 x2 x3 x4 x5 x6 m H locs ls h hW hl
    rw [f_X9_copy_104] at h
    refine lv_iload C.1 C.2.1 dX9_copy_104 (lv_at hl 6 rfl) ?_
    refine lv_iload C.1 C.2.1 dX9_copy_106 (lv_at hl 5 rfl) ?_
    refine lv_icmp_ge (tgt := 138) C.1 C.2.1 dX9_copy_108 (by decide) (fun hc_7 => ?_) (fun hc_7 => ?_)
    · have h := ite_t hc_7 h
      refine lv_iconst (v := 0) C.1 C.2.1 dX9_copy_138 rfl ?_
      refine lv_istore (lv' := [(6, .int 0), (0, .ref (ad X 20 0)), (1, .int x1), (2, .int x2), (3, .int x3), (4, .int x4), (5, .int x5)]) C.1 C.2.1 dX9_copy_139 hl (by decide) rfl (fun ls hl => ?_)
      exact w_X9_copy_141 C hq  fu h  hW (lv_sub hl [1, 4, 5, 6, 0] rfl)
    · have h := ite_f hc_7 h
      refine lv_aload_n C.1 C.2.1 dX9_copy_111 rfl (lv_at hl 0 rfl) ?_
      refine zg_X9_moved C hW id_20 w_1036 dX9_copy_112 ?_
      refine lv_iload C.1 C.2.1 dX9_copy_115 (lv_at hl 6 rfl) ?_
      refine lv_aload_n C.1 C.2.1 dX9_copy_117 rfl (lv_at hl 0 rfl) ?_
      refine zg_X9_cells C hW id_20 w_1031 dX9_copy_118 ?_
      refine lv_bipush (v := 24) C.1 C.2.1 dX9_copy_121 rfl ?_
      refine lv_iload_n C.1 C.2.1 dX9_copy_123 rfl (lv_at hl 1 rfl) ?_
      refine lv_imul C.1 C.2.1 dX9_copy_124 ?_
      refine lv_iload_n C.1 C.2.1 dX9_copy_125 rfl (lv_at hl 2 rfl) ?_
      refine lv_iadd C.1 C.2.1 dX9_copy_126 ?_
      refine lv_iload C.1 C.2.1 dX9_copy_127 (lv_at hl 6 rfl) ?_
      refine lv_iadd C.1 C.2.1 dX9_copy_129 ?_
      obtain ⟨hb_1, h⟩ := chk_E h
      refine zal_34 C hW id_34 (inb_E hb_1) dX9_copy_130 ?_
      obtain ⟨hb_2, h⟩ := chk_E h
      obtain ⟨m_3, e_4, h⟩ := seqM_E h
      refine zas_39 C hW id_39 (inb_E hb_2) e_4 dX9_copy_131 (fun H locs hW => ?_)
      obtain ⟨x_5, e_6, h⟩ := seqM_E h
      refine lv_iinc (v := x_5) (lv' := [(6, .int x_5), (0, .ref (ad X 20 0)), (1, .int x1), (2, .int x2), (3, .int x3), (4, .int x4), (5, .int x5)]) C.1 C.2.1 dX9_copy_132 hl (k := 6) rfl (by rw [e_6]; rfl) (by decide) rfl (fun ls hl => ?_)
      refine lv_goto (tgt := 104) C.1 C.2.1 dX9_copy_135 (by decide) ?_
      exact ih h  hW (lv_sub hl [1, 2, 3, 4, 5, 6, 0] rfl)
def f_X9_copy (fu : Nat)  (x1 : Int32) (x2 : Int32) (x3 : Int32) (x4 : Int32) (x5 : Int32) (m : Mem) : Option (Int32 × Mem) := doI (f_X9_isSheet fu x1 m) (fun r_3 m_2 => if r_3 = 0 then (some ((-1000000001), m_2)) else (doI (f_X9_isSheet fu x3 m_2) (fun r_6 m_5 => if r_6 = 0 then (some ((-1000000001), m_5)) else (chk (inb x1 4) (if (m_5 (3810 + x1.toNatClampNeg)) < 0 then (some ((-1000000011), m_5)) else (chk (inb x3 4) (if 0 ≤ (m_5 (3810 + x3.toNatClampNeg)) then (chk (inb x1 4) (chk (inb x3 4) (if (m_5 (3810 + x1.toNatClampNeg)) = (m_5 (3810 + x3.toNatClampNeg)) then (if x2 < 0 then (some ((-1000000013), m_5)) else (if x4 < 0 then (some ((-1000000013), m_5)) else (if x5 < 0 then (some ((-1000000013), m_5)) else (chk (inb x1 4) (if ((m_5 (3820 + x1.toNatClampNeg)) - x5) < x2 then (some ((-1000000013), m_5)) else (chk (inb x3 4) (if x4 ≤ ((m_5 (3820 + x3.toNatClampNeg)) - x5) then (f_X9_copy_104 fu fu x1 x2 x3 x4 x5 0 m_5) else (some ((-1000000013), m_5))))))))) else (some ((-1000000012), m_5))))) else (some ((-1000000011), m_5)))))))))
set_option maxHeartbeats 4000000 in
set_option maxRecDepth 100000 in
theorem w_X9_copy {X : TX} {p : Program} {l : Launch} {e : Env} {s : State} {mi : MethodId} {args : Array Value} {below : List Frame} {meth : Method} {c : Code} {Q : State → Prop} {r : Int32} {mE : Mem} (C : Cx X p s mi args c RX9 cX9_copy 7) (hq : RetI X p l e (rmD 2) s mi args below meth c cX9_copy .int Q r mE) {fu : Nat} {x1 : Int32} {x2 : Int32} {x3 : Int32} {x4 : Int32} {x5 : Int32} {m : Mem} {H : Heap} {locs : List Loc} {ls : Array Slot} (h : f_X9_copy fu x1 x2 x3 x4 x5 m = some (r, mE))  (hW : Wd X s m H locs) (hl : lv_has ls 7 [(0, .ref (ad X 20 0)), (1, .int x1), (2, .int x2), (3, .int x3), (4, .int x4), (5, .int x5)]) : W p l e (rmD 2) s mi args below meth c H locs 0 0 Q (F0 mi 0 ls []) := by
  unfold f_X9_copy at h
  refine lv_iload_n C.1 C.2.1 dX9_copy_0 rfl (lv_at hl 1 rfl) ?_
  obtain ⟨r_3, m_2, hc_1, h⟩ := doI_E h
  refine zr_cSI C hW (c_X9_isSheet (x0 := x1) hc_1 ) k_X9_isSheet w_1320 ⟨Nat.le_of_ble_eq_true rfl, Nat.le_of_ble_eq_true rfl⟩ ⟨Nat.le_refl 0, Nat.le_refl 0⟩ rfl hl.1 rfl (Nat.le_of_ble_eq_true rfl) dX9_copy_1 (fun H locs hW => ?_)
  refine lv_if_eq (tgt := 14) C.1 C.2.1 dX9_copy_4 (by decide) (fun hc_22 => ?_) (fun hc_22 => ?_)
  · have h := ite_t hc_22 h
    refine lv_ldc C.1 C.2.1 C.2.2.2.1 (C.2.2.2.2.1 _ w_1123) dX9_copy_14 ?_
    exact ret_i h hq rfl hW dX9_copy_16
  · have h := ite_f hc_22 h
    refine lv_iload_n C.1 C.2.1 dX9_copy_7 rfl (lv_at hl 3 rfl) ?_
    obtain ⟨r_6, m_5, hc_4, h⟩ := doI_E h
    refine zr_cSI C hW (c_X9_isSheet (x0 := x3) hc_4 ) k_X9_isSheet w_1320 ⟨Nat.le_of_ble_eq_true rfl, Nat.le_of_ble_eq_true rfl⟩ ⟨Nat.le_refl 0, Nat.le_refl 0⟩ rfl hl.1 rfl (Nat.le_of_ble_eq_true rfl) dX9_copy_8 (fun H locs hW => ?_)
    refine lv_if_ne (tgt := 17) C.1 C.2.1 dX9_copy_11 (by decide) (fun hc_21 => ?_) (fun hc_21 => ?_)
    · have h := ite_f hc_21 h
      refine lv_aload_n C.1 C.2.1 dX9_copy_17 rfl (lv_at hl 0 rfl) ?_
      refine zg_X9_sorts C hW id_20 w_1029 dX9_copy_18 ?_
      refine lv_iload_n C.1 C.2.1 dX9_copy_21 rfl (lv_at hl 1 rfl) ?_
      obtain ⟨hb_7, h⟩ := chk_E h
      refine zal_32 C hW id_32 (inb_E hb_7) dX9_copy_22 ?_
      refine lv_if_lt (tgt := 35) C.1 C.2.1 dX9_copy_23 (by decide) (fun hc_20 => ?_) (fun hc_20 => ?_)
      · have h := ite_t hc_20 h
        refine lv_ldc C.1 C.2.1 C.2.2.2.1 (C.2.2.2.2.1 _ w_1323) dX9_copy_35 ?_
        exact ret_i h hq rfl hW dX9_copy_37
      · have h := ite_f hc_20 h
        refine lv_aload_n C.1 C.2.1 dX9_copy_26 rfl (lv_at hl 0 rfl) ?_
        refine zg_X9_sorts C hW id_20 w_1029 dX9_copy_27 ?_
        refine lv_iload_n C.1 C.2.1 dX9_copy_30 rfl (lv_at hl 3 rfl) ?_
        obtain ⟨hb_8, h⟩ := chk_E h
        refine zal_32 C hW id_32 (inb_E hb_8) dX9_copy_31 ?_
        refine lv_if_ge (tgt := 38) C.1 C.2.1 dX9_copy_32 (by decide) (fun hc_19 => ?_) (fun hc_19 => ?_)
        · have h := ite_t hc_19 h
          refine lv_aload_n C.1 C.2.1 dX9_copy_38 rfl (lv_at hl 0 rfl) ?_
          refine zg_X9_sorts C hW id_20 w_1029 dX9_copy_39 ?_
          refine lv_iload_n C.1 C.2.1 dX9_copy_42 rfl (lv_at hl 1 rfl) ?_
          obtain ⟨hb_9, h⟩ := chk_E h
          refine zal_32 C hW id_32 (inb_E hb_9) dX9_copy_43 ?_
          refine lv_aload_n C.1 C.2.1 dX9_copy_44 rfl (lv_at hl 0 rfl) ?_
          refine zg_X9_sorts C hW id_20 w_1029 dX9_copy_45 ?_
          refine lv_iload_n C.1 C.2.1 dX9_copy_48 rfl (lv_at hl 3 rfl) ?_
          obtain ⟨hb_10, h⟩ := chk_E h
          refine zal_32 C hW id_32 (inb_E hb_10) dX9_copy_49 ?_
          refine lv_icmp_eq (tgt := 56) C.1 C.2.1 dX9_copy_50 (by decide) (fun hc_18 => ?_) (fun hc_18 => ?_)
          · have h := ite_t hc_18 h
            refine lv_iload_n C.1 C.2.1 dX9_copy_56 rfl (lv_at hl 2 rfl) ?_
            refine lv_if_lt (tgt := 97) C.1 C.2.1 dX9_copy_57 (by decide) (fun hc_17 => ?_) (fun hc_17 => ?_)
            · have h := ite_t hc_17 h
              refine lv_ldcw C.1 C.2.1 C.2.2.2.1 (C.2.2.2.2.1 _ w_1404) dX9_copy_97 ?_
              exact ret_i h hq rfl hW dX9_copy_100
            · have h := ite_f hc_17 h
              refine lv_iload C.1 C.2.1 dX9_copy_60 (lv_at hl 4 rfl) ?_
              refine lv_if_lt (tgt := 97) C.1 C.2.1 dX9_copy_62 (by decide) (fun hc_16 => ?_) (fun hc_16 => ?_)
              · have h := ite_t hc_16 h
                refine lv_ldcw C.1 C.2.1 C.2.2.2.1 (C.2.2.2.2.1 _ w_1404) dX9_copy_97 ?_
                exact ret_i h hq rfl hW dX9_copy_100
              · have h := ite_f hc_16 h
                refine lv_iload C.1 C.2.1 dX9_copy_65 (lv_at hl 5 rfl) ?_
                refine lv_if_lt (tgt := 97) C.1 C.2.1 dX9_copy_67 (by decide) (fun hc_15 => ?_) (fun hc_15 => ?_)
                · have h := ite_t hc_15 h
                  refine lv_ldcw C.1 C.2.1 C.2.2.2.1 (C.2.2.2.2.1 _ w_1404) dX9_copy_97 ?_
                  exact ret_i h hq rfl hW dX9_copy_100
                · have h := ite_f hc_15 h
                  refine lv_iload_n C.1 C.2.1 dX9_copy_70 rfl (lv_at hl 2 rfl) ?_
                  refine lv_aload_n C.1 C.2.1 dX9_copy_71 rfl (lv_at hl 0 rfl) ?_
                  refine zg_X9_sizes C hW id_20 w_1030 dX9_copy_72 ?_
                  refine lv_iload_n C.1 C.2.1 dX9_copy_75 rfl (lv_at hl 1 rfl) ?_
                  obtain ⟨hb_11, h⟩ := chk_E h
                  refine zal_33 C hW id_33 (inb_E hb_11) dX9_copy_76 ?_
                  refine lv_iload C.1 C.2.1 dX9_copy_77 (lv_at hl 5 rfl) ?_
                  refine lv_isub C.1 C.2.1 dX9_copy_79 ?_
                  refine lv_icmp_gt (tgt := 97) C.1 C.2.1 dX9_copy_80 (by decide) (fun hc_14 => ?_) (fun hc_14 => ?_)
                  · have h := ite_t hc_14 h
                    refine lv_ldcw C.1 C.2.1 C.2.2.2.1 (C.2.2.2.2.1 _ w_1404) dX9_copy_97 ?_
                    exact ret_i h hq rfl hW dX9_copy_100
                  · have h := ite_f hc_14 h
                    refine lv_iload C.1 C.2.1 dX9_copy_83 (lv_at hl 4 rfl) ?_
                    refine lv_aload_n C.1 C.2.1 dX9_copy_85 rfl (lv_at hl 0 rfl) ?_
                    refine zg_X9_sizes C hW id_20 w_1030 dX9_copy_86 ?_
                    refine lv_iload_n C.1 C.2.1 dX9_copy_89 rfl (lv_at hl 3 rfl) ?_
                    obtain ⟨hb_12, h⟩ := chk_E h
                    refine zal_33 C hW id_33 (inb_E hb_12) dX9_copy_90 ?_
                    refine lv_iload C.1 C.2.1 dX9_copy_91 (lv_at hl 5 rfl) ?_
                    refine lv_isub C.1 C.2.1 dX9_copy_93 ?_
                    refine lv_icmp_le (tgt := 101) C.1 C.2.1 dX9_copy_94 (by decide) (fun hc_13 => ?_) (fun hc_13 => ?_)
                    · have h := ite_t hc_13 h
                      refine lv_iconst (v := 0) C.1 C.2.1 dX9_copy_101 rfl ?_
                      refine lv_istore (lv' := [(6, .int 0), (0, .ref (ad X 20 0)), (1, .int x1), (2, .int x2), (3, .int x3), (4, .int x4), (5, .int x5)]) C.1 C.2.1 dX9_copy_102 hl (by decide) rfl (fun ls hl => ?_)
                      exact w_X9_copy_104 C hq  fu h  hW (lv_sub hl [1, 2, 3, 4, 5, 6, 0] rfl)
                    · have h := ite_f hc_13 h
                      refine lv_ldcw C.1 C.2.1 C.2.2.2.1 (C.2.2.2.2.1 _ w_1404) dX9_copy_97 ?_
                      exact ret_i h hq rfl hW dX9_copy_100
          · have h := ite_f hc_18 h
            refine lv_ldc C.1 C.2.1 C.2.2.2.1 (C.2.2.2.2.1 _ w_1168) dX9_copy_53 ?_
            exact ret_i h hq rfl hW dX9_copy_55
        · have h := ite_f hc_19 h
          refine lv_ldc C.1 C.2.1 C.2.2.2.1 (C.2.2.2.2.1 _ w_1323) dX9_copy_35 ?_
          exact ret_i h hq rfl hW dX9_copy_37
    · have h := ite_t hc_21 h
      refine lv_ldc C.1 C.2.1 C.2.2.2.1 (C.2.2.2.2.1 _ w_1123) dX9_copy_14 ?_
      exact ret_i h hq rfl hW dX9_copy_16
theorem c_X9_copy {X : TX} {l : Launch} {fu : Nat} {x1 : Int32} {x2 : Int32} {x3 : Int32} {x4 : Int32} {x5 : Int32} {m mE : Mem} {r : Int32} (h : f_X9_copy fu x1 x2 x3 x4 x5 m = some (r, mE))  : MetI X l yX9_copy cX9_copy 7 .int 2 [.ref (ad X 20 0), .int x1, .int x2, .int x3, .int x4, .int x5] m r mE :=
  met_I (by decide) (Nat.le_of_ble_eq_true rfl) (fun p e s mi args below meth c ls Q C hq hW hl => w_X9_copy C hq h  hW (lv_sub hl [0, 1, 2, 3, 4, 5] rfl))
theorem k_X9_copy : CalV yX9_copy cX9_copy 7 (some .int) RX9 5 := ⟨w_1416, w_1417, w_70, w_1418, by decide +kernel⟩
theorem dX9_lay_0 : decode cX9_lay 0 = .ok (.iload_n 1, 1) := by decide +kernel
theorem dX9_lay_1 : decode cX9_lay 1 = .ok (.invokestatic 263, 3) := by decide +kernel
theorem dX9_lay_4 : decode cX9_lay 4 = .ok (.ifCond .eq 37, 3) := by decide +kernel
theorem dX9_lay_7 : decode cX9_lay 7 = .ok (.iload_n 2, 1) := by decide +kernel
theorem dX9_lay_8 : decode cX9_lay 8 = .ok (.iconst 0, 1) := by decide +kernel
theorem dX9_lay_9 : decode cX9_lay 9 = .ok (.iconst 3, 1) := by decide +kernel
theorem dX9_lay_10 : decode cX9_lay 10 = .ok (.invokestatic 79, 3) := by decide +kernel
theorem dX9_lay_13 : decode cX9_lay 13 = .ok (.ifCond .eq 28, 3) := by decide +kernel
theorem dX9_lay_16 : decode cX9_lay 16 = .ok (.iload_n 2, 1) := by decide +kernel
theorem dX9_lay_17 : decode cX9_lay 17 = .ok (.iconst 1, 1) := by decide +kernel
theorem dX9_lay_18 : decode cX9_lay 18 = .ok (.if_icmp .ne 11, 3) := by decide +kernel
theorem dX9_lay_21 : decode cX9_lay 21 = .ok (.aload_n 0, 1) := by decide +kernel
theorem dX9_lay_22 : decode cX9_lay 22 = .ok (.iload_n 3, 1) := by decide +kernel
theorem dX9_lay_23 : decode cX9_lay 23 = .ok (.invokevirtual 101, 3) := by decide +kernel
theorem dX9_lay_26 : decode cX9_lay 26 = .ok (.ifCond .eq 15, 3) := by decide +kernel
theorem dX9_lay_29 : decode cX9_lay 29 = .ok (.iload_n 2, 1) := by decide +kernel
theorem dX9_lay_30 : decode cX9_lay 30 = .ok (.iconst 2, 1) := by decide +kernel
theorem dX9_lay_31 : decode cX9_lay 31 = .ok (.if_icmp .ne 13, 3) := by decide +kernel
theorem dX9_lay_34 : decode cX9_lay 34 = .ok (.iload_n 3, 1) := by decide +kernel
theorem dX9_lay_35 : decode cX9_lay 35 = .ok (.invokestatic 188, 3) := by decide +kernel
theorem dX9_lay_38 : decode cX9_lay 38 = .ok (.ifCond .ne 6, 3) := by decide +kernel
theorem dX9_lay_41 : decode cX9_lay 41 = .ok (.ldc 91, 2) := by decide +kernel
theorem dX9_lay_43 : decode cX9_lay 43 = .ok (.ireturn, 1) := by decide +kernel
theorem dX9_lay_44 : decode cX9_lay 44 = .ok (.iload_n 2, 1) := by decide +kernel
theorem dX9_lay_45 : decode cX9_lay 45 = .ok (.iconst 2, 1) := by decide +kernel
theorem dX9_lay_46 : decode cX9_lay 46 = .ok (.if_icmp .ne 15, 3) := by decide +kernel
theorem dX9_lay_49 : decode cX9_lay 49 = .ok (.aload_n 0, 1) := by decide +kernel
theorem dX9_lay_50 : decode cX9_lay 50 = .ok (.getfield 52, 3) := by decide +kernel
theorem dX9_lay_53 : decode cX9_lay 53 = .ok (.iload_n 3, 1) := by decide +kernel
theorem dX9_lay_54 : decode cX9_lay 54 = .ok (.iaload, 1) := by decide +kernel
theorem dX9_lay_55 : decode cX9_lay 55 = .ok (.ifCond .ge 6, 3) := by decide +kernel
theorem dX9_lay_58 : decode cX9_lay 58 = .ok (.ldc 191, 2) := by decide +kernel
theorem dX9_lay_60 : decode cX9_lay 60 = .ok (.ireturn, 1) := by decide +kernel
theorem dX9_lay_61 : decode cX9_lay 61 = .ok (.aload_n 0, 1) := by decide +kernel
theorem dX9_lay_62 : decode cX9_lay 62 = .ok (.getfield 61, 3) := by decide +kernel
theorem dX9_lay_65 : decode cX9_lay 65 = .ok (.iload_n 1, 1) := by decide +kernel
theorem dX9_lay_66 : decode cX9_lay 66 = .ok (.iaload, 1) := by decide +kernel
theorem dX9_lay_67 : decode cX9_lay 67 = .ok (.istore 4, 2) := by decide +kernel
theorem dX9_lay_69 : decode cX9_lay 69 = .ok (.aload_n 0, 1) := by decide +kernel
theorem dX9_lay_70 : decode cX9_lay 70 = .ok (.getfield 61, 3) := by decide +kernel
theorem dX9_lay_73 : decode cX9_lay 73 = .ok (.iload_n 1, 1) := by decide +kernel
theorem dX9_lay_74 : decode cX9_lay 74 = .ok (.iload_n 2, 1) := by decide +kernel
theorem dX9_lay_75 : decode cX9_lay 75 = .ok (.iastore, 1) := by decide +kernel
theorem dX9_lay_76 : decode cX9_lay 76 = .ok (.aload_n 0, 1) := by decide +kernel
theorem dX9_lay_77 : decode cX9_lay 77 = .ok (.getfield 64, 3) := by decide +kernel
theorem dX9_lay_80 : decode cX9_lay 80 = .ok (.iload_n 1, 1) := by decide +kernel
theorem dX9_lay_81 : decode cX9_lay 81 = .ok (.iload_n 2, 1) := by decide +kernel
theorem dX9_lay_82 : decode cX9_lay 82 = .ok (.iconst 1, 1) := by decide +kernel
theorem dX9_lay_83 : decode cX9_lay 83 = .ok (.if_icmp .ne 12, 3) := by decide +kernel
theorem dX9_lay_86 : decode cX9_lay 86 = .ok (.aload_n 0, 1) := by decide +kernel
theorem dX9_lay_87 : decode cX9_lay 87 = .ok (.iload_n 3, 1) := by decide +kernel
theorem dX9_lay_88 : decode cX9_lay 88 = .ok (.iconst 0, 1) := by decide +kernel
theorem dX9_lay_89 : decode cX9_lay 89 = .ok (.invokevirtual 97, 3) := by decide +kernel
theorem dX9_lay_92 : decode cX9_lay 92 = .ok (.goto 18, 3) := by decide +kernel
theorem dX9_lay_95 : decode cX9_lay 95 = .ok (.iload_n 2, 1) := by decide +kernel
theorem dX9_lay_96 : decode cX9_lay 96 = .ok (.iconst 2, 1) := by decide +kernel
theorem dX9_lay_97 : decode cX9_lay 97 = .ok (.if_icmp .ne 12, 3) := by decide +kernel
theorem dX9_lay_100 : decode cX9_lay 100 = .ok (.aload_n 0, 1) := by decide +kernel
theorem dX9_lay_101 : decode cX9_lay 101 = .ok (.getfield 55, 3) := by decide +kernel
theorem dX9_lay_104 : decode cX9_lay 104 = .ok (.iload_n 3, 1) := by decide +kernel
theorem dX9_lay_105 : decode cX9_lay 105 = .ok (.iaload, 1) := by decide +kernel
theorem dX9_lay_106 : decode cX9_lay 106 = .ok (.goto 4, 3) := by decide +kernel
theorem dX9_lay_109 : decode cX9_lay 109 = .ok (.iload_n 3, 1) := by decide +kernel
theorem dX9_lay_110 : decode cX9_lay 110 = .ok (.iastore, 1) := by decide +kernel
theorem dX9_lay_111 : decode cX9_lay 111 = .ok (.aload_n 0, 1) := by decide +kernel
theorem dX9_lay_112 : decode cX9_lay 112 = .ok (.getfield 67, 3) := by decide +kernel
theorem dX9_lay_115 : decode cX9_lay 115 = .ok (.iload_n 1, 1) := by decide +kernel
theorem dX9_lay_116 : decode cX9_lay 116 = .ok (.iload_n 2, 1) := by decide +kernel
theorem dX9_lay_117 : decode cX9_lay 117 = .ok (.iconst 1, 1) := by decide +kernel
theorem dX9_lay_118 : decode cX9_lay 118 = .ok (.if_icmp .ne 11, 3) := by decide +kernel
theorem dX9_lay_121 : decode cX9_lay 121 = .ok (.aload_n 0, 1) := by decide +kernel
theorem dX9_lay_122 : decode cX9_lay 122 = .ok (.iload_n 3, 1) := by decide +kernel
theorem dX9_lay_123 : decode cX9_lay 123 = .ok (.invokevirtual 115, 3) := by decide +kernel
theorem dX9_lay_126 : decode cX9_lay 126 = .ok (.goto 4, 3) := by decide +kernel
theorem dX9_lay_129 : decode cX9_lay 129 = .ok (.iconst 0, 1) := by decide +kernel
theorem dX9_lay_130 : decode cX9_lay 130 = .ok (.iastore, 1) := by decide +kernel
theorem dX9_lay_131 : decode cX9_lay 131 = .ok (.iconst 0, 1) := by decide +kernel
theorem dX9_lay_132 : decode cX9_lay 132 = .ok (.istore 5, 2) := by decide +kernel
theorem dX9_lay_134 : decode cX9_lay 134 = .ok (.iload 5, 2) := by decide +kernel
theorem dX9_lay_136 : decode cX9_lay 136 = .ok (.bipush 24, 2) := by decide +kernel
theorem dX9_lay_138 : decode cX9_lay 138 = .ok (.if_icmp .ge 38, 3) := by decide +kernel
theorem dX9_lay_141 : decode cX9_lay 141 = .ok (.iload_n 2, 1) := by decide +kernel
theorem dX9_lay_142 : decode cX9_lay 142 = .ok (.iconst 2, 1) := by decide +kernel
theorem dX9_lay_143 : decode cX9_lay 143 = .ok (.if_icmp .ne 33, 3) := by decide +kernel
theorem dX9_lay_146 : decode cX9_lay 146 = .ok (.aload_n 0, 1) := by decide +kernel
theorem dX9_lay_147 : decode cX9_lay 147 = .ok (.getfield 70, 3) := by decide +kernel
theorem dX9_lay_150 : decode cX9_lay 150 = .ok (.bipush 24, 2) := by decide +kernel
theorem dX9_lay_152 : decode cX9_lay 152 = .ok (.iload_n 1, 1) := by decide +kernel
theorem dX9_lay_153 : decode cX9_lay 153 = .ok (.imul, 1) := by decide +kernel
theorem dX9_lay_154 : decode cX9_lay 154 = .ok (.iload 5, 2) := by decide +kernel
theorem dX9_lay_156 : decode cX9_lay 156 = .ok (.iadd, 1) := by decide +kernel
theorem dX9_lay_157 : decode cX9_lay 157 = .ok (.aload_n 0, 1) := by decide +kernel
theorem dX9_lay_158 : decode cX9_lay 158 = .ok (.getfield 58, 3) := by decide +kernel
theorem dX9_lay_161 : decode cX9_lay 161 = .ok (.bipush 24, 2) := by decide +kernel
theorem dX9_lay_163 : decode cX9_lay 163 = .ok (.iload_n 3, 1) := by decide +kernel
theorem dX9_lay_164 : decode cX9_lay 164 = .ok (.imul, 1) := by decide +kernel
theorem dX9_lay_165 : decode cX9_lay 165 = .ok (.iload 5, 2) := by decide +kernel
theorem dX9_lay_167 : decode cX9_lay 167 = .ok (.iadd, 1) := by decide +kernel
theorem dX9_lay_168 : decode cX9_lay 168 = .ok (.iaload, 1) := by decide +kernel
theorem dX9_lay_169 : decode cX9_lay 169 = .ok (.iastore, 1) := by decide +kernel
theorem dX9_lay_170 : decode cX9_lay 170 = .ok (.iinc 5 1, 3) := by decide +kernel
theorem dX9_lay_173 : decode cX9_lay 173 = .ok (.goto (-39), 3) := by decide +kernel
theorem dX9_lay_176 : decode cX9_lay 176 = .ok (.iload 4, 2) := by decide +kernel
theorem dX9_lay_178 : decode cX9_lay 178 = .ok (.ireturn, 1) := by decide +kernel
def f_X9_lay_134 (fu : Nat)  : Nat → Int32 → Int32 → Int32 → Int32 → Int32 → Mem → Option (Int32 × Mem)
  | 0, _, _, _, _, _, _ => none
  | n + 1, x1, x2, x3, x4, x5, m => if 24 ≤ x5 then (some (x4, m)) else (if x2 = 2 then (chk (inb ((24 * x3) + x5) 96) (chk (inb ((24 * x1) + x5) 120) (seqM (upd m (8500 + ((24 * x1) + x5).toNatClampNeg) (m (3830 + ((24 * x3) + x5).toNatClampNeg))) (fun m_3 : Mem => seqM (x5 + 1) (fun x_5 : Int32 => f_X9_lay_134 fu n x1 x2 x3 x4 x_5 m_3))))) else (some (x4, m)))
set_option maxHeartbeats 4000000 in
set_option maxRecDepth 100000 in
theorem w_X9_lay_134 {X : TX} {p : Program} {l : Launch} {e : Env} {s : State} {mi : MethodId} {args : Array Value} {below : List Frame} {meth : Method} {c : Code} {Q : State → Prop} {r : Int32} {mE : Mem} (C : Cx X p s mi args c RX9 cX9_lay 6) (hq : RetI X p l e (rmD 2) s mi args below meth c cX9_lay .int Q r mE) {fu : Nat} : ∀ (n : Nat) {x1 : Int32} {x2 : Int32} {x3 : Int32} {x4 : Int32} {x5 : Int32} {m : Mem} {H : Heap} {locs : List Loc} {ls : Array Slot}, f_X9_lay_134 fu n x1 x2 x3 x4 x5 m = some (r, mE) → Wd X s m H locs → lv_has ls 6 [(0, .ref (ad X 20 0)), (1, .int x1), (2, .int x2), (3, .int x3), (4, .int x4), (5, .int x5)] → W p l e (rmD 2) s mi args below meth c H locs 0 0 Q (F0 mi 134 ls []) := by
  intro n
  induction n with
  | zero =>
    intro x1 x2 x3 x4 x5 m H locs ls h hW hl
    rw [f_X9_lay_134] at h
    cases h
  | succ n ih =>
    intro x1 x2 x3 x4 x5 m H locs ls h hW hl
    rw [f_X9_lay_134] at h
    refine lv_iload C.1 C.2.1 dX9_lay_134 (lv_at hl 5 rfl) ?_
    refine lv_bipush (v := 24) C.1 C.2.1 dX9_lay_136 rfl ?_
    refine lv_icmp_ge (tgt := 176) C.1 C.2.1 dX9_lay_138 (by decide) (fun hc_8 => ?_) (fun hc_8 => ?_)
    · have h := ite_t hc_8 h
      refine lv_iload C.1 C.2.1 dX9_lay_176 (lv_at hl 4 rfl) ?_
      exact ret_i h hq rfl hW dX9_lay_178
    · have h := ite_f hc_8 h
      refine lv_iload_n C.1 C.2.1 dX9_lay_141 rfl (lv_at hl 2 rfl) ?_
      refine lv_iconst (v := 2) C.1 C.2.1 dX9_lay_142 rfl ?_
      refine lv_icmp_ne (tgt := 176) C.1 C.2.1 dX9_lay_143 (by decide) (fun hc_7 => ?_) (fun hc_7 => ?_)
      · have h := ite_f hc_7 h
        refine lv_iload C.1 C.2.1 dX9_lay_176 (lv_at hl 4 rfl) ?_
        exact ret_i h hq rfl hW dX9_lay_178
      · have h := ite_t hc_7 h
        refine lv_aload_n C.1 C.2.1 dX9_lay_146 rfl (lv_at hl 0 rfl) ?_
        refine zg_X9_heldCells C hW id_20 w_1035 dX9_lay_147 ?_
        refine lv_bipush (v := 24) C.1 C.2.1 dX9_lay_150 rfl ?_
        refine lv_iload_n C.1 C.2.1 dX9_lay_152 rfl (lv_at hl 1 rfl) ?_
        refine lv_imul C.1 C.2.1 dX9_lay_153 ?_
        refine lv_iload C.1 C.2.1 dX9_lay_154 (lv_at hl 5 rfl) ?_
        refine lv_iadd C.1 C.2.1 dX9_lay_156 ?_
        refine lv_aload_n C.1 C.2.1 dX9_lay_157 rfl (lv_at hl 0 rfl) ?_
        refine zg_X9_cells C hW id_20 w_1031 dX9_lay_158 ?_
        refine lv_bipush (v := 24) C.1 C.2.1 dX9_lay_161 rfl ?_
        refine lv_iload_n C.1 C.2.1 dX9_lay_163 rfl (lv_at hl 3 rfl) ?_
        refine lv_imul C.1 C.2.1 dX9_lay_164 ?_
        refine lv_iload C.1 C.2.1 dX9_lay_165 (lv_at hl 5 rfl) ?_
        refine lv_iadd C.1 C.2.1 dX9_lay_167 ?_
        obtain ⟨hb_1, h⟩ := chk_E h
        refine zal_34 C hW id_34 (inb_E hb_1) dX9_lay_168 ?_
        obtain ⟨hb_2, h⟩ := chk_E h
        obtain ⟨m_3, e_4, h⟩ := seqM_E h
        refine zas_38 C hW id_38 (inb_E hb_2) e_4 dX9_lay_169 (fun H locs hW => ?_)
        obtain ⟨x_5, e_6, h⟩ := seqM_E h
        refine lv_iinc (v := x_5) (lv' := [(5, .int x_5), (0, .ref (ad X 20 0)), (1, .int x1), (2, .int x2), (3, .int x3), (4, .int x4)]) C.1 C.2.1 dX9_lay_170 hl (k := 5) rfl (by rw [e_6]; rfl) (by decide) rfl (fun ls hl => ?_)
        refine lv_goto (tgt := 134) C.1 C.2.1 dX9_lay_173 (by decide) ?_
        exact ih h  hW (lv_sub hl [1, 2, 3, 4, 5, 0] rfl)
def f_X9_lay_130 (fu : Nat)  (x1 : Int32) (x2 : Int32) (x3 : Int32) (x4 : Int32) (y1 : Int32) (y2 : Int32) (m : Mem) : Option (Int32 × Mem) := chk (inb y1 5) (seqM (upd m (3950 + y1.toNatClampNeg) y2) (fun m_2 : Mem => f_X9_lay_134 fu fu x1 x2 x3 x4 0 m_2))
set_option maxHeartbeats 4000000 in
set_option maxRecDepth 100000 in
theorem w_X9_lay_130 {X : TX} {p : Program} {l : Launch} {e : Env} {s : State} {mi : MethodId} {args : Array Value} {below : List Frame} {meth : Method} {c : Code} {Q : State → Prop} {r : Int32} {mE : Mem} (C : Cx X p s mi args c RX9 cX9_lay 6) (hq : RetI X p l e (rmD 2) s mi args below meth c cX9_lay .int Q r mE) {fu : Nat} {x1 : Int32} {x2 : Int32} {x3 : Int32} {x4 : Int32} {y1 : Int32} {y2 : Int32} {m : Mem} {H : Heap} {locs : List Loc} {ls : Array Slot} (h : f_X9_lay_130 fu x1 x2 x3 x4 y1 y2 m = some (r, mE))  (hW : Wd X s m H locs) (hl : lv_has ls 6 [(0, .ref (ad X 20 0)), (1, .int x1), (2, .int x2), (3, .int x3), (4, .int x4)]) : W p l e (rmD 2) s mi args below meth c H locs 0 0 Q (F0 mi 130 ls [.int y2, .int y1, .ref (ad X 37 0)]) := by
  unfold f_X9_lay_130 at h
  obtain ⟨hb_1, h⟩ := chk_E h
  obtain ⟨m_2, e_3, h⟩ := seqM_E h
  refine zas_37 C hW id_37 (inb_E hb_1) e_3 dX9_lay_130 (fun H locs hW => ?_)
  refine lv_iconst (v := 0) C.1 C.2.1 dX9_lay_131 rfl ?_
  refine lv_istore (lv' := [(5, .int 0), (0, .ref (ad X 20 0)), (1, .int x1), (2, .int x2), (3, .int x3), (4, .int x4)]) C.1 C.2.1 dX9_lay_132 hl (by decide) rfl (fun ls hl => ?_)
  exact w_X9_lay_134 C hq  fu h  hW (lv_sub hl [1, 2, 3, 4, 5, 0] rfl)
def f_X9_lay_110 (fu : Nat)  (x1 : Int32) (x2 : Int32) (x3 : Int32) (x4 : Int32) (y1 : Int32) (y2 : Int32) (m : Mem) : Option (Int32 × Mem) := chk (inb y1 5) (seqM (upd m (3940 + y1.toNatClampNeg) y2) (fun m_2 : Mem => if x2 = 1 then (doI (f_X9_worthOf fu x3 m_2) (fun r_6 m_5 => f_X9_lay_130 fu x1 x2 x3 x4 x1 r_6 m_5)) else (f_X9_lay_130 fu x1 x2 x3 x4 x1 0 m_2)))
set_option maxHeartbeats 4000000 in
set_option maxRecDepth 100000 in
theorem w_X9_lay_110 {X : TX} {p : Program} {l : Launch} {e : Env} {s : State} {mi : MethodId} {args : Array Value} {below : List Frame} {meth : Method} {c : Code} {Q : State → Prop} {r : Int32} {mE : Mem} (C : Cx X p s mi args c RX9 cX9_lay 6) (hq : RetI X p l e (rmD 2) s mi args below meth c cX9_lay .int Q r mE) {fu : Nat} {x1 : Int32} {x2 : Int32} {x3 : Int32} {x4 : Int32} {y1 : Int32} {y2 : Int32} {m : Mem} {H : Heap} {locs : List Loc} {ls : Array Slot} (h : f_X9_lay_110 fu x1 x2 x3 x4 y1 y2 m = some (r, mE))  (hW : Wd X s m H locs) (hl : lv_has ls 6 [(0, .ref (ad X 20 0)), (1, .int x1), (2, .int x2), (3, .int x3), (4, .int x4)]) : W p l e (rmD 2) s mi args below meth c H locs 0 0 Q (F0 mi 110 ls [.int y2, .int y1, .ref (ad X 36 0)]) := by
  unfold f_X9_lay_110 at h
  obtain ⟨hb_1, h⟩ := chk_E h
  obtain ⟨m_2, e_3, h⟩ := seqM_E h
  refine zas_36 C hW id_36 (inb_E hb_1) e_3 dX9_lay_110 (fun H locs hW => ?_)
  refine lv_aload_n C.1 C.2.1 dX9_lay_111 rfl (lv_at hl 0 rfl) ?_
  refine zg_X9_holdsB C hW id_20 w_1034 dX9_lay_112 ?_
  refine lv_iload_n C.1 C.2.1 dX9_lay_115 rfl (lv_at hl 1 rfl) ?_
  refine lv_iload_n C.1 C.2.1 dX9_lay_116 rfl (lv_at hl 2 rfl) ?_
  refine lv_iconst (v := 1) C.1 C.2.1 dX9_lay_117 rfl ?_
  refine lv_icmp_ne (tgt := 129) C.1 C.2.1 dX9_lay_118 (by decide) (fun hc_7 => ?_) (fun hc_7 => ?_)
  · have h := ite_f hc_7 h
    refine lv_iconst (v := 0) C.1 C.2.1 dX9_lay_129 rfl ?_
    exact w_X9_lay_130 C hq  h  hW (lv_sub hl [0, 1, 2, 3, 4] rfl)
  · have h := ite_t hc_7 h
    refine lv_aload_n C.1 C.2.1 dX9_lay_121 rfl (lv_at hl 0 rfl) ?_
    refine lv_iload_n C.1 C.2.1 dX9_lay_122 rfl (lv_at hl 3 rfl) ?_
    obtain ⟨r_6, m_5, hc_4, h⟩ := doI_E h
    refine zr_cVI C hW (c_X9_worthOf (x1 := x3) hc_4 ) k_X9_worthOf (zr_recv C hW id_20 zco_20 rfl) w_1157 ⟨Nat.le_of_ble_eq_true rfl, Nat.le_of_ble_eq_true rfl⟩ ⟨Nat.le_refl 0, Nat.le_refl 0⟩ rfl hl.1 rfl (Nat.le_of_ble_eq_true rfl) dX9_lay_123 (fun H locs hW => ?_)
    refine lv_goto (tgt := 130) C.1 C.2.1 dX9_lay_126 (by decide) ?_
    exact w_X9_lay_130 C hq  h  hW (lv_sub hl [0, 1, 2, 3, 4] rfl)
def f_X9_lay_61 (fu : Nat)  (x1 : Int32) (x2 : Int32) (x3 : Int32) (m : Mem) : Option (Int32 × Mem) := chk (inb x1 5) (seqM (m (3930 + x1.toNatClampNeg)) (fun x_2 : Int32 => chk (inb x1 5) (seqM (upd m (3930 + x1.toNatClampNeg) x2) (fun m_5 : Mem => if x2 = 1 then (doI (f_X9_of fu x3 0 m_5) (fun r_11 m_10 => f_X9_lay_110 fu x1 x2 x3 x_2 x1 r_11 m_10)) else (if x2 = 2 then (chk (inb x3 4) (f_X9_lay_110 fu x1 x2 x3 x_2 x1 (m_5 (3820 + x3.toNatClampNeg)) m_5)) else (f_X9_lay_110 fu x1 x2 x3 x_2 x1 x3 m_5))))))
set_option maxHeartbeats 4000000 in
set_option maxRecDepth 100000 in
theorem w_X9_lay_61 {X : TX} {p : Program} {l : Launch} {e : Env} {s : State} {mi : MethodId} {args : Array Value} {below : List Frame} {meth : Method} {c : Code} {Q : State → Prop} {r : Int32} {mE : Mem} (C : Cx X p s mi args c RX9 cX9_lay 6) (hq : RetI X p l e (rmD 2) s mi args below meth c cX9_lay .int Q r mE) {fu : Nat} {x1 : Int32} {x2 : Int32} {x3 : Int32} {m : Mem} {H : Heap} {locs : List Loc} {ls : Array Slot} (h : f_X9_lay_61 fu x1 x2 x3 m = some (r, mE))  (hW : Wd X s m H locs) (hl : lv_has ls 6 [(0, .ref (ad X 20 0)), (1, .int x1), (2, .int x2), (3, .int x3)]) : W p l e (rmD 2) s mi args below meth c H locs 0 0 Q (F0 mi 61 ls []) := by
  unfold f_X9_lay_61 at h
  refine lv_aload_n C.1 C.2.1 dX9_lay_61 rfl (lv_at hl 0 rfl) ?_
  refine zg_X9_holds C hW id_20 w_1032 dX9_lay_62 ?_
  refine lv_iload_n C.1 C.2.1 dX9_lay_65 rfl (lv_at hl 1 rfl) ?_
  obtain ⟨hb_1, h⟩ := chk_E h
  refine zal_35 C hW id_35 (inb_E hb_1) dX9_lay_66 ?_
  obtain ⟨x_2, e_3, h⟩ := seqM_E h
  refine lv_name e_3 ?_
  refine lv_istore (lv' := [(4, .int x_2), (0, .ref (ad X 20 0)), (1, .int x1), (2, .int x2), (3, .int x3)]) C.1 C.2.1 dX9_lay_67 hl (by decide) rfl (fun ls hl => ?_)
  refine lv_aload_n C.1 C.2.1 dX9_lay_69 rfl (lv_at hl 1 rfl) ?_
  refine zg_X9_holds C hW id_20 w_1032 dX9_lay_70 ?_
  refine lv_iload_n C.1 C.2.1 dX9_lay_73 rfl (lv_at hl 2 rfl) ?_
  refine lv_iload_n C.1 C.2.1 dX9_lay_74 rfl (lv_at hl 3 rfl) ?_
  obtain ⟨hb_4, h⟩ := chk_E h
  obtain ⟨m_5, e_6, h⟩ := seqM_E h
  refine zas_35 C hW id_35 (inb_E hb_4) e_6 dX9_lay_75 (fun H locs hW => ?_)
  refine lv_aload_n C.1 C.2.1 dX9_lay_76 rfl (lv_at hl 1 rfl) ?_
  refine zg_X9_holdsA C hW id_20 w_1033 dX9_lay_77 ?_
  refine lv_iload_n C.1 C.2.1 dX9_lay_80 rfl (lv_at hl 2 rfl) ?_
  refine lv_iload_n C.1 C.2.1 dX9_lay_81 rfl (lv_at hl 3 rfl) ?_
  refine lv_iconst (v := 1) C.1 C.2.1 dX9_lay_82 rfl ?_
  refine lv_icmp_ne (tgt := 95) C.1 C.2.1 dX9_lay_83 (by decide) (fun hc_12 => ?_) (fun hc_12 => ?_)
  · have h := ite_f hc_12 h
    refine lv_iload_n C.1 C.2.1 dX9_lay_95 rfl (lv_at hl 3 rfl) ?_
    refine lv_iconst (v := 2) C.1 C.2.1 dX9_lay_96 rfl ?_
    refine lv_icmp_ne (tgt := 109) C.1 C.2.1 dX9_lay_97 (by decide) (fun hc_8 => ?_) (fun hc_8 => ?_)
    · have h := ite_f hc_8 h
      refine lv_iload_n C.1 C.2.1 dX9_lay_109 rfl (lv_at hl 4 rfl) ?_
      exact w_X9_lay_110 C hq  h  hW (lv_sub hl [1, 2, 3, 4, 0] rfl)
    · have h := ite_t hc_8 h
      refine lv_aload_n C.1 C.2.1 dX9_lay_100 rfl (lv_at hl 1 rfl) ?_
      refine zg_X9_sizes C hW id_20 w_1030 dX9_lay_101 ?_
      refine lv_iload_n C.1 C.2.1 dX9_lay_104 rfl (lv_at hl 4 rfl) ?_
      obtain ⟨hb_7, h⟩ := chk_E h
      refine zal_33 C hW id_33 (inb_E hb_7) dX9_lay_105 ?_
      refine lv_goto (tgt := 110) C.1 C.2.1 dX9_lay_106 (by decide) ?_
      exact w_X9_lay_110 C hq  h  hW (lv_sub hl [1, 2, 3, 4, 0] rfl)
  · have h := ite_t hc_12 h
    refine lv_aload_n C.1 C.2.1 dX9_lay_86 rfl (lv_at hl 1 rfl) ?_
    refine lv_iload_n C.1 C.2.1 dX9_lay_87 rfl (lv_at hl 4 rfl) ?_
    refine lv_iconst (v := 0) C.1 C.2.1 dX9_lay_88 rfl ?_
    obtain ⟨r_11, m_10, hc_9, h⟩ := doI_E h
    refine zr_cVI C hW (c_X9_of (x1 := x3) (x2 := 0) hc_9 ) k_X9_of (zr_recv C hW id_20 zco_20 rfl) w_1141 ⟨Nat.le_of_ble_eq_true rfl, Nat.le_of_ble_eq_true rfl⟩ ⟨Nat.le_refl 0, Nat.le_refl 0⟩ rfl hl.1 rfl (Nat.le_of_ble_eq_true rfl) dX9_lay_89 (fun H locs hW => ?_)
    refine lv_goto (tgt := 110) C.1 C.2.1 dX9_lay_92 (by decide) ?_
    exact w_X9_lay_110 C hq  h  hW (lv_sub hl [1, 2, 3, 4, 0] rfl)
def f_X9_lay_44 (fu : Nat)  (x1 : Int32) (x2 : Int32) (x3 : Int32) (m : Mem) : Option (Int32 × Mem) := if x2 = 2 then (chk (inb x3 4) (if 0 ≤ (m (3810 + x3.toNatClampNeg)) then (f_X9_lay_61 fu x1 x2 x3 m) else (some ((-1000000011), m)))) else (f_X9_lay_61 fu x1 x2 x3 m)
set_option maxHeartbeats 4000000 in
set_option maxRecDepth 100000 in
theorem w_X9_lay_44 {X : TX} {p : Program} {l : Launch} {e : Env} {s : State} {mi : MethodId} {args : Array Value} {below : List Frame} {meth : Method} {c : Code} {Q : State → Prop} {r : Int32} {mE : Mem} (C : Cx X p s mi args c RX9 cX9_lay 6) (hq : RetI X p l e (rmD 2) s mi args below meth c cX9_lay .int Q r mE) {fu : Nat} {x1 : Int32} {x2 : Int32} {x3 : Int32} {m : Mem} {H : Heap} {locs : List Loc} {ls : Array Slot} (h : f_X9_lay_44 fu x1 x2 x3 m = some (r, mE))  (hW : Wd X s m H locs) (hl : lv_has ls 6 [(0, .ref (ad X 20 0)), (1, .int x1), (2, .int x2), (3, .int x3)]) : W p l e (rmD 2) s mi args below meth c H locs 0 0 Q (F0 mi 44 ls []) := by
  unfold f_X9_lay_44 at h
  refine lv_iload_n C.1 C.2.1 dX9_lay_44 rfl (lv_at hl 2 rfl) ?_
  refine lv_iconst (v := 2) C.1 C.2.1 dX9_lay_45 rfl ?_
  refine lv_icmp_ne (tgt := 61) C.1 C.2.1 dX9_lay_46 (by decide) (fun hc_3 => ?_) (fun hc_3 => ?_)
  · have h := ite_f hc_3 h
    exact w_X9_lay_61 C hq  h  hW (lv_sub hl [0, 1, 2, 3] rfl)
  · have h := ite_t hc_3 h
    refine lv_aload_n C.1 C.2.1 dX9_lay_49 rfl (lv_at hl 0 rfl) ?_
    refine zg_X9_sorts C hW id_20 w_1029 dX9_lay_50 ?_
    refine lv_iload_n C.1 C.2.1 dX9_lay_53 rfl (lv_at hl 3 rfl) ?_
    obtain ⟨hb_1, h⟩ := chk_E h
    refine zal_32 C hW id_32 (inb_E hb_1) dX9_lay_54 ?_
    refine lv_if_ge (tgt := 61) C.1 C.2.1 dX9_lay_55 (by decide) (fun hc_2 => ?_) (fun hc_2 => ?_)
    · have h := ite_t hc_2 h
      exact w_X9_lay_61 C hq  h  hW (lv_sub hl [0, 1, 2, 3] rfl)
    · have h := ite_f hc_2 h
      refine lv_ldc C.1 C.2.1 C.2.2.2.1 (C.2.2.2.2.1 _ w_1323) dX9_lay_58 ?_
      exact ret_i h hq rfl hW dX9_lay_60
def f_X9_lay_29 (fu : Nat)  (x1 : Int32) (x2 : Int32) (x3 : Int32) (m : Mem) : Option (Int32 × Mem) := if x2 = 2 then (doI (f_X9_isSheet fu x3 m) (fun r_3 m_2 => if r_3 = 0 then (some ((-1000000001), m_2)) else (f_X9_lay_44 fu x1 x2 x3 m_2))) else (f_X9_lay_44 fu x1 x2 x3 m)
set_option maxHeartbeats 4000000 in
set_option maxRecDepth 100000 in
theorem w_X9_lay_29 {X : TX} {p : Program} {l : Launch} {e : Env} {s : State} {mi : MethodId} {args : Array Value} {below : List Frame} {meth : Method} {c : Code} {Q : State → Prop} {r : Int32} {mE : Mem} (C : Cx X p s mi args c RX9 cX9_lay 6) (hq : RetI X p l e (rmD 2) s mi args below meth c cX9_lay .int Q r mE) {fu : Nat} {x1 : Int32} {x2 : Int32} {x3 : Int32} {m : Mem} {H : Heap} {locs : List Loc} {ls : Array Slot} (h : f_X9_lay_29 fu x1 x2 x3 m = some (r, mE))  (hW : Wd X s m H locs) (hl : lv_has ls 6 [(0, .ref (ad X 20 0)), (1, .int x1), (2, .int x2), (3, .int x3)]) : W p l e (rmD 2) s mi args below meth c H locs 0 0 Q (F0 mi 29 ls []) := by
  unfold f_X9_lay_29 at h
  refine lv_iload_n C.1 C.2.1 dX9_lay_29 rfl (lv_at hl 2 rfl) ?_
  refine lv_iconst (v := 2) C.1 C.2.1 dX9_lay_30 rfl ?_
  refine lv_icmp_ne (tgt := 44) C.1 C.2.1 dX9_lay_31 (by decide) (fun hc_5 => ?_) (fun hc_5 => ?_)
  · have h := ite_f hc_5 h
    exact w_X9_lay_44 C hq  h  hW (lv_sub hl [0, 1, 2, 3] rfl)
  · have h := ite_t hc_5 h
    refine lv_iload_n C.1 C.2.1 dX9_lay_34 rfl (lv_at hl 3 rfl) ?_
    obtain ⟨r_3, m_2, hc_1, h⟩ := doI_E h
    refine zr_cSI C hW (c_X9_isSheet (x0 := x3) hc_1 ) k_X9_isSheet w_1320 ⟨Nat.le_of_ble_eq_true rfl, Nat.le_of_ble_eq_true rfl⟩ ⟨Nat.le_refl 0, Nat.le_refl 0⟩ rfl hl.1 rfl (Nat.le_of_ble_eq_true rfl) dX9_lay_35 (fun H locs hW => ?_)
    refine lv_if_ne (tgt := 44) C.1 C.2.1 dX9_lay_38 (by decide) (fun hc_4 => ?_) (fun hc_4 => ?_)
    · have h := ite_f hc_4 h
      exact w_X9_lay_44 C hq  h  hW (lv_sub hl [0, 1, 2, 3] rfl)
    · have h := ite_t hc_4 h
      refine lv_ldc C.1 C.2.1 C.2.2.2.1 (C.2.2.2.2.1 _ w_1123) dX9_lay_41 ?_
      exact ret_i h hq rfl hW dX9_lay_43
def f_X9_lay (fu : Nat)  (x1 : Int32) (x2 : Int32) (x3 : Int32) (m : Mem) : Option (Int32 × Mem) := doI (f_X9_isSlot fu x1 m) (fun r_3 m_2 => if r_3 = 0 then (some ((-1000000001), m_2)) else (doI (f_X9_in fu x2 0 3 m_2) (fun r_6 m_5 => if r_6 = 0 then (some ((-1000000001), m_5)) else (if x2 = 1 then (doI (f_X9_isVoice fu x3 m_5) (fun r_9 m_8 => if r_9 = 0 then (some ((-1000000001), m_8)) else (f_X9_lay_29 fu x1 x2 x3 m_8))) else (f_X9_lay_29 fu x1 x2 x3 m_5)))))
set_option maxHeartbeats 4000000 in
set_option maxRecDepth 100000 in
theorem w_X9_lay {X : TX} {p : Program} {l : Launch} {e : Env} {s : State} {mi : MethodId} {args : Array Value} {below : List Frame} {meth : Method} {c : Code} {Q : State → Prop} {r : Int32} {mE : Mem} (C : Cx X p s mi args c RX9 cX9_lay 6) (hq : RetI X p l e (rmD 2) s mi args below meth c cX9_lay .int Q r mE) {fu : Nat} {x1 : Int32} {x2 : Int32} {x3 : Int32} {m : Mem} {H : Heap} {locs : List Loc} {ls : Array Slot} (h : f_X9_lay fu x1 x2 x3 m = some (r, mE))  (hW : Wd X s m H locs) (hl : lv_has ls 6 [(0, .ref (ad X 20 0)), (1, .int x1), (2, .int x2), (3, .int x3)]) : W p l e (rmD 2) s mi args below meth c H locs 0 0 Q (F0 mi 0 ls []) := by
  unfold f_X9_lay at h
  refine lv_iload_n C.1 C.2.1 dX9_lay_0 rfl (lv_at hl 1 rfl) ?_
  obtain ⟨r_3, m_2, hc_1, h⟩ := doI_E h
  refine zr_cSI C hW (c_X9_isSlot (x0 := x1) hc_1 ) k_X9_isSlot w_1423 ⟨Nat.le_of_ble_eq_true rfl, Nat.le_of_ble_eq_true rfl⟩ ⟨Nat.le_refl 0, Nat.le_refl 0⟩ rfl hl.1 rfl (Nat.le_of_ble_eq_true rfl) dX9_lay_1 (fun H locs hW => ?_)
  refine lv_if_eq (tgt := 41) C.1 C.2.1 dX9_lay_4 (by decide) (fun hc_13 => ?_) (fun hc_13 => ?_)
  · have h := ite_t hc_13 h
    refine lv_ldc C.1 C.2.1 C.2.2.2.1 (C.2.2.2.2.1 _ w_1123) dX9_lay_41 ?_
    exact ret_i h hq rfl hW dX9_lay_43
  · have h := ite_f hc_13 h
    refine lv_iload_n C.1 C.2.1 dX9_lay_7 rfl (lv_at hl 2 rfl) ?_
    refine lv_iconst (v := 0) C.1 C.2.1 dX9_lay_8 rfl ?_
    refine lv_iconst (v := 3) C.1 C.2.1 dX9_lay_9 rfl ?_
    obtain ⟨r_6, m_5, hc_4, h⟩ := doI_E h
    refine zr_cSI C hW (c_X9_in (x0 := x2) (x1 := 0) (x2 := 3) hc_4 ) k_X9_in w_1117 ⟨Nat.le_of_ble_eq_true rfl, Nat.le_of_ble_eq_true rfl⟩ ⟨Nat.le_refl 0, Nat.le_refl 0⟩ rfl hl.1 rfl (Nat.le_of_ble_eq_true rfl) dX9_lay_10 (fun H locs hW => ?_)
    refine lv_if_eq (tgt := 41) C.1 C.2.1 dX9_lay_13 (by decide) (fun hc_12 => ?_) (fun hc_12 => ?_)
    · have h := ite_t hc_12 h
      refine lv_ldc C.1 C.2.1 C.2.2.2.1 (C.2.2.2.2.1 _ w_1123) dX9_lay_41 ?_
      exact ret_i h hq rfl hW dX9_lay_43
    · have h := ite_f hc_12 h
      refine lv_iload_n C.1 C.2.1 dX9_lay_16 rfl (lv_at hl 2 rfl) ?_
      refine lv_iconst (v := 1) C.1 C.2.1 dX9_lay_17 rfl ?_
      refine lv_icmp_ne (tgt := 29) C.1 C.2.1 dX9_lay_18 (by decide) (fun hc_11 => ?_) (fun hc_11 => ?_)
      · have h := ite_f hc_11 h
        exact w_X9_lay_29 C hq  h  hW (lv_sub hl [0, 1, 2, 3] rfl)
      · have h := ite_t hc_11 h
        refine lv_aload_n C.1 C.2.1 dX9_lay_21 rfl (lv_at hl 0 rfl) ?_
        refine lv_iload_n C.1 C.2.1 dX9_lay_22 rfl (lv_at hl 3 rfl) ?_
        obtain ⟨r_9, m_8, hc_7, h⟩ := doI_E h
        refine zr_cVI C hW (c_X9_isVoice (x1 := x3) hc_7 ) k_X9_isVoice (zr_recv C hW id_20 zco_20 rfl) w_1137 ⟨Nat.le_of_ble_eq_true rfl, Nat.le_of_ble_eq_true rfl⟩ ⟨Nat.le_refl 0, Nat.le_refl 0⟩ rfl hl.1 rfl (Nat.le_of_ble_eq_true rfl) dX9_lay_23 (fun H locs hW => ?_)
        refine lv_if_eq (tgt := 41) C.1 C.2.1 dX9_lay_26 (by decide) (fun hc_10 => ?_) (fun hc_10 => ?_)
        · have h := ite_t hc_10 h
          refine lv_ldc C.1 C.2.1 C.2.2.2.1 (C.2.2.2.2.1 _ w_1123) dX9_lay_41 ?_
          exact ret_i h hq rfl hW dX9_lay_43
        · have h := ite_f hc_10 h
          exact w_X9_lay_29 C hq  h  hW (lv_sub hl [0, 1, 2, 3] rfl)
theorem c_X9_lay {X : TX} {l : Launch} {fu : Nat} {x1 : Int32} {x2 : Int32} {x3 : Int32} {m mE : Mem} {r : Int32} (h : f_X9_lay fu x1 x2 x3 m = some (r, mE))  : MetI X l yX9_lay cX9_lay 6 .int 2 [.ref (ad X 20 0), .int x1, .int x2, .int x3] m r mE :=
  met_I (by decide) (Nat.le_of_ble_eq_true rfl) (fun p e s mi args below meth c ls Q C hq hW hl => w_X9_lay C hq h  hW (lv_sub hl [0, 1, 2, 3] rfl))
theorem k_X9_lay : CalV yX9_lay cX9_lay 6 (some .int) RX9 3 := ⟨w_1420, w_1421, w_70, w_1422, by decide +kernel⟩
theorem dX9_ask_0 : decode cX9_ask 0 = .ok (.iload_n 1, 1) := by decide +kernel
theorem dX9_ask_1 : decode cX9_ask 1 = .ok (.invokestatic 263, 3) := by decide +kernel
theorem dX9_ask_4 : decode cX9_ask 4 = .ok (.ifCond .eq 12, 3) := by decide +kernel
theorem dX9_ask_7 : decode cX9_ask 7 = .ok (.iload_n 2, 1) := by decide +kernel
theorem dX9_ask_8 : decode cX9_ask 8 = .ok (.iconst 0, 1) := by decide +kernel
theorem dX9_ask_9 : decode cX9_ask 9 = .ok (.iconst 5, 1) := by decide +kernel
theorem dX9_ask_10 : decode cX9_ask 10 = .ok (.invokestatic 79, 3) := by decide +kernel
theorem dX9_ask_13 : decode cX9_ask 13 = .ok (.ifCond .ne 6, 3) := by decide +kernel
theorem dX9_ask_16 : decode cX9_ask 16 = .ok (.ldc 91, 2) := by decide +kernel
theorem dX9_ask_18 : decode cX9_ask 18 = .ok (.ireturn, 1) := by decide +kernel
theorem dX9_ask_19 : decode cX9_ask 19 = .ok (.aload_n 0, 1) := by decide +kernel
theorem dX9_ask_20 : decode cX9_ask 20 = .ok (.getfield 61, 3) := by decide +kernel
theorem dX9_ask_23 : decode cX9_ask 23 = .ok (.iload_n 1, 1) := by decide +kernel
theorem dX9_ask_24 : decode cX9_ask 24 = .ok (.iaload, 1) := by decide +kernel
theorem dX9_ask_25 : decode cX9_ask 25 = .ok (.ifCond .ne 6, 3) := by decide +kernel
theorem dX9_ask_28 : decode cX9_ask 28 = .ok (.ldc 191, 2) := by decide +kernel
theorem dX9_ask_30 : decode cX9_ask 30 = .ok (.ireturn, 1) := by decide +kernel
theorem dX9_ask_31 : decode cX9_ask 31 = .ok (.aload_n 0, 1) := by decide +kernel
theorem dX9_ask_32 : decode cX9_ask 32 = .ok (.getfield 61, 3) := by decide +kernel
theorem dX9_ask_35 : decode cX9_ask 35 = .ok (.iload_n 1, 1) := by decide +kernel
theorem dX9_ask_36 : decode cX9_ask 36 = .ok (.iaload, 1) := by decide +kernel
theorem dX9_ask_37 : decode cX9_ask 37 = .ok (.iconst 1, 1) := by decide +kernel
theorem dX9_ask_38 : decode cX9_ask 38 = .ok (.if_icmp .ne 25, 3) := by decide +kernel
theorem dX9_ask_41 : decode cX9_ask 41 = .ok (.aload_n 0, 1) := by decide +kernel
theorem dX9_ask_42 : decode cX9_ask 42 = .ok (.getfield 64, 3) := by decide +kernel
theorem dX9_ask_45 : decode cX9_ask 45 = .ok (.iload_n 1, 1) := by decide +kernel
theorem dX9_ask_46 : decode cX9_ask 46 = .ok (.iaload, 1) := by decide +kernel
theorem dX9_ask_47 : decode cX9_ask 47 = .ok (.iload_n 2, 1) := by decide +kernel
theorem dX9_ask_48 : decode cX9_ask 48 = .ok (.invokestatic 118, 3) := by decide +kernel
theorem dX9_ask_51 : decode cX9_ask 51 = .ok (.ifCond .eq 12, 3) := by decide +kernel
theorem dX9_ask_54 : decode cX9_ask 54 = .ok (.aload_n 0, 1) := by decide +kernel
theorem dX9_ask_55 : decode cX9_ask 55 = .ok (.getfield 67, 3) := by decide +kernel
theorem dX9_ask_58 : decode cX9_ask 58 = .ok (.iload_n 1, 1) := by decide +kernel
theorem dX9_ask_59 : decode cX9_ask 59 = .ok (.iaload, 1) := by decide +kernel
theorem dX9_ask_60 : decode cX9_ask 60 = .ok (.goto 5, 3) := by decide +kernel
theorem dX9_ask_63 : decode cX9_ask 63 = .ok (.ldc 121, 2) := by decide +kernel
theorem dX9_ask_65 : decode cX9_ask 65 = .ok (.ireturn, 1) := by decide +kernel
def f_X9_ask (fu : Nat)  (x1 : Int32) (x2 : Int32) (m : Mem) : Option (Int32 × Mem) := doI (f_X9_isSlot fu x1 m) (fun r_3 m_2 => if r_3 = 0 then (some ((-1000000001), m_2)) else (doI (f_X9_in fu x2 0 5 m_2) (fun r_6 m_5 => if r_6 = 0 then (some ((-1000000001), m_5)) else (chk (inb x1 5) (if (m_5 (3930 + x1.toNatClampNeg)) = 0 then (some ((-1000000011), m_5)) else (chk (inb x1 5) (if (m_5 (3930 + x1.toNatClampNeg)) = 1 then (chk (inb x1 5) (doI (f_X9_isUnder fu (m_5 (3940 + x1.toNatClampNeg)) x2 m_5) (fun r_12 m_11 => if r_12 = 0 then (some ((-1000000012), m_11)) else (chk (inb x1 5) (some ((m_11 (3950 + x1.toNatClampNeg)), m_11)))))) else (some ((-1000000012), m_5)))))))))
set_option maxHeartbeats 4000000 in
set_option maxRecDepth 100000 in
theorem w_X9_ask {X : TX} {p : Program} {l : Launch} {e : Env} {s : State} {mi : MethodId} {args : Array Value} {below : List Frame} {meth : Method} {c : Code} {Q : State → Prop} {r : Int32} {mE : Mem} (C : Cx X p s mi args c RX9 cX9_ask 3) (hq : RetI X p l e (rmD 2) s mi args below meth c cX9_ask .int Q r mE) {fu : Nat} {x1 : Int32} {x2 : Int32} {m : Mem} {H : Heap} {locs : List Loc} {ls : Array Slot} (h : f_X9_ask fu x1 x2 m = some (r, mE))  (hW : Wd X s m H locs) (hl : lv_has ls 3 [(0, .ref (ad X 20 0)), (1, .int x1), (2, .int x2)]) : W p l e (rmD 2) s mi args below meth c H locs 0 0 Q (F0 mi 0 ls []) := by
  unfold f_X9_ask at h
  refine lv_iload_n C.1 C.2.1 dX9_ask_0 rfl (lv_at hl 1 rfl) ?_
  obtain ⟨r_3, m_2, hc_1, h⟩ := doI_E h
  refine zr_cSI C hW (c_X9_isSlot (x0 := x1) hc_1 ) k_X9_isSlot w_1423 ⟨Nat.le_of_ble_eq_true rfl, Nat.le_of_ble_eq_true rfl⟩ ⟨Nat.le_refl 0, Nat.le_refl 0⟩ rfl hl.1 rfl (Nat.le_of_ble_eq_true rfl) dX9_ask_1 (fun H locs hW => ?_)
  refine lv_if_eq (tgt := 16) C.1 C.2.1 dX9_ask_4 (by decide) (fun hc_18 => ?_) (fun hc_18 => ?_)
  · have h := ite_t hc_18 h
    refine lv_ldc C.1 C.2.1 C.2.2.2.1 (C.2.2.2.2.1 _ w_1123) dX9_ask_16 ?_
    exact ret_i h hq rfl hW dX9_ask_18
  · have h := ite_f hc_18 h
    refine lv_iload_n C.1 C.2.1 dX9_ask_7 rfl (lv_at hl 2 rfl) ?_
    refine lv_iconst (v := 0) C.1 C.2.1 dX9_ask_8 rfl ?_
    refine lv_iconst (v := 5) C.1 C.2.1 dX9_ask_9 rfl ?_
    obtain ⟨r_6, m_5, hc_4, h⟩ := doI_E h
    refine zr_cSI C hW (c_X9_in (x0 := x2) (x1 := 0) (x2 := 5) hc_4 ) k_X9_in w_1117 ⟨Nat.le_of_ble_eq_true rfl, Nat.le_of_ble_eq_true rfl⟩ ⟨Nat.le_refl 0, Nat.le_refl 0⟩ rfl hl.1 rfl (Nat.le_of_ble_eq_true rfl) dX9_ask_10 (fun H locs hW => ?_)
    refine lv_if_ne (tgt := 19) C.1 C.2.1 dX9_ask_13 (by decide) (fun hc_17 => ?_) (fun hc_17 => ?_)
    · have h := ite_f hc_17 h
      refine lv_aload_n C.1 C.2.1 dX9_ask_19 rfl (lv_at hl 0 rfl) ?_
      refine zg_X9_holds C hW id_20 w_1032 dX9_ask_20 ?_
      refine lv_iload_n C.1 C.2.1 dX9_ask_23 rfl (lv_at hl 1 rfl) ?_
      obtain ⟨hb_7, h⟩ := chk_E h
      refine zal_35 C hW id_35 (inb_E hb_7) dX9_ask_24 ?_
      refine lv_if_ne (tgt := 31) C.1 C.2.1 dX9_ask_25 (by decide) (fun hc_16 => ?_) (fun hc_16 => ?_)
      · have h := ite_f hc_16 h
        refine lv_aload_n C.1 C.2.1 dX9_ask_31 rfl (lv_at hl 0 rfl) ?_
        refine zg_X9_holds C hW id_20 w_1032 dX9_ask_32 ?_
        refine lv_iload_n C.1 C.2.1 dX9_ask_35 rfl (lv_at hl 1 rfl) ?_
        obtain ⟨hb_8, h⟩ := chk_E h
        refine zal_35 C hW id_35 (inb_E hb_8) dX9_ask_36 ?_
        refine lv_iconst (v := 1) C.1 C.2.1 dX9_ask_37 rfl ?_
        refine lv_icmp_ne (tgt := 63) C.1 C.2.1 dX9_ask_38 (by decide) (fun hc_15 => ?_) (fun hc_15 => ?_)
        · have h := ite_f hc_15 h
          refine lv_ldc C.1 C.2.1 C.2.2.2.1 (C.2.2.2.2.1 _ w_1168) dX9_ask_63 ?_
          exact ret_i h hq rfl hW dX9_ask_65
        · have h := ite_t hc_15 h
          refine lv_aload_n C.1 C.2.1 dX9_ask_41 rfl (lv_at hl 0 rfl) ?_
          refine zg_X9_holdsA C hW id_20 w_1033 dX9_ask_42 ?_
          refine lv_iload_n C.1 C.2.1 dX9_ask_45 rfl (lv_at hl 1 rfl) ?_
          obtain ⟨hb_9, h⟩ := chk_E h
          refine zal_36 C hW id_36 (inb_E hb_9) dX9_ask_46 ?_
          refine lv_iload_n C.1 C.2.1 dX9_ask_47 rfl (lv_at hl 2 rfl) ?_
          obtain ⟨r_12, m_11, hc_10, h⟩ := doI_E h
          refine zr_cSI C hW (c_X9_isUnder (x0 := (m_5 (3940 + x1.toNatClampNeg))) (x1 := x2) hc_10 ) k_X9_isUnder w_1165 ⟨Nat.le_of_ble_eq_true rfl, Nat.le_of_ble_eq_true rfl⟩ ⟨Nat.le_refl 0, Nat.le_refl 0⟩ rfl hl.1 rfl (Nat.le_of_ble_eq_true rfl) dX9_ask_48 (fun H locs hW => ?_)
          refine lv_if_eq (tgt := 63) C.1 C.2.1 dX9_ask_51 (by decide) (fun hc_14 => ?_) (fun hc_14 => ?_)
          · have h := ite_t hc_14 h
            refine lv_ldc C.1 C.2.1 C.2.2.2.1 (C.2.2.2.2.1 _ w_1168) dX9_ask_63 ?_
            exact ret_i h hq rfl hW dX9_ask_65
          · have h := ite_f hc_14 h
            refine lv_aload_n C.1 C.2.1 dX9_ask_54 rfl (lv_at hl 0 rfl) ?_
            refine zg_X9_holdsB C hW id_20 w_1034 dX9_ask_55 ?_
            refine lv_iload_n C.1 C.2.1 dX9_ask_58 rfl (lv_at hl 1 rfl) ?_
            obtain ⟨hb_13, h⟩ := chk_E h
            refine zal_37 C hW id_37 (inb_E hb_13) dX9_ask_59 ?_
            refine lv_goto (tgt := 65) C.1 C.2.1 dX9_ask_60 (by decide) ?_
            exact ret_i h hq rfl hW dX9_ask_65
      · have h := ite_t hc_16 h
        refine lv_ldc C.1 C.2.1 C.2.2.2.1 (C.2.2.2.2.1 _ w_1323) dX9_ask_28 ?_
        exact ret_i h hq rfl hW dX9_ask_30
    · have h := ite_t hc_17 h
      refine lv_ldc C.1 C.2.1 C.2.2.2.1 (C.2.2.2.2.1 _ w_1123) dX9_ask_16 ?_
      exact ret_i h hq rfl hW dX9_ask_18
theorem c_X9_ask {X : TX} {l : Launch} {fu : Nat} {x1 : Int32} {x2 : Int32} {m mE : Mem} {r : Int32} (h : f_X9_ask fu x1 x2 m = some (r, mE))  : MetI X l yX9_ask cX9_ask 3 .int 2 [.ref (ad X 20 0), .int x1, .int x2] m r mE :=
  met_I (by decide) (Nat.le_of_ble_eq_true rfl) (fun p e s mi args below meth c ls Q C hq hW hl => w_X9_ask C hq h  hW (lv_sub hl [0, 1, 2] rfl))
theorem k_X9_ask : CalV yX9_ask cX9_ask 3 (some .int) RX9 2 := ⟨w_1427, w_1428, w_70, w_1429, by decide +kernel⟩
theorem dX9_item_0 : decode cX9_item 0 = .ok (.iload_n 1, 1) := by decide +kernel
theorem dX9_item_1 : decode cX9_item 1 = .ok (.invokestatic 263, 3) := by decide +kernel
theorem dX9_item_4 : decode cX9_item 4 = .ok (.ifCond .ne 6, 3) := by decide +kernel
theorem dX9_item_7 : decode cX9_item 7 = .ok (.ldc 91, 2) := by decide +kernel
theorem dX9_item_9 : decode cX9_item 9 = .ok (.ireturn, 1) := by decide +kernel
theorem dX9_item_10 : decode cX9_item 10 = .ok (.aload_n 0, 1) := by decide +kernel
theorem dX9_item_11 : decode cX9_item 11 = .ok (.getfield 61, 3) := by decide +kernel
theorem dX9_item_14 : decode cX9_item 14 = .ok (.iload_n 1, 1) := by decide +kernel
theorem dX9_item_15 : decode cX9_item 15 = .ok (.iaload, 1) := by decide +kernel
theorem dX9_item_16 : decode cX9_item 16 = .ok (.ifCond .ne 6, 3) := by decide +kernel
theorem dX9_item_19 : decode cX9_item 19 = .ok (.ldc 191, 2) := by decide +kernel
theorem dX9_item_21 : decode cX9_item 21 = .ok (.ireturn, 1) := by decide +kernel
theorem dX9_item_22 : decode cX9_item 22 = .ok (.aload_n 0, 1) := by decide +kernel
theorem dX9_item_23 : decode cX9_item 23 = .ok (.getfield 61, 3) := by decide +kernel
theorem dX9_item_26 : decode cX9_item 26 = .ok (.iload_n 1, 1) := by decide +kernel
theorem dX9_item_27 : decode cX9_item 27 = .ok (.iaload, 1) := by decide +kernel
theorem dX9_item_28 : decode cX9_item 28 = .ok (.iconst 2, 1) := by decide +kernel
theorem dX9_item_29 : decode cX9_item 29 = .ok (.if_icmp .eq 6, 3) := by decide +kernel
theorem dX9_item_32 : decode cX9_item 32 = .ok (.ldc 121, 2) := by decide +kernel
theorem dX9_item_34 : decode cX9_item 34 = .ok (.ireturn, 1) := by decide +kernel
theorem dX9_item_35 : decode cX9_item 35 = .ok (.iload_n 2, 1) := by decide +kernel
theorem dX9_item_36 : decode cX9_item 36 = .ok (.iconst 0, 1) := by decide +kernel
theorem dX9_item_37 : decode cX9_item 37 = .ok (.aload_n 0, 1) := by decide +kernel
theorem dX9_item_38 : decode cX9_item 38 = .ok (.getfield 64, 3) := by decide +kernel
theorem dX9_item_41 : decode cX9_item 41 = .ok (.iload_n 1, 1) := by decide +kernel
theorem dX9_item_42 : decode cX9_item 42 = .ok (.iaload, 1) := by decide +kernel
theorem dX9_item_43 : decode cX9_item 43 = .ok (.iconst 1, 1) := by decide +kernel
theorem dX9_item_44 : decode cX9_item 44 = .ok (.isub, 1) := by decide +kernel
theorem dX9_item_45 : decode cX9_item 45 = .ok (.invokestatic 79, 3) := by decide +kernel
theorem dX9_item_48 : decode cX9_item 48 = .ok (.ifCond .ne 7, 3) := by decide +kernel
theorem dX9_item_51 : decode cX9_item 51 = .ok (.ldc_w 260, 3) := by decide +kernel
theorem dX9_item_54 : decode cX9_item 54 = .ok (.ireturn, 1) := by decide +kernel
theorem dX9_item_55 : decode cX9_item 55 = .ok (.aload_n 0, 1) := by decide +kernel
theorem dX9_item_56 : decode cX9_item 56 = .ok (.getfield 70, 3) := by decide +kernel
theorem dX9_item_59 : decode cX9_item 59 = .ok (.bipush 24, 2) := by decide +kernel
theorem dX9_item_61 : decode cX9_item 61 = .ok (.iload_n 1, 1) := by decide +kernel
theorem dX9_item_62 : decode cX9_item 62 = .ok (.imul, 1) := by decide +kernel
theorem dX9_item_63 : decode cX9_item 63 = .ok (.iload_n 2, 1) := by decide +kernel
theorem dX9_item_64 : decode cX9_item 64 = .ok (.iadd, 1) := by decide +kernel
theorem dX9_item_65 : decode cX9_item 65 = .ok (.iaload, 1) := by decide +kernel
theorem dX9_item_66 : decode cX9_item 66 = .ok (.istore_n 3, 1) := by decide +kernel
theorem dX9_item_67 : decode cX9_item 67 = .ok (.iload_n 3, 1) := by decide +kernel
theorem dX9_item_68 : decode cX9_item 68 = .ok (.ldc 180, 2) := by decide +kernel
theorem dX9_item_70 : decode cX9_item 70 = .ok (.if_icmp .ne 8, 3) := by decide +kernel
theorem dX9_item_73 : decode cX9_item 73 = .ok (.ldc 121, 2) := by decide +kernel
theorem dX9_item_75 : decode cX9_item 75 = .ok (.goto 4, 3) := by decide +kernel
theorem dX9_item_78 : decode cX9_item 78 = .ok (.iload_n 3, 1) := by decide +kernel
theorem dX9_item_79 : decode cX9_item 79 = .ok (.ireturn, 1) := by decide +kernel
def f_X9_item (fu : Nat)  (x1 : Int32) (x2 : Int32) (m : Mem) : Option (Int32 × Mem) := doI (f_X9_isSlot fu x1 m) (fun r_3 m_2 => if r_3 = 0 then (some ((-1000000001), m_2)) else (chk (inb x1 5) (if (m_2 (3930 + x1.toNatClampNeg)) = 0 then (some ((-1000000011), m_2)) else (chk (inb x1 5) (if (m_2 (3930 + x1.toNatClampNeg)) = 2 then (chk (inb x1 5) (doI (f_X9_in fu x2 0 ((m_2 (3940 + x1.toNatClampNeg)) - 1) m_2) (fun r_9 m_8 => if r_9 = 0 then (some ((-1000000013), m_8)) else (chk (inb ((24 * x1) + x2) 120) (seqM (m_8 (8500 + ((24 * x1) + x2).toNatClampNeg)) (fun x_11 : Int32 => if x_11 = (-1000000005) then (some ((-1000000012), m_8)) else (some (x_11, m_8)))))))) else (some ((-1000000012), m_2)))))))
set_option maxHeartbeats 4000000 in
set_option maxRecDepth 100000 in
theorem w_X9_item {X : TX} {p : Program} {l : Launch} {e : Env} {s : State} {mi : MethodId} {args : Array Value} {below : List Frame} {meth : Method} {c : Code} {Q : State → Prop} {r : Int32} {mE : Mem} (C : Cx X p s mi args c RX9 cX9_item 4) (hq : RetI X p l e (rmD 2) s mi args below meth c cX9_item .int Q r mE) {fu : Nat} {x1 : Int32} {x2 : Int32} {m : Mem} {H : Heap} {locs : List Loc} {ls : Array Slot} (h : f_X9_item fu x1 x2 m = some (r, mE))  (hW : Wd X s m H locs) (hl : lv_has ls 4 [(0, .ref (ad X 20 0)), (1, .int x1), (2, .int x2)]) : W p l e (rmD 2) s mi args below meth c H locs 0 0 Q (F0 mi 0 ls []) := by
  unfold f_X9_item at h
  refine lv_iload_n C.1 C.2.1 dX9_item_0 rfl (lv_at hl 1 rfl) ?_
  obtain ⟨r_3, m_2, hc_1, h⟩ := doI_E h
  refine zr_cSI C hW (c_X9_isSlot (x0 := x1) hc_1 ) k_X9_isSlot w_1423 ⟨Nat.le_of_ble_eq_true rfl, Nat.le_of_ble_eq_true rfl⟩ ⟨Nat.le_refl 0, Nat.le_refl 0⟩ rfl hl.1 rfl (Nat.le_of_ble_eq_true rfl) dX9_item_1 (fun H locs hW => ?_)
  refine lv_if_ne (tgt := 10) C.1 C.2.1 dX9_item_4 (by decide) (fun hc_17 => ?_) (fun hc_17 => ?_)
  · have h := ite_f hc_17 h
    refine lv_aload_n C.1 C.2.1 dX9_item_10 rfl (lv_at hl 0 rfl) ?_
    refine zg_X9_holds C hW id_20 w_1032 dX9_item_11 ?_
    refine lv_iload_n C.1 C.2.1 dX9_item_14 rfl (lv_at hl 1 rfl) ?_
    obtain ⟨hb_4, h⟩ := chk_E h
    refine zal_35 C hW id_35 (inb_E hb_4) dX9_item_15 ?_
    refine lv_if_ne (tgt := 22) C.1 C.2.1 dX9_item_16 (by decide) (fun hc_16 => ?_) (fun hc_16 => ?_)
    · have h := ite_f hc_16 h
      refine lv_aload_n C.1 C.2.1 dX9_item_22 rfl (lv_at hl 0 rfl) ?_
      refine zg_X9_holds C hW id_20 w_1032 dX9_item_23 ?_
      refine lv_iload_n C.1 C.2.1 dX9_item_26 rfl (lv_at hl 1 rfl) ?_
      obtain ⟨hb_5, h⟩ := chk_E h
      refine zal_35 C hW id_35 (inb_E hb_5) dX9_item_27 ?_
      refine lv_iconst (v := 2) C.1 C.2.1 dX9_item_28 rfl ?_
      refine lv_icmp_eq (tgt := 35) C.1 C.2.1 dX9_item_29 (by decide) (fun hc_15 => ?_) (fun hc_15 => ?_)
      · have h := ite_t hc_15 h
        refine lv_iload_n C.1 C.2.1 dX9_item_35 rfl (lv_at hl 2 rfl) ?_
        refine lv_iconst (v := 0) C.1 C.2.1 dX9_item_36 rfl ?_
        refine lv_aload_n C.1 C.2.1 dX9_item_37 rfl (lv_at hl 0 rfl) ?_
        refine zg_X9_holdsA C hW id_20 w_1033 dX9_item_38 ?_
        refine lv_iload_n C.1 C.2.1 dX9_item_41 rfl (lv_at hl 1 rfl) ?_
        obtain ⟨hb_6, h⟩ := chk_E h
        refine zal_36 C hW id_36 (inb_E hb_6) dX9_item_42 ?_
        refine lv_iconst (v := 1) C.1 C.2.1 dX9_item_43 rfl ?_
        refine lv_isub C.1 C.2.1 dX9_item_44 ?_
        obtain ⟨r_9, m_8, hc_7, h⟩ := doI_E h
        refine zr_cSI C hW (c_X9_in (x0 := x2) (x1 := 0) (x2 := ((m_2 (3940 + x1.toNatClampNeg)) - 1)) hc_7 ) k_X9_in w_1117 ⟨Nat.le_of_ble_eq_true rfl, Nat.le_of_ble_eq_true rfl⟩ ⟨Nat.le_refl 0, Nat.le_refl 0⟩ rfl hl.1 rfl (Nat.le_of_ble_eq_true rfl) dX9_item_45 (fun H locs hW => ?_)
        refine lv_if_ne (tgt := 55) C.1 C.2.1 dX9_item_48 (by decide) (fun hc_14 => ?_) (fun hc_14 => ?_)
        · have h := ite_f hc_14 h
          refine lv_aload_n C.1 C.2.1 dX9_item_55 rfl (lv_at hl 0 rfl) ?_
          refine zg_X9_heldCells C hW id_20 w_1035 dX9_item_56 ?_
          refine lv_bipush (v := 24) C.1 C.2.1 dX9_item_59 rfl ?_
          refine lv_iload_n C.1 C.2.1 dX9_item_61 rfl (lv_at hl 1 rfl) ?_
          refine lv_imul C.1 C.2.1 dX9_item_62 ?_
          refine lv_iload_n C.1 C.2.1 dX9_item_63 rfl (lv_at hl 2 rfl) ?_
          refine lv_iadd C.1 C.2.1 dX9_item_64 ?_
          obtain ⟨hb_10, h⟩ := chk_E h
          refine zal_38 C hW id_38 (inb_E hb_10) dX9_item_65 ?_
          obtain ⟨x_11, e_12, h⟩ := seqM_E h
          refine lv_name e_12 ?_
          refine lv_istore_n (lv' := [(3, .int x_11), (0, .ref (ad X 20 0)), (1, .int x1), (2, .int x2)]) C.1 C.2.1 dX9_item_66 rfl hl (by decide) rfl (fun ls hl => ?_)
          refine lv_iload_n C.1 C.2.1 dX9_item_67 rfl (lv_at hl 0 rfl) ?_
          refine lv_ldc C.1 C.2.1 C.2.2.2.1 (C.2.2.2.2.1 _ w_1284) dX9_item_68 ?_
          refine lv_icmp_ne (tgt := 78) C.1 C.2.1 dX9_item_70 (by decide) (fun hc_13 => ?_) (fun hc_13 => ?_)
          · have h := ite_f hc_13 h
            refine lv_iload_n C.1 C.2.1 dX9_item_78 rfl (lv_at hl 0 rfl) ?_
            exact ret_i h hq rfl hW dX9_item_79
          · have h := ite_t hc_13 h
            refine lv_ldc C.1 C.2.1 C.2.2.2.1 (C.2.2.2.2.1 _ w_1168) dX9_item_73 ?_
            refine lv_goto (tgt := 79) C.1 C.2.1 dX9_item_75 (by decide) ?_
            exact ret_i h hq rfl hW dX9_item_79
        · have h := ite_t hc_14 h
          refine lv_ldcw C.1 C.2.1 C.2.2.2.1 (C.2.2.2.2.1 _ w_1404) dX9_item_51 ?_
          exact ret_i h hq rfl hW dX9_item_54
      · have h := ite_f hc_15 h
        refine lv_ldc C.1 C.2.1 C.2.2.2.1 (C.2.2.2.2.1 _ w_1168) dX9_item_32 ?_
        exact ret_i h hq rfl hW dX9_item_34
    · have h := ite_t hc_16 h
      refine lv_ldc C.1 C.2.1 C.2.2.2.1 (C.2.2.2.2.1 _ w_1323) dX9_item_19 ?_
      exact ret_i h hq rfl hW dX9_item_21
  · have h := ite_t hc_17 h
    refine lv_ldc C.1 C.2.1 C.2.2.2.1 (C.2.2.2.2.1 _ w_1123) dX9_item_7 ?_
    exact ret_i h hq rfl hW dX9_item_9
theorem c_X9_item {X : TX} {l : Launch} {fu : Nat} {x1 : Int32} {x2 : Int32} {m mE : Mem} {r : Int32} (h : f_X9_item fu x1 x2 m = some (r, mE))  : MetI X l yX9_item cX9_item 4 .int 2 [.ref (ad X 20 0), .int x1, .int x2] m r mE :=
  met_I (by decide) (Nat.le_of_ble_eq_true rfl) (fun p e s mi args below meth c ls Q C hq hW hl => w_X9_item C hq h  hW (lv_sub hl [0, 1, 2] rfl))
theorem k_X9_item : CalV yX9_item cX9_item 4 (some .int) RX9 2 := ⟨w_1431, w_1432, w_70, w_1433, by decide +kernel⟩
theorem dX9_rest_0 : decode cX9_rest 0 = .ok (.iload_n 1, 1) := by decide +kernel
theorem dX9_rest_1 : decode cX9_rest 1 = .ok (.invokestatic 263, 3) := by decide +kernel
theorem dX9_rest_4 : decode cX9_rest 4 = .ok (.ifCond .ne 6, 3) := by decide +kernel
theorem dX9_rest_7 : decode cX9_rest 7 = .ok (.ldc 91, 2) := by decide +kernel
theorem dX9_rest_9 : decode cX9_rest 9 = .ok (.ireturn, 1) := by decide +kernel
theorem dX9_rest_10 : decode cX9_rest 10 = .ok (.aload_n 0, 1) := by decide +kernel
theorem dX9_rest_11 : decode cX9_rest 11 = .ok (.getfield 61, 3) := by decide +kernel
theorem dX9_rest_14 : decode cX9_rest 14 = .ok (.iload_n 1, 1) := by decide +kernel
theorem dX9_rest_15 : decode cX9_rest 15 = .ok (.iaload, 1) := by decide +kernel
theorem dX9_rest_16 : decode cX9_rest 16 = .ok (.ifCond .ne 6, 3) := by decide +kernel
theorem dX9_rest_19 : decode cX9_rest 19 = .ok (.ldc 191, 2) := by decide +kernel
theorem dX9_rest_21 : decode cX9_rest 21 = .ok (.ireturn, 1) := by decide +kernel
theorem dX9_rest_22 : decode cX9_rest 22 = .ok (.aload_n 0, 1) := by decide +kernel
theorem dX9_rest_23 : decode cX9_rest 23 = .ok (.getfield 61, 3) := by decide +kernel
theorem dX9_rest_26 : decode cX9_rest 26 = .ok (.iload_n 1, 1) := by decide +kernel
theorem dX9_rest_27 : decode cX9_rest 27 = .ok (.iaload, 1) := by decide +kernel
theorem dX9_rest_28 : decode cX9_rest 28 = .ok (.iconst 3, 1) := by decide +kernel
theorem dX9_rest_29 : decode cX9_rest 29 = .ok (.if_icmp .eq 6, 3) := by decide +kernel
theorem dX9_rest_32 : decode cX9_rest 32 = .ok (.ldc 121, 2) := by decide +kernel
theorem dX9_rest_34 : decode cX9_rest 34 = .ok (.ireturn, 1) := by decide +kernel
theorem dX9_rest_35 : decode cX9_rest 35 = .ok (.iload_n 2, 1) := by decide +kernel
theorem dX9_rest_36 : decode cX9_rest 36 = .ok (.ifCond .ne 9, 3) := by decide +kernel
theorem dX9_rest_39 : decode cX9_rest 39 = .ok (.ldc_w 266, 3) := by decide +kernel
theorem dX9_rest_42 : decode cX9_rest 42 = .ok (.goto 20, 3) := by decide +kernel
theorem dX9_rest_45 : decode cX9_rest 45 = .ok (.iload_n 2, 1) := by decide +kernel
theorem dX9_rest_46 : decode cX9_rest 46 = .ok (.iconst (-1), 1) := by decide +kernel
theorem dX9_rest_47 : decode cX9_rest 47 = .ok (.if_icmp .ne 7, 3) := by decide +kernel
theorem dX9_rest_50 : decode cX9_rest 50 = .ok (.iconst 0, 1) := by decide +kernel
theorem dX9_rest_51 : decode cX9_rest 51 = .ok (.goto 11, 3) := by decide +kernel
theorem dX9_rest_54 : decode cX9_rest 54 = .ok (.aload_n 0, 1) := by decide +kernel
theorem dX9_rest_55 : decode cX9_rest 55 = .ok (.getfield 64, 3) := by decide +kernel
theorem dX9_rest_58 : decode cX9_rest 58 = .ok (.iload_n 1, 1) := by decide +kernel
theorem dX9_rest_59 : decode cX9_rest 59 = .ok (.iaload, 1) := by decide +kernel
theorem dX9_rest_60 : decode cX9_rest 60 = .ok (.iload_n 2, 1) := by decide +kernel
theorem dX9_rest_61 : decode cX9_rest 61 = .ok (.irem, 1) := by decide +kernel
theorem dX9_rest_62 : decode cX9_rest 62 = .ok (.ireturn, 1) := by decide +kernel
def f_X9_rest (fu : Nat)  (x1 : Int32) (x2 : Int32) (m : Mem) : Option (Int32 × Mem) := doI (f_X9_isSlot fu x1 m) (fun r_3 m_2 => if r_3 = 0 then (some ((-1000000001), m_2)) else (chk (inb x1 5) (if (m_2 (3930 + x1.toNatClampNeg)) = 0 then (some ((-1000000011), m_2)) else (chk (inb x1 5) (if (m_2 (3930 + x1.toNatClampNeg)) = 3 then (if x2 = 0 then (some ((-1000000002), m_2)) else (if x2 = (-1) then (some (0, m_2)) else (chk (inb x1 5) (chk (nz x2) (some ((irem (m_2 (3940 + x1.toNatClampNeg)) x2), m_2)))))) else (some ((-1000000012), m_2)))))))
set_option maxHeartbeats 4000000 in
set_option maxRecDepth 100000 in
theorem w_X9_rest {X : TX} {p : Program} {l : Launch} {e : Env} {s : State} {mi : MethodId} {args : Array Value} {below : List Frame} {meth : Method} {c : Code} {Q : State → Prop} {r : Int32} {mE : Mem} (C : Cx X p s mi args c RX9 cX9_rest 3) (hq : RetI X p l e (rmD 2) s mi args below meth c cX9_rest .int Q r mE) {fu : Nat} {x1 : Int32} {x2 : Int32} {m : Mem} {H : Heap} {locs : List Loc} {ls : Array Slot} (h : f_X9_rest fu x1 x2 m = some (r, mE))  (hW : Wd X s m H locs) (hl : lv_has ls 3 [(0, .ref (ad X 20 0)), (1, .int x1), (2, .int x2)]) : W p l e (rmD 2) s mi args below meth c H locs 0 0 Q (F0 mi 0 ls []) := by
  unfold f_X9_rest at h
  refine lv_iload_n C.1 C.2.1 dX9_rest_0 rfl (lv_at hl 1 rfl) ?_
  obtain ⟨r_3, m_2, hc_1, h⟩ := doI_E h
  refine zr_cSI C hW (c_X9_isSlot (x0 := x1) hc_1 ) k_X9_isSlot w_1423 ⟨Nat.le_of_ble_eq_true rfl, Nat.le_of_ble_eq_true rfl⟩ ⟨Nat.le_refl 0, Nat.le_refl 0⟩ rfl hl.1 rfl (Nat.le_of_ble_eq_true rfl) dX9_rest_1 (fun H locs hW => ?_)
  refine lv_if_ne (tgt := 10) C.1 C.2.1 dX9_rest_4 (by decide) (fun hc_12 => ?_) (fun hc_12 => ?_)
  · have h := ite_f hc_12 h
    refine lv_aload_n C.1 C.2.1 dX9_rest_10 rfl (lv_at hl 0 rfl) ?_
    refine zg_X9_holds C hW id_20 w_1032 dX9_rest_11 ?_
    refine lv_iload_n C.1 C.2.1 dX9_rest_14 rfl (lv_at hl 1 rfl) ?_
    obtain ⟨hb_4, h⟩ := chk_E h
    refine zal_35 C hW id_35 (inb_E hb_4) dX9_rest_15 ?_
    refine lv_if_ne (tgt := 22) C.1 C.2.1 dX9_rest_16 (by decide) (fun hc_11 => ?_) (fun hc_11 => ?_)
    · have h := ite_f hc_11 h
      refine lv_aload_n C.1 C.2.1 dX9_rest_22 rfl (lv_at hl 0 rfl) ?_
      refine zg_X9_holds C hW id_20 w_1032 dX9_rest_23 ?_
      refine lv_iload_n C.1 C.2.1 dX9_rest_26 rfl (lv_at hl 1 rfl) ?_
      obtain ⟨hb_5, h⟩ := chk_E h
      refine zal_35 C hW id_35 (inb_E hb_5) dX9_rest_27 ?_
      refine lv_iconst (v := 3) C.1 C.2.1 dX9_rest_28 rfl ?_
      refine lv_icmp_eq (tgt := 35) C.1 C.2.1 dX9_rest_29 (by decide) (fun hc_10 => ?_) (fun hc_10 => ?_)
      · have h := ite_t hc_10 h
        refine lv_iload_n C.1 C.2.1 dX9_rest_35 rfl (lv_at hl 2 rfl) ?_
        refine lv_if_ne (tgt := 45) C.1 C.2.1 dX9_rest_36 (by decide) (fun hc_9 => ?_) (fun hc_9 => ?_)
        · have h := ite_f hc_9 h
          refine lv_iload_n C.1 C.2.1 dX9_rest_45 rfl (lv_at hl 2 rfl) ?_
          refine lv_iconst (v := (-1)) C.1 C.2.1 dX9_rest_46 rfl ?_
          refine lv_icmp_ne (tgt := 54) C.1 C.2.1 dX9_rest_47 (by decide) (fun hc_8 => ?_) (fun hc_8 => ?_)
          · have h := ite_f hc_8 h
            refine lv_aload_n C.1 C.2.1 dX9_rest_54 rfl (lv_at hl 0 rfl) ?_
            refine zg_X9_holdsA C hW id_20 w_1033 dX9_rest_55 ?_
            refine lv_iload_n C.1 C.2.1 dX9_rest_58 rfl (lv_at hl 1 rfl) ?_
            obtain ⟨hb_6, h⟩ := chk_E h
            refine zal_36 C hW id_36 (inb_E hb_6) dX9_rest_59 ?_
            refine lv_iload_n C.1 C.2.1 dX9_rest_60 rfl (lv_at hl 2 rfl) ?_
            obtain ⟨hb_7, h⟩ := chk_E h
            refine zr_irem C.1 C.2.1 dX9_rest_61 (nz_E hb_7) ?_
            exact ret_i h hq rfl hW dX9_rest_62
          · have h := ite_t hc_8 h
            refine lv_iconst (v := 0) C.1 C.2.1 dX9_rest_50 rfl ?_
            refine lv_goto (tgt := 62) C.1 C.2.1 dX9_rest_51 (by decide) ?_
            exact ret_i h hq rfl hW dX9_rest_62
        · have h := ite_t hc_9 h
          refine lv_ldcw C.1 C.2.1 C.2.2.2.1 (C.2.2.2.2.1 _ w_1438) dX9_rest_39 ?_
          refine lv_goto (tgt := 62) C.1 C.2.1 dX9_rest_42 (by decide) ?_
          exact ret_i h hq rfl hW dX9_rest_62
      · have h := ite_f hc_10 h
        refine lv_ldc C.1 C.2.1 C.2.2.2.1 (C.2.2.2.2.1 _ w_1168) dX9_rest_32 ?_
        exact ret_i h hq rfl hW dX9_rest_34
    · have h := ite_t hc_11 h
      refine lv_ldc C.1 C.2.1 C.2.2.2.1 (C.2.2.2.2.1 _ w_1323) dX9_rest_19 ?_
      exact ret_i h hq rfl hW dX9_rest_21
  · have h := ite_t hc_12 h
    refine lv_ldc C.1 C.2.1 C.2.2.2.1 (C.2.2.2.2.1 _ w_1123) dX9_rest_7 ?_
    exact ret_i h hq rfl hW dX9_rest_9
theorem c_X9_rest {X : TX} {l : Launch} {fu : Nat} {x1 : Int32} {x2 : Int32} {m mE : Mem} {r : Int32} (h : f_X9_rest fu x1 x2 m = some (r, mE))  : MetI X l yX9_rest cX9_rest 3 .int 2 [.ref (ad X 20 0), .int x1, .int x2] m r mE :=
  met_I (by decide) (Nat.le_of_ble_eq_true rfl) (fun p e s mi args below meth c ls Q C hq hW hl => w_X9_rest C hq h  hW (lv_sub hl [0, 1, 2] rfl))
theorem k_X9_rest : CalV yX9_rest cX9_rest 3 (some .int) RX9 2 := ⟨w_1435, w_1436, w_70, w_1437, by decide +kernel⟩
theorem dX9_tell_0 : decode cX9_tell 0 = .ok (.aload_n 0, 1) := by decide +kernel
theorem dX9_tell_1 : decode cX9_tell 1 = .ok (.getfield 267, 3) := by decide +kernel
theorem dX9_tell_4 : decode cX9_tell 4 = .ok (.bipush 60, 2) := by decide +kernel
theorem dX9_tell_6 : decode cX9_tell 6 = .ok (.if_icmp .ne 6, 3) := by decide +kernel
theorem dX9_tell_9 : decode cX9_tell 9 = .ok (.ldc 92, 2) := by decide +kernel
theorem dX9_tell_11 : decode cX9_tell 11 = .ok (.ireturn, 1) := by decide +kernel
theorem dX9_tell_12 : decode cX9_tell 12 = .ok (.aload_n 0, 1) := by decide +kernel
theorem dX9_tell_13 : decode cX9_tell 13 = .ok (.getfield 76, 3) := by decide +kernel
theorem dX9_tell_16 : decode cX9_tell 16 = .ok (.aload_n 0, 1) := by decide +kernel
theorem dX9_tell_17 : decode cX9_tell 17 = .ok (.getfield 267, 3) := by decide +kernel
theorem dX9_tell_20 : decode cX9_tell 20 = .ok (.iload_n 1, 1) := by decide +kernel
theorem dX9_tell_21 : decode cX9_tell 21 = .ok (.iastore, 1) := by decide +kernel
theorem dX9_tell_22 : decode cX9_tell 22 = .ok (.aload_n 0, 1) := by decide +kernel
theorem dX9_tell_23 : decode cX9_tell 23 = .ok (.dup, 1) := by decide +kernel
theorem dX9_tell_24 : decode cX9_tell 24 = .ok (.getfield 267, 3) := by decide +kernel
theorem dX9_tell_27 : decode cX9_tell 27 = .ok (.iconst 1, 1) := by decide +kernel
theorem dX9_tell_28 : decode cX9_tell 28 = .ok (.iadd, 1) := by decide +kernel
theorem dX9_tell_29 : decode cX9_tell 29 = .ok (.putfield 267, 3) := by decide +kernel
theorem dX9_tell_32 : decode cX9_tell 32 = .ok (.aload_n 0, 1) := by decide +kernel
theorem dX9_tell_33 : decode cX9_tell 33 = .ok (.getfield 267, 3) := by decide +kernel
theorem dX9_tell_36 : decode cX9_tell 36 = .ok (.ireturn, 1) := by decide +kernel
def f_X9_tell (fu : Nat)  (x1 : Int32) (m : Mem) : Option (Int32 × Mem) := if (m 3012) = 60 then (some ((-1000000003), m)) else (chk (inb (m 3012) 60) (seqM (upd m (8650 + (m 3012).toNatClampNeg) x1) (fun m_2 : Mem => seqM (upd m_2 3012 ((m_2 3012) + 1)) (fun m_4 : Mem => some ((m_4 3012), m_4)))))
set_option maxHeartbeats 4000000 in
set_option maxRecDepth 100000 in
theorem w_X9_tell {X : TX} {p : Program} {l : Launch} {e : Env} {s : State} {mi : MethodId} {args : Array Value} {below : List Frame} {meth : Method} {c : Code} {Q : State → Prop} {r : Int32} {mE : Mem} (C : Cx X p s mi args c RX9 cX9_tell 2) (hq : RetI X p l e (rmD 0) s mi args below meth c cX9_tell .int Q r mE) {fu : Nat} {x1 : Int32} {m : Mem} {H : Heap} {locs : List Loc} {ls : Array Slot} (h : f_X9_tell fu x1 m = some (r, mE))  (hW : Wd X s m H locs) (hl : lv_has ls 2 [(0, .ref (ad X 20 0)), (1, .int x1)]) : W p l e (rmD 0) s mi args below meth c H locs 0 0 Q (F0 mi 0 ls []) := by
  unfold f_X9_tell at h
  refine lv_aload_n C.1 C.2.1 dX9_tell_0 rfl (lv_at hl 0 rfl) ?_
  refine zg_X9_waiting C hW id_20 w_1038 dX9_tell_1 ?_
  refine lv_bipush (v := 60) C.1 C.2.1 dX9_tell_4 rfl ?_
  refine lv_icmp_ne (tgt := 12) C.1 C.2.1 dX9_tell_6 (by decide) (fun hc_6 => ?_) (fun hc_6 => ?_)
  · have h := ite_f hc_6 h
    refine lv_aload_n C.1 C.2.1 dX9_tell_12 rfl (lv_at hl 0 rfl) ?_
    refine zg_X9_tells C hW id_20 w_1037 dX9_tell_13 ?_
    refine lv_aload_n C.1 C.2.1 dX9_tell_16 rfl (lv_at hl 0 rfl) ?_
    refine zg_X9_waiting C hW id_20 w_1038 dX9_tell_17 ?_
    refine lv_iload_n C.1 C.2.1 dX9_tell_20 rfl (lv_at hl 1 rfl) ?_
    obtain ⟨hb_1, h⟩ := chk_E h
    obtain ⟨m_2, e_3, h⟩ := seqM_E h
    refine zas_40 C hW id_40 (inb_E hb_1) e_3 dX9_tell_21 (fun H locs hW => ?_)
    refine lv_aload_n C.1 C.2.1 dX9_tell_22 rfl (lv_at hl 0 rfl) ?_
    refine lv_dup C.1 C.2.1 dX9_tell_23 rfl ?_
    refine zg_X9_waiting C hW id_20 w_1038 dX9_tell_24 ?_
    refine lv_iconst (v := 1) C.1 C.2.1 dX9_tell_27 rfl ?_
    refine lv_iadd C.1 C.2.1 dX9_tell_28 ?_
    obtain ⟨m_4, e_5, h⟩ := seqM_E h
    refine zp_X9_waiting C hW id_20 w_1038 e_5 dX9_tell_29 (fun H locs hW => ?_)
    refine lv_aload_n C.1 C.2.1 dX9_tell_32 rfl (lv_at hl 0 rfl) ?_
    refine zg_X9_waiting C hW id_20 w_1038 dX9_tell_33 ?_
    exact ret_i h hq rfl hW dX9_tell_36
  · have h := ite_t hc_6 h
    refine lv_ldc C.1 C.2.1 C.2.2.2.1 (C.2.2.2.2.1 _ w_1124) dX9_tell_9 ?_
    exact ret_i h hq rfl hW dX9_tell_11
theorem c_X9_tell {X : TX} {l : Launch} {fu : Nat} {x1 : Int32} {m mE : Mem} {r : Int32} (h : f_X9_tell fu x1 m = some (r, mE))  : MetI X l yX9_tell cX9_tell 2 .int 0 [.ref (ad X 20 0), .int x1] m r mE :=
  met_I (by decide) (Nat.le_of_ble_eq_true rfl) (fun p e s mi args below meth c ls Q C hq hW hl => w_X9_tell C hq h  hW (lv_sub hl [0, 1] rfl))
theorem k_X9_tell : CalV yX9_tell cX9_tell 2 (some .int) RX9 1 := ⟨w_1440, w_1441, w_70, w_1442, by decide +kernel⟩
theorem dX9_check_0 : decode cX9_check 0 = .ok (.aload_n 0, 1) := by decide +kernel
theorem dX9_check_1 : decode cX9_check 1 = .ok (.getfield 267, 3) := by decide +kernel
theorem dX9_check_4 : decode cX9_check 4 = .ok (.istore_n 2, 1) := by decide +kernel
theorem dX9_check_5 : decode cX9_check 5 = .ok (.aload_n 0, 1) := by decide +kernel
theorem dX9_check_6 : decode cX9_check 6 = .ok (.iconst 0, 1) := by decide +kernel
theorem dX9_check_7 : decode cX9_check 7 = .ok (.putfield 267, 3) := by decide +kernel
theorem dX9_check_10 : decode cX9_check 10 = .ok (.iload_n 1, 1) := by decide +kernel
theorem dX9_check_11 : decode cX9_check 11 = .ok (.iconst 1, 1) := by decide +kernel
theorem dX9_check_12 : decode cX9_check 12 = .ok (.bipush 30, 2) := by decide +kernel
theorem dX9_check_14 : decode cX9_check 14 = .ok (.invokestatic 79, 3) := by decide +kernel
theorem dX9_check_17 : decode cX9_check 17 = .ok (.ifCond .ne 6, 3) := by decide +kernel
theorem dX9_check_20 : decode cX9_check 20 = .ok (.ldc 91, 2) := by decide +kernel
theorem dX9_check_22 : decode cX9_check 22 = .ok (.ireturn, 1) := by decide +kernel
theorem dX9_check_23 : decode cX9_check 23 = .ok (.aload_n 0, 1) := by decide +kernel
theorem dX9_check_24 : decode cX9_check 24 = .ok (.getfield 270, 3) := by decide +kernel
theorem dX9_check_27 : decode cX9_check 27 = .ok (.ifCond .ne 7, 3) := by decide +kernel
theorem dX9_check_30 : decode cX9_check 30 = .ok (.ldc_w 266, 3) := by decide +kernel
theorem dX9_check_33 : decode cX9_check 33 = .ok (.ireturn, 1) := by decide +kernel
theorem dX9_check_34 : decode cX9_check 34 = .ok (.aload_n 0, 1) := by decide +kernel
theorem dX9_check_35 : decode cX9_check 35 = .ok (.getfield 9, 3) := by decide +kernel
theorem dX9_check_38 : decode cX9_check 38 = .ok (.aload_n 0, 1) := by decide +kernel
theorem dX9_check_39 : decode cX9_check 39 = .ok (.getfield 16, 3) := by decide +kernel
theorem dX9_check_42 : decode cX9_check 42 = .ok (.invokestatic 274, 3) := by decide +kernel
theorem dX9_check_45 : decode cX9_check 45 = .ok (.aload_n 0, 1) := by decide +kernel
theorem dX9_check_46 : decode cX9_check 46 = .ok (.getfield 13, 3) := by decide +kernel
theorem dX9_check_49 : decode cX9_check 49 = .ok (.aload_n 0, 1) := by decide +kernel
theorem dX9_check_50 : decode cX9_check 50 = .ok (.getfield 9, 3) := by decide +kernel
theorem dX9_check_53 : decode cX9_check 53 = .ok (.invokestatic 274, 3) := by decide +kernel
theorem dX9_check_56 : decode cX9_check 56 = .ok (.iconst 2, 1) := by decide +kernel
theorem dX9_check_57 : decode cX9_check 57 = .ok (.sipush 9999, 3) := by decide +kernel
theorem dX9_check_60 : decode cX9_check 60 = .ok (.aload_n 0, 1) := by decide +kernel
theorem dX9_check_61 : decode cX9_check 61 = .ok (.getfield 9, 3) := by decide +kernel
theorem dX9_check_64 : decode cX9_check 64 = .ok (.iconst 2, 1) := by decide +kernel
theorem dX9_check_65 : decode cX9_check 65 = .ok (.iaload, 1) := by decide +kernel
theorem dX9_check_66 : decode cX9_check 66 = .ok (.isub, 1) := by decide +kernel
theorem dX9_check_67 : decode cX9_check 67 = .ok (.iconst 0, 1) := by decide +kernel
theorem dX9_check_68 : decode cX9_check 68 = .ok (.iload_n 1, 1) := by decide +kernel
theorem dX9_check_69 : decode cX9_check 69 = .ok (.invokestatic 143, 3) := by decide +kernel
theorem dX9_check_72 : decode cX9_check 72 = .ok (.imul, 1) := by decide +kernel
theorem dX9_check_73 : decode cX9_check 73 = .ok (.istore_n 3, 1) := by decide +kernel
theorem dX9_check_74 : decode cX9_check 74 = .ok (.iconst 0, 1) := by decide +kernel
theorem dX9_check_75 : decode cX9_check 75 = .ok (.istore 4, 2) := by decide +kernel
theorem dX9_check_77 : decode cX9_check 77 = .ok (.iconst 0, 1) := by decide +kernel
theorem dX9_check_78 : decode cX9_check 78 = .ok (.istore 5, 2) := by decide +kernel
theorem dX9_check_80 : decode cX9_check 80 = .ok (.iconst 2, 1) := by decide +kernel
theorem dX9_check_81 : decode cX9_check 81 = .ok (.iload 5, 2) := by decide +kernel
theorem dX9_check_83 : decode cX9_check 83 = .ok (.imul, 1) := by decide +kernel
theorem dX9_check_84 : decode cX9_check 84 = .ok (.iload_n 3, 1) := by decide +kernel
theorem dX9_check_85 : decode cX9_check 85 = .ok (.if_icmp .ge 98, 3) := by decide +kernel
theorem dX9_check_88 : decode cX9_check 88 = .ok (.iload 4, 2) := by decide +kernel
theorem dX9_check_90 : decode cX9_check 90 = .ok (.iconst 2, 1) := by decide +kernel
theorem dX9_check_91 : decode cX9_check 91 = .ok (.iload 5, 2) := by decide +kernel
theorem dX9_check_93 : decode cX9_check 93 = .ok (.imul, 1) := by decide +kernel
theorem dX9_check_94 : decode cX9_check 94 = .ok (.if_icmp .ne 89, 3) := by decide +kernel
theorem dX9_check_97 : decode cX9_check 97 = .ok (.aload_n 0, 1) := by decide +kernel
theorem dX9_check_98 : decode cX9_check 98 = .ok (.invokevirtual 165, 3) := by decide +kernel
theorem dX9_check_101 : decode cX9_check 101 = .ok (.iload 4, 2) := by decide +kernel
theorem dX9_check_103 : decode cX9_check 103 = .ok (.iload 4, 2) := by decide +kernel
theorem dX9_check_105 : decode cX9_check 105 = .ok (.iload_n 2, 1) := by decide +kernel
theorem dX9_check_106 : decode cX9_check 106 = .ok (.if_icmp .ge 24, 3) := by decide +kernel
theorem dX9_check_109 : decode cX9_check 109 = .ok (.aload_n 0, 1) := by decide +kernel
theorem dX9_check_110 : decode cX9_check 110 = .ok (.getfield 76, 3) := by decide +kernel
theorem dX9_check_113 : decode cX9_check 113 = .ok (.iload 4, 2) := by decide +kernel
theorem dX9_check_115 : decode cX9_check 115 = .ok (.iaload, 1) := by decide +kernel
theorem dX9_check_116 : decode cX9_check 116 = .ok (.aload_n 0, 1) := by decide +kernel
theorem dX9_check_117 : decode cX9_check 117 = .ok (.getfield 9, 3) := by decide +kernel
theorem dX9_check_120 : decode cX9_check 120 = .ok (.bipush 7, 2) := by decide +kernel
theorem dX9_check_122 : decode cX9_check 122 = .ok (.iaload, 1) := by decide +kernel
theorem dX9_check_123 : decode cX9_check 123 = .ok (.if_icmp .ne 7, 3) := by decide +kernel
theorem dX9_check_126 : decode cX9_check 126 = .ok (.iconst 1, 1) := by decide +kernel
theorem dX9_check_127 : decode cX9_check 127 = .ok (.goto 4, 3) := by decide +kernel
theorem dX9_check_130 : decode cX9_check 130 = .ok (.iconst 0, 1) := by decide +kernel
theorem dX9_check_131 : decode cX9_check 131 = .ok (.iadd, 1) := by decide +kernel
theorem dX9_check_132 : decode cX9_check 132 = .ok (.istore 4, 2) := by decide +kernel
theorem dX9_check_134 : decode cX9_check 134 = .ok (.iload 4, 2) := by decide +kernel
theorem dX9_check_136 : decode cX9_check 136 = .ok (.iload 4, 2) := by decide +kernel
theorem dX9_check_138 : decode cX9_check 138 = .ok (.iconst 2, 1) := by decide +kernel
theorem dX9_check_139 : decode cX9_check 139 = .ok (.iload 5, 2) := by decide +kernel
theorem dX9_check_141 : decode cX9_check 141 = .ok (.imul, 1) := by decide +kernel
theorem dX9_check_142 : decode cX9_check 142 = .ok (.iconst 1, 1) := by decide +kernel
theorem dX9_check_143 : decode cX9_check 143 = .ok (.iadd, 1) := by decide +kernel
theorem dX9_check_144 : decode cX9_check 144 = .ok (.if_icmp .ne 29, 3) := by decide +kernel
theorem dX9_check_147 : decode cX9_check 147 = .ok (.iload 4, 2) := by decide +kernel
theorem dX9_check_149 : decode cX9_check 149 = .ok (.iload_n 2, 1) := by decide +kernel
theorem dX9_check_150 : decode cX9_check 150 = .ok (.if_icmp .ge 23, 3) := by decide +kernel
theorem dX9_check_153 : decode cX9_check 153 = .ok (.aload_n 0, 1) := by decide +kernel
theorem dX9_check_154 : decode cX9_check 154 = .ok (.getfield 76, 3) := by decide +kernel
theorem dX9_check_157 : decode cX9_check 157 = .ok (.iload 4, 2) := by decide +kernel
theorem dX9_check_159 : decode cX9_check 159 = .ok (.iaload, 1) := by decide +kernel
theorem dX9_check_160 : decode cX9_check 160 = .ok (.aload_n 0, 1) := by decide +kernel
theorem dX9_check_161 : decode cX9_check 161 = .ok (.getfield 9, 3) := by decide +kernel
theorem dX9_check_164 : decode cX9_check 164 = .ok (.iconst 5, 1) := by decide +kernel
theorem dX9_check_165 : decode cX9_check 165 = .ok (.iaload, 1) := by decide +kernel
theorem dX9_check_166 : decode cX9_check 166 = .ok (.if_icmp .ne 7, 3) := by decide +kernel
theorem dX9_check_169 : decode cX9_check 169 = .ok (.iconst 1, 1) := by decide +kernel
theorem dX9_check_170 : decode cX9_check 170 = .ok (.goto 4, 3) := by decide +kernel
theorem dX9_check_173 : decode cX9_check 173 = .ok (.iconst 0, 1) := by decide +kernel
theorem dX9_check_174 : decode cX9_check 174 = .ok (.iadd, 1) := by decide +kernel
theorem dX9_check_175 : decode cX9_check 175 = .ok (.istore 4, 2) := by decide +kernel
theorem dX9_check_177 : decode cX9_check 177 = .ok (.iinc 5 1, 3) := by decide +kernel
theorem dX9_check_180 : decode cX9_check 180 = .ok (.goto (-100), 3) := by decide +kernel
theorem dX9_check_183 : decode cX9_check 183 = .ok (.aload_n 0, 1) := by decide +kernel
theorem dX9_check_184 : decode cX9_check 184 = .ok (.getfield 16, 3) := by decide +kernel
theorem dX9_check_187 : decode cX9_check 187 = .ok (.aload_n 0, 1) := by decide +kernel
theorem dX9_check_188 : decode cX9_check 188 = .ok (.getfield 9, 3) := by decide +kernel
theorem dX9_check_191 : decode cX9_check 191 = .ok (.invokestatic 274, 3) := by decide +kernel
theorem dX9_check_194 : decode cX9_check 194 = .ok (.iload 4, 2) := by decide +kernel
theorem dX9_check_196 : decode cX9_check 196 = .ok (.iload_n 2, 1) := by decide +kernel
theorem dX9_check_197 : decode cX9_check 197 = .ok (.if_icmp .ne 13, 3) := by decide +kernel
theorem dX9_check_200 : decode cX9_check 200 = .ok (.iload 4, 2) := by decide +kernel
theorem dX9_check_202 : decode cX9_check 202 = .ok (.iload_n 3, 1) := by decide +kernel
theorem dX9_check_203 : decode cX9_check 203 = .ok (.if_icmp .ne 7, 3) := by decide +kernel
theorem dX9_check_206 : decode cX9_check 206 = .ok (.iconst 0, 1) := by decide +kernel
theorem dX9_check_207 : decode cX9_check 207 = .ok (.goto 7, 3) := by decide +kernel
theorem dX9_check_210 : decode cX9_check 210 = .ok (.iconst 1, 1) := by decide +kernel
theorem dX9_check_211 : decode cX9_check 211 = .ok (.iload 4, 2) := by decide +kernel
theorem dX9_check_213 : decode cX9_check 213 = .ok (.iadd, 1) := by decide +kernel
theorem dX9_check_214 : decode cX9_check 214 = .ok (.ireturn, 1) := by decide +kernel
def f_X9_check_174 (fu : Nat) (k_80 : Int32 → Int32 → Int32 → Int32 → Mem → Option (Int32 × Mem)) (x2 : Int32) (x3 : Int32) (x5 : Int32) (y0 : Int32) (y1 : Int32) (m : Mem) : Option (Int32 × Mem) := seqM (y0 + y1) (fun x_1 : Int32 => seqM (x5 + 1) (fun x_3 : Int32 => k_80 x2 x3 x_1 x_3 m))
set_option maxHeartbeats 4000000 in
set_option maxRecDepth 100000 in
theorem w_X9_check_174 {X : TX} {p : Program} {l : Launch} {e : Env} {s : State} {mi : MethodId} {args : Array Value} {below : List Frame} {meth : Method} {c : Code} {Q : State → Prop} {r : Int32} {mE : Mem} (C : Cx X p s mi args c RX9 cX9_check 6) (hq : RetI X p l e (rmD 5) s mi args below meth c cX9_check .int Q r mE) {fu : Nat} {k_80 : Int32 → Int32 → Int32 → Int32 → Mem → Option (Int32 × Mem)} (hk_80 : ∀ {x2 : Int32} {x3 : Int32} {x4 : Int32} {x5 : Int32} {m : Mem} {H : Heap} {locs : List Loc} {ls : Array Slot}, k_80 x2 x3 x4 x5 m = some (r, mE) → Wd X s m H locs → lv_has ls 6 [(0, .ref (ad X 20 0)), (2, .int x2), (3, .int x3), (4, .int x4), (5, .int x5)] → W p l e (rmD 5) s mi args below meth c H locs 0 0 Q (F0 mi 80 ls [])) {x2 : Int32} {x3 : Int32} {x5 : Int32} {y0 : Int32} {y1 : Int32} {m : Mem} {H : Heap} {locs : List Loc} {ls : Array Slot} (h : f_X9_check_174 fu k_80 x2 x3 x5 y0 y1 m = some (r, mE))  (hW : Wd X s m H locs) (hl : lv_has ls 6 [(0, .ref (ad X 20 0)), (2, .int x2), (3, .int x3), (5, .int x5)]) : W p l e (rmD 5) s mi args below meth c H locs 0 0 Q (F0 mi 174 ls [.int y1, .int y0]) := by
  unfold f_X9_check_174 at h
  refine lv_iadd C.1 C.2.1 dX9_check_174 ?_
  obtain ⟨x_1, e_2, h⟩ := seqM_E h
  refine lv_name e_2 ?_
  refine lv_istore (lv' := [(4, .int x_1), (0, .ref (ad X 20 0)), (2, .int x2), (3, .int x3), (5, .int x5)]) C.1 C.2.1 dX9_check_175 hl (by decide) rfl (fun ls hl => ?_)
  obtain ⟨x_3, e_4, h⟩ := seqM_E h
  refine lv_iinc (v := x_3) (lv' := [(5, .int x_3), (4, .int x_1), (0, .ref (ad X 20 0)), (2, .int x2), (3, .int x3)]) C.1 C.2.1 dX9_check_177 hl (k := 4) rfl (by rw [e_4]; rfl) (by decide) rfl (fun ls hl => ?_)
  refine lv_goto (tgt := 80) C.1 C.2.1 dX9_check_180 (by decide) ?_
  exact hk_80 h  hW (lv_sub hl [2, 3, 4, 1, 0] rfl)
def f_X9_check_173 (fu : Nat) (k_80 : Int32 → Int32 → Int32 → Int32 → Mem → Option (Int32 × Mem)) (x2 : Int32) (x3 : Int32) (x5 : Int32) (y0 : Int32) (m : Mem) : Option (Int32 × Mem) := f_X9_check_174 fu k_80 x2 x3 x5 y0 0 m
set_option maxHeartbeats 4000000 in
set_option maxRecDepth 100000 in
theorem w_X9_check_173 {X : TX} {p : Program} {l : Launch} {e : Env} {s : State} {mi : MethodId} {args : Array Value} {below : List Frame} {meth : Method} {c : Code} {Q : State → Prop} {r : Int32} {mE : Mem} (C : Cx X p s mi args c RX9 cX9_check 6) (hq : RetI X p l e (rmD 5) s mi args below meth c cX9_check .int Q r mE) {fu : Nat} {k_80 : Int32 → Int32 → Int32 → Int32 → Mem → Option (Int32 × Mem)} (hk_80 : ∀ {x2 : Int32} {x3 : Int32} {x4 : Int32} {x5 : Int32} {m : Mem} {H : Heap} {locs : List Loc} {ls : Array Slot}, k_80 x2 x3 x4 x5 m = some (r, mE) → Wd X s m H locs → lv_has ls 6 [(0, .ref (ad X 20 0)), (2, .int x2), (3, .int x3), (4, .int x4), (5, .int x5)] → W p l e (rmD 5) s mi args below meth c H locs 0 0 Q (F0 mi 80 ls [])) {x2 : Int32} {x3 : Int32} {x5 : Int32} {y0 : Int32} {m : Mem} {H : Heap} {locs : List Loc} {ls : Array Slot} (h : f_X9_check_173 fu k_80 x2 x3 x5 y0 m = some (r, mE))  (hW : Wd X s m H locs) (hl : lv_has ls 6 [(0, .ref (ad X 20 0)), (2, .int x2), (3, .int x3), (5, .int x5)]) : W p l e (rmD 5) s mi args below meth c H locs 0 0 Q (F0 mi 173 ls [.int y0]) := by
  unfold f_X9_check_173 at h
  refine lv_iconst (v := 0) C.1 C.2.1 dX9_check_173 rfl ?_
  exact w_X9_check_174 C hq hk_80 h  hW (lv_sub hl [0, 1, 2, 3] rfl)
def f_X9_check_131 (fu : Nat) (k_80 : Int32 → Int32 → Int32 → Int32 → Mem → Option (Int32 × Mem)) (x2 : Int32) (x3 : Int32) (x5 : Int32) (y0 : Int32) (y1 : Int32) (m : Mem) : Option (Int32 × Mem) := seqM (y0 + y1) (fun x_1 : Int32 => if x_1 = ((2 * x5) + 1) then (if x2 ≤ x_1 then (f_X9_check_173 fu k_80 x2 x3 x5 x_1 m) else (chk (inb x_1 60) (if (m (8650 + x_1.toNatClampNeg)) = (m ((4000 + 1500 * 0) + (5 : Int32).toNatClampNeg)) then (f_X9_check_174 fu k_80 x2 x3 x5 x_1 1 m) else (f_X9_check_173 fu k_80 x2 x3 x5 x_1 m)))) else (f_X9_check_173 fu k_80 x2 x3 x5 x_1 m))
set_option maxHeartbeats 4000000 in
set_option maxRecDepth 100000 in
theorem w_X9_check_131 {X : TX} {p : Program} {l : Launch} {e : Env} {s : State} {mi : MethodId} {args : Array Value} {below : List Frame} {meth : Method} {c : Code} {Q : State → Prop} {r : Int32} {mE : Mem} (C : Cx X p s mi args c RX9 cX9_check 6) (hq : RetI X p l e (rmD 5) s mi args below meth c cX9_check .int Q r mE) {fu : Nat} {k_80 : Int32 → Int32 → Int32 → Int32 → Mem → Option (Int32 × Mem)} (hk_80 : ∀ {x2 : Int32} {x3 : Int32} {x4 : Int32} {x5 : Int32} {m : Mem} {H : Heap} {locs : List Loc} {ls : Array Slot}, k_80 x2 x3 x4 x5 m = some (r, mE) → Wd X s m H locs → lv_has ls 6 [(0, .ref (ad X 20 0)), (2, .int x2), (3, .int x3), (4, .int x4), (5, .int x5)] → W p l e (rmD 5) s mi args below meth c H locs 0 0 Q (F0 mi 80 ls [])) {x2 : Int32} {x3 : Int32} {x5 : Int32} {y0 : Int32} {y1 : Int32} {m : Mem} {H : Heap} {locs : List Loc} {ls : Array Slot} (h : f_X9_check_131 fu k_80 x2 x3 x5 y0 y1 m = some (r, mE))  (hW : Wd X s m H locs) (hl : lv_has ls 6 [(0, .ref (ad X 20 0)), (2, .int x2), (3, .int x3), (5, .int x5)]) : W p l e (rmD 5) s mi args below meth c H locs 0 0 Q (F0 mi 131 ls [.int y1, .int y0]) := by
  unfold f_X9_check_131 at h
  refine lv_iadd C.1 C.2.1 dX9_check_131 ?_
  obtain ⟨x_1, e_2, h⟩ := seqM_E h
  refine lv_name e_2 ?_
  refine lv_istore (lv' := [(4, .int x_1), (0, .ref (ad X 20 0)), (2, .int x2), (3, .int x3), (5, .int x5)]) C.1 C.2.1 dX9_check_132 hl (by decide) rfl (fun ls hl => ?_)
  refine lv_iload C.1 C.2.1 dX9_check_134 (lv_at hl 0 rfl) ?_
  refine lv_iload C.1 C.2.1 dX9_check_136 (lv_at hl 0 rfl) ?_
  refine lv_iconst (v := 2) C.1 C.2.1 dX9_check_138 rfl ?_
  refine lv_iload C.1 C.2.1 dX9_check_139 (lv_at hl 4 rfl) ?_
  refine lv_imul C.1 C.2.1 dX9_check_141 ?_
  refine lv_iconst (v := 1) C.1 C.2.1 dX9_check_142 rfl ?_
  refine lv_iadd C.1 C.2.1 dX9_check_143 ?_
  refine lv_icmp_ne (tgt := 173) C.1 C.2.1 dX9_check_144 (by decide) (fun hc_6 => ?_) (fun hc_6 => ?_)
  · have h := ite_f hc_6 h
    exact w_X9_check_173 C hq hk_80 h  hW (lv_sub hl [1, 2, 3, 4] rfl)
  · have h := ite_t hc_6 h
    refine lv_iload C.1 C.2.1 dX9_check_147 (lv_at hl 0 rfl) ?_
    refine lv_iload_n C.1 C.2.1 dX9_check_149 rfl (lv_at hl 2 rfl) ?_
    refine lv_icmp_ge (tgt := 173) C.1 C.2.1 dX9_check_150 (by decide) (fun hc_5 => ?_) (fun hc_5 => ?_)
    · have h := ite_t hc_5 h
      exact w_X9_check_173 C hq hk_80 h  hW (lv_sub hl [1, 2, 3, 4] rfl)
    · have h := ite_f hc_5 h
      refine lv_aload_n C.1 C.2.1 dX9_check_153 rfl (lv_at hl 1 rfl) ?_
      refine zg_X9_tells C hW id_20 w_1037 dX9_check_154 ?_
      refine lv_iload C.1 C.2.1 dX9_check_157 (lv_at hl 0 rfl) ?_
      obtain ⟨hb_3, h⟩ := chk_E h
      refine zal_40 C hW id_40 (inb_E hb_3) dX9_check_159 ?_
      refine lv_aload_n C.1 C.2.1 dX9_check_160 rfl (lv_at hl 1 rfl) ?_
      refine zg_X9_now C hW id_20 w_1004 dX9_check_161 ?_
      refine lv_iconst (v := 5) C.1 C.2.1 dX9_check_164 rfl ?_
      refine zal_21 C hW id_21_0 (inb_E (by decide)) dX9_check_165 ?_
      refine lv_icmp_ne (tgt := 173) C.1 C.2.1 dX9_check_166 (by decide) (fun hc_4 => ?_) (fun hc_4 => ?_)
      · have h := ite_f hc_4 h
        exact w_X9_check_173 C hq hk_80 h  hW (lv_sub hl [1, 2, 3, 4] rfl)
      · have h := ite_t hc_4 h
        refine lv_iconst (v := 1) C.1 C.2.1 dX9_check_169 rfl ?_
        refine lv_goto (tgt := 174) C.1 C.2.1 dX9_check_170 (by decide) ?_
        exact w_X9_check_174 C hq hk_80 h  hW (lv_sub hl [1, 2, 3, 4] rfl)
def f_X9_check_130 (fu : Nat) (k_80 : Int32 → Int32 → Int32 → Int32 → Mem → Option (Int32 × Mem)) (x2 : Int32) (x3 : Int32) (x5 : Int32) (y0 : Int32) (m : Mem) : Option (Int32 × Mem) := f_X9_check_131 fu k_80 x2 x3 x5 y0 0 m
set_option maxHeartbeats 4000000 in
set_option maxRecDepth 100000 in
theorem w_X9_check_130 {X : TX} {p : Program} {l : Launch} {e : Env} {s : State} {mi : MethodId} {args : Array Value} {below : List Frame} {meth : Method} {c : Code} {Q : State → Prop} {r : Int32} {mE : Mem} (C : Cx X p s mi args c RX9 cX9_check 6) (hq : RetI X p l e (rmD 5) s mi args below meth c cX9_check .int Q r mE) {fu : Nat} {k_80 : Int32 → Int32 → Int32 → Int32 → Mem → Option (Int32 × Mem)} (hk_80 : ∀ {x2 : Int32} {x3 : Int32} {x4 : Int32} {x5 : Int32} {m : Mem} {H : Heap} {locs : List Loc} {ls : Array Slot}, k_80 x2 x3 x4 x5 m = some (r, mE) → Wd X s m H locs → lv_has ls 6 [(0, .ref (ad X 20 0)), (2, .int x2), (3, .int x3), (4, .int x4), (5, .int x5)] → W p l e (rmD 5) s mi args below meth c H locs 0 0 Q (F0 mi 80 ls [])) {x2 : Int32} {x3 : Int32} {x5 : Int32} {y0 : Int32} {m : Mem} {H : Heap} {locs : List Loc} {ls : Array Slot} (h : f_X9_check_130 fu k_80 x2 x3 x5 y0 m = some (r, mE))  (hW : Wd X s m H locs) (hl : lv_has ls 6 [(0, .ref (ad X 20 0)), (2, .int x2), (3, .int x3), (5, .int x5)]) : W p l e (rmD 5) s mi args below meth c H locs 0 0 Q (F0 mi 130 ls [.int y0]) := by
  unfold f_X9_check_130 at h
  refine lv_iconst (v := 0) C.1 C.2.1 dX9_check_130 rfl ?_
  exact w_X9_check_131 C hq hk_80 h  hW (lv_sub hl [0, 1, 2, 3] rfl)
def f_X9_check_183 (fu : Nat)  (x2 : Int32) (x3 : Int32) (x4 : Int32) (m : Mem) : Option (Int32 × Mem) := doV (f_X9_copyAll fu 2 0 m) (fun m_2 => if x4 = x2 then (if x4 = x3 then (some (0, m_2)) else (some ((1 + x4), m_2))) else (some ((1 + x4), m_2)))
set_option maxHeartbeats 4000000 in
set_option maxRecDepth 100000 in
theorem w_X9_check_183 {X : TX} {p : Program} {l : Launch} {e : Env} {s : State} {mi : MethodId} {args : Array Value} {below : List Frame} {meth : Method} {c : Code} {Q : State → Prop} {r : Int32} {mE : Mem} (C : Cx X p s mi args c RX9 cX9_check 6) (hq : RetI X p l e (rmD 5) s mi args below meth c cX9_check .int Q r mE) {fu : Nat} {x2 : Int32} {x3 : Int32} {x4 : Int32} {m : Mem} {H : Heap} {locs : List Loc} {ls : Array Slot} (h : f_X9_check_183 fu x2 x3 x4 m = some (r, mE))  (hW : Wd X s m H locs) (hl : lv_has ls 6 [(0, .ref (ad X 20 0)), (2, .int x2), (3, .int x3), (4, .int x4)]) : W p l e (rmD 5) s mi args below meth c H locs 0 0 Q (F0 mi 183 ls []) := by
  unfold f_X9_check_183 at h
  refine lv_aload_n C.1 C.2.1 dX9_check_183 rfl (lv_at hl 0 rfl) ?_
  refine zg_X9_aside C hW id_20 w_1006 dX9_check_184 ?_
  refine lv_aload_n C.1 C.2.1 dX9_check_187 rfl (lv_at hl 0 rfl) ?_
  refine zg_X9_now C hW id_20 w_1004 dX9_check_188 ?_
  obtain ⟨m_2, hc_1, h⟩ := doV_E h
  refine zr_cSV C hW (c_X9_copyAll (i0 := 2) (i1 := 0) hc_1 id_21_2 id_21_0) k_X9_copyAll w_1447 ⟨Nat.le_of_ble_eq_true rfl, Nat.le_of_ble_eq_true rfl⟩ ⟨Nat.le_refl 0, Nat.le_refl 0⟩ rfl hl.1 rfl (Nat.le_of_ble_eq_true rfl) dX9_check_191 (fun H locs hW => ?_)
  refine lv_iload C.1 C.2.1 dX9_check_194 (lv_at hl 3 rfl) ?_
  refine lv_iload_n C.1 C.2.1 dX9_check_196 rfl (lv_at hl 1 rfl) ?_
  refine lv_icmp_ne (tgt := 210) C.1 C.2.1 dX9_check_197 (by decide) (fun hc_4 => ?_) (fun hc_4 => ?_)
  · have h := ite_f hc_4 h
    refine lv_iconst (v := 1) C.1 C.2.1 dX9_check_210 rfl ?_
    refine lv_iload C.1 C.2.1 dX9_check_211 (lv_at hl 3 rfl) ?_
    refine lv_iadd C.1 C.2.1 dX9_check_213 ?_
    exact ret_i h hq rfl hW dX9_check_214
  · have h := ite_t hc_4 h
    refine lv_iload C.1 C.2.1 dX9_check_200 (lv_at hl 3 rfl) ?_
    refine lv_iload_n C.1 C.2.1 dX9_check_202 rfl (lv_at hl 2 rfl) ?_
    refine lv_icmp_ne (tgt := 210) C.1 C.2.1 dX9_check_203 (by decide) (fun hc_3 => ?_) (fun hc_3 => ?_)
    · have h := ite_f hc_3 h
      refine lv_iconst (v := 1) C.1 C.2.1 dX9_check_210 rfl ?_
      refine lv_iload C.1 C.2.1 dX9_check_211 (lv_at hl 3 rfl) ?_
      refine lv_iadd C.1 C.2.1 dX9_check_213 ?_
      exact ret_i h hq rfl hW dX9_check_214
    · have h := ite_t hc_3 h
      refine lv_iconst (v := 0) C.1 C.2.1 dX9_check_206 rfl ?_
      refine lv_goto (tgt := 214) C.1 C.2.1 dX9_check_207 (by decide) ?_
      exact ret_i h hq rfl hW dX9_check_214
def f_X9_check_80 (fu : Nat)  : Nat → Int32 → Int32 → Int32 → Int32 → Mem → Option (Int32 × Mem)
  | 0, _, _, _, _, _ => none
  | n + 1, x2, x3, x4, x5, m => if x3 ≤ (2 * x5) then (f_X9_check_183 fu x2 x3 x4 m) else (if x4 = (2 * x5) then (doV (f_X9_tenth fu  m) (fun m_2 => if x2 ≤ x4 then (f_X9_check_130 fu (f_X9_check_80 fu n) x2 x3 x5 x4 m_2) else (chk (inb x4 60) (if (m_2 (8650 + x4.toNatClampNeg)) = (m_2 ((4000 + 1500 * 0) + (7 : Int32).toNatClampNeg)) then (f_X9_check_131 fu (f_X9_check_80 fu n) x2 x3 x5 x4 1 m_2) else (f_X9_check_130 fu (f_X9_check_80 fu n) x2 x3 x5 x4 m_2))))) else (f_X9_check_183 fu x2 x3 x4 m))
set_option maxHeartbeats 4000000 in
set_option maxRecDepth 100000 in
theorem w_X9_check_80 {X : TX} {p : Program} {l : Launch} {e : Env} {s : State} {mi : MethodId} {args : Array Value} {below : List Frame} {meth : Method} {c : Code} {Q : State → Prop} {r : Int32} {mE : Mem} (C : Cx X p s mi args c RX9 cX9_check 6) (hq : RetI X p l e (rmD 5) s mi args below meth c cX9_check .int Q r mE) {fu : Nat} : ∀ (n : Nat) {x2 : Int32} {x3 : Int32} {x4 : Int32} {x5 : Int32} {m : Mem} {H : Heap} {locs : List Loc} {ls : Array Slot}, f_X9_check_80 fu n x2 x3 x4 x5 m = some (r, mE) → Wd X s m H locs → lv_has ls 6 [(0, .ref (ad X 20 0)), (2, .int x2), (3, .int x3), (4, .int x4), (5, .int x5)] → W p l e (rmD 5) s mi args below meth c H locs 0 0 Q (F0 mi 80 ls []) := by
  intro n
  induction n with
  | zero =>
    intro x2 x3 x4 x5 m H locs ls h hW hl
    rw [f_X9_check_80] at h
    cases h
  | succ n ih =>
    intro x2 x3 x4 x5 m H locs ls h hW hl
    rw [f_X9_check_80] at h
    refine lv_iconst (v := 2) C.1 C.2.1 dX9_check_80 rfl ?_
    refine lv_iload C.1 C.2.1 dX9_check_81 (lv_at hl 4 rfl) ?_
    refine lv_imul C.1 C.2.1 dX9_check_83 ?_
    refine lv_iload_n C.1 C.2.1 dX9_check_84 rfl (lv_at hl 2 rfl) ?_
    refine lv_icmp_ge (tgt := 183) C.1 C.2.1 dX9_check_85 (by decide) (fun hc_7 => ?_) (fun hc_7 => ?_)
    · have h := ite_t hc_7 h
      exact w_X9_check_183 C hq  h  hW (lv_sub hl [0, 1, 2, 3] rfl)
    · have h := ite_f hc_7 h
      refine lv_iload C.1 C.2.1 dX9_check_88 (lv_at hl 3 rfl) ?_
      refine lv_iconst (v := 2) C.1 C.2.1 dX9_check_90 rfl ?_
      refine lv_iload C.1 C.2.1 dX9_check_91 (lv_at hl 4 rfl) ?_
      refine lv_imul C.1 C.2.1 dX9_check_93 ?_
      refine lv_icmp_ne (tgt := 183) C.1 C.2.1 dX9_check_94 (by decide) (fun hc_6 => ?_) (fun hc_6 => ?_)
      · have h := ite_f hc_6 h
        exact w_X9_check_183 C hq  h  hW (lv_sub hl [0, 1, 2, 3] rfl)
      · have h := ite_t hc_6 h
        refine lv_aload_n C.1 C.2.1 dX9_check_97 rfl (lv_at hl 0 rfl) ?_
        obtain ⟨m_2, hc_1, h⟩ := doV_E h
        refine zr_cVV C hW (c_X9_tenth  hc_1 ) k_X9_tenth (zr_recv C hW id_20 zco_20 rfl) w_1217 ⟨Nat.le_of_ble_eq_true rfl, Nat.le_of_ble_eq_true rfl⟩ ⟨Nat.le_refl 0, Nat.le_refl 0⟩ rfl hl.1 rfl (Nat.le_of_ble_eq_true rfl) dX9_check_98 (fun H locs hW => ?_)
        refine lv_iload C.1 C.2.1 dX9_check_101 (lv_at hl 3 rfl) ?_
        refine lv_iload C.1 C.2.1 dX9_check_103 (lv_at hl 3 rfl) ?_
        refine lv_iload_n C.1 C.2.1 dX9_check_105 rfl (lv_at hl 1 rfl) ?_
        refine lv_icmp_ge (tgt := 130) C.1 C.2.1 dX9_check_106 (by decide) (fun hc_5 => ?_) (fun hc_5 => ?_)
        · have h := ite_t hc_5 h
          exact w_X9_check_130 C hq ih h  hW (lv_sub hl [0, 1, 2, 4] rfl)
        · have h := ite_f hc_5 h
          refine lv_aload_n C.1 C.2.1 dX9_check_109 rfl (lv_at hl 0 rfl) ?_
          refine zg_X9_tells C hW id_20 w_1037 dX9_check_110 ?_
          refine lv_iload C.1 C.2.1 dX9_check_113 (lv_at hl 3 rfl) ?_
          obtain ⟨hb_3, h⟩ := chk_E h
          refine zal_40 C hW id_40 (inb_E hb_3) dX9_check_115 ?_
          refine lv_aload_n C.1 C.2.1 dX9_check_116 rfl (lv_at hl 0 rfl) ?_
          refine zg_X9_now C hW id_20 w_1004 dX9_check_117 ?_
          refine lv_bipush (v := 7) C.1 C.2.1 dX9_check_120 rfl ?_
          refine zal_21 C hW id_21_0 (inb_E (by decide)) dX9_check_122 ?_
          refine lv_icmp_ne (tgt := 130) C.1 C.2.1 dX9_check_123 (by decide) (fun hc_4 => ?_) (fun hc_4 => ?_)
          · have h := ite_f hc_4 h
            exact w_X9_check_130 C hq ih h  hW (lv_sub hl [0, 1, 2, 4] rfl)
          · have h := ite_t hc_4 h
            refine lv_iconst (v := 1) C.1 C.2.1 dX9_check_126 rfl ?_
            refine lv_goto (tgt := 131) C.1 C.2.1 dX9_check_127 (by decide) ?_
            exact w_X9_check_131 C hq ih h  hW (lv_sub hl [0, 1, 2, 4] rfl)
def f_X9_check (fu : Nat)  (x1 : Int32) (m : Mem) : Option (Int32 × Mem) := seqM (m 3012) (fun x_1 : Int32 => seqM (upd m 3012 0) (fun m_3 : Mem => doI (f_X9_in fu x1 1 30 m_3) (fun r_7 m_6 => if r_7 = 0 then (some ((-1000000001), m_6)) else (if (m_6 3000) = 0 then (some ((-1000000002), m_6)) else (doV (f_X9_copyAll fu 0 2 m_6) (fun m_9 => doV (f_X9_copyAll fu 1 0 m_9) (fun m_11 => doI (f_X9_within fu (9999 - (m_11 ((4000 + 1500 * 0) + (2 : Int32).toNatClampNeg))) 0 x1 m_11) (fun r_14 m_13 => seqM (2 * r_14) (fun x_15 : Int32 => f_X9_check_80 fu fu x_1 x_15 0 0 m_13)))))))))
set_option maxHeartbeats 4000000 in
set_option maxRecDepth 100000 in
theorem w_X9_check {X : TX} {p : Program} {l : Launch} {e : Env} {s : State} {mi : MethodId} {args : Array Value} {below : List Frame} {meth : Method} {c : Code} {Q : State → Prop} {r : Int32} {mE : Mem} (C : Cx X p s mi args c RX9 cX9_check 6) (hq : RetI X p l e (rmD 5) s mi args below meth c cX9_check .int Q r mE) {fu : Nat} {x1 : Int32} {m : Mem} {H : Heap} {locs : List Loc} {ls : Array Slot} (h : f_X9_check fu x1 m = some (r, mE))  (hW : Wd X s m H locs) (hl : lv_has ls 6 [(0, .ref (ad X 20 0)), (1, .int x1)]) : W p l e (rmD 5) s mi args below meth c H locs 0 0 Q (F0 mi 0 ls []) := by
  unfold f_X9_check at h
  refine lv_aload_n C.1 C.2.1 dX9_check_0 rfl (lv_at hl 0 rfl) ?_
  refine zg_X9_waiting C hW id_20 w_1038 dX9_check_1 ?_
  obtain ⟨x_1, e_2, h⟩ := seqM_E h
  refine lv_name e_2 ?_
  refine lv_istore_n (lv' := [(2, .int x_1), (0, .ref (ad X 20 0)), (1, .int x1)]) C.1 C.2.1 dX9_check_4 rfl hl (by decide) rfl (fun ls hl => ?_)
  refine lv_aload_n C.1 C.2.1 dX9_check_5 rfl (lv_at hl 1 rfl) ?_
  refine lv_iconst (v := 0) C.1 C.2.1 dX9_check_6 rfl ?_
  obtain ⟨m_3, e_4, h⟩ := seqM_E h
  refine zp_X9_waiting C hW id_20 w_1038 e_4 dX9_check_7 (fun H locs hW => ?_)
  refine lv_iload_n C.1 C.2.1 dX9_check_10 rfl (lv_at hl 2 rfl) ?_
  refine lv_iconst (v := 1) C.1 C.2.1 dX9_check_11 rfl ?_
  refine lv_bipush (v := 30) C.1 C.2.1 dX9_check_12 rfl ?_
  obtain ⟨r_7, m_6, hc_5, h⟩ := doI_E h
  refine zr_cSI C hW (c_X9_in (x0 := x1) (x1 := 1) (x2 := 30) hc_5 ) k_X9_in w_1117 ⟨Nat.le_of_ble_eq_true rfl, Nat.le_of_ble_eq_true rfl⟩ ⟨Nat.le_refl 0, Nat.le_refl 0⟩ rfl hl.1 rfl (Nat.le_of_ble_eq_true rfl) dX9_check_14 (fun H locs hW => ?_)
  refine lv_if_ne (tgt := 23) C.1 C.2.1 dX9_check_17 (by decide) (fun hc_18 => ?_) (fun hc_18 => ?_)
  · have h := ite_f hc_18 h
    refine lv_aload_n C.1 C.2.1 dX9_check_23 rfl (lv_at hl 1 rfl) ?_
    refine zg_X9_hasImage C hW id_20 w_1007 dX9_check_24 ?_
    refine lv_if_ne (tgt := 34) C.1 C.2.1 dX9_check_27 (by decide) (fun hc_17 => ?_) (fun hc_17 => ?_)
    · have h := ite_f hc_17 h
      refine lv_aload_n C.1 C.2.1 dX9_check_34 rfl (lv_at hl 1 rfl) ?_
      refine zg_X9_now C hW id_20 w_1004 dX9_check_35 ?_
      refine lv_aload_n C.1 C.2.1 dX9_check_38 rfl (lv_at hl 1 rfl) ?_
      refine zg_X9_aside C hW id_20 w_1006 dX9_check_39 ?_
      obtain ⟨m_9, hc_8, h⟩ := doV_E h
      refine zr_cSV C hW (c_X9_copyAll (i0 := 0) (i1 := 2) hc_8 id_21_0 id_21_2) k_X9_copyAll w_1447 ⟨Nat.le_of_ble_eq_true rfl, Nat.le_of_ble_eq_true rfl⟩ ⟨Nat.le_refl 0, Nat.le_refl 0⟩ rfl hl.1 rfl (Nat.le_of_ble_eq_true rfl) dX9_check_42 (fun H locs hW => ?_)
      refine lv_aload_n C.1 C.2.1 dX9_check_45 rfl (lv_at hl 1 rfl) ?_
      refine zg_X9_image C hW id_20 w_1005 dX9_check_46 ?_
      refine lv_aload_n C.1 C.2.1 dX9_check_49 rfl (lv_at hl 1 rfl) ?_
      refine zg_X9_now C hW id_20 w_1004 dX9_check_50 ?_
      obtain ⟨m_11, hc_10, h⟩ := doV_E h
      refine zr_cSV C hW (c_X9_copyAll (i0 := 1) (i1 := 0) hc_10 id_21_1 id_21_0) k_X9_copyAll w_1447 ⟨Nat.le_of_ble_eq_true rfl, Nat.le_of_ble_eq_true rfl⟩ ⟨Nat.le_refl 0, Nat.le_refl 0⟩ rfl hl.1 rfl (Nat.le_of_ble_eq_true rfl) dX9_check_53 (fun H locs hW => ?_)
      refine lv_iconst (v := 2) C.1 C.2.1 dX9_check_56 rfl ?_
      refine lv_sipush (v := 9999) C.1 C.2.1 dX9_check_57 rfl ?_
      refine lv_aload_n C.1 C.2.1 dX9_check_60 rfl (lv_at hl 1 rfl) ?_
      refine zg_X9_now C hW id_20 w_1004 dX9_check_61 ?_
      refine lv_iconst (v := 2) C.1 C.2.1 dX9_check_64 rfl ?_
      refine zal_21 C hW id_21_0 (inb_E (by decide)) dX9_check_65 ?_
      refine lv_isub C.1 C.2.1 dX9_check_66 ?_
      refine lv_iconst (v := 0) C.1 C.2.1 dX9_check_67 rfl ?_
      refine lv_iload_n C.1 C.2.1 dX9_check_68 rfl (lv_at hl 2 rfl) ?_
      obtain ⟨r_14, m_13, hc_12, h⟩ := doI_E h
      refine zr_cSI C hW (c_X9_within (x0 := (9999 - (m_11 ((4000 + 1500 * 0) + (2 : Int32).toNatClampNeg)))) (x1 := 0) (x2 := x1) hc_12 ) k_X9_within w_1210 ⟨Nat.le_of_ble_eq_true rfl, Nat.le_of_ble_eq_true rfl⟩ ⟨Nat.le_refl 0, Nat.le_refl 0⟩ rfl hl.1 rfl (Nat.le_of_ble_eq_true rfl) dX9_check_69 (fun H locs hW => ?_)
      refine lv_imul C.1 C.2.1 dX9_check_72 ?_
      obtain ⟨x_15, e_16, h⟩ := seqM_E h
      refine lv_name e_16 ?_
      refine lv_istore_n (lv' := [(3, .int x_15), (2, .int x_1), (0, .ref (ad X 20 0)), (1, .int x1)]) C.1 C.2.1 dX9_check_73 rfl hl (by decide) rfl (fun ls hl => ?_)
      refine lv_iconst (v := 0) C.1 C.2.1 dX9_check_74 rfl ?_
      refine lv_istore (lv' := [(4, .int 0), (3, .int x_15), (2, .int x_1), (0, .ref (ad X 20 0)), (1, .int x1)]) C.1 C.2.1 dX9_check_75 hl (by decide) rfl (fun ls hl => ?_)
      refine lv_iconst (v := 0) C.1 C.2.1 dX9_check_77 rfl ?_
      refine lv_istore (lv' := [(5, .int 0), (4, .int 0), (3, .int x_15), (2, .int x_1), (0, .ref (ad X 20 0)), (1, .int x1)]) C.1 C.2.1 dX9_check_78 hl (by decide) rfl (fun ls hl => ?_)
      exact w_X9_check_80 C hq  fu h  hW (lv_sub hl [4, 3, 2, 1, 0] rfl)
    · have h := ite_t hc_17 h
      refine lv_ldcw C.1 C.2.1 C.2.2.2.1 (C.2.2.2.2.1 _ w_1438) dX9_check_30 ?_
      exact ret_i h hq rfl hW dX9_check_33
  · have h := ite_t hc_18 h
    refine lv_ldc C.1 C.2.1 C.2.2.2.1 (C.2.2.2.2.1 _ w_1123) dX9_check_20 ?_
    exact ret_i h hq rfl hW dX9_check_22
theorem c_X9_check {X : TX} {l : Launch} {fu : Nat} {x1 : Int32} {m mE : Mem} {r : Int32} (h : f_X9_check fu x1 m = some (r, mE))  : MetI X l yX9_check cX9_check 6 .int 5 [.ref (ad X 20 0), .int x1] m r mE :=
  met_I (by decide) (Nat.le_of_ble_eq_true rfl) (fun p e s mi args below meth c ls Q C hq hW hl => w_X9_check C hq h  hW (lv_sub hl [0, 1] rfl))
theorem k_X9_check : CalV yX9_check cX9_check 6 (some .int) RX9 1 := ⟨w_1444, w_1445, w_70, w_1446, by decide +kernel⟩
theorem dX9_keep_0 : decode cX9_keep 0 = .ok (.aload_n 0, 1) := by decide +kernel
theorem dX9_keep_1 : decode cX9_keep 1 = .ok (.getfield 9, 3) := by decide +kernel
theorem dX9_keep_4 : decode cX9_keep 4 = .ok (.aload_n 0, 1) := by decide +kernel
theorem dX9_keep_5 : decode cX9_keep 5 = .ok (.getfield 13, 3) := by decide +kernel
theorem dX9_keep_8 : decode cX9_keep 8 = .ok (.invokestatic 274, 3) := by decide +kernel
theorem dX9_keep_11 : decode cX9_keep 11 = .ok (.aload_n 0, 1) := by decide +kernel
theorem dX9_keep_12 : decode cX9_keep 12 = .ok (.iconst 1, 1) := by decide +kernel
theorem dX9_keep_13 : decode cX9_keep 13 = .ok (.putfield 270, 3) := by decide +kernel
theorem dX9_keep_16 : decode cX9_keep 16 = .ok (.aload_n 0, 1) := by decide +kernel
theorem dX9_keep_17 : decode cX9_keep 17 = .ok (.getfield 9, 3) := by decide +kernel
theorem dX9_keep_20 : decode cX9_keep 20 = .ok (.iconst 1, 1) := by decide +kernel
theorem dX9_keep_21 : decode cX9_keep 21 = .ok (.iaload, 1) := by decide +kernel
theorem dX9_keep_22 : decode cX9_keep 22 = .ok (.ireturn, 1) := by decide +kernel
def f_X9_keep (fu : Nat)   (m : Mem) : Option (Int32 × Mem) := doV (f_X9_copyAll fu 0 1 m) (fun m_2 => seqM (upd m_2 3000 1) (fun m_3 : Mem => some ((m_3 ((4000 + 1500 * 0) + (1 : Int32).toNatClampNeg)), m_3)))
set_option maxHeartbeats 4000000 in
set_option maxRecDepth 100000 in
theorem w_X9_keep {X : TX} {p : Program} {l : Launch} {e : Env} {s : State} {mi : MethodId} {args : Array Value} {below : List Frame} {meth : Method} {c : Code} {Q : State → Prop} {r : Int32} {mE : Mem} (C : Cx X p s mi args c RX9 cX9_keep 1) (hq : RetI X p l e (rmD 1) s mi args below meth c cX9_keep .int Q r mE) {fu : Nat}  {m : Mem} {H : Heap} {locs : List Loc} {ls : Array Slot} (h : f_X9_keep fu  m = some (r, mE))  (hW : Wd X s m H locs) (hl : lv_has ls 1 [(0, .ref (ad X 20 0))]) : W p l e (rmD 1) s mi args below meth c H locs 0 0 Q (F0 mi 0 ls []) := by
  unfold f_X9_keep at h
  refine lv_aload_n C.1 C.2.1 dX9_keep_0 rfl (lv_at hl 0 rfl) ?_
  refine zg_X9_now C hW id_20 w_1004 dX9_keep_1 ?_
  refine lv_aload_n C.1 C.2.1 dX9_keep_4 rfl (lv_at hl 0 rfl) ?_
  refine zg_X9_image C hW id_20 w_1005 dX9_keep_5 ?_
  obtain ⟨m_2, hc_1, h⟩ := doV_E h
  refine zr_cSV C hW (c_X9_copyAll (i0 := 0) (i1 := 1) hc_1 id_21_0 id_21_1) k_X9_copyAll w_1447 ⟨Nat.le_of_ble_eq_true rfl, Nat.le_of_ble_eq_true rfl⟩ ⟨Nat.le_refl 0, Nat.le_refl 0⟩ rfl hl.1 rfl (Nat.le_of_ble_eq_true rfl) dX9_keep_8 (fun H locs hW => ?_)
  refine lv_aload_n C.1 C.2.1 dX9_keep_11 rfl (lv_at hl 0 rfl) ?_
  refine lv_iconst (v := 1) C.1 C.2.1 dX9_keep_12 rfl ?_
  obtain ⟨m_3, e_4, h⟩ := seqM_E h
  refine zp_X9_hasImage C hW id_20 w_1007 (by decide) e_4 dX9_keep_13 (fun H locs hW => ?_)
  refine lv_aload_n C.1 C.2.1 dX9_keep_16 rfl (lv_at hl 0 rfl) ?_
  refine zg_X9_now C hW id_20 w_1004 dX9_keep_17 ?_
  refine lv_iconst (v := 1) C.1 C.2.1 dX9_keep_20 rfl ?_
  refine zal_21 C hW id_21_0 (inb_E (by decide)) dX9_keep_21 ?_
  exact ret_i h hq rfl hW dX9_keep_22
theorem c_X9_keep {X : TX} {l : Launch} {fu : Nat}  {m mE : Mem} {r : Int32} (h : f_X9_keep fu  m = some (r, mE))  : MetI X l yX9_keep cX9_keep 1 .int 1 [.ref (ad X 20 0)] m r mE :=
  met_I (by decide) (Nat.le_of_ble_eq_true rfl) (fun p e s mi args below meth c ls Q C hq hW hl => w_X9_keep C hq h  hW (lv_sub hl [0] rfl))
theorem k_X9_keep : CalV yX9_keep cX9_keep 1 (some .int) RX9 0 := ⟨w_1451, w_1452, w_70, w_1453, by decide +kernel⟩
theorem dX9_back_0 : decode cX9_back 0 = .ok (.aload_n 0, 1) := by decide +kernel
theorem dX9_back_1 : decode cX9_back 1 = .ok (.getfield 270, 3) := by decide +kernel
theorem dX9_back_4 : decode cX9_back 4 = .ok (.ifCond .ne 7, 3) := by decide +kernel
theorem dX9_back_7 : decode cX9_back 7 = .ok (.ldc_w 266, 3) := by decide +kernel
theorem dX9_back_10 : decode cX9_back 10 = .ok (.ireturn, 1) := by decide +kernel
theorem dX9_back_11 : decode cX9_back 11 = .ok (.aload_n 0, 1) := by decide +kernel
theorem dX9_back_12 : decode cX9_back 12 = .ok (.getfield 13, 3) := by decide +kernel
theorem dX9_back_15 : decode cX9_back 15 = .ok (.aload_n 0, 1) := by decide +kernel
theorem dX9_back_16 : decode cX9_back 16 = .ok (.getfield 9, 3) := by decide +kernel
theorem dX9_back_19 : decode cX9_back 19 = .ok (.invokestatic 274, 3) := by decide +kernel
theorem dX9_back_22 : decode cX9_back 22 = .ok (.aload_n 0, 1) := by decide +kernel
theorem dX9_back_23 : decode cX9_back 23 = .ok (.getfield 9, 3) := by decide +kernel
theorem dX9_back_26 : decode cX9_back 26 = .ok (.iconst 1, 1) := by decide +kernel
theorem dX9_back_27 : decode cX9_back 27 = .ok (.iaload, 1) := by decide +kernel
theorem dX9_back_28 : decode cX9_back 28 = .ok (.ireturn, 1) := by decide +kernel
def f_X9_back (fu : Nat)   (m : Mem) : Option (Int32 × Mem) := if (m 3000) = 0 then (some ((-1000000002), m)) else (doV (f_X9_copyAll fu 1 0 m) (fun m_2 => some ((m_2 ((4000 + 1500 * 0) + (1 : Int32).toNatClampNeg)), m_2)))
set_option maxHeartbeats 4000000 in
set_option maxRecDepth 100000 in
theorem w_X9_back {X : TX} {p : Program} {l : Launch} {e : Env} {s : State} {mi : MethodId} {args : Array Value} {below : List Frame} {meth : Method} {c : Code} {Q : State → Prop} {r : Int32} {mE : Mem} (C : Cx X p s mi args c RX9 cX9_back 1) (hq : RetI X p l e (rmD 1) s mi args below meth c cX9_back .int Q r mE) {fu : Nat}  {m : Mem} {H : Heap} {locs : List Loc} {ls : Array Slot} (h : f_X9_back fu  m = some (r, mE))  (hW : Wd X s m H locs) (hl : lv_has ls 1 [(0, .ref (ad X 20 0))]) : W p l e (rmD 1) s mi args below meth c H locs 0 0 Q (F0 mi 0 ls []) := by
  unfold f_X9_back at h
  refine lv_aload_n C.1 C.2.1 dX9_back_0 rfl (lv_at hl 0 rfl) ?_
  refine zg_X9_hasImage C hW id_20 w_1007 dX9_back_1 ?_
  refine lv_if_ne (tgt := 11) C.1 C.2.1 dX9_back_4 (by decide) (fun hc_3 => ?_) (fun hc_3 => ?_)
  · have h := ite_f hc_3 h
    refine lv_aload_n C.1 C.2.1 dX9_back_11 rfl (lv_at hl 0 rfl) ?_
    refine zg_X9_image C hW id_20 w_1005 dX9_back_12 ?_
    refine lv_aload_n C.1 C.2.1 dX9_back_15 rfl (lv_at hl 0 rfl) ?_
    refine zg_X9_now C hW id_20 w_1004 dX9_back_16 ?_
    obtain ⟨m_2, hc_1, h⟩ := doV_E h
    refine zr_cSV C hW (c_X9_copyAll (i0 := 1) (i1 := 0) hc_1 id_21_1 id_21_0) k_X9_copyAll w_1447 ⟨Nat.le_of_ble_eq_true rfl, Nat.le_of_ble_eq_true rfl⟩ ⟨Nat.le_refl 0, Nat.le_refl 0⟩ rfl hl.1 rfl (Nat.le_of_ble_eq_true rfl) dX9_back_19 (fun H locs hW => ?_)
    refine lv_aload_n C.1 C.2.1 dX9_back_22 rfl (lv_at hl 0 rfl) ?_
    refine zg_X9_now C hW id_20 w_1004 dX9_back_23 ?_
    refine lv_iconst (v := 1) C.1 C.2.1 dX9_back_26 rfl ?_
    refine zal_21 C hW id_21_0 (inb_E (by decide)) dX9_back_27 ?_
    exact ret_i h hq rfl hW dX9_back_28
  · have h := ite_t hc_3 h
    refine lv_ldcw C.1 C.2.1 C.2.2.2.1 (C.2.2.2.2.1 _ w_1438) dX9_back_7 ?_
    exact ret_i h hq rfl hW dX9_back_10
theorem c_X9_back {X : TX} {l : Launch} {fu : Nat}  {m mE : Mem} {r : Int32} (h : f_X9_back fu  m = some (r, mE))  : MetI X l yX9_back cX9_back 1 .int 1 [.ref (ad X 20 0)] m r mE :=
  met_I (by decide) (Nat.le_of_ble_eq_true rfl) (fun p e s mi args below meth c ls Q C hq hW hl => w_X9_back C hq h  hW (lv_sub hl [0] rfl))
theorem k_X9_back : CalV yX9_back cX9_back 1 (some .int) RX9 0 := ⟨w_1455, w_1456, w_70, w_1457, by decide +kernel⟩
theorem dX9_count_0 : decode cX9_count 0 = .ok (.iload_n 1, 1) := by decide +kernel
theorem dX9_count_1 : decode cX9_count 1 = .ok (.tableswitch 89 0 6 #[43, 50, 57, 64, 72, 77, 82], 43) := by decide +kernel
theorem dX9_count_44 : decode cX9_count 44 = .ok (.aload_n 0, 1) := by decide +kernel
theorem dX9_count_45 : decode cX9_count 45 = .ok (.getfield 9, 3) := by decide +kernel
theorem dX9_count_48 : decode cX9_count 48 = .ok (.iconst 1, 1) := by decide +kernel
theorem dX9_count_49 : decode cX9_count 49 = .ok (.iaload, 1) := by decide +kernel
theorem dX9_count_50 : decode cX9_count 50 = .ok (.ireturn, 1) := by decide +kernel
theorem dX9_count_51 : decode cX9_count 51 = .ok (.aload_n 0, 1) := by decide +kernel
theorem dX9_count_52 : decode cX9_count 52 = .ok (.getfield 9, 3) := by decide +kernel
theorem dX9_count_55 : decode cX9_count 55 = .ok (.iconst 2, 1) := by decide +kernel
theorem dX9_count_56 : decode cX9_count 56 = .ok (.iaload, 1) := by decide +kernel
theorem dX9_count_57 : decode cX9_count 57 = .ok (.ireturn, 1) := by decide +kernel
theorem dX9_count_58 : decode cX9_count 58 = .ok (.aload_n 0, 1) := by decide +kernel
theorem dX9_count_59 : decode cX9_count 59 = .ok (.getfield 9, 3) := by decide +kernel
theorem dX9_count_62 : decode cX9_count 62 = .ok (.iconst 3, 1) := by decide +kernel
theorem dX9_count_63 : decode cX9_count 63 = .ok (.iaload, 1) := by decide +kernel
theorem dX9_count_64 : decode cX9_count 64 = .ok (.ireturn, 1) := by decide +kernel
theorem dX9_count_65 : decode cX9_count 65 = .ok (.aload_n 0, 1) := by decide +kernel
theorem dX9_count_66 : decode cX9_count 66 = .ok (.getfield 9, 3) := by decide +kernel
theorem dX9_count_69 : decode cX9_count 69 = .ok (.bipush 15, 2) := by decide +kernel
theorem dX9_count_71 : decode cX9_count 71 = .ok (.iaload, 1) := by decide +kernel
theorem dX9_count_72 : decode cX9_count 72 = .ok (.ireturn, 1) := by decide +kernel
theorem dX9_count_73 : decode cX9_count 73 = .ok (.aload_n 0, 1) := by decide +kernel
theorem dX9_count_74 : decode cX9_count 74 = .ok (.getfield 267, 3) := by decide +kernel
theorem dX9_count_77 : decode cX9_count 77 = .ok (.ireturn, 1) := by decide +kernel
theorem dX9_count_78 : decode cX9_count 78 = .ok (.aload_n 0, 1) := by decide +kernel
theorem dX9_count_79 : decode cX9_count 79 = .ok (.getfield 192, 3) := by decide +kernel
theorem dX9_count_82 : decode cX9_count 82 = .ok (.ireturn, 1) := by decide +kernel
theorem dX9_count_83 : decode cX9_count 83 = .ok (.aload_n 0, 1) := by decide +kernel
theorem dX9_count_84 : decode cX9_count 84 = .ok (.getfield 9, 3) := by decide +kernel
theorem dX9_count_87 : decode cX9_count 87 = .ok (.iconst 0, 1) := by decide +kernel
theorem dX9_count_88 : decode cX9_count 88 = .ok (.iaload, 1) := by decide +kernel
theorem dX9_count_89 : decode cX9_count 89 = .ok (.ireturn, 1) := by decide +kernel
theorem dX9_count_90 : decode cX9_count 90 = .ok (.ldc 91, 2) := by decide +kernel
theorem dX9_count_92 : decode cX9_count 92 = .ok (.ireturn, 1) := by decide +kernel
def f_X9_count (fu : Nat)  (x1 : Int32) (m : Mem) : Option (Int32 × Mem) := if x1 = 0 then (some ((m ((4000 + 1500 * 0) + (1 : Int32).toNatClampNeg)), m)) else (if x1 = 1 then (some ((m ((4000 + 1500 * 0) + (2 : Int32).toNatClampNeg)), m)) else (if x1 = 2 then (some ((m ((4000 + 1500 * 0) + (3 : Int32).toNatClampNeg)), m)) else (if x1 = 3 then (some ((m ((4000 + 1500 * 0) + (15 : Int32).toNatClampNeg)), m)) else (if x1 = 4 then (some ((m 3012), m)) else (if x1 = 5 then (some ((m 3002), m)) else (if x1 = 6 then (some ((m ((4000 + 1500 * 0) + (0 : Int32).toNatClampNeg)), m)) else (some ((-1000000001), m))))))))
set_option maxHeartbeats 4000000 in
set_option maxRecDepth 100000 in
theorem w_X9_count {X : TX} {p : Program} {l : Launch} {e : Env} {s : State} {mi : MethodId} {args : Array Value} {below : List Frame} {meth : Method} {c : Code} {Q : State → Prop} {r : Int32} {mE : Mem} (C : Cx X p s mi args c RX9 cX9_count 2) (hq : RetI X p l e (rmD 0) s mi args below meth c cX9_count .int Q r mE) {fu : Nat} {x1 : Int32} {m : Mem} {H : Heap} {locs : List Loc} {ls : Array Slot} (h : f_X9_count fu x1 m = some (r, mE))  (hW : Wd X s m H locs) (hl : lv_has ls 2 [(0, .ref (ad X 20 0)), (1, .int x1)]) : W p l e (rmD 0) s mi args below meth c H locs 0 0 Q (F0 mi 0 ls []) := by
  unfold f_X9_count at h
  refine lv_iload_n C.1 C.2.1 dX9_count_0 rfl (lv_at hl 1 rfl) ?_
  by_cases hc_1 : x1 = 0
  · have h := ite_t hc_1 h
    refine lv_tableIn (tgt := 44) C.1 C.2.1 dX9_count_1 (by rw [hc_1]; decide) (by rw [hc_1]; decide) (by rw [hc_1]; rfl) (by decide) ?_
    refine lv_aload_n C.1 C.2.1 dX9_count_44 rfl (lv_at hl 0 rfl) ?_
    refine zg_X9_now C hW id_20 w_1004 dX9_count_45 ?_
    refine lv_iconst (v := 1) C.1 C.2.1 dX9_count_48 rfl ?_
    refine zal_21 C hW id_21_0 (inb_E (by decide)) dX9_count_49 ?_
    exact ret_i h hq rfl hW dX9_count_50
  · have h := ite_f hc_1 h
    by_cases hc_2 : x1 = 1
    · have h := ite_t hc_2 h
      refine lv_tableIn (tgt := 51) C.1 C.2.1 dX9_count_1 (by rw [hc_2]; decide) (by rw [hc_2]; decide) (by rw [hc_2]; rfl) (by decide) ?_
      refine lv_aload_n C.1 C.2.1 dX9_count_51 rfl (lv_at hl 0 rfl) ?_
      refine zg_X9_now C hW id_20 w_1004 dX9_count_52 ?_
      refine lv_iconst (v := 2) C.1 C.2.1 dX9_count_55 rfl ?_
      refine zal_21 C hW id_21_0 (inb_E (by decide)) dX9_count_56 ?_
      exact ret_i h hq rfl hW dX9_count_57
    · have h := ite_f hc_2 h
      by_cases hc_3 : x1 = 2
      · have h := ite_t hc_3 h
        refine lv_tableIn (tgt := 58) C.1 C.2.1 dX9_count_1 (by rw [hc_3]; decide) (by rw [hc_3]; decide) (by rw [hc_3]; rfl) (by decide) ?_
        refine lv_aload_n C.1 C.2.1 dX9_count_58 rfl (lv_at hl 0 rfl) ?_
        refine zg_X9_now C hW id_20 w_1004 dX9_count_59 ?_
        refine lv_iconst (v := 3) C.1 C.2.1 dX9_count_62 rfl ?_
        refine zal_21 C hW id_21_0 (inb_E (by decide)) dX9_count_63 ?_
        exact ret_i h hq rfl hW dX9_count_64
      · have h := ite_f hc_3 h
        by_cases hc_4 : x1 = 3
        · have h := ite_t hc_4 h
          refine lv_tableIn (tgt := 65) C.1 C.2.1 dX9_count_1 (by rw [hc_4]; decide) (by rw [hc_4]; decide) (by rw [hc_4]; rfl) (by decide) ?_
          refine lv_aload_n C.1 C.2.1 dX9_count_65 rfl (lv_at hl 0 rfl) ?_
          refine zg_X9_now C hW id_20 w_1004 dX9_count_66 ?_
          refine lv_bipush (v := 15) C.1 C.2.1 dX9_count_69 rfl ?_
          refine zal_21 C hW id_21_0 (inb_E (by decide)) dX9_count_71 ?_
          exact ret_i h hq rfl hW dX9_count_72
        · have h := ite_f hc_4 h
          by_cases hc_5 : x1 = 4
          · have h := ite_t hc_5 h
            refine lv_tableIn (tgt := 73) C.1 C.2.1 dX9_count_1 (by rw [hc_5]; decide) (by rw [hc_5]; decide) (by rw [hc_5]; rfl) (by decide) ?_
            refine lv_aload_n C.1 C.2.1 dX9_count_73 rfl (lv_at hl 0 rfl) ?_
            refine zg_X9_waiting C hW id_20 w_1038 dX9_count_74 ?_
            exact ret_i h hq rfl hW dX9_count_77
          · have h := ite_f hc_5 h
            by_cases hc_6 : x1 = 5
            · have h := ite_t hc_6 h
              refine lv_tableIn (tgt := 78) C.1 C.2.1 dX9_count_1 (by rw [hc_6]; decide) (by rw [hc_6]; decide) (by rw [hc_6]; rfl) (by decide) ?_
              refine lv_aload_n C.1 C.2.1 dX9_count_78 rfl (lv_at hl 0 rfl) ?_
              refine zg_X9_taped C hW id_20 w_1012 dX9_count_79 ?_
              exact ret_i h hq rfl hW dX9_count_82
            · have h := ite_f hc_6 h
              by_cases hc_7 : x1 = 6
              · have h := ite_t hc_7 h
                refine lv_tableIn (tgt := 83) C.1 C.2.1 dX9_count_1 (by rw [hc_7]; decide) (by rw [hc_7]; decide) (by rw [hc_7]; rfl) (by decide) ?_
                refine lv_aload_n C.1 C.2.1 dX9_count_83 rfl (lv_at hl 0 rfl) ?_
                refine zg_X9_now C hW id_20 w_1004 dX9_count_84 ?_
                refine lv_iconst (v := 0) C.1 C.2.1 dX9_count_87 rfl ?_
                refine zal_21 C hW id_21_0 (inb_E (by decide)) dX9_count_88 ?_
                exact ret_i h hq rfl hW dX9_count_89
              · have h := ite_f hc_7 h
                have nhc_1 := ne_k (0) rfl hc_1
                have nhc_2 := ne_k (1) rfl hc_2
                have nhc_3 := ne_k (2) rfl hc_3
                have nhc_4 := ne_k (3) rfl hc_4
                have nhc_5 := ne_k (4) rfl hc_5
                have nhc_6 := ne_k (5) rfl hc_6
                have nhc_7 := ne_k (6) rfl hc_7
                refine lv_tableOut (tgt := 90) C.1 C.2.1 dX9_count_1 (by omega) (by decide) ?_
                refine lv_ldc C.1 C.2.1 C.2.2.2.1 (C.2.2.2.2.1 _ w_1123) dX9_count_90 ?_
                exact ret_i h hq rfl hW dX9_count_92
theorem c_X9_count {X : TX} {l : Launch} {fu : Nat} {x1 : Int32} {m mE : Mem} {r : Int32} (h : f_X9_count fu x1 m = some (r, mE))  : MetI X l yX9_count cX9_count 2 .int 0 [.ref (ad X 20 0), .int x1] m r mE :=
  met_I (by decide) (Nat.le_of_ble_eq_true rfl) (fun p e s mi args below meth c ls Q C hq hW hl => w_X9_count C hq h  hW (lv_sub hl [0, 1] rfl))
theorem k_X9_count : CalV yX9_count cX9_count 2 (some .int) RX9 1 := ⟨w_1459, w_1460, w_70, w_1461, by decide +kernel⟩
