section LASTS
variable {Y : CD} {p : Program} {l : Launch} {e : Env} {R : Room} {s : State} {mi : MethodId} {args : Array Value} {below : List Frame} {meth : Method} {c : Code} {own : String} {cc : ByteArray} {nL : Nat} {H : Heap} {locs : List Loc} {cells slots : Nat} {Q : State → Prop} {pc : Nat} {ls : Array Slot} {rest : List Value} {th : va_W} {es : List va_E} {a : Nat}
theorem app_set {e0 e1 : va_E} : (es ++ [e0]).set es.length e1 = es ++ [e1] := by
  rw [List.set_append_right _ _ (Nat.le_refl _), Nat.sub_self]; rfl
theorem sn_iastL (C : CC Y p s mi args c own cc nL) {n k : Nat} {f : Nat → Int32} (hW : WS Y s th (es ++ [.inl (Y.2 0, n, .inl f)]) H locs) (hk : k = es.length) {i x : Int32} (hx : vp_in i n) {k' : Nat} (hki : i.toNatClampNeg = k') {q : Nat} (hq : q = s.heap.size + k) (hd : decode cc pc = .ok (.iastore, 1))
    (kk : ∀ (H1 : Heap) (locs1 : List Loc), WS Y s th (es ++ [.inl (Y.2 0, n, .inl (upd f k' x))]) H1 locs1 → W p l e R s mi args below meth c H1 locs1 cells slots Q (F0 mi (pc + 1) ls rest)) : W p l e R s mi args below meth c H locs cells slots Q (F0 mi pc ls (.int x :: .int i :: .ref q :: rest)) := by
  subst hk
  subst hki
  refine sn_iast C hW (k := es.length) (app_last (e1 := .inl (Y.2 0, n, .inl f)) (es1 := [])).1 hx hq hd (fun H1 locs1 hW1 => ?_)
  rw [app_set] at hW1
  exact kk H1 locs1 hW1
theorem sn_castL (C : CC Y p s mi args c own cc nL) {n k : Nat} {f : Nat → Int32} (hW : WS Y s th (es ++ [.inl (Y.2 3, n, .inl f)]) H locs) (hk : k = es.length) {i x : Int32} (hx : vp_in i n) {k' : Nat} (hki : i.toNatClampNeg = k') {x' : Int32} (hv : vp_nar .char x = x') {q : Nat} (hq : q = s.heap.size + k) (hd : decode cc pc = .ok (.castore, 1))
    (kk : ∀ (H1 : Heap) (locs1 : List Loc), WS Y s th (es ++ [.inl (Y.2 3, n, .inl (upd f k' x'))]) H1 locs1 → W p l e R s mi args below meth c H1 locs1 cells slots Q (F0 mi (pc + 1) ls rest)) : W p l e R s mi args below meth c H locs cells slots Q (F0 mi pc ls (.int x :: .int i :: .ref q :: rest)) := by
  subst hk
  subst hki
  subst hv
  refine sn_cast C hW (k := es.length) (app_last (e1 := .inl (Y.2 3, n, .inl f)) (es1 := [])).1 hx hq hd (fun H1 locs1 hW1 => ?_)
  rw [app_set] at hW1
  exact kk H1 locs1 hW1
theorem sn_iastH (C : CC Y p s mi args c own cc nL) {n : Nat} {f : Nat → Int32} (hW : WS Y s th (.inl (Y.2 0, n, .inl f) :: es) H locs) {i x : Int32} (hx : vp_in i n) {k' : Nat} (hki : i.toNatClampNeg = k') {q : Nat} (hq : q = s.heap.size + 0) (hd : decode cc pc = .ok (.iastore, 1))
    (kk : ∀ (H1 : Heap) (locs1 : List Loc), WS Y s th (.inl (Y.2 0, n, .inl (upd f k' x)) :: es) H1 locs1 → W p l e R s mi args below meth c H1 locs1 cells slots Q (F0 mi (pc + 1) ls rest)) : W p l e R s mi args below meth c H locs cells slots Q (F0 mi pc ls (.int x :: .int i :: .ref q :: rest)) := by
  subst hki
  exact sn_iast C hW (k := 0) rfl hx hq hd (fun H1 locs1 hW1 => kk H1 locs1 hW1)
end LASTS
theorem dX9_init_0 : decode cX9_init 0 = .ok (.aload_n 0, 1) := by decide +kernel
theorem dX9_init_1 : decode cX9_init 1 = .ok (.invokespecial 1, 3) := by decide +kernel
theorem dX9_init_4 : decode cX9_init 4 = .ok (.aload_n 0, 1) := by decide +kernel
theorem dX9_init_5 : decode cX9_init 5 = .ok (.sipush 1423, 3) := by decide +kernel
theorem dX9_init_8 : decode cX9_init 8 = .ok (.newarray .int, 2) := by decide +kernel
theorem dX9_init_10 : decode cX9_init 10 = .ok (.putfield 9, 3) := by decide +kernel
theorem dX9_init_13 : decode cX9_init 13 = .ok (.aload_n 0, 1) := by decide +kernel
theorem dX9_init_14 : decode cX9_init 14 = .ok (.sipush 1423, 3) := by decide +kernel
theorem dX9_init_17 : decode cX9_init 17 = .ok (.newarray .int, 2) := by decide +kernel
theorem dX9_init_19 : decode cX9_init 19 = .ok (.putfield 13, 3) := by decide +kernel
theorem dX9_init_22 : decode cX9_init 22 = .ok (.aload_n 0, 1) := by decide +kernel
theorem dX9_init_23 : decode cX9_init 23 = .ok (.sipush 1423, 3) := by decide +kernel
theorem dX9_init_26 : decode cX9_init 26 = .ok (.newarray .int, 2) := by decide +kernel
theorem dX9_init_28 : decode cX9_init 28 = .ok (.putfield 16, 3) := by decide +kernel
theorem dX9_init_31 : decode cX9_init 31 = .ok (.aload_n 0, 1) := by decide +kernel
theorem dX9_init_32 : decode cX9_init 32 = .ok (.bipush 51, 2) := by decide +kernel
theorem dX9_init_34 : decode cX9_init 34 = .ok (.newarray .int, 2) := by decide +kernel
theorem dX9_init_36 : decode cX9_init 36 = .ok (.putfield 19, 3) := by decide +kernel
theorem dX9_init_39 : decode cX9_init 39 = .ok (.aload_n 0, 1) := by decide +kernel
theorem dX9_init_40 : decode cX9_init 40 = .ok (.iconst 5, 1) := by decide +kernel
theorem dX9_init_41 : decode cX9_init 41 = .ok (.newarray .long, 2) := by decide +kernel
theorem dX9_init_43 : decode cX9_init 43 = .ok (.putfield 22, 3) := by decide +kernel
theorem dX9_init_46 : decode cX9_init 46 = .ok (.aload_n 0, 1) := by decide +kernel
theorem dX9_init_47 : decode cX9_init 47 = .ok (.bipush 96, 2) := by decide +kernel
theorem dX9_init_49 : decode cX9_init 49 = .ok (.newarray .int, 2) := by decide +kernel
theorem dX9_init_51 : decode cX9_init 51 = .ok (.putfield 26, 3) := by decide +kernel
theorem dX9_init_54 : decode cX9_init 54 = .ok (.aload_n 0, 1) := by decide +kernel
theorem dX9_init_55 : decode cX9_init 55 = .ok (.bipush 10, 2) := by decide +kernel
theorem dX9_init_57 : decode cX9_init 57 = .ok (.newarray .char, 2) := by decide +kernel
theorem dX9_init_59 : decode cX9_init 59 = .ok (.dup, 1) := by decide +kernel
theorem dX9_init_60 : decode cX9_init 60 = .ok (.iconst 0, 1) := by decide +kernel
theorem dX9_init_61 : decode cX9_init 61 = .ok (.bipush 111, 2) := by decide +kernel
theorem dX9_init_63 : decode cX9_init 63 = .ok (.castore, 1) := by decide +kernel
theorem dX9_init_64 : decode cX9_init 64 = .ok (.dup, 1) := by decide +kernel
theorem dX9_init_65 : decode cX9_init 65 = .ok (.iconst 1, 1) := by decide +kernel
theorem dX9_init_66 : decode cX9_init 66 = .ok (.bipush 102, 2) := by decide +kernel
theorem dX9_init_68 : decode cX9_init 68 = .ok (.castore, 1) := by decide +kernel
theorem dX9_init_69 : decode cX9_init 69 = .ok (.dup, 1) := by decide +kernel
theorem dX9_init_70 : decode cX9_init 70 = .ok (.iconst 2, 1) := by decide +kernel
theorem dX9_init_71 : decode cX9_init 71 = .ok (.bipush 102, 2) := by decide +kernel
theorem dX9_init_73 : decode cX9_init 73 = .ok (.castore, 1) := by decide +kernel
theorem dX9_init_74 : decode cX9_init 74 = .ok (.dup, 1) := by decide +kernel
theorem dX9_init_75 : decode cX9_init 75 = .ok (.iconst 3, 1) := by decide +kernel
theorem dX9_init_76 : decode cX9_init 76 = .ok (.bipush 102, 2) := by decide +kernel
theorem dX9_init_78 : decode cX9_init 78 = .ok (.castore, 1) := by decide +kernel
theorem dX9_init_79 : decode cX9_init 79 = .ok (.dup, 1) := by decide +kernel
theorem dX9_init_80 : decode cX9_init 80 = .ok (.iconst 4, 1) := by decide +kernel
theorem dX9_init_81 : decode cX9_init 81 = .ok (.bipush 101, 2) := by decide +kernel
theorem dX9_init_83 : decode cX9_init 83 = .ok (.castore, 1) := by decide +kernel
theorem dX9_init_84 : decode cX9_init 84 = .ok (.dup, 1) := by decide +kernel
theorem dX9_init_85 : decode cX9_init 85 = .ok (.iconst 5, 1) := by decide +kernel
theorem dX9_init_86 : decode cX9_init 86 = .ok (.bipush 101, 2) := by decide +kernel
theorem dX9_init_88 : decode cX9_init 88 = .ok (.castore, 1) := by decide +kernel
theorem dX9_init_89 : decode cX9_init 89 = .ok (.dup, 1) := by decide +kernel
theorem dX9_init_90 : decode cX9_init 90 = .ok (.bipush 6, 2) := by decide +kernel
theorem dX9_init_92 : decode cX9_init 92 = .ok (.bipush 102, 2) := by decide +kernel
theorem dX9_init_94 : decode cX9_init 94 = .ok (.castore, 1) := by decide +kernel
theorem dX9_init_95 : decode cX9_init 95 = .ok (.dup, 1) := by decide +kernel
theorem dX9_init_96 : decode cX9_init 96 = .ok (.bipush 7, 2) := by decide +kernel
theorem dX9_init_98 : decode cX9_init 98 = .ok (.bipush 105, 2) := by decide +kernel
theorem dX9_init_100 : decode cX9_init 100 = .ok (.castore, 1) := by decide +kernel
theorem dX9_init_101 : decode cX9_init 101 = .ok (.dup, 1) := by decide +kernel
theorem dX9_init_102 : decode cX9_init 102 = .ok (.bipush 8, 2) := by decide +kernel
theorem dX9_init_104 : decode cX9_init 104 = .ok (.bipush 110, 2) := by decide +kernel
theorem dX9_init_106 : decode cX9_init 106 = .ok (.castore, 1) := by decide +kernel
theorem dX9_init_107 : decode cX9_init 107 = .ok (.dup, 1) := by decide +kernel
theorem dX9_init_108 : decode cX9_init 108 = .ok (.bipush 9, 2) := by decide +kernel
theorem dX9_init_110 : decode cX9_init 110 = .ok (.bipush 101, 2) := by decide +kernel
theorem dX9_init_112 : decode cX9_init 112 = .ok (.castore, 1) := by decide +kernel
theorem dX9_init_113 : decode cX9_init 113 = .ok (.putfield 29, 3) := by decide +kernel
theorem dX9_init_116 : decode cX9_init 116 = .ok (.aload_n 0, 1) := by decide +kernel
theorem dX9_init_117 : decode cX9_init 117 = .ok (.iconst 4, 1) := by decide +kernel
theorem dX9_init_118 : decode cX9_init 118 = .ok (.newarray .int, 2) := by decide +kernel
theorem dX9_init_120 : decode cX9_init 120 = .ok (.dup, 1) := by decide +kernel
theorem dX9_init_121 : decode cX9_init 121 = .ok (.iconst 0, 1) := by decide +kernel
theorem dX9_init_122 : decode cX9_init 122 = .ok (.iconst 0, 1) := by decide +kernel
theorem dX9_init_123 : decode cX9_init 123 = .ok (.iastore, 1) := by decide +kernel
theorem dX9_init_124 : decode cX9_init 124 = .ok (.dup, 1) := by decide +kernel
theorem dX9_init_125 : decode cX9_init 125 = .ok (.iconst 1, 1) := by decide +kernel
theorem dX9_init_126 : decode cX9_init 126 = .ok (.iconst 3, 1) := by decide +kernel
theorem dX9_init_127 : decode cX9_init 127 = .ok (.iastore, 1) := by decide +kernel
theorem dX9_init_128 : decode cX9_init 128 = .ok (.dup, 1) := by decide +kernel
theorem dX9_init_129 : decode cX9_init 129 = .ok (.iconst 2, 1) := by decide +kernel
theorem dX9_init_130 : decode cX9_init 130 = .ok (.bipush 6, 2) := by decide +kernel
theorem dX9_init_132 : decode cX9_init 132 = .ok (.iastore, 1) := by decide +kernel
theorem dX9_init_133 : decode cX9_init 133 = .ok (.dup, 1) := by decide +kernel
theorem dX9_init_134 : decode cX9_init 134 = .ok (.iconst 3, 1) := by decide +kernel
theorem dX9_init_135 : decode cX9_init 135 = .ok (.bipush 10, 2) := by decide +kernel
theorem dX9_init_137 : decode cX9_init 137 = .ok (.iastore, 1) := by decide +kernel
theorem dX9_init_138 : decode cX9_init 138 = .ok (.putfield 33, 3) := by decide +kernel
theorem dX9_init_141 : decode cX9_init 141 = .ok (.aload_n 0, 1) := by decide +kernel
theorem dX9_init_142 : decode cX9_init 142 = .ok (.bipush 96, 2) := by decide +kernel
theorem dX9_init_144 : decode cX9_init 144 = .ok (.newarray .int, 2) := by decide +kernel
theorem dX9_init_146 : decode cX9_init 146 = .ok (.putfield 36, 3) := by decide +kernel
theorem dX9_init_149 : decode cX9_init 149 = .ok (.aload_n 0, 1) := by decide +kernel
theorem dX9_init_150 : decode cX9_init 150 = .ok (.bipush 96, 2) := by decide +kernel
theorem dX9_init_152 : decode cX9_init 152 = .ok (.newarray .int, 2) := by decide +kernel
theorem dX9_init_154 : decode cX9_init 154 = .ok (.putfield 39, 3) := by decide +kernel
theorem dX9_init_157 : decode cX9_init 157 = .ok (.aload_n 0, 1) := by decide +kernel
theorem dX9_init_158 : decode cX9_init 158 = .ok (.bipush 10, 2) := by decide +kernel
theorem dX9_init_160 : decode cX9_init 160 = .ok (.newarray .boolean, 2) := by decide +kernel
theorem dX9_init_162 : decode cX9_init 162 = .ok (.putfield 42, 3) := by decide +kernel
theorem dX9_init_165 : decode cX9_init 165 = .ok (.aload_n 0, 1) := by decide +kernel
theorem dX9_init_166 : decode cX9_init 166 = .ok (.bipush 96, 2) := by decide +kernel
theorem dX9_init_168 : decode cX9_init 168 = .ok (.newarray .int, 2) := by decide +kernel
theorem dX9_init_170 : decode cX9_init 170 = .ok (.putfield 46, 3) := by decide +kernel
theorem dX9_init_173 : decode cX9_init 173 = .ok (.aload_n 0, 1) := by decide +kernel
theorem dX9_init_174 : decode cX9_init 174 = .ok (.iconst 4, 1) := by decide +kernel
theorem dX9_init_175 : decode cX9_init 175 = .ok (.newarray .int, 2) := by decide +kernel
theorem dX9_init_177 : decode cX9_init 177 = .ok (.putfield 49, 3) := by decide +kernel
theorem dX9_init_180 : decode cX9_init 180 = .ok (.aload_n 0, 1) := by decide +kernel
theorem dX9_init_181 : decode cX9_init 181 = .ok (.iconst 4, 1) := by decide +kernel
theorem dX9_init_182 : decode cX9_init 182 = .ok (.newarray .int, 2) := by decide +kernel
theorem dX9_init_184 : decode cX9_init 184 = .ok (.dup, 1) := by decide +kernel
theorem dX9_init_185 : decode cX9_init 185 = .ok (.iconst 0, 1) := by decide +kernel
theorem dX9_init_186 : decode cX9_init 186 = .ok (.iconst (-1), 1) := by decide +kernel
theorem dX9_init_187 : decode cX9_init 187 = .ok (.iastore, 1) := by decide +kernel
theorem dX9_init_188 : decode cX9_init 188 = .ok (.dup, 1) := by decide +kernel
theorem dX9_init_189 : decode cX9_init 189 = .ok (.iconst 1, 1) := by decide +kernel
theorem dX9_init_190 : decode cX9_init 190 = .ok (.iconst (-1), 1) := by decide +kernel
theorem dX9_init_191 : decode cX9_init 191 = .ok (.iastore, 1) := by decide +kernel
theorem dX9_init_192 : decode cX9_init 192 = .ok (.dup, 1) := by decide +kernel
theorem dX9_init_193 : decode cX9_init 193 = .ok (.iconst 2, 1) := by decide +kernel
theorem dX9_init_194 : decode cX9_init 194 = .ok (.iconst (-1), 1) := by decide +kernel
theorem dX9_init_195 : decode cX9_init 195 = .ok (.iastore, 1) := by decide +kernel
theorem dX9_init_196 : decode cX9_init 196 = .ok (.dup, 1) := by decide +kernel
theorem dX9_init_197 : decode cX9_init 197 = .ok (.iconst 3, 1) := by decide +kernel
theorem dX9_init_198 : decode cX9_init 198 = .ok (.iconst (-1), 1) := by decide +kernel
theorem dX9_init_199 : decode cX9_init 199 = .ok (.iastore, 1) := by decide +kernel
theorem dX9_init_200 : decode cX9_init 200 = .ok (.putfield 52, 3) := by decide +kernel
theorem dX9_init_203 : decode cX9_init 203 = .ok (.aload_n 0, 1) := by decide +kernel
theorem dX9_init_204 : decode cX9_init 204 = .ok (.iconst 4, 1) := by decide +kernel
theorem dX9_init_205 : decode cX9_init 205 = .ok (.newarray .int, 2) := by decide +kernel
theorem dX9_init_207 : decode cX9_init 207 = .ok (.putfield 55, 3) := by decide +kernel
theorem dX9_init_210 : decode cX9_init 210 = .ok (.aload_n 0, 1) := by decide +kernel
theorem dX9_init_211 : decode cX9_init 211 = .ok (.bipush 96, 2) := by decide +kernel
theorem dX9_init_213 : decode cX9_init 213 = .ok (.newarray .int, 2) := by decide +kernel
theorem dX9_init_215 : decode cX9_init 215 = .ok (.putfield 58, 3) := by decide +kernel
theorem dX9_init_218 : decode cX9_init 218 = .ok (.aload_n 0, 1) := by decide +kernel
theorem dX9_init_219 : decode cX9_init 219 = .ok (.iconst 5, 1) := by decide +kernel
theorem dX9_init_220 : decode cX9_init 220 = .ok (.newarray .int, 2) := by decide +kernel
theorem dX9_init_222 : decode cX9_init 222 = .ok (.putfield 61, 3) := by decide +kernel
theorem dX9_init_225 : decode cX9_init 225 = .ok (.aload_n 0, 1) := by decide +kernel
theorem dX9_init_226 : decode cX9_init 226 = .ok (.iconst 5, 1) := by decide +kernel
theorem dX9_init_227 : decode cX9_init 227 = .ok (.newarray .int, 2) := by decide +kernel
theorem dX9_init_229 : decode cX9_init 229 = .ok (.putfield 64, 3) := by decide +kernel
theorem dX9_init_232 : decode cX9_init 232 = .ok (.aload_n 0, 1) := by decide +kernel
theorem dX9_init_233 : decode cX9_init 233 = .ok (.iconst 5, 1) := by decide +kernel
theorem dX9_init_234 : decode cX9_init 234 = .ok (.newarray .int, 2) := by decide +kernel
theorem dX9_init_236 : decode cX9_init 236 = .ok (.putfield 67, 3) := by decide +kernel
theorem dX9_init_239 : decode cX9_init 239 = .ok (.aload_n 0, 1) := by decide +kernel
theorem dX9_init_240 : decode cX9_init 240 = .ok (.bipush 120, 2) := by decide +kernel
theorem dX9_init_242 : decode cX9_init 242 = .ok (.newarray .int, 2) := by decide +kernel
theorem dX9_init_244 : decode cX9_init 244 = .ok (.putfield 70, 3) := by decide +kernel
theorem dX9_init_247 : decode cX9_init 247 = .ok (.aload_n 0, 1) := by decide +kernel
theorem dX9_init_248 : decode cX9_init 248 = .ok (.bipush 24, 2) := by decide +kernel
theorem dX9_init_250 : decode cX9_init 250 = .ok (.newarray .int, 2) := by decide +kernel
theorem dX9_init_252 : decode cX9_init 252 = .ok (.putfield 73, 3) := by decide +kernel
theorem dX9_init_255 : decode cX9_init 255 = .ok (.aload_n 0, 1) := by decide +kernel
theorem dX9_init_256 : decode cX9_init 256 = .ok (.bipush 60, 2) := by decide +kernel
theorem dX9_init_258 : decode cX9_init 258 = .ok (.newarray .int, 2) := by decide +kernel
theorem dX9_init_260 : decode cX9_init 260 = .ok (.putfield 76, 3) := by decide +kernel
theorem dX9_init_263 : decode cX9_init 263 = .ok (.aload_n 0, 1) := by decide +kernel
theorem dX9_init_264 : decode cX9_init 264 = .ok (.getfield 9, 3) := by decide +kernel
theorem dX9_init_267 : decode cX9_init 267 = .ok (.iconst 0, 1) := by decide +kernel
theorem dX9_init_268 : decode cX9_init 268 = .ok (.iconst 1, 1) := by decide +kernel
theorem dX9_init_269 : decode cX9_init 269 = .ok (.iastore, 1) := by decide +kernel
theorem dX9_init_270 : decode cX9_init 270 = .ok (.aload_n 0, 1) := by decide +kernel
theorem dX9_init_271 : decode cX9_init 271 = .ok (.getfield 9, 3) := by decide +kernel
theorem dX9_init_274 : decode cX9_init 274 = .ok (.iconst 3, 1) := by decide +kernel
theorem dX9_init_275 : decode cX9_init 275 = .ok (.bipush 110, 2) := by decide +kernel
theorem dX9_init_277 : decode cX9_init 277 = .ok (.iastore, 1) := by decide +kernel
theorem dX9_init_278 : decode cX9_init 278 = .ok (.aload_n 0, 1) := by decide +kernel
theorem dX9_init_279 : decode cX9_init 279 = .ok (.getfield 9, 3) := by decide +kernel
theorem dX9_init_282 : decode cX9_init 282 = .ok (.iconst 5, 1) := by decide +kernel
theorem dX9_init_283 : decode cX9_init 283 = .ok (.sipush 1000, 3) := by decide +kernel
theorem dX9_init_286 : decode cX9_init 286 = .ok (.iastore, 1) := by decide +kernel
theorem dX9_init_287 : decode cX9_init 287 = .ok (.aload_n 0, 1) := by decide +kernel
theorem dX9_init_288 : decode cX9_init 288 = .ok (.getfield 9, 3) := by decide +kernel
theorem dX9_init_291 : decode cX9_init 291 = .ok (.bipush 14, 2) := by decide +kernel
theorem dX9_init_293 : decode cX9_init 293 = .ok (.iconst (-1), 1) := by decide +kernel
theorem dX9_init_294 : decode cX9_init 294 = .ok (.iastore, 1) := by decide +kernel
theorem dX9_init_295 : decode cX9_init 295 = .ok (.return_, 1) := by decide +kernel
