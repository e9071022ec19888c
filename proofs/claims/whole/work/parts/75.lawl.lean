section LAWL
variable {p : Program} {l : Launch} {e : Env} {s : State} {mi : MethodId} {below : List Frame} {meth : Method} {c : Code} {X : TX} {b L i : Nat} {xs : Nat → Int32} {cells slots : Nat} {Q : State → Prop} {m : Mem} {H : Heap} {locs : List Loc} {ls : Array Slot}
theorem lw_lt {L k : Nat} (hL : L ≤ 3072) (hk : k ≤ 4000) : (Int32.ofNat L - 6 < nI k) ↔ L < k + 6 := by
  rw [show Int32.ofNat L = nI L from rfl]
  by_cases h : 6 ≤ L
  · rw [show nI L - 6 = nI (L - 6) from pk_sub (b := 6) h, nI_ltP (by omega) (by omega)]
    omega
  · have d : ∀ L, L < 6 → nI L - 6 < 0 := by decide
    have h1 := d L (by omega)
    constructor
    · intro _; omega
    · intro _; exact Int32.lt_of_lt_of_le h1 (nI_pos' (by omega))
theorem lw_switch (K : LC X p s mi c b L xs) (hL : L ≤ 3072) (hi : i + 6 ≤ L) (hcs : cells ≤ room_1.cells ∧ slots ≤ room_1.slots) (kk : CE X p l e s mi below meth c b i cells slots Q) (hI : Inv m) (hW : Wd X s m H locs) (hl : lv_has ls 4 [(0, .ref b), (1, .ref (ad X 0 0)), (2, .ref (ad X 20 0)), (3, .int (nI i))]) {x : Int32} : W p l e room_1 s mi #[Value.ref b] below meth c H locs cells slots Q (F0 mi 33 ls [.int x]) := by
  have C := K.1
  by_cases h0 : x = 0
  · refine lv_tableIn (tgt := 216) C.1 C.2.1 dL_33 (by rw [h0]; decide) (by rw [h0]; decide) (by rw [h0]; rfl) (by decide) ?_
    exact lw_0 K hL hi hcs kk hI hW hl
  by_cases h1 : x = 1
  · refine lv_tableIn (tgt := 259) C.1 C.2.1 dL_33 (by rw [h1]; decide) (by rw [h1]; decide) (by rw [h1]; rfl) (by decide) ?_
    exact lw_1 K hL hi hcs kk hI hW hl
  by_cases h2 : x = 2
  · refine lv_tableIn (tgt := 292) C.1 C.2.1 dL_33 (by rw [h2]; decide) (by rw [h2]; decide) (by rw [h2]; rfl) (by decide) ?_
    exact lw_2 K hL hi hcs kk hI hW hl
  by_cases h3 : x = 3
  · refine lv_tableIn (tgt := 325) C.1 C.2.1 dL_33 (by rw [h3]; decide) (by rw [h3]; decide) (by rw [h3]; rfl) (by decide) ?_
    exact lw_3 K hL hi hcs kk hI hW hl
  by_cases h4 : x = 4
  · refine lv_tableIn (tgt := 358) C.1 C.2.1 dL_33 (by rw [h4]; decide) (by rw [h4]; decide) (by rw [h4]; rfl) (by decide) ?_
    exact lw_4 K hL hi hcs kk hI hW hl
  by_cases h5 : x = 5
  · refine lv_tableIn (tgt := 401) C.1 C.2.1 dL_33 (by rw [h5]; decide) (by rw [h5]; decide) (by rw [h5]; rfl) (by decide) ?_
    exact lw_5 K hL hi hcs kk hI hW hl
  by_cases h6 : x = 6
  · refine lv_tableIn (tgt := 434) C.1 C.2.1 dL_33 (by rw [h6]; decide) (by rw [h6]; decide) (by rw [h6]; rfl) (by decide) ?_
    exact lw_6 K hL hi hcs kk hI hW hl
  by_cases h7 : x = 7
  · refine lv_tableIn (tgt := 457) C.1 C.2.1 dL_33 (by rw [h7]; decide) (by rw [h7]; decide) (by rw [h7]; rfl) (by decide) ?_
    exact lw_7 K hL hi hcs kk hI hW hl
  by_cases h8 : x = 8
  · refine lv_tableIn (tgt := 490) C.1 C.2.1 dL_33 (by rw [h8]; decide) (by rw [h8]; decide) (by rw [h8]; rfl) (by decide) ?_
    exact lw_8 K hL hi hcs kk hI hW hl
  by_cases h9 : x = 9
  · refine lv_tableIn (tgt := 513) C.1 C.2.1 dL_33 (by rw [h9]; decide) (by rw [h9]; decide) (by rw [h9]; rfl) (by decide) ?_
    exact lw_9 K hL hi hcs kk hI hW hl
  by_cases h10 : x = 10
  · refine lv_tableIn (tgt := 536) C.1 C.2.1 dL_33 (by rw [h10]; decide) (by rw [h10]; decide) (by rw [h10]; rfl) (by decide) ?_
    exact lw_10 K hL hi hcs kk hI hW hl
  by_cases h11 : x = 11
  · refine lv_tableIn (tgt := 559) C.1 C.2.1 dL_33 (by rw [h11]; decide) (by rw [h11]; decide) (by rw [h11]; rfl) (by decide) ?_
    exact lw_11 K hL hi hcs kk hI hW hl
  by_cases h12 : x = 12
  · refine lv_tableIn (tgt := 582) C.1 C.2.1 dL_33 (by rw [h12]; decide) (by rw [h12]; decide) (by rw [h12]; rfl) (by decide) ?_
    exact lw_12 K hL hi hcs kk hI hW hl
  by_cases h13 : x = 13
  · refine lv_tableIn (tgt := 615) C.1 C.2.1 dL_33 (by rw [h13]; decide) (by rw [h13]; decide) (by rw [h13]; rfl) (by decide) ?_
    exact lw_13 K hL hi hcs kk hI hW hl
  by_cases h14 : x = 14
  · refine lv_tableIn (tgt := 638) C.1 C.2.1 dL_33 (by rw [h14]; decide) (by rw [h14]; decide) (by rw [h14]; rfl) (by decide) ?_
    exact lw_14 K hL hi hcs kk hI hW hl
  by_cases h15 : x = 15
  · refine lv_tableIn (tgt := 661) C.1 C.2.1 dL_33 (by rw [h15]; decide) (by rw [h15]; decide) (by rw [h15]; rfl) (by decide) ?_
    exact lw_15 K hL hi hcs kk hI hW hl
  by_cases h16 : x = 16
  · refine lv_tableIn (tgt := 704) C.1 C.2.1 dL_33 (by rw [h16]; decide) (by rw [h16]; decide) (by rw [h16]; rfl) (by decide) ?_
    exact lw_16 K hL hi hcs kk hI hW hl
  by_cases h17 : x = 17
  · refine lv_tableIn (tgt := 737) C.1 C.2.1 dL_33 (by rw [h17]; decide) (by rw [h17]; decide) (by rw [h17]; rfl) (by decide) ?_
    exact lw_17 K hL hi hcs kk hI hW hl
  by_cases h18 : x = 18
  · refine lv_tableIn (tgt := 770) C.1 C.2.1 dL_33 (by rw [h18]; decide) (by rw [h18]; decide) (by rw [h18]; rfl) (by decide) ?_
    exact lw_18 K hL hi hcs kk hI hW hl
  by_cases h19 : x = 19
  · refine lv_tableIn (tgt := 813) C.1 C.2.1 dL_33 (by rw [h19]; decide) (by rw [h19]; decide) (by rw [h19]; rfl) (by decide) ?_
    exact lw_19 K hL hi hcs kk hI hW hl
  by_cases h20 : x = 20
  · refine lv_tableIn (tgt := 856) C.1 C.2.1 dL_33 (by rw [h20]; decide) (by rw [h20]; decide) (by rw [h20]; rfl) (by decide) ?_
    exact lw_20 K hL hi hcs kk hI hW hl
  by_cases h21 : x = 21
  · refine lv_tableIn (tgt := 889) C.1 C.2.1 dL_33 (by rw [h21]; decide) (by rw [h21]; decide) (by rw [h21]; rfl) (by decide) ?_
    exact lw_21 K hL hi hcs kk hI hW hl
  by_cases h22 : x = 22
  · refine lv_tableIn (tgt := 902) C.1 C.2.1 dL_33 (by rw [h22]; decide) (by rw [h22]; decide) (by rw [h22]; rfl) (by decide) ?_
    exact lw_22 K hL hi hcs kk hI hW hl
  by_cases h23 : x = 23
  · refine lv_tableIn (tgt := 925) C.1 C.2.1 dL_33 (by rw [h23]; decide) (by rw [h23]; decide) (by rw [h23]; rfl) (by decide) ?_
    exact lw_23 K hL hi hcs kk hI hW hl
  by_cases h24 : x = 24
  · refine lv_tableIn (tgt := 968) C.1 C.2.1 dL_33 (by rw [h24]; decide) (by rw [h24]; decide) (by rw [h24]; rfl) (by decide) ?_
    exact lw_24 K hL hi hcs kk hI hW hl
  by_cases h25 : x = 25
  · refine lv_tableIn (tgt := 991) C.1 C.2.1 dL_33 (by rw [h25]; decide) (by rw [h25]; decide) (by rw [h25]; rfl) (by decide) ?_
    exact lw_25 K hL hi hcs kk hI hW hl
  by_cases h26 : x = 26
  · refine lv_tableIn (tgt := 1004) C.1 C.2.1 dL_33 (by rw [h26]; decide) (by rw [h26]; decide) (by rw [h26]; rfl) (by decide) ?_
    exact lw_26 K hL hi hcs kk hI hW hl
  by_cases h27 : x = 27
  · refine lv_tableIn (tgt := 1037) C.1 C.2.1 dL_33 (by rw [h27]; decide) (by rw [h27]; decide) (by rw [h27]; rfl) (by decide) ?_
    exact lw_27 K hL hi hcs kk hI hW hl
  by_cases h28 : x = 28
  · refine lv_tableIn (tgt := 1060) C.1 C.2.1 dL_33 (by rw [h28]; decide) (by rw [h28]; decide) (by rw [h28]; rfl) (by decide) ?_
    exact lw_28 K hL hi hcs kk hI hW hl
  by_cases h29 : x = 29
  · refine lv_tableIn (tgt := 1103) C.1 C.2.1 dL_33 (by rw [h29]; decide) (by rw [h29]; decide) (by rw [h29]; rfl) (by decide) ?_
    exact lw_29 K hL hi hcs kk hI hW hl
  by_cases h30 : x = 30
  · refine lv_tableIn (tgt := 1146) C.1 C.2.1 dL_33 (by rw [h30]; decide) (by rw [h30]; decide) (by rw [h30]; rfl) (by decide) ?_
    exact lw_30 K hL hi hcs kk hI hW hl
  by_cases h31 : x = 31
  · refine lv_tableIn (tgt := 1169) C.1 C.2.1 dL_33 (by rw [h31]; decide) (by rw [h31]; decide) (by rw [h31]; rfl) (by decide) ?_
    exact lw_31 K hL hi hcs kk hI hW hl
  by_cases h32 : x = 32
  · refine lv_tableIn (tgt := 1192) C.1 C.2.1 dL_33 (by rw [h32]; decide) (by rw [h32]; decide) (by rw [h32]; rfl) (by decide) ?_
    exact lw_32 K hL hi hcs kk hI hW hl
  by_cases h33 : x = 33
  · refine lv_tableIn (tgt := 1255) C.1 C.2.1 dL_33 (by rw [h33]; decide) (by rw [h33]; decide) (by rw [h33]; rfl) (by decide) ?_
    exact lw_33 K hL hi hcs kk hI hW hl
  by_cases h34 : x = 34
  · refine lv_tableIn (tgt := 1298) C.1 C.2.1 dL_33 (by rw [h34]; decide) (by rw [h34]; decide) (by rw [h34]; rfl) (by decide) ?_
    exact lw_34 K hL hi hcs kk hI hW hl
  by_cases h35 : x = 35
  · refine lv_tableIn (tgt := 1331) C.1 C.2.1 dL_33 (by rw [h35]; decide) (by rw [h35]; decide) (by rw [h35]; rfl) (by decide) ?_
    exact lw_35 K hL hi hcs kk hI hW hl
  by_cases h36 : x = 36
  · refine lv_tableIn (tgt := 1364) C.1 C.2.1 dL_33 (by rw [h36]; decide) (by rw [h36]; decide) (by rw [h36]; rfl) (by decide) ?_
    exact lw_36 K hL hi hcs kk hI hW hl
  by_cases h37 : x = 37
  · refine lv_tableIn (tgt := 1397) C.1 C.2.1 dL_33 (by rw [h37]; decide) (by rw [h37]; decide) (by rw [h37]; rfl) (by decide) ?_
    exact lw_37 K hL hi hcs kk hI hW hl
  by_cases h38 : x = 38
  · refine lv_tableIn (tgt := 1420) C.1 C.2.1 dL_33 (by rw [h38]; decide) (by rw [h38]; decide) (by rw [h38]; rfl) (by decide) ?_
    exact lw_38 K hL hi hcs kk hI hW hl
  by_cases h39 : x = 39
  · refine lv_tableIn (tgt := 1443) C.1 C.2.1 dL_33 (by rw [h39]; decide) (by rw [h39]; decide) (by rw [h39]; rfl) (by decide) ?_
    exact lw_39 K hL hi hcs kk hI hW hl
  by_cases h40 : x = 40
  · refine lv_tableIn (tgt := 1456) C.1 C.2.1 dL_33 (by rw [h40]; decide) (by rw [h40]; decide) (by rw [h40]; rfl) (by decide) ?_
    exact lw_40 K hL hi hcs kk hI hW hl
  by_cases h41 : x = 41
  · refine lv_tableIn (tgt := 1469) C.1 C.2.1 dL_33 (by rw [h41]; decide) (by rw [h41]; decide) (by rw [h41]; rfl) (by decide) ?_
    exact lw_41 K hL hi hcs kk hI hW hl
  have n0 := ne_k (0) rfl h0
  have n1 := ne_k (1) rfl h1
  have n2 := ne_k (2) rfl h2
  have n3 := ne_k (3) rfl h3
  have n4 := ne_k (4) rfl h4
  have n5 := ne_k (5) rfl h5
  have n6 := ne_k (6) rfl h6
  have n7 := ne_k (7) rfl h7
  have n8 := ne_k (8) rfl h8
  have n9 := ne_k (9) rfl h9
  have n10 := ne_k (10) rfl h10
  have n11 := ne_k (11) rfl h11
  have n12 := ne_k (12) rfl h12
  have n13 := ne_k (13) rfl h13
  have n14 := ne_k (14) rfl h14
  have n15 := ne_k (15) rfl h15
  have n16 := ne_k (16) rfl h16
  have n17 := ne_k (17) rfl h17
  have n18 := ne_k (18) rfl h18
  have n19 := ne_k (19) rfl h19
  have n20 := ne_k (20) rfl h20
  have n21 := ne_k (21) rfl h21
  have n22 := ne_k (22) rfl h22
  have n23 := ne_k (23) rfl h23
  have n24 := ne_k (24) rfl h24
  have n25 := ne_k (25) rfl h25
  have n26 := ne_k (26) rfl h26
  have n27 := ne_k (27) rfl h27
  have n28 := ne_k (28) rfl h28
  have n29 := ne_k (29) rfl h29
  have n30 := ne_k (30) rfl h30
  have n31 := ne_k (31) rfl h31
  have n32 := ne_k (32) rfl h32
  have n33 := ne_k (33) rfl h33
  have n34 := ne_k (34) rfl h34
  have n35 := ne_k (35) rfl h35
  have n36 := ne_k (36) rfl h36
  have n37 := ne_k (37) rfl h37
  have n38 := ne_k (38) rfl h38
  have n39 := ne_k (39) rfl h39
  have n40 := ne_k (40) rfl h40
  have n41 := ne_k (41) rfl h41
  refine lv_tableOut (tgt := 1492) C.1 C.2.1 dL_33 (by omega) (by decide) ?_
  exact kk m H locs ls hI hW hl
theorem lw_loop (K : LC X p s mi c b L xs) (hL : L ≤ 3072) (hcs : cells ≤ room_1.cells ∧ slots ≤ room_1.slots) (hend : ∀ (H : Heap) (locs : List Loc) (ls : Array Slot) (m : Mem), Wd X s m H locs → W p l e room_1 s mi #[Value.ref b] below meth c H locs cells slots Q (F0 mi 1499 ls [.int 1])) : ∀ (n i : Nat) (m : Mem) (H : Heap) (locs : List Loc) (ls : Array Slot), i ≤ 3072 → 3073 ≤ i + n → Inv m → Wd X s m H locs → lv_has ls 4 [(0, .ref b), (1, .ref (ad X 0 0)), (2, .ref (ad X 20 0)), (3, .int (nI i))] → W p l e room_1 s mi #[Value.ref b] below meth c H locs cells slots Q (F0 mi 18 ls []) := by
  have C := K.1
  obtain ⟨-, hX, hbl, hbA⟩ := K
  intro n
  induction n with
  | zero => intro i m H locs ls h1 h2; omega
  | succ n ih =>
    intro i m H locs ls hi hn hI hW hl
    refine lv_iload_n C.1 C.2.1 dL_18 rfl (lv_at hl 3 rfl) ?_
    refine lv_aload_n C.1 C.2.1 dL_19 rfl (lv_at hl 0 rfl) ?_
    refine va_slen C.1 C.2.1 hX hbl hbA hW.2 dL_20 ?_
    refine lv_bipush (v := 6) C.1 C.2.1 dL_21 rfl ?_
    refine lv_isub C.1 C.2.1 dL_23 ?_
    refine lv_icmp_gt (tgt := 1498) C.1 C.2.1 dL_24 (by decide) (fun _ => ?_) (fun hc => ?_)
    · refine lv_iconst (v := 1) C.1 C.2.1 dL_1498 rfl ?_
      exact hend H locs ls m hW
    · have h6 : i + 6 ≤ L := by
        have := mt (lw_lt hL (by omega)).mpr hc
        omega
      refine lv_aload_n C.1 C.2.1 dL_27 rfl (lv_at hl 0 rfl) ?_
      refine lv_iload_n C.1 C.2.1 dL_28 rfl (lv_at hl 3 rfl) ?_
      refine va_sld C.1 C.2.1 hX hbl hbA hW.2 (vp_in_nI (by omega) (by omega)) dL_29 ?_
      refine lv_bipush (v := 63) C.1 C.2.1 dL_30 rfl ?_
      refine lv_iand C.1 C.2.1 dL_32 ?_
      refine lw_switch ⟨C, hX, hbl, hbA⟩ hL h6 hcs (fun m H locs ls hI hW hl => ?_) hI hW hl
      refine lv_iinc (v := nI (i + 6)) (lv' := [(3, .int (nI (i + 6))), (0, .ref b), (1, .ref (ad X 0 0)), (2, .ref (ad X 20 0))]) C.1 C.2.1 dL_1492 hl (k := 3) rfl (nI_add i 6) (by decide) rfl (fun ls hl => ?_)
      refine lv_goto (tgt := 18) C.1 C.2.1 dL_1495 (by decide) ?_
      exact ih (i + 6) m H locs ls (by omega) (by omega) hI hW (lv_sub hl [1, 2, 3, 0] rfl)
end LAWL
