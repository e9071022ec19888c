section LAW
variable {p : Program} {l : Launch} {e : Env} {s : State} {mi : MethodId} {below : List Frame} {meth : Method} {c : Code} {X : TX} {b L i : Nat} {xs : Nat → Int32} {cells slots : Nat} {Q : State → Prop} {m : Mem} {H : Heap} {locs : List Loc} {ls : Array Slot}
theorem lw_14 (K : LC X p s mi c b L xs) (hL : L ≤ 3072) (hi : i + 6 ≤ L) (hcs : cells ≤ room_1.cells ∧ slots ≤ room_1.slots) (kk : CE X p l e s mi below meth c b i cells slots Q) (hI : Inv m) (hW : Wd X s m H locs) (hl : lv_has ls 4 [(0, .ref b), (1, .ref (ad X 0 0)), (2, .ref (ad X 20 0)), (3, .int (nI i))]) : W p l e room_1 s mi #[Value.ref b] below meth c H locs cells slots Q (F0 mi 638 ls []) := by
  obtain ⟨C, hX, hbl, hbA⟩ := K
  obtain ⟨r, m1, m2, e1, e2, hI2⟩ := op_hole (fu := 2000) (x1 := (xs (nI i + 1).toNatClampNeg)) (by decide)  hI
  refine lv_aload_n C.1 C.2.1 dL_638 rfl (lv_at hl 1 rfl) ?_
  refine lv_aload_n C.1 C.2.1 dL_639 rfl (lv_at hl 0 rfl) ?_
  refine lv_iload_n C.1 C.2.1 dL_640 rfl (lv_at hl 3 rfl) ?_
  refine lv_iconst (v := 1) C.1 C.2.1 dL_641 rfl ?_
  refine lv_iadd C.1 C.2.1 dL_642 ?_
  refine va_sld C.1 C.2.1 hX hbl hbA hW.2 (in_1 hi hL) dL_643 ?_
  refine zr_cVI C hW (c_X8_hole (X := X) (l := l) e1) k_X8_hole (zr_recv C hW id_0 zco_0 rfl) w_606 ⟨Nat.le_of_ble_eq_true rfl, Nat.le_of_ble_eq_true rfl⟩ hcs rfl hl.1 (rest := []) rfl (Nat.le_of_ble_eq_true rfl) dL_644 (fun H locs hW => ?_)
  refine lv_aload_n C.1 C.2.1 dL_647 rfl (lv_at hl 2 rfl) ?_
  refine lv_aload_n C.1 C.2.1 dL_648 rfl (lv_at hl 0 rfl) ?_
  refine lv_iload_n C.1 C.2.1 dL_649 rfl (lv_at hl 3 rfl) ?_
  refine lv_iconst (v := 1) C.1 C.2.1 dL_650 rfl ?_
  refine lv_iadd C.1 C.2.1 dL_651 ?_
  refine va_sld C.1 C.2.1 hX hbl hbA hW.2 (in_1 hi hL) dL_652 ?_
  refine zr_cVI C hW (c_X9_hole (X := X) (l := l) e2) k_X9_hole (zr_recv C hW id_20 zco_20 rfl) w_1285 ⟨Nat.le_of_ble_eq_true rfl, Nat.le_of_ble_eq_true rfl⟩ hcs rfl hl.1 (rest := [.int r]) rfl (Nat.le_of_ble_eq_true rfl) dL_653 (fun H locs hW => ?_)
  refine lv_icmp_eq (tgt := 1492) C.1 C.2.1 dL_656 (by decide) (fun _ => ?_) (fun hc => absurd rfl hc)
  exact kk m2 H locs ls hI2 hW hl
theorem lw_15 (K : LC X p s mi c b L xs) (hL : L ≤ 3072) (hi : i + 6 ≤ L) (hcs : cells ≤ room_1.cells ∧ slots ≤ room_1.slots) (kk : CE X p l e s mi below meth c b i cells slots Q) (hI : Inv m) (hW : Wd X s m H locs) (hl : lv_has ls 4 [(0, .ref b), (1, .ref (ad X 0 0)), (2, .ref (ad X 20 0)), (3, .int (nI i))]) : W p l e room_1 s mi #[Value.ref b] below meth c H locs cells slots Q (F0 mi 661 ls []) := by
  obtain ⟨C, hX, hbl, hbA⟩ := K
  obtain ⟨r, m1, m2, e1, e2, hI2⟩ := op_patience (fu := 2000) (x1 := (xs (nI i + 1).toNatClampNeg)) (x2 := (xs (nI i + 2).toNatClampNeg)) (x3 := (xs (nI i + 3).toNatClampNeg)) (by decide)  hI
  refine lv_aload_n C.1 C.2.1 dL_661 rfl (lv_at hl 1 rfl) ?_
  refine lv_aload_n C.1 C.2.1 dL_662 rfl (lv_at hl 0 rfl) ?_
  refine lv_iload_n C.1 C.2.1 dL_663 rfl (lv_at hl 3 rfl) ?_
  refine lv_iconst (v := 1) C.1 C.2.1 dL_664 rfl ?_
  refine lv_iadd C.1 C.2.1 dL_665 ?_
  refine va_sld C.1 C.2.1 hX hbl hbA hW.2 (in_1 hi hL) dL_666 ?_
  refine lv_aload_n C.1 C.2.1 dL_667 rfl (lv_at hl 0 rfl) ?_
  refine lv_iload_n C.1 C.2.1 dL_668 rfl (lv_at hl 3 rfl) ?_
  refine lv_iconst (v := 2) C.1 C.2.1 dL_669 rfl ?_
  refine lv_iadd C.1 C.2.1 dL_670 ?_
  refine va_sld C.1 C.2.1 hX hbl hbA hW.2 (in_2 hi hL) dL_671 ?_
  refine lv_aload_n C.1 C.2.1 dL_672 rfl (lv_at hl 0 rfl) ?_
  refine lv_iload_n C.1 C.2.1 dL_673 rfl (lv_at hl 3 rfl) ?_
  refine lv_iconst (v := 3) C.1 C.2.1 dL_674 rfl ?_
  refine lv_iadd C.1 C.2.1 dL_675 ?_
  refine va_sld C.1 C.2.1 hX hbl hbA hW.2 (in_3 hi hL) dL_676 ?_
  refine zr_cVI C hW (c_X8_patience (X := X) (l := l) e1) k_X8_patience (zr_recv C hW id_0 zco_0 rfl) w_612 ⟨Nat.le_of_ble_eq_true rfl, Nat.le_of_ble_eq_true rfl⟩ hcs rfl hl.1 (rest := []) rfl (Nat.le_of_ble_eq_true rfl) dL_677 (fun H locs hW => ?_)
  refine lv_aload_n C.1 C.2.1 dL_680 rfl (lv_at hl 2 rfl) ?_
  refine lv_aload_n C.1 C.2.1 dL_681 rfl (lv_at hl 0 rfl) ?_
  refine lv_iload_n C.1 C.2.1 dL_682 rfl (lv_at hl 3 rfl) ?_
  refine lv_iconst (v := 1) C.1 C.2.1 dL_683 rfl ?_
  refine lv_iadd C.1 C.2.1 dL_684 ?_
  refine va_sld C.1 C.2.1 hX hbl hbA hW.2 (in_1 hi hL) dL_685 ?_
  refine lv_aload_n C.1 C.2.1 dL_686 rfl (lv_at hl 0 rfl) ?_
  refine lv_iload_n C.1 C.2.1 dL_687 rfl (lv_at hl 3 rfl) ?_
  refine lv_iconst (v := 2) C.1 C.2.1 dL_688 rfl ?_
  refine lv_iadd C.1 C.2.1 dL_689 ?_
  refine va_sld C.1 C.2.1 hX hbl hbA hW.2 (in_2 hi hL) dL_690 ?_
  refine lv_aload_n C.1 C.2.1 dL_691 rfl (lv_at hl 0 rfl) ?_
  refine lv_iload_n C.1 C.2.1 dL_692 rfl (lv_at hl 3 rfl) ?_
  refine lv_iconst (v := 3) C.1 C.2.1 dL_693 rfl ?_
  refine lv_iadd C.1 C.2.1 dL_694 ?_
  refine va_sld C.1 C.2.1 hX hbl hbA hW.2 (in_3 hi hL) dL_695 ?_
  refine zr_cVI C hW (c_X9_patience (X := X) (l := l) e2) k_X9_patience (zr_recv C hW id_20 zco_20 rfl) w_1289 ⟨Nat.le_of_ble_eq_true rfl, Nat.le_of_ble_eq_true rfl⟩ hcs rfl hl.1 (rest := [.int r]) rfl (Nat.le_of_ble_eq_true rfl) dL_696 (fun H locs hW => ?_)
  refine lv_icmp_eq (tgt := 1492) C.1 C.2.1 dL_699 (by decide) (fun _ => ?_) (fun hc => absurd rfl hc)
  exact kk m2 H locs ls hI2 hW hl
theorem lw_16 (K : LC X p s mi c b L xs) (hL : L ≤ 3072) (hi : i + 6 ≤ L) (hcs : cells ≤ room_1.cells ∧ slots ≤ room_1.slots) (kk : CE X p l e s mi below meth c b i cells slots Q) (hI : Inv m) (hW : Wd X s m H locs) (hl : lv_has ls 4 [(0, .ref b), (1, .ref (ad X 0 0)), (2, .ref (ad X 20 0)), (3, .int (nI i))]) : W p l e room_1 s mi #[Value.ref b] below meth c H locs cells slots Q (F0 mi 704 ls []) := by
  obtain ⟨C, hX, hbl, hbA⟩ := K
  obtain ⟨r, m1, m2, e1, e2, hI2⟩ := op_device (fu := 2000) (x1 := (xs (nI i + 1).toNatClampNeg)) (x2 := (xs (nI i + 2).toNatClampNeg)) (by decide)  hI
  refine lv_aload_n C.1 C.2.1 dL_704 rfl (lv_at hl 1 rfl) ?_
  refine lv_aload_n C.1 C.2.1 dL_705 rfl (lv_at hl 0 rfl) ?_
  refine lv_iload_n C.1 C.2.1 dL_706 rfl (lv_at hl 3 rfl) ?_
  refine lv_iconst (v := 1) C.1 C.2.1 dL_707 rfl ?_
  refine lv_iadd C.1 C.2.1 dL_708 ?_
  refine va_sld C.1 C.2.1 hX hbl hbA hW.2 (in_1 hi hL) dL_709 ?_
  refine lv_aload_n C.1 C.2.1 dL_710 rfl (lv_at hl 0 rfl) ?_
  refine lv_iload_n C.1 C.2.1 dL_711 rfl (lv_at hl 3 rfl) ?_
  refine lv_iconst (v := 2) C.1 C.2.1 dL_712 rfl ?_
  refine lv_iadd C.1 C.2.1 dL_713 ?_
  refine va_sld C.1 C.2.1 hX hbl hbA hW.2 (in_2 hi hL) dL_714 ?_
  refine zr_cVI C hW (c_X8_device (X := X) (l := l) e1) k_X8_device (zr_recv C hW id_0 zco_0 rfl) w_631 ⟨Nat.le_of_ble_eq_true rfl, Nat.le_of_ble_eq_true rfl⟩ hcs rfl hl.1 (rest := []) rfl (Nat.le_of_ble_eq_true rfl) dL_715 (fun H locs hW => ?_)
  refine lv_aload_n C.1 C.2.1 dL_718 rfl (lv_at hl 2 rfl) ?_
  refine lv_aload_n C.1 C.2.1 dL_719 rfl (lv_at hl 0 rfl) ?_
  refine lv_iload_n C.1 C.2.1 dL_720 rfl (lv_at hl 3 rfl) ?_
  refine lv_iconst (v := 1) C.1 C.2.1 dL_721 rfl ?_
  refine lv_iadd C.1 C.2.1 dL_722 ?_
  refine va_sld C.1 C.2.1 hX hbl hbA hW.2 (in_1 hi hL) dL_723 ?_
  refine lv_aload_n C.1 C.2.1 dL_724 rfl (lv_at hl 0 rfl) ?_
  refine lv_iload_n C.1 C.2.1 dL_725 rfl (lv_at hl 3 rfl) ?_
  refine lv_iconst (v := 2) C.1 C.2.1 dL_726 rfl ?_
  refine lv_iadd C.1 C.2.1 dL_727 ?_
  refine va_sld C.1 C.2.1 hX hbl hbA hW.2 (in_2 hi hL) dL_728 ?_
  refine zr_cVI C hW (c_X9_device (X := X) (l := l) e2) k_X9_device (zr_recv C hW id_20 zco_20 rfl) w_1300 ⟨Nat.le_of_ble_eq_true rfl, Nat.le_of_ble_eq_true rfl⟩ hcs rfl hl.1 (rest := [.int r]) rfl (Nat.le_of_ble_eq_true rfl) dL_729 (fun H locs hW => ?_)
  refine lv_icmp_eq (tgt := 1492) C.1 C.2.1 dL_732 (by decide) (fun _ => ?_) (fun hc => absurd rfl hc)
  exact kk m2 H locs ls hI2 hW hl
theorem lw_17 (K : LC X p s mi c b L xs) (hL : L ≤ 3072) (hi : i + 6 ≤ L) (hcs : cells ≤ room_1.cells ∧ slots ≤ room_1.slots) (kk : CE X p l e s mi below meth c b i cells slots Q) (hI : Inv m) (hW : Wd X s m H locs) (hl : lv_has ls 4 [(0, .ref b), (1, .ref (ad X 0 0)), (2, .ref (ad X 20 0)), (3, .int (nI i))]) : W p l e room_1 s mi #[Value.ref b] below meth c H locs cells slots Q (F0 mi 737 ls []) := by
  obtain ⟨C, hX, hbl, hbA⟩ := K
  obtain ⟨r, m1, m2, e1, e2, hI2⟩ := op_filler (fu := 2000) (x1 := (xs (nI i + 1).toNatClampNeg)) (x2 := (xs (nI i + 2).toNatClampNeg)) (by decide)  hI
  refine lv_aload_n C.1 C.2.1 dL_737 rfl (lv_at hl 1 rfl) ?_
  refine lv_aload_n C.1 C.2.1 dL_738 rfl (lv_at hl 0 rfl) ?_
  refine lv_iload_n C.1 C.2.1 dL_739 rfl (lv_at hl 3 rfl) ?_
  refine lv_iconst (v := 1) C.1 C.2.1 dL_740 rfl ?_
  refine lv_iadd C.1 C.2.1 dL_741 ?_
  refine va_sld C.1 C.2.1 hX hbl hbA hW.2 (in_1 hi hL) dL_742 ?_
  refine lv_aload_n C.1 C.2.1 dL_743 rfl (lv_at hl 0 rfl) ?_
  refine lv_iload_n C.1 C.2.1 dL_744 rfl (lv_at hl 3 rfl) ?_
  refine lv_iconst (v := 2) C.1 C.2.1 dL_745 rfl ?_
  refine lv_iadd C.1 C.2.1 dL_746 ?_
  refine va_sld C.1 C.2.1 hX hbl hbA hW.2 (in_2 hi hL) dL_747 ?_
  refine zr_cVI C hW (c_X8_filler (X := X) (l := l) e1) k_X8_filler (zr_recv C hW id_0 zco_0 rfl) w_635 ⟨Nat.le_of_ble_eq_true rfl, Nat.le_of_ble_eq_true rfl⟩ hcs rfl hl.1 (rest := []) rfl (Nat.le_of_ble_eq_true rfl) dL_748 (fun H locs hW => ?_)
  refine lv_aload_n C.1 C.2.1 dL_751 rfl (lv_at hl 2 rfl) ?_
  refine lv_aload_n C.1 C.2.1 dL_752 rfl (lv_at hl 0 rfl) ?_
  refine lv_iload_n C.1 C.2.1 dL_753 rfl (lv_at hl 3 rfl) ?_
  refine lv_iconst (v := 1) C.1 C.2.1 dL_754 rfl ?_
  refine lv_iadd C.1 C.2.1 dL_755 ?_
  refine va_sld C.1 C.2.1 hX hbl hbA hW.2 (in_1 hi hL) dL_756 ?_
  refine lv_aload_n C.1 C.2.1 dL_757 rfl (lv_at hl 0 rfl) ?_
  refine lv_iload_n C.1 C.2.1 dL_758 rfl (lv_at hl 3 rfl) ?_
  refine lv_iconst (v := 2) C.1 C.2.1 dL_759 rfl ?_
  refine lv_iadd C.1 C.2.1 dL_760 ?_
  refine va_sld C.1 C.2.1 hX hbl hbA hW.2 (in_2 hi hL) dL_761 ?_
  refine zr_cVI C hW (c_X9_filler (X := X) (l := l) e2) k_X9_filler (zr_recv C hW id_20 zco_20 rfl) w_1304 ⟨Nat.le_of_ble_eq_true rfl, Nat.le_of_ble_eq_true rfl⟩ hcs rfl hl.1 (rest := [.int r]) rfl (Nat.le_of_ble_eq_true rfl) dL_762 (fun H locs hW => ?_)
  refine lv_icmp_eq (tgt := 1492) C.1 C.2.1 dL_765 (by decide) (fun _ => ?_) (fun hc => absurd rfl hc)
  exact kk m2 H locs ls hI2 hW hl
theorem lw_18 (K : LC X p s mi c b L xs) (hL : L ≤ 3072) (hi : i + 6 ≤ L) (hcs : cells ≤ room_1.cells ∧ slots ≤ room_1.slots) (kk : CE X p l e s mi below meth c b i cells slots Q) (hI : Inv m) (hW : Wd X s m H locs) (hl : lv_has ls 4 [(0, .ref b), (1, .ref (ad X 0 0)), (2, .ref (ad X 20 0)), (3, .int (nI i))]) : W p l e room_1 s mi #[Value.ref b] below meth c H locs cells slots Q (F0 mi 770 ls []) := by
  obtain ⟨C, hX, hbl, hbA⟩ := K
  obtain ⟨r, m1, m2, e1, e2, hI2⟩ := op_becomes (fu := 2000) (x1 := (xs (nI i + 1).toNatClampNeg)) (x2 := (xs (nI i + 2).toNatClampNeg)) (x3 := (xs (nI i + 3).toNatClampNeg)) (by decide)  hI
  refine lv_aload_n C.1 C.2.1 dL_770 rfl (lv_at hl 1 rfl) ?_
  refine lv_aload_n C.1 C.2.1 dL_771 rfl (lv_at hl 0 rfl) ?_
  refine lv_iload_n C.1 C.2.1 dL_772 rfl (lv_at hl 3 rfl) ?_
  refine lv_iconst (v := 1) C.1 C.2.1 dL_773 rfl ?_
  refine lv_iadd C.1 C.2.1 dL_774 ?_
  refine va_sld C.1 C.2.1 hX hbl hbA hW.2 (in_1 hi hL) dL_775 ?_
  refine lv_aload_n C.1 C.2.1 dL_776 rfl (lv_at hl 0 rfl) ?_
  refine lv_iload_n C.1 C.2.1 dL_777 rfl (lv_at hl 3 rfl) ?_
  refine lv_iconst (v := 2) C.1 C.2.1 dL_778 rfl ?_
  refine lv_iadd C.1 C.2.1 dL_779 ?_
  refine va_sld C.1 C.2.1 hX hbl hbA hW.2 (in_2 hi hL) dL_780 ?_
  refine lv_aload_n C.1 C.2.1 dL_781 rfl (lv_at hl 0 rfl) ?_
  refine lv_iload_n C.1 C.2.1 dL_782 rfl (lv_at hl 3 rfl) ?_
  refine lv_iconst (v := 3) C.1 C.2.1 dL_783 rfl ?_
  refine lv_iadd C.1 C.2.1 dL_784 ?_
  refine va_sld C.1 C.2.1 hX hbl hbA hW.2 (in_3 hi hL) dL_785 ?_
  refine zr_cVI C hW (c_X8_becomes (X := X) (l := l) e1) k_X8_becomes (zr_recv C hW id_0 zco_0 rfl) w_639 ⟨Nat.le_of_ble_eq_true rfl, Nat.le_of_ble_eq_true rfl⟩ hcs rfl hl.1 (rest := []) rfl (Nat.le_of_ble_eq_true rfl) dL_786 (fun H locs hW => ?_)
  refine lv_aload_n C.1 C.2.1 dL_789 rfl (lv_at hl 2 rfl) ?_
  refine lv_aload_n C.1 C.2.1 dL_790 rfl (lv_at hl 0 rfl) ?_
  refine lv_iload_n C.1 C.2.1 dL_791 rfl (lv_at hl 3 rfl) ?_
  refine lv_iconst (v := 1) C.1 C.2.1 dL_792 rfl ?_
  refine lv_iadd C.1 C.2.1 dL_793 ?_
  refine va_sld C.1 C.2.1 hX hbl hbA hW.2 (in_1 hi hL) dL_794 ?_
  refine lv_aload_n C.1 C.2.1 dL_795 rfl (lv_at hl 0 rfl) ?_
  refine lv_iload_n C.1 C.2.1 dL_796 rfl (lv_at hl 3 rfl) ?_
  refine lv_iconst (v := 2) C.1 C.2.1 dL_797 rfl ?_
  refine lv_iadd C.1 C.2.1 dL_798 ?_
  refine va_sld C.1 C.2.1 hX hbl hbA hW.2 (in_2 hi hL) dL_799 ?_
  refine lv_aload_n C.1 C.2.1 dL_800 rfl (lv_at hl 0 rfl) ?_
  refine lv_iload_n C.1 C.2.1 dL_801 rfl (lv_at hl 3 rfl) ?_
  refine lv_iconst (v := 3) C.1 C.2.1 dL_802 rfl ?_
  refine lv_iadd C.1 C.2.1 dL_803 ?_
  refine va_sld C.1 C.2.1 hX hbl hbA hW.2 (in_3 hi hL) dL_804 ?_
  refine zr_cVI C hW (c_X9_becomes (X := X) (l := l) e2) k_X9_becomes (zr_recv C hW id_20 zco_20 rfl) w_1308 ⟨Nat.le_of_ble_eq_true rfl, Nat.le_of_ble_eq_true rfl⟩ hcs rfl hl.1 (rest := [.int r]) rfl (Nat.le_of_ble_eq_true rfl) dL_805 (fun H locs hW => ?_)
  refine lv_icmp_eq (tgt := 1492) C.1 C.2.1 dL_808 (by decide) (fun _ => ?_) (fun hc => absurd rfl hc)
  exact kk m2 H locs ls hI2 hW hl
theorem lw_19 (K : LC X p s mi c b L xs) (hL : L ≤ 3072) (hi : i + 6 ≤ L) (hcs : cells ≤ room_1.cells ∧ slots ≤ room_1.slots) (kk : CE X p l e s mi below meth c b i cells slots Q) (hI : Inv m) (hW : Wd X s m H locs) (hl : lv_has ls 4 [(0, .ref b), (1, .ref (ad X 0 0)), (2, .ref (ad X 20 0)), (3, .int (nI i))]) : W p l e room_1 s mi #[Value.ref b] below meth c H locs cells slots Q (F0 mi 813 ls []) := by
  obtain ⟨C, hX, hbl, hbA⟩ := K
  obtain ⟨r, m1, m2, e1, e2, hI2⟩ := op_apart (fu := 2000) (x1 := (xs (nI i + 1).toNatClampNeg)) (x2 := (xs (nI i + 2).toNatClampNeg)) (x3 := (xs (nI i + 3).toNatClampNeg)) (by decide)  hI
  refine lv_aload_n C.1 C.2.1 dL_813 rfl (lv_at hl 1 rfl) ?_
  refine lv_aload_n C.1 C.2.1 dL_814 rfl (lv_at hl 0 rfl) ?_
  refine lv_iload_n C.1 C.2.1 dL_815 rfl (lv_at hl 3 rfl) ?_
  refine lv_iconst (v := 1) C.1 C.2.1 dL_816 rfl ?_
  refine lv_iadd C.1 C.2.1 dL_817 ?_
  refine va_sld C.1 C.2.1 hX hbl hbA hW.2 (in_1 hi hL) dL_818 ?_
  refine lv_aload_n C.1 C.2.1 dL_819 rfl (lv_at hl 0 rfl) ?_
  refine lv_iload_n C.1 C.2.1 dL_820 rfl (lv_at hl 3 rfl) ?_
  refine lv_iconst (v := 2) C.1 C.2.1 dL_821 rfl ?_
  refine lv_iadd C.1 C.2.1 dL_822 ?_
  refine va_sld C.1 C.2.1 hX hbl hbA hW.2 (in_2 hi hL) dL_823 ?_
  refine lv_aload_n C.1 C.2.1 dL_824 rfl (lv_at hl 0 rfl) ?_
  refine lv_iload_n C.1 C.2.1 dL_825 rfl (lv_at hl 3 rfl) ?_
  refine lv_iconst (v := 3) C.1 C.2.1 dL_826 rfl ?_
  refine lv_iadd C.1 C.2.1 dL_827 ?_
  refine va_sld C.1 C.2.1 hX hbl hbA hW.2 (in_3 hi hL) dL_828 ?_
  refine zr_cVI C hW (c_X8_apart (X := X) (l := l) e1) k_X8_apart (zr_recv C hW id_0 zco_0 rfl) w_643 ⟨Nat.le_of_ble_eq_true rfl, Nat.le_of_ble_eq_true rfl⟩ hcs rfl hl.1 (rest := []) rfl (Nat.le_of_ble_eq_true rfl) dL_829 (fun H locs hW => ?_)
  refine lv_aload_n C.1 C.2.1 dL_832 rfl (lv_at hl 2 rfl) ?_
  refine lv_aload_n C.1 C.2.1 dL_833 rfl (lv_at hl 0 rfl) ?_
  refine lv_iload_n C.1 C.2.1 dL_834 rfl (lv_at hl 3 rfl) ?_
  refine lv_iconst (v := 1) C.1 C.2.1 dL_835 rfl ?_
  refine lv_iadd C.1 C.2.1 dL_836 ?_
  refine va_sld C.1 C.2.1 hX hbl hbA hW.2 (in_1 hi hL) dL_837 ?_
  refine lv_aload_n C.1 C.2.1 dL_838 rfl (lv_at hl 0 rfl) ?_
  refine lv_iload_n C.1 C.2.1 dL_839 rfl (lv_at hl 3 rfl) ?_
  refine lv_iconst (v := 2) C.1 C.2.1 dL_840 rfl ?_
  refine lv_iadd C.1 C.2.1 dL_841 ?_
  refine va_sld C.1 C.2.1 hX hbl hbA hW.2 (in_2 hi hL) dL_842 ?_
  refine lv_aload_n C.1 C.2.1 dL_843 rfl (lv_at hl 0 rfl) ?_
  refine lv_iload_n C.1 C.2.1 dL_844 rfl (lv_at hl 3 rfl) ?_
  refine lv_iconst (v := 3) C.1 C.2.1 dL_845 rfl ?_
  refine lv_iadd C.1 C.2.1 dL_846 ?_
  refine va_sld C.1 C.2.1 hX hbl hbA hW.2 (in_3 hi hL) dL_847 ?_
  refine zr_cVI C hW (c_X9_apart (X := X) (l := l) e2) k_X9_apart (zr_recv C hW id_20 zco_20 rfl) w_1312 ⟨Nat.le_of_ble_eq_true rfl, Nat.le_of_ble_eq_true rfl⟩ hcs rfl hl.1 (rest := [.int r]) rfl (Nat.le_of_ble_eq_true rfl) dL_848 (fun H locs hW => ?_)
  refine lv_icmp_eq (tgt := 1492) C.1 C.2.1 dL_851 (by decide) (fun _ => ?_) (fun hc => absurd rfl hc)
  exact kk m2 H locs ls hI2 hW hl
theorem lw_20 (K : LC X p s mi c b L xs) (hL : L ≤ 3072) (hi : i + 6 ≤ L) (hcs : cells ≤ room_1.cells ∧ slots ≤ room_1.slots) (kk : CE X p l e s mi below meth c b i cells slots Q) (hI : Inv m) (hW : Wd X s m H locs) (hl : lv_has ls 4 [(0, .ref b), (1, .ref (ad X 0 0)), (2, .ref (ad X 20 0)), (3, .int (nI i))]) : W p l e room_1 s mi #[Value.ref b] below meth c H locs cells slots Q (F0 mi 856 ls []) := by
  obtain ⟨C, hX, hbl, hbA⟩ := K
  obtain ⟨r, m1, m2, e1, e2, hI2⟩ := op_whose (fu := 2000) (x1 := (xs (nI i + 1).toNatClampNeg)) (x2 := (xs (nI i + 2).toNatClampNeg)) (by decide)  hI
  refine lv_aload_n C.1 C.2.1 dL_856 rfl (lv_at hl 1 rfl) ?_
  refine lv_aload_n C.1 C.2.1 dL_857 rfl (lv_at hl 0 rfl) ?_
  refine lv_iload_n C.1 C.2.1 dL_858 rfl (lv_at hl 3 rfl) ?_
  refine lv_iconst (v := 1) C.1 C.2.1 dL_859 rfl ?_
  refine lv_iadd C.1 C.2.1 dL_860 ?_
  refine va_sld C.1 C.2.1 hX hbl hbA hW.2 (in_1 hi hL) dL_861 ?_
  refine lv_aload_n C.1 C.2.1 dL_862 rfl (lv_at hl 0 rfl) ?_
  refine lv_iload_n C.1 C.2.1 dL_863 rfl (lv_at hl 3 rfl) ?_
  refine lv_iconst (v := 2) C.1 C.2.1 dL_864 rfl ?_
  refine lv_iadd C.1 C.2.1 dL_865 ?_
  refine va_sld C.1 C.2.1 hX hbl hbA hW.2 (in_2 hi hL) dL_866 ?_
  refine zr_cVI C hW (c_X8_whose (X := X) (l := l) e1) k_X8_whose (zr_recv C hW id_0 zco_0 rfl) w_647 ⟨Nat.le_of_ble_eq_true rfl, Nat.le_of_ble_eq_true rfl⟩ hcs rfl hl.1 (rest := []) rfl (Nat.le_of_ble_eq_true rfl) dL_867 (fun H locs hW => ?_)
  refine lv_aload_n C.1 C.2.1 dL_870 rfl (lv_at hl 2 rfl) ?_
  refine lv_aload_n C.1 C.2.1 dL_871 rfl (lv_at hl 0 rfl) ?_
  refine lv_iload_n C.1 C.2.1 dL_872 rfl (lv_at hl 3 rfl) ?_
  refine lv_iconst (v := 1) C.1 C.2.1 dL_873 rfl ?_
  refine lv_iadd C.1 C.2.1 dL_874 ?_
  refine va_sld C.1 C.2.1 hX hbl hbA hW.2 (in_1 hi hL) dL_875 ?_
  refine lv_aload_n C.1 C.2.1 dL_876 rfl (lv_at hl 0 rfl) ?_
  refine lv_iload_n C.1 C.2.1 dL_877 rfl (lv_at hl 3 rfl) ?_
  refine lv_iconst (v := 2) C.1 C.2.1 dL_878 rfl ?_
  refine lv_iadd C.1 C.2.1 dL_879 ?_
  refine va_sld C.1 C.2.1 hX hbl hbA hW.2 (in_2 hi hL) dL_880 ?_
  refine zr_cVI C hW (c_X9_whose (X := X) (l := l) e2) k_X9_whose (zr_recv C hW id_20 zco_20 rfl) w_1316 ⟨Nat.le_of_ble_eq_true rfl, Nat.le_of_ble_eq_true rfl⟩ hcs rfl hl.1 (rest := [.int r]) rfl (Nat.le_of_ble_eq_true rfl) dL_881 (fun H locs hW => ?_)
  refine lv_icmp_eq (tgt := 1492) C.1 C.2.1 dL_884 (by decide) (fun _ => ?_) (fun hc => absurd rfl hc)
  exact kk m2 H locs ls hI2 hW hl
theorem lw_21 (K : LC X p s mi c b L xs) (hL : L ≤ 3072) (hi : i + 6 ≤ L) (hcs : cells ≤ room_1.cells ∧ slots ≤ room_1.slots) (kk : CE X p l e s mi below meth c b i cells slots Q) (hI : Inv m) (hW : Wd X s m H locs) (hl : lv_has ls 4 [(0, .ref b), (1, .ref (ad X 0 0)), (2, .ref (ad X 20 0)), (3, .int (nI i))]) : W p l e room_1 s mi #[Value.ref b] below meth c H locs cells slots Q (F0 mi 889 ls []) := by
  obtain ⟨C, hX, hbl, hbA⟩ := K
  obtain ⟨r, m1, m2, e1, e2, hI2⟩ := op_fee (fu := 2000)  (by decide)  hI
  refine lv_aload_n C.1 C.2.1 dL_889 rfl (lv_at hl 1 rfl) ?_
  refine zr_cVI C hW (c_X8_fee (X := X) (l := l) e1) k_X8_fee (zr_recv C hW id_0 zco_0 rfl) w_675 ⟨Nat.le_of_ble_eq_true rfl, Nat.le_of_ble_eq_true rfl⟩ hcs rfl hl.1 (rest := []) rfl (Nat.le_of_ble_eq_true rfl) dL_890 (fun H locs hW => ?_)
  refine lv_aload_n C.1 C.2.1 dL_893 rfl (lv_at hl 2 rfl) ?_
  refine zr_cVI C hW (c_X9_fee (X := X) (l := l) e2) k_X9_fee (zr_recv C hW id_20 zco_20 rfl) w_1324 ⟨Nat.le_of_ble_eq_true rfl, Nat.le_of_ble_eq_true rfl⟩ hcs rfl hl.1 (rest := [.int r]) rfl (Nat.le_of_ble_eq_true rfl) dL_894 (fun H locs hW => ?_)
  refine lv_icmp_eq (tgt := 1492) C.1 C.2.1 dL_897 (by decide) (fun _ => ?_) (fun hc => absurd rfl hc)
  exact kk m2 H locs ls hI2 hW hl
theorem lw_22 (K : LC X p s mi c b L xs) (hL : L ≤ 3072) (hi : i + 6 ≤ L) (hcs : cells ≤ room_1.cells ∧ slots ≤ room_1.slots) (kk : CE X p l e s mi below meth c b i cells slots Q) (hI : Inv m) (hW : Wd X s m H locs) (hl : lv_has ls 4 [(0, .ref b), (1, .ref (ad X 0 0)), (2, .ref (ad X 20 0)), (3, .int (nI i))]) : W p l e room_1 s mi #[Value.ref b] below meth c H locs cells slots Q (F0 mi 902 ls []) := by
  obtain ⟨C, hX, hbl, hbA⟩ := K
  obtain ⟨r, m1, m2, e1, e2, hI2⟩ := op_fine (fu := 2000) (x1 := (xs (nI i + 1).toNatClampNeg)) (by decide)  hI
  refine lv_aload_n C.1 C.2.1 dL_902 rfl (lv_at hl 1 rfl) ?_
  refine lv_aload_n C.1 C.2.1 dL_903 rfl (lv_at hl 0 rfl) ?_
  refine lv_iload_n C.1 C.2.1 dL_904 rfl (lv_at hl 3 rfl) ?_
  refine lv_iconst (v := 1) C.1 C.2.1 dL_905 rfl ?_
  refine lv_iadd C.1 C.2.1 dL_906 ?_
  refine va_sld C.1 C.2.1 hX hbl hbA hW.2 (in_1 hi hL) dL_907 ?_
  refine zr_cVI C hW (c_X8_fine (X := X) (l := l) e1) k_X8_fine (zr_recv C hW id_0 zco_0 rfl) w_680 ⟨Nat.le_of_ble_eq_true rfl, Nat.le_of_ble_eq_true rfl⟩ hcs rfl hl.1 (rest := []) rfl (Nat.le_of_ble_eq_true rfl) dL_908 (fun H locs hW => ?_)
  refine lv_aload_n C.1 C.2.1 dL_911 rfl (lv_at hl 2 rfl) ?_
  refine lv_aload_n C.1 C.2.1 dL_912 rfl (lv_at hl 0 rfl) ?_
  refine lv_iload_n C.1 C.2.1 dL_913 rfl (lv_at hl 3 rfl) ?_
  refine lv_iconst (v := 1) C.1 C.2.1 dL_914 rfl ?_
  refine lv_iadd C.1 C.2.1 dL_915 ?_
  refine va_sld C.1 C.2.1 hX hbl hbA hW.2 (in_1 hi hL) dL_916 ?_
  refine zr_cVI C hW (c_X9_fine (X := X) (l := l) e2) k_X9_fine (zr_recv C hW id_20 zco_20 rfl) w_1328 ⟨Nat.le_of_ble_eq_true rfl, Nat.le_of_ble_eq_true rfl⟩ hcs rfl hl.1 (rest := [.int r]) rfl (Nat.le_of_ble_eq_true rfl) dL_917 (fun H locs hW => ?_)
  refine lv_icmp_eq (tgt := 1492) C.1 C.2.1 dL_920 (by decide) (fun _ => ?_) (fun hc => absurd rfl hc)
  exact kk m2 H locs ls hI2 hW hl
theorem lw_23 (K : LC X p s mi c b L xs) (hL : L ≤ 3072) (hi : i + 6 ≤ L) (hcs : cells ≤ room_1.cells ∧ slots ≤ room_1.slots) (kk : CE X p l e s mi below meth c b i cells slots Q) (hI : Inv m) (hW : Wd X s m H locs) (hl : lv_has ls 4 [(0, .ref b), (1, .ref (ad X 0 0)), (2, .ref (ad X 20 0)), (3, .int (nI i))]) : W p l e room_1 s mi #[Value.ref b] below meth c H locs cells slots Q (F0 mi 925 ls []) := by
  obtain ⟨C, hX, hbl, hbA⟩ := K
  obtain ⟨r, m1, m2, e1, e2, hI2⟩ := op_feed (fu := 2000) (x1 := (xs (nI i + 1).toNatClampNeg)) (x2 := (xs (nI i + 2).toNatClampNeg)) (x3 := (xs (nI i + 3).toNatClampNeg)) (by decide)  hI
  refine lv_aload_n C.1 C.2.1 dL_925 rfl (lv_at hl 1 rfl) ?_
  refine lv_aload_n C.1 C.2.1 dL_926 rfl (lv_at hl 0 rfl) ?_
  refine lv_iload_n C.1 C.2.1 dL_927 rfl (lv_at hl 3 rfl) ?_
  refine lv_iconst (v := 1) C.1 C.2.1 dL_928 rfl ?_
  refine lv_iadd C.1 C.2.1 dL_929 ?_
  refine va_sld C.1 C.2.1 hX hbl hbA hW.2 (in_1 hi hL) dL_930 ?_
  refine lv_aload_n C.1 C.2.1 dL_931 rfl (lv_at hl 0 rfl) ?_
  refine lv_iload_n C.1 C.2.1 dL_932 rfl (lv_at hl 3 rfl) ?_
  refine lv_iconst (v := 2) C.1 C.2.1 dL_933 rfl ?_
  refine lv_iadd C.1 C.2.1 dL_934 ?_
  refine va_sld C.1 C.2.1 hX hbl hbA hW.2 (in_2 hi hL) dL_935 ?_
  refine lv_aload_n C.1 C.2.1 dL_936 rfl (lv_at hl 0 rfl) ?_
  refine lv_iload_n C.1 C.2.1 dL_937 rfl (lv_at hl 3 rfl) ?_
  refine lv_iconst (v := 3) C.1 C.2.1 dL_938 rfl ?_
  refine lv_iadd C.1 C.2.1 dL_939 ?_
  refine va_sld C.1 C.2.1 hX hbl hbA hW.2 (in_3 hi hL) dL_940 ?_
  refine zr_cVI C hW (c_X8_feed (X := X) (l := l) e1) k_X8_feed (zr_recv C hW id_0 zco_0 rfl) w_684 ⟨Nat.le_of_ble_eq_true rfl, Nat.le_of_ble_eq_true rfl⟩ hcs rfl hl.1 (rest := []) rfl (Nat.le_of_ble_eq_true rfl) dL_941 (fun H locs hW => ?_)
  refine lv_aload_n C.1 C.2.1 dL_944 rfl (lv_at hl 2 rfl) ?_
  refine lv_aload_n C.1 C.2.1 dL_945 rfl (lv_at hl 0 rfl) ?_
  refine lv_iload_n C.1 C.2.1 dL_946 rfl (lv_at hl 3 rfl) ?_
  refine lv_iconst (v := 1) C.1 C.2.1 dL_947 rfl ?_
  refine lv_iadd C.1 C.2.1 dL_948 ?_
  refine va_sld C.1 C.2.1 hX hbl hbA hW.2 (in_1 hi hL) dL_949 ?_
  refine lv_aload_n C.1 C.2.1 dL_950 rfl (lv_at hl 0 rfl) ?_
  refine lv_iload_n C.1 C.2.1 dL_951 rfl (lv_at hl 3 rfl) ?_
  refine lv_iconst (v := 2) C.1 C.2.1 dL_952 rfl ?_
  refine lv_iadd C.1 C.2.1 dL_953 ?_
  refine va_sld C.1 C.2.1 hX hbl hbA hW.2 (in_2 hi hL) dL_954 ?_
  refine lv_aload_n C.1 C.2.1 dL_955 rfl (lv_at hl 0 rfl) ?_
  refine lv_iload_n C.1 C.2.1 dL_956 rfl (lv_at hl 3 rfl) ?_
  refine lv_iconst (v := 3) C.1 C.2.1 dL_957 rfl ?_
  refine lv_iadd C.1 C.2.1 dL_958 ?_
  refine va_sld C.1 C.2.1 hX hbl hbA hW.2 (in_3 hi hL) dL_959 ?_
  refine zr_cVI C hW (c_X9_feed (X := X) (l := l) e2) k_X9_feed (zr_recv C hW id_20 zco_20 rfl) w_1332 ⟨Nat.le_of_ble_eq_true rfl, Nat.le_of_ble_eq_true rfl⟩ hcs rfl hl.1 (rest := [.int r]) rfl (Nat.le_of_ble_eq_true rfl) dL_960 (fun H locs hW => ?_)
  refine lv_icmp_eq (tgt := 1492) C.1 C.2.1 dL_963 (by decide) (fun _ => ?_) (fun hc => absurd rfl hc)
  exact kk m2 H locs ls hI2 hW hl
theorem lw_24 (K : LC X p s mi c b L xs) (hL : L ≤ 3072) (hi : i + 6 ≤ L) (hcs : cells ≤ room_1.cells ∧ slots ≤ room_1.slots) (kk : CE X p l e s mi below meth c b i cells slots Q) (hI : Inv m) (hW : Wd X s m H locs) (hl : lv_has ls 4 [(0, .ref b), (1, .ref (ad X 0 0)), (2, .ref (ad X 20 0)), (3, .int (nI i))]) : W p l e room_1 s mi #[Value.ref b] below meth c H locs cells slots Q (F0 mi 968 ls []) := by
  obtain ⟨C, hX, hbl, hbA⟩ := K
  obtain ⟨r, m1, m2, e1, e2, hI2⟩ := op_trim (fu := 2000) (x1 := (xs (nI i + 1).toNatClampNeg))  hI
  refine lv_aload_n C.1 C.2.1 dL_968 rfl (lv_at hl 1 rfl) ?_
  refine lv_aload_n C.1 C.2.1 dL_969 rfl (lv_at hl 0 rfl) ?_
  refine lv_iload_n C.1 C.2.1 dL_970 rfl (lv_at hl 3 rfl) ?_
  refine lv_iconst (v := 1) C.1 C.2.1 dL_971 rfl ?_
  refine lv_iadd C.1 C.2.1 dL_972 ?_
  refine va_sld C.1 C.2.1 hX hbl hbA hW.2 (in_1 hi hL) dL_973 ?_
  refine zr_cVI C hW (c_X8_trim (X := X) (l := l) e1) k_X8_trim (zr_recv C hW id_0 zco_0 rfl) w_692 ⟨Nat.le_of_ble_eq_true rfl, Nat.le_of_ble_eq_true rfl⟩ hcs rfl hl.1 (rest := []) rfl (Nat.le_of_ble_eq_true rfl) dL_974 (fun H locs hW => ?_)
  refine lv_aload_n C.1 C.2.1 dL_977 rfl (lv_at hl 2 rfl) ?_
  refine lv_aload_n C.1 C.2.1 dL_978 rfl (lv_at hl 0 rfl) ?_
  refine lv_iload_n C.1 C.2.1 dL_979 rfl (lv_at hl 3 rfl) ?_
  refine lv_iconst (v := 1) C.1 C.2.1 dL_980 rfl ?_
  refine lv_iadd C.1 C.2.1 dL_981 ?_
  refine va_sld C.1 C.2.1 hX hbl hbA hW.2 (in_1 hi hL) dL_982 ?_
  refine zr_cVI C hW (c_X9_trim (X := X) (l := l) e2) k_X9_trim (zr_recv C hW id_20 zco_20 rfl) w_1336 ⟨Nat.le_of_ble_eq_true rfl, Nat.le_of_ble_eq_true rfl⟩ hcs rfl hl.1 (rest := [.int r]) rfl (Nat.le_of_ble_eq_true rfl) dL_983 (fun H locs hW => ?_)
  refine lv_icmp_eq (tgt := 1492) C.1 C.2.1 dL_986 (by decide) (fun _ => ?_) (fun hc => absurd rfl hc)
  exact kk m2 H locs ls hI2 hW hl
theorem lw_25 (K : LC X p s mi c b L xs) (hL : L ≤ 3072) (hi : i + 6 ≤ L) (hcs : cells ≤ room_1.cells ∧ slots ≤ room_1.slots) (kk : CE X p l e s mi below meth c b i cells slots Q) (hI : Inv m) (hW : Wd X s m H locs) (hl : lv_has ls 4 [(0, .ref b), (1, .ref (ad X 0 0)), (2, .ref (ad X 20 0)), (3, .int (nI i))]) : W p l e room_1 s mi #[Value.ref b] below meth c H locs cells slots Q (F0 mi 991 ls []) := by
  obtain ⟨C, hX, hbl, hbA⟩ := K
  obtain ⟨r, m1, m2, e1, e2, hI2⟩ := op_text (fu := 2000)  (by decide)  hI
  refine lv_aload_n C.1 C.2.1 dL_991 rfl (lv_at hl 1 rfl) ?_
  refine zr_cVI C hW (c_X8_text (X := X) (l := l) e1) k_X8_text (zr_recv C hW id_0 zco_0 rfl) w_696 ⟨Nat.le_of_ble_eq_true rfl, Nat.le_of_ble_eq_true rfl⟩ hcs rfl hl.1 (rest := []) rfl (Nat.le_of_ble_eq_true rfl) dL_992 (fun H locs hW => ?_)
  refine lv_aload_n C.1 C.2.1 dL_995 rfl (lv_at hl 2 rfl) ?_
  refine zr_cVI C hW (c_X9_text (X := X) (l := l) e2) k_X9_text (zr_recv C hW id_20 zco_20 rfl) w_1340 ⟨Nat.le_of_ble_eq_true rfl, Nat.le_of_ble_eq_true rfl⟩ hcs rfl hl.1 (rest := [.int r]) rfl (Nat.le_of_ble_eq_true rfl) dL_996 (fun H locs hW => ?_)
  refine lv_icmp_eq (tgt := 1492) C.1 C.2.1 dL_999 (by decide) (fun _ => ?_) (fun hc => absurd rfl hc)
  exact kk m2 H locs ls hI2 hW hl
theorem lw_26 (K : LC X p s mi c b L xs) (hL : L ≤ 3072) (hi : i + 6 ≤ L) (hcs : cells ≤ room_1.cells ∧ slots ≤ room_1.slots) (kk : CE X p l e s mi below meth c b i cells slots Q) (hI : Inv m) (hW : Wd X s m H locs) (hl : lv_has ls 4 [(0, .ref b), (1, .ref (ad X 0 0)), (2, .ref (ad X 20 0)), (3, .int (nI i))]) : W p l e room_1 s mi #[Value.ref b] below meth c H locs cells slots Q (F0 mi 1004 ls []) := by
  obtain ⟨C, hX, hbl, hbA⟩ := K
  obtain ⟨r, m1, m2, e1, e2, hI2⟩ := op_textTold (fu := 2000) (x1 := (xs (nI i + 1).toNatClampNeg)) (x2 := (xs (nI i + 2).toNatClampNeg))  hI
  refine lv_aload_n C.1 C.2.1 dL_1004 rfl (lv_at hl 1 rfl) ?_
  refine lv_aload_n C.1 C.2.1 dL_1005 rfl (lv_at hl 0 rfl) ?_
  refine lv_iload_n C.1 C.2.1 dL_1006 rfl (lv_at hl 3 rfl) ?_
  refine lv_iconst (v := 1) C.1 C.2.1 dL_1007 rfl ?_
  refine lv_iadd C.1 C.2.1 dL_1008 ?_
  refine va_sld C.1 C.2.1 hX hbl hbA hW.2 (in_1 hi hL) dL_1009 ?_
  refine lv_aload_n C.1 C.2.1 dL_1010 rfl (lv_at hl 0 rfl) ?_
  refine lv_iload_n C.1 C.2.1 dL_1011 rfl (lv_at hl 3 rfl) ?_
  refine lv_iconst (v := 2) C.1 C.2.1 dL_1012 rfl ?_
  refine lv_iadd C.1 C.2.1 dL_1013 ?_
  refine va_sld C.1 C.2.1 hX hbl hbA hW.2 (in_2 hi hL) dL_1014 ?_
  refine zr_cVI C hW (c_X8_textTold (X := X) (l := l) e1) k_X8_textTold (zr_recv C hW id_0 zco_0 rfl) w_899 ⟨Nat.le_of_ble_eq_true rfl, Nat.le_of_ble_eq_true rfl⟩ hcs rfl hl.1 (rest := []) rfl (Nat.le_of_ble_eq_true rfl) dL_1015 (fun H locs hW => ?_)
  refine lv_aload_n C.1 C.2.1 dL_1018 rfl (lv_at hl 2 rfl) ?_
  refine lv_aload_n C.1 C.2.1 dL_1019 rfl (lv_at hl 0 rfl) ?_
  refine lv_iload_n C.1 C.2.1 dL_1020 rfl (lv_at hl 3 rfl) ?_
  refine lv_iconst (v := 1) C.1 C.2.1 dL_1021 rfl ?_
  refine lv_iadd C.1 C.2.1 dL_1022 ?_
  refine va_sld C.1 C.2.1 hX hbl hbA hW.2 (in_1 hi hL) dL_1023 ?_
  refine lv_aload_n C.1 C.2.1 dL_1024 rfl (lv_at hl 0 rfl) ?_
  refine lv_iload_n C.1 C.2.1 dL_1025 rfl (lv_at hl 3 rfl) ?_
  refine lv_iconst (v := 2) C.1 C.2.1 dL_1026 rfl ?_
  refine lv_iadd C.1 C.2.1 dL_1027 ?_
  refine va_sld C.1 C.2.1 hX hbl hbA hW.2 (in_2 hi hL) dL_1028 ?_
  refine zr_cVI C hW (c_X9_textTold (X := X) (l := l) e2) k_X9_textTold (zr_recv C hW id_20 zco_20 rfl) w_1387 ⟨Nat.le_of_ble_eq_true rfl, Nat.le_of_ble_eq_true rfl⟩ hcs rfl hl.1 (rest := [.int r]) rfl (Nat.le_of_ble_eq_true rfl) dL_1029 (fun H locs hW => ?_)
  refine lv_icmp_eq (tgt := 1492) C.1 C.2.1 dL_1032 (by decide) (fun _ => ?_) (fun hc => absurd rfl hc)
  exact kk m2 H locs ls hI2 hW hl
theorem lw_27 (K : LC X p s mi c b L xs) (hL : L ≤ 3072) (hi : i + 6 ≤ L) (hcs : cells ≤ room_1.cells ∧ slots ≤ room_1.slots) (kk : CE X p l e s mi below meth c b i cells slots Q) (hI : Inv m) (hW : Wd X s m H locs) (hl : lv_has ls 4 [(0, .ref b), (1, .ref (ad X 0 0)), (2, .ref (ad X 20 0)), (3, .int (nI i))]) : W p l e room_1 s mi #[Value.ref b] below meth c H locs cells slots Q (F0 mi 1037 ls []) := by
  obtain ⟨C, hX, hbl, hbA⟩ := K
  obtain ⟨r, m1, m2, e1, e2, hI2⟩ := op_why (fu := 2000) (x1 := (xs (nI i + 1).toNatClampNeg)) (by decide)  hI
  refine lv_aload_n C.1 C.2.1 dL_1037 rfl (lv_at hl 1 rfl) ?_
  refine lv_aload_n C.1 C.2.1 dL_1038 rfl (lv_at hl 0 rfl) ?_
  refine lv_iload_n C.1 C.2.1 dL_1039 rfl (lv_at hl 3 rfl) ?_
  refine lv_iconst (v := 1) C.1 C.2.1 dL_1040 rfl ?_
  refine lv_iadd C.1 C.2.1 dL_1041 ?_
  refine va_sld C.1 C.2.1 hX hbl hbA hW.2 (in_1 hi hL) dL_1042 ?_
  refine zr_cVI C hW (c_X8_why (X := X) (l := l) e1) k_X8_why (zr_recv C hW id_0 zco_0 rfl) w_903 ⟨Nat.le_of_ble_eq_true rfl, Nat.le_of_ble_eq_true rfl⟩ hcs rfl hl.1 (rest := []) rfl (Nat.le_of_ble_eq_true rfl) dL_1043 (fun H locs hW => ?_)
  refine lv_aload_n C.1 C.2.1 dL_1046 rfl (lv_at hl 2 rfl) ?_
  refine lv_aload_n C.1 C.2.1 dL_1047 rfl (lv_at hl 0 rfl) ?_
  refine lv_iload_n C.1 C.2.1 dL_1048 rfl (lv_at hl 3 rfl) ?_
  refine lv_iconst (v := 1) C.1 C.2.1 dL_1049 rfl ?_
  refine lv_iadd C.1 C.2.1 dL_1050 ?_
  refine va_sld C.1 C.2.1 hX hbl hbA hW.2 (in_1 hi hL) dL_1051 ?_
  refine zr_cVI C hW (c_X9_why (X := X) (l := l) e2) k_X9_why (zr_recv C hW id_20 zco_20 rfl) w_1391 ⟨Nat.le_of_ble_eq_true rfl, Nat.le_of_ble_eq_true rfl⟩ hcs rfl hl.1 (rest := [.int r]) rfl (Nat.le_of_ble_eq_true rfl) dL_1052 (fun H locs hW => ?_)
  refine lv_icmp_eq (tgt := 1492) C.1 C.2.1 dL_1055 (by decide) (fun _ => ?_) (fun hc => absurd rfl hc)
  exact kk m2 H locs ls hI2 hW hl
end LAW
