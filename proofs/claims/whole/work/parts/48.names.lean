/-! PURE: names and keys -/
section NAMES
variable {fu : Nat} {m : Mem} {x : Nat}
theorem canEnc (hx : x < 256) : f_J1_canEncode_9a6ad fu (nI x) m = some (1, m) := by
  unfold f_J1_canEncode_9a6ad
  rw [if_neg (by rw [show (0 : Int32) = nI 0 from rfl, nI_ltP (by omega) (by decide)]; omega), if_neg (by rw [show (255 : Int32) = nI 255 from rfl, nI_ltP (by decide) (by omega)]; omega)]
theorem b8a : ∀ x, x < 256 → (nI 115 = (nI x).toInt8.toInt32 ↔ x = 115) := by decide +kernel
theorem b8b : ∀ x, x < 256 → (nI 108 = (nI x).toInt8.toInt32 ↔ x = 108) := by decide +kernel
theorem b8c : ∀ x, x < 256 → (nI 104 = (nI x).toInt8.toInt32 ↔ x = 104) := by decide +kernel
theorem b8d : ∀ x, x < 256 → (nI 99 = (nI x).toInt8.toInt32 ↔ x = 99) := by decide +kernel
def nameN (k x : Nat) : Int32 := if k = 0 then (if x = 115 then 0 else if x = 108 then 1 else if x = 104 then 2 else -1) else if k = 1 then (if x = 115 then 0 else if x = 99 then 1 else -1) else (if x = 115 then 0 else if x = 108 then 1 else -1)
theorem len_ev {i : Nat} : f_J0_length_8abf5 fu i m = some (nI (slen.getD i 0) >>> ((0 : Int32) &&& 31), m) := by
  unfold f_J0_length_8abf5 f_J0_coder_7d493
  rfl
theorem mname_ev {k : Nat} (hk : k < 3) (hx : x < 256) (h8 : m 3008 = nI k) : f_X9_nameOf fu (nI x) m = some (nameN k x, m) := by
  have e : ∀ k, k < 256 → (nI x = nI k) = (x = k) := fun k hk => nI_eqP (by omega) (by omega)
  unfold f_X9_nameOf nameN
  rw [h8, seqM_eq, show (115 : Int32) = nI 115 from rfl, show (108 : Int32) = nI 108 from rfl, show (104 : Int32) = nI 104 from rfl, show (99 : Int32) = nI 99 from rfl]
  simp only [e 115 (by decide), e 108 (by decide), e 104 (by decide), e 99 (by decide), some_ite]
  have : k = 0 ∨ k = 1 ∨ k = 2 := by omega
  rcases this with rfl | rfl | rfl <;> rfl
theorem cname_ev {g k : Nat} (hfu : fu = g + 5) (hk : k < 3) (hx : x < 256) : f_J0_indexOf_0f7a4 fu (3 + k) (nI x) m = some (nameN k x, m) := by
  subst hfu
  have e115 := b8a x hx
  have e108 := b8b x hx
  have e104 := b8c x hx
  have e99 := b8d x hx
  unfold f_J0_indexOf_0f7a4 f_J0_indexOf_7cf53 f_J0_isLatin1_aae02
  rw [doI_some, if_neg (by decide), len_ev, doI_some]
  unfold f_J1_indexOf_4cfef f_J1_indexOfChar_4cfef
  rw [canEnc hx, doI_some, if_neg (by decide)]
  generalize (nI x).toInt8.toInt32 = w at *
  have : k = 0 ∨ k = 1 ∨ k = 2 := by omega
  rcases this with rfl | rfl | rfl
  · simp only [seqM_eq]
    rw [show (if (0 : Int32) < 0 then (0 : Int32) else 0) = 0 by decide, show (if nI (slen.getD (3 + 0) 0) < nI (slen.getD (3 + 0) 0) >>> ((0 : Int32) &&& 31) then nI (slen.getD (3 + 0) 0) else nI (slen.getD (3 + 0) 0) >>> ((0 : Int32) &&& 31)) = 3 by decide, if_pos (show (0 : Int32) < 3 by decide), show 3 + 0 = 3 from rfl]
    have q0 : f_J1_indexOfChar_4cfef_7 (g + 5) (g + 5) 3 3 w 0 m = some (nameN 0 x, m) := by
      show (if nI 115 = w then some (0, m) else (if nI 108 = w then some (1, m) else (if nI 104 = w then some (2, m) else some (-1, m)))) = _
      unfold nameN
      simp only [e115, e108, e104, some_ite, if_true]
    rw [q0]
    rfl
  · simp only [seqM_eq]
    rw [show (if (0 : Int32) < 0 then (0 : Int32) else 0) = 0 by decide, show (if nI (slen.getD (3 + 1) 0) < nI (slen.getD (3 + 1) 0) >>> ((0 : Int32) &&& 31) then nI (slen.getD (3 + 1) 0) else nI (slen.getD (3 + 1) 0) >>> ((0 : Int32) &&& 31)) = 2 by decide, if_pos (show (0 : Int32) < 2 by decide), show 3 + 1 = 4 from rfl]
    have q0 : f_J1_indexOfChar_4cfef_7 (g + 5) (g + 5) 4 2 w 0 m = some (nameN 1 x, m) := by
      show (if nI 115 = w then some (0, m) else (if nI 99 = w then some (1, m) else some (-1, m))) = _
      unfold nameN
      simp only [e115, e99, some_ite, if_true, show ¬ 1 = 0 by decide, if_false]
    rw [q0]
    rfl
  · simp only [seqM_eq]
    rw [show (if (0 : Int32) < 0 then (0 : Int32) else 0) = 0 by decide, show (if nI (slen.getD (3 + 2) 0) < nI (slen.getD (3 + 2) 0) >>> ((0 : Int32) &&& 31) then nI (slen.getD (3 + 2) 0) else nI (slen.getD (3 + 2) 0) >>> ((0 : Int32) &&& 31)) = 2 by decide, if_pos (show (0 : Int32) < 2 by decide), show 3 + 2 = 5 from rfl]
    have q0 : f_J1_indexOfChar_4cfef_7 (g + 5) (g + 5) 5 2 w 0 m = some (nameN 2 x, m) := by
      show (if nI 115 = w then some (0, m) else (if nI 108 = w then some (1, m) else some (-1, m))) = _
      unfold nameN
      simp only [e115, e108, some_ite, show ¬ 2 = 0 by decide, show ¬ 2 = 1 by decide, if_false]
    rw [q0]
    rfl
end NAMES
