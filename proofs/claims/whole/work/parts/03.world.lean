abbrev Mem : Type := Nat → Int32
/-- the places of the world: classes and slots, addresses by region and index, array classes, the literals' addresses -/
abbrev TX : Type := va_G × (Nat → Nat → Nat) × (Nat → ClassId) × (Nat → Nat) × (Nat → Nat)
def aD (X : TX) : va_G := X.1
def ad (X : TX) : Nat → Nat → Nat := X.2.1
def cA (X : TX) : Nat → ClassId := X.2.2.1
def adK (X : TX) : Nat → Nat := X.2.2.2.1
def adV (X : TX) : Nat → Nat := X.2.2.2.2
abbrev classes : List vw_C := [(RX0, TX0, 2), (RX1, TX1, 12), (RX2, TX2, 3), (RX3, TX3, 4), (RX4, TX4, 19), (RX5, TX5, 4), (RX6, TX6, 2), (RX7, TX7, 7), (RX8, TX8, 11), (RX9, TX9, 35)]
def sf (t k : Nat) : Nat := 70 * t + k
def vf (v j : Nat) : Nat := 16 + 7 * v + j
def hf (s k : Nat) : Nat := 300 + 2 * s + k
def lf (j k : Nat) : Nat := 320 + 2 * j + k
def tf (i k : Nat) : Nat := 330 + 3 * i + k
def comb (a b : Int32) : Int64 := Int64.ofInt (a.toInt * 4294967296 + b.toInt % 4294967296)
def aI (X : TX) (m : Mem) (c b n : Nat) : va_E := .inl (cA X c, n, .inl (fun j => if j < n then m (b + j) else 0))
def aL (X : TX) (m : Mem) (b n : Nat) : va_E := .inl (cA X 1, n, .inr (.inl (fun j => if j < n then comb (m (b + 2 * j)) (m (b + 2 * j + 1)) else 0)))
def aR (X : TX) (c n r : Nat) (g : Nat → Nat) : va_E := .inl (cA X c, n, .inr (.inr (.inr (.inr (fun j => some (ad X r (g j)))))))
def zce_0 (X : TX) (m : Mem) (i : Nat) : va_E := .inr (8, [.ref (ad X 1 0), .ref (ad X 6 0), .ref (ad X 9 0), .ref (ad X 9 1), .ref (ad X 9 2), .int (m 270), .ref (ad X 13 0), .ref (ad X 14 0), .ref (ad X 17 0), .ref (ad X 19 0), .int (m 271)])
def zce_1 (X : TX) (m : Mem) (i : Nat) : va_E := .inr (6, [.ref (ad X 2 0), .ref (ad X 5 0)])
def zce_2 (X : TX) (m : Mem) (i : Nat) : va_E := aR X 5 14 3 (fun j => j)
def zce_3 (X : TX) (m : Mem) (i : Nat) : va_E := .inr (5, [.int (m (tf i 0)), .int (m (tf i 1)), .int (m (tf i 2)), .ref (ad X 4 i)])
def zce_4 (X : TX) (m : Mem) (i : Nat) : va_E := aI X m 0 (1100 + 96 * i) 96
def zce_5 (X : TX) (m : Mem) (i : Nat) : va_E := aI X m 0 (800) 96
def zce_6 (X : TX) (m : Mem) (i : Nat) : va_E := .inr (1, [.ref (ad X 7 0), .int (m 280), .ref (ad X 3 14), .ref (ad X 8 0), .int (m 281), .int (m 282), .int (m 283), .int (m 284), .int (m 285), .int (m 286), .int (m 287), .int (m 288)])
def zce_7 (X : TX) (m : Mem) (i : Nat) : va_E := aI X m 0 (900) 96
def zce_8 (X : TX) (m : Mem) (i : Nat) : va_E := aI X m 0 (1000) 96
def zce_9 (X : TX) (m : Mem) (i : Nat) : va_E := .inr (4, [.ref (ad X 10 i), .int (m (sf i 1)), .int (m (sf i 5)), .int (m (sf i 3)), .int (m (sf i 4)), .int (m (sf i 6)), .int (m (sf i 7)), .int (m (sf i 8)), .int (m (sf i 9)), .int (m (sf i 10)), .int (m (sf i 11)), .int (m (sf i 12)), .int (m (sf i 13)), .int (m (sf i 14)), .int (m (sf i 2)), .int (m (sf i 0)), .int (m (sf i 15)), .ref (ad X 12 i), .ref (ad X 1 0)])
def zce_10 (X : TX) (m : Mem) (i : Nat) : va_E := aR X 4 5 11 (fun j => (10 * i + j))
def zce_11 (X : TX) (m : Mem) (i : Nat) : va_E := .inr (7, [.int (m (vf i 0)), .int (m (vf i 1)), .int (m (vf i 2)), .int (m (vf i 3)), .int (m (vf i 4)), .int (m (vf i 5)), .int (m (vf i 6))])
def zce_12 (X : TX) (m : Mem) (i : Nat) : va_E := aI X m 0 (51 + 70 * i) 3
def zce_13 (X : TX) (m : Mem) (i : Nat) : va_E := .inr (0, [.int (m 272), .int (m 273)])
def zce_14 (X : TX) (m : Mem) (i : Nat) : va_E := aR X 6 4 15 (fun j => j)
def zce_15 (X : TX) (m : Mem) (i : Nat) : va_E := .inr (2, [.int (m (hf i 0)), .int (m (hf i 1)), .ref (ad X 16 i)])
def zce_16 (X : TX) (m : Mem) (i : Nat) : va_E := aI X m 0 (500 + 24 * i) 24
def zce_17 (X : TX) (m : Mem) (i : Nat) : va_E := aR X 7 5 18 (fun j => j)
def zce_18 (X : TX) (m : Mem) (i : Nat) : va_E := .inr (3, [.int (m (lf i 0)), .ref (ad X 11 (30 + i)), .ref (ad X 15 (4 + i)), .int (m (lf i 1))])
def zce_19 (X : TX) (m : Mem) (i : Nat) : va_E := aI X m 0 (400) 60
def zce_20 (X : TX) (m : Mem) (i : Nat) : va_E := .inr (9, [.ref (ad X 21 0), .ref (ad X 21 1), .ref (ad X 21 2), .int (m 3000), .int (m 3001), .ref (ad X 22 0), .ref (ad X 23 0), .ref (ad X 24 0), .int (m 3002), .int (m 3003), .int (m 3004), .int (m 3005), .int (m 3006), .int (m 3007), .int (m 3008), .ref (ad X 25 0), .ref (ad X 26 0), .ref (ad X 27 0), .int (m 3009), .int (m 3010), .ref (ad X 28 0), .int (m 3011), .ref (ad X 29 0), .ref (ad X 30 0), .ref (ad X 31 0), .ref (ad X 32 0), .ref (ad X 33 0), .ref (ad X 34 0), .ref (ad X 35 0), .ref (ad X 36 0), .ref (ad X 37 0), .ref (ad X 38 0), .ref (ad X 39 0), .ref (ad X 40 0), .int (m 3012)])
def zce_21 (X : TX) (m : Mem) (i : Nat) : va_E := aI X m 0 (4000 + 1500 * i) 1423
def zce_22 (X : TX) (m : Mem) (i : Nat) : va_E := aI X m 0 (3100) 51
def zce_23 (X : TX) (m : Mem) (i : Nat) : va_E := aL X m (3160) 5
def zce_24 (X : TX) (m : Mem) (i : Nat) : va_E := aI X m 0 (3200) 96
def zce_25 (X : TX) (m : Mem) (i : Nat) : va_E := aI X m 3 (3300) 10
def zce_26 (X : TX) (m : Mem) (i : Nat) : va_E := aI X m 0 (3320) 4
def zce_27 (X : TX) (m : Mem) (i : Nat) : va_E := aI X m 0 (3400) 96
def zce_28 (X : TX) (m : Mem) (i : Nat) : va_E := aI X m 0 (3500) 96
def zce_29 (X : TX) (m : Mem) (i : Nat) : va_E := aI X m 2 (3600) 10
def zce_30 (X : TX) (m : Mem) (i : Nat) : va_E := aI X m 0 (3700) 96
def zce_31 (X : TX) (m : Mem) (i : Nat) : va_E := aI X m 0 (3800) 4
def zce_32 (X : TX) (m : Mem) (i : Nat) : va_E := aI X m 0 (3810) 4
def zce_33 (X : TX) (m : Mem) (i : Nat) : va_E := aI X m 0 (3820) 4
def zce_34 (X : TX) (m : Mem) (i : Nat) : va_E := aI X m 0 (3830) 96
def zce_35 (X : TX) (m : Mem) (i : Nat) : va_E := aI X m 0 (3930) 5
def zce_36 (X : TX) (m : Mem) (i : Nat) : va_E := aI X m 0 (3940) 5
def zce_37 (X : TX) (m : Mem) (i : Nat) : va_E := aI X m 0 (3950) 5
def zce_38 (X : TX) (m : Mem) (i : Nat) : va_E := aI X m 0 (8500) 120
def zce_39 (X : TX) (m : Mem) (i : Nat) : va_E := aI X m 0 (3960) 24
def zce_40 (X : TX) (m : Mem) (i : Nat) : va_E := aI X m 0 (8650) 60
def cellOf (X : TX) (m : Mem) (r i : Nat) : va_E := if r = 0 then zce_0 X m i else if r = 1 then zce_1 X m i else if r = 2 then zce_2 X m i else if r = 3 then zce_3 X m i else if r = 4 then zce_4 X m i else if r = 5 then zce_5 X m i else if r = 6 then zce_6 X m i else if r = 7 then zce_7 X m i else if r = 8 then zce_8 X m i else if r = 9 then zce_9 X m i else if r = 10 then zce_10 X m i else if r = 11 then zce_11 X m i else if r = 12 then zce_12 X m i else if r = 13 then zce_13 X m i else if r = 14 then zce_14 X m i else if r = 15 then zce_15 X m i else if r = 16 then zce_16 X m i else if r = 17 then zce_17 X m i else if r = 18 then zce_18 X m i else if r = 19 then zce_19 X m i else if r = 20 then zce_20 X m i else if r = 21 then zce_21 X m i else if r = 22 then zce_22 X m i else if r = 23 then zce_23 X m i else if r = 24 then zce_24 X m i else if r = 25 then zce_25 X m i else if r = 26 then zce_26 X m i else if r = 27 then zce_27 X m i else if r = 28 then zce_28 X m i else if r = 29 then zce_29 X m i else if r = 30 then zce_30 X m i else if r = 31 then zce_31 X m i else if r = 32 then zce_32 X m i else if r = 33 then zce_33 X m i else if r = 34 then zce_34 X m i else if r = 35 then zce_35 X m i else if r = 36 then zce_36 X m i else if r = 37 then zce_37 X m i else if r = 38 then zce_38 X m i else if r = 39 then zce_39 X m i else if r = 40 then zce_40 X m i else .inr (0, [])
theorem zco_0 {X : TX} {m : Mem} {i : Nat} : cellOf X m 0 i = zce_0 X m i := rfl
theorem zco_1 {X : TX} {m : Mem} {i : Nat} : cellOf X m 1 i = zce_1 X m i := rfl
theorem zco_2 {X : TX} {m : Mem} {i : Nat} : cellOf X m 2 i = zce_2 X m i := rfl
theorem zco_3 {X : TX} {m : Mem} {i : Nat} : cellOf X m 3 i = zce_3 X m i := rfl
theorem zco_4 {X : TX} {m : Mem} {i : Nat} : cellOf X m 4 i = zce_4 X m i := rfl
theorem zco_5 {X : TX} {m : Mem} {i : Nat} : cellOf X m 5 i = zce_5 X m i := rfl
theorem zco_6 {X : TX} {m : Mem} {i : Nat} : cellOf X m 6 i = zce_6 X m i := rfl
theorem zco_7 {X : TX} {m : Mem} {i : Nat} : cellOf X m 7 i = zce_7 X m i := rfl
theorem zco_8 {X : TX} {m : Mem} {i : Nat} : cellOf X m 8 i = zce_8 X m i := rfl
theorem zco_9 {X : TX} {m : Mem} {i : Nat} : cellOf X m 9 i = zce_9 X m i := rfl
theorem zco_10 {X : TX} {m : Mem} {i : Nat} : cellOf X m 10 i = zce_10 X m i := rfl
theorem zco_11 {X : TX} {m : Mem} {i : Nat} : cellOf X m 11 i = zce_11 X m i := rfl
theorem zco_12 {X : TX} {m : Mem} {i : Nat} : cellOf X m 12 i = zce_12 X m i := rfl
theorem zco_13 {X : TX} {m : Mem} {i : Nat} : cellOf X m 13 i = zce_13 X m i := rfl
theorem zco_14 {X : TX} {m : Mem} {i : Nat} : cellOf X m 14 i = zce_14 X m i := rfl
theorem zco_15 {X : TX} {m : Mem} {i : Nat} : cellOf X m 15 i = zce_15 X m i := rfl
theorem zco_16 {X : TX} {m : Mem} {i : Nat} : cellOf X m 16 i = zce_16 X m i := rfl
theorem zco_17 {X : TX} {m : Mem} {i : Nat} : cellOf X m 17 i = zce_17 X m i := rfl
theorem zco_18 {X : TX} {m : Mem} {i : Nat} : cellOf X m 18 i = zce_18 X m i := rfl
theorem zco_19 {X : TX} {m : Mem} {i : Nat} : cellOf X m 19 i = zce_19 X m i := rfl
theorem zco_20 {X : TX} {m : Mem} {i : Nat} : cellOf X m 20 i = zce_20 X m i := rfl
theorem zco_21 {X : TX} {m : Mem} {i : Nat} : cellOf X m 21 i = zce_21 X m i := rfl
theorem zco_22 {X : TX} {m : Mem} {i : Nat} : cellOf X m 22 i = zce_22 X m i := rfl
theorem zco_23 {X : TX} {m : Mem} {i : Nat} : cellOf X m 23 i = zce_23 X m i := rfl
theorem zco_24 {X : TX} {m : Mem} {i : Nat} : cellOf X m 24 i = zce_24 X m i := rfl
theorem zco_25 {X : TX} {m : Mem} {i : Nat} : cellOf X m 25 i = zce_25 X m i := rfl
theorem zco_26 {X : TX} {m : Mem} {i : Nat} : cellOf X m 26 i = zce_26 X m i := rfl
theorem zco_27 {X : TX} {m : Mem} {i : Nat} : cellOf X m 27 i = zce_27 X m i := rfl
theorem zco_28 {X : TX} {m : Mem} {i : Nat} : cellOf X m 28 i = zce_28 X m i := rfl
theorem zco_29 {X : TX} {m : Mem} {i : Nat} : cellOf X m 29 i = zce_29 X m i := rfl
theorem zco_30 {X : TX} {m : Mem} {i : Nat} : cellOf X m 30 i = zce_30 X m i := rfl
theorem zco_31 {X : TX} {m : Mem} {i : Nat} : cellOf X m 31 i = zce_31 X m i := rfl
theorem zco_32 {X : TX} {m : Mem} {i : Nat} : cellOf X m 32 i = zce_32 X m i := rfl
theorem zco_33 {X : TX} {m : Mem} {i : Nat} : cellOf X m 33 i = zce_33 X m i := rfl
theorem zco_34 {X : TX} {m : Mem} {i : Nat} : cellOf X m 34 i = zce_34 X m i := rfl
theorem zco_35 {X : TX} {m : Mem} {i : Nat} : cellOf X m 35 i = zce_35 X m i := rfl
theorem zco_36 {X : TX} {m : Mem} {i : Nat} : cellOf X m 36 i = zce_36 X m i := rfl
theorem zco_37 {X : TX} {m : Mem} {i : Nat} : cellOf X m 37 i = zce_37 X m i := rfl
theorem zco_38 {X : TX} {m : Mem} {i : Nat} : cellOf X m 38 i = zce_38 X m i := rfl
theorem zco_39 {X : TX} {m : Mem} {i : Nat} : cellOf X m 39 i = zce_39 X m i := rfl
theorem zco_40 {X : TX} {m : Mem} {i : Nat} : cellOf X m 40 i = zce_40 X m i := rfl
def ids : List (Nat × Nat) := [(0, 0), (1, 0), (2, 0), (3, 0), (3, 1), (3, 2), (3, 3), (3, 4), (3, 5), (3, 6), (3, 7), (3, 8), (3, 9), (3, 10), (3, 11), (3, 12), (3, 13), (3, 14), (4, 0), (4, 1), (4, 2), (4, 3), (4, 4), (4, 5), (4, 6), (4, 7), (4, 8), (4, 9), (4, 10), (4, 11), (4, 12), (4, 13), (4, 14), (5, 0), (6, 0), (7, 0), (8, 0), (9, 0), (9, 1), (9, 2), (10, 0), (10, 1), (10, 2), (11, 0), (11, 1), (11, 2), (11, 3), (11, 4), (11, 10), (11, 11), (11, 12), (11, 13), (11, 14), (11, 20), (11, 21), (11, 22), (11, 23), (11, 24), (11, 30), (11, 31), (11, 32), (11, 33), (11, 34), (12, 0), (12, 1), (12, 2), (13, 0), (14, 0), (15, 0), (15, 1), (15, 2), (15, 3), (15, 4), (15, 5), (15, 6), (15, 7), (15, 8), (16, 0), (16, 1), (16, 2), (16, 3), (16, 4), (16, 5), (16, 6), (16, 7), (16, 8), (17, 0), (18, 0), (18, 1), (18, 2), (18, 3), (18, 4), (19, 0), (20, 0), (21, 0), (21, 1), (21, 2), (22, 0), (23, 0), (24, 0), (25, 0), (26, 0), (27, 0), (28, 0), (29, 0), (30, 0), (31, 0), (32, 0), (33, 0), (34, 0), (35, 0), (36, 0), (37, 0), (38, 0), (39, 0), (40, 0)]
def wcells (X : TX) (m : Mem) : va_W := ids.map fun q => (ad X q.1 q.2, cellOf X m q.1 q.2)
def ar (X : TX) : Nat → Prop := fun q => ∃ i ∈ ids, q = ad X i.1 i.2
def IJ (X : TX) : Prop := ∀ a ∈ ids, ∀ b ∈ ids, ad X a.1 a.2 = ad X b.1 b.2 → a = b
def lo (r i : Nat) : Nat := if r = 0 then 270 else if r = 3 then 330 + 3 * i else if r = 4 then 1100 + 96 * i else if r = 5 then 800 else if r = 6 then 280 else if r = 7 then 900 else if r = 8 then 1000 else if r = 9 then 70 * i else if r = 11 then 16 + 7 * i else if r = 12 then 51 + 70 * i else if r = 13 then 272 else if r = 15 then 300 + 2 * i else if r = 16 then 500 + 24 * i else if r = 18 then 320 + 2 * i else if r = 19 then 400 else if r = 20 then 3000 else if r = 21 then 4000 + 1500 * i else if r = 22 then 3100 else if r = 23 then 3160 else if r = 24 then 3200 else if r = 25 then 3300 else if r = 26 then 3320 else if r = 27 then 3400 else if r = 28 then 3500 else if r = 29 then 3600 else if r = 30 then 3700 else if r = 31 then 3800 else if r = 32 then 3810 else if r = 33 then 3820 else if r = 34 then 3830 else if r = 35 then 3930 else if r = 36 then 3940 else if r = 37 then 3950 else if r = 38 then 8500 else if r = 39 then 3960 else if r = 40 then 8650 else 0
def hi (r i : Nat) : Nat := if r = 0 then 272 else if r = 3 then 333 + 3 * i else if r = 4 then 1100 + 96 * i + 96 else if r = 5 then 800 + 96 else if r = 6 then 289 else if r = 7 then 900 + 96 else if r = 8 then 1000 + 96 else if r = 9 then 16 + 70 * i else if r = 11 then 23 + 7 * i else if r = 12 then 51 + 70 * i + 3 else if r = 13 then 274 else if r = 15 then 302 + 2 * i else if r = 16 then 500 + 24 * i + 24 else if r = 18 then 322 + 2 * i else if r = 19 then 400 + 60 else if r = 20 then 3013 else if r = 21 then 4000 + 1500 * i + 1423 else if r = 22 then 3100 + 51 else if r = 23 then 3160 + 10 else if r = 24 then 3200 + 96 else if r = 25 then 3300 + 10 else if r = 26 then 3320 + 4 else if r = 27 then 3400 + 96 else if r = 28 then 3500 + 96 else if r = 29 then 3600 + 10 else if r = 30 then 3700 + 96 else if r = 31 then 3800 + 4 else if r = 32 then 3810 + 4 else if r = 33 then 3820 + 4 else if r = 34 then 3830 + 96 else if r = 35 then 3930 + 5 else if r = 36 then 3940 + 5 else if r = 37 then 3950 + 5 else if r = 38 then 8500 + 120 else if r = 39 then 3960 + 24 else if r = 40 then 8650 + 60 else 0
theorem lo_0 {i : Nat} : lo 0 i = 270 := rfl
theorem hi_0 {i : Nat} : hi 0 i = 272 := rfl
theorem lo_3 {i : Nat} : lo 3 i = 330 + 3 * i := rfl
theorem hi_3 {i : Nat} : hi 3 i = 333 + 3 * i := rfl
theorem lo_4 {i : Nat} : lo 4 i = 1100 + 96 * i := rfl
theorem hi_4 {i : Nat} : hi 4 i = 1100 + 96 * i + 96 := rfl
theorem lo_5 {i : Nat} : lo 5 i = 800 := rfl
theorem hi_5 {i : Nat} : hi 5 i = 800 + 96 := rfl
theorem lo_6 {i : Nat} : lo 6 i = 280 := rfl
theorem hi_6 {i : Nat} : hi 6 i = 289 := rfl
theorem lo_7 {i : Nat} : lo 7 i = 900 := rfl
theorem hi_7 {i : Nat} : hi 7 i = 900 + 96 := rfl
theorem lo_8 {i : Nat} : lo 8 i = 1000 := rfl
theorem hi_8 {i : Nat} : hi 8 i = 1000 + 96 := rfl
theorem lo_9 {i : Nat} : lo 9 i = 70 * i := rfl
theorem hi_9 {i : Nat} : hi 9 i = 16 + 70 * i := rfl
theorem lo_11 {i : Nat} : lo 11 i = 16 + 7 * i := rfl
theorem hi_11 {i : Nat} : hi 11 i = 23 + 7 * i := rfl
theorem lo_12 {i : Nat} : lo 12 i = 51 + 70 * i := rfl
theorem hi_12 {i : Nat} : hi 12 i = 51 + 70 * i + 3 := rfl
theorem lo_13 {i : Nat} : lo 13 i = 272 := rfl
theorem hi_13 {i : Nat} : hi 13 i = 274 := rfl
theorem lo_15 {i : Nat} : lo 15 i = 300 + 2 * i := rfl
theorem hi_15 {i : Nat} : hi 15 i = 302 + 2 * i := rfl
theorem lo_16 {i : Nat} : lo 16 i = 500 + 24 * i := rfl
theorem hi_16 {i : Nat} : hi 16 i = 500 + 24 * i + 24 := rfl
theorem lo_18 {i : Nat} : lo 18 i = 320 + 2 * i := rfl
theorem hi_18 {i : Nat} : hi 18 i = 322 + 2 * i := rfl
theorem lo_19 {i : Nat} : lo 19 i = 400 := rfl
theorem hi_19 {i : Nat} : hi 19 i = 400 + 60 := rfl
theorem lo_20 {i : Nat} : lo 20 i = 3000 := rfl
theorem hi_20 {i : Nat} : hi 20 i = 3013 := rfl
theorem lo_21 {i : Nat} : lo 21 i = 4000 + 1500 * i := rfl
theorem hi_21 {i : Nat} : hi 21 i = 4000 + 1500 * i + 1423 := rfl
theorem lo_22 {i : Nat} : lo 22 i = 3100 := rfl
theorem hi_22 {i : Nat} : hi 22 i = 3100 + 51 := rfl
theorem lo_23 {i : Nat} : lo 23 i = 3160 := rfl
theorem hi_23 {i : Nat} : hi 23 i = 3160 + 10 := rfl
theorem lo_24 {i : Nat} : lo 24 i = 3200 := rfl
theorem hi_24 {i : Nat} : hi 24 i = 3200 + 96 := rfl
theorem lo_25 {i : Nat} : lo 25 i = 3300 := rfl
theorem hi_25 {i : Nat} : hi 25 i = 3300 + 10 := rfl
theorem lo_26 {i : Nat} : lo 26 i = 3320 := rfl
theorem hi_26 {i : Nat} : hi 26 i = 3320 + 4 := rfl
theorem lo_27 {i : Nat} : lo 27 i = 3400 := rfl
theorem hi_27 {i : Nat} : hi 27 i = 3400 + 96 := rfl
theorem lo_28 {i : Nat} : lo 28 i = 3500 := rfl
theorem hi_28 {i : Nat} : hi 28 i = 3500 + 96 := rfl
theorem lo_29 {i : Nat} : lo 29 i = 3600 := rfl
theorem hi_29 {i : Nat} : hi 29 i = 3600 + 10 := rfl
theorem lo_30 {i : Nat} : lo 30 i = 3700 := rfl
theorem hi_30 {i : Nat} : hi 30 i = 3700 + 96 := rfl
theorem lo_31 {i : Nat} : lo 31 i = 3800 := rfl
theorem hi_31 {i : Nat} : hi 31 i = 3800 + 4 := rfl
theorem lo_32 {i : Nat} : lo 32 i = 3810 := rfl
theorem hi_32 {i : Nat} : hi 32 i = 3810 + 4 := rfl
theorem lo_33 {i : Nat} : lo 33 i = 3820 := rfl
theorem hi_33 {i : Nat} : hi 33 i = 3820 + 4 := rfl
theorem lo_34 {i : Nat} : lo 34 i = 3830 := rfl
theorem hi_34 {i : Nat} : hi 34 i = 3830 + 96 := rfl
theorem lo_35 {i : Nat} : lo 35 i = 3930 := rfl
theorem hi_35 {i : Nat} : hi 35 i = 3930 + 5 := rfl
theorem lo_36 {i : Nat} : lo 36 i = 3940 := rfl
theorem hi_36 {i : Nat} : hi 36 i = 3940 + 5 := rfl
theorem lo_37 {i : Nat} : lo 37 i = 3950 := rfl
theorem hi_37 {i : Nat} : hi 37 i = 3950 + 5 := rfl
theorem lo_38 {i : Nat} : lo 38 i = 8500 := rfl
theorem hi_38 {i : Nat} : hi 38 i = 8500 + 120 := rfl
theorem lo_39 {i : Nat} : lo 39 i = 3960 := rfl
theorem hi_39 {i : Nat} : hi 39 i = 3960 + 24 := rfl
theorem lo_40 {i : Nat} : lo 40 i = 8650 := rfl
theorem hi_40 {i : Nat} : hi 40 i = 8650 + 60 := rfl
def apartB (a b : Nat × Nat) : Bool := Nat.beq a.1 b.1 && Nat.beq a.2 b.2 || Nat.ble (hi a.1 a.2) (lo b.1 b.2) || Nat.ble (hi b.1 b.2) (lo a.1 a.2)
theorem apart_all : ids.all (fun a => ids.all (fun b => apartB a b)) = true := by decide +kernel
theorem apart_ids {a b : Nat × Nat} (ha : a ∈ ids) (hb : b ∈ ids) (hn : a ≠ b) : hi a.1 a.2 ≤ lo b.1 b.2 ∨ hi b.1 b.2 ≤ lo a.1 a.2 := by
  have h := List.all_eq_true.mp (List.all_eq_true.mp apart_all a ha) b hb
  simp only [apartB, Bool.or_eq_true, Bool.and_eq_true, Nat.ble_eq] at h
  rcases h with (h | h) | h
  · exact absurd (Prod.ext (Nat.eq_of_beq_eq_true h.1) (Nat.eq_of_beq_eq_true h.2)) hn
  · exact Or.inl h
  · exact Or.inr h
theorem aI_congr {X : TX} {m m' : Mem} {c b n : Nat} (h : ∀ k, b ≤ k → k < b + n → m' k = m k) : aI X m' c b n = aI X m c b n := by
  have e : (fun j => if j < n then m' (b + j) else 0) = (fun j => if j < n then m (b + j) else 0) := by
    funext j
    by_cases hj : j < n
    · rw [if_pos hj, if_pos hj]; exact h _ (by omega) (by omega)
    · rw [if_neg hj, if_neg hj]
  unfold aI
  rw [e]
theorem aL_congr {X : TX} {m m' : Mem} {b n : Nat} (h : ∀ k, b ≤ k → k < b + 2 * n → m' k = m k) : aL X m' b n = aL X m b n := by
  have e : (fun j => if j < n then comb (m' (b + 2 * j)) (m' (b + 2 * j + 1)) else 0) = (fun j => if j < n then comb (m (b + 2 * j)) (m (b + 2 * j + 1)) else 0) := by
    funext j
    by_cases hj : j < n
    · rw [if_pos hj, if_pos hj, h _ (by omega) (by omega), h _ (by omega) (by omega)]
    · rw [if_neg hj, if_neg hj]
  unfold aL
  rw [e]
theorem zcg_0 {X : TX} {m m' : Mem} {i : Nat} (h : ∀ k, lo 0 i ≤ k → k < hi 0 i → m' k = m k) : cellOf X m' 0 i = cellOf X m 0 i := by
  rw [lo_0, hi_0] at h
  rw [zco_0, zco_0]
  simp only [zce_0, h 270 (by (try simp only [sf, vf, hf, lf, tf]); omega) (by (try simp only [sf, vf, hf, lf, tf]); omega), h 271 (by (try simp only [sf, vf, hf, lf, tf]); omega) (by (try simp only [sf, vf, hf, lf, tf]); omega)]
theorem zcg_1 {X : TX} {m m' : Mem} {i : Nat} (h : ∀ k, lo 1 i ≤ k → k < hi 1 i → m' k = m k) : cellOf X m' 1 i = cellOf X m 1 i := by rw [zco_1, zco_1]; rfl
theorem zcg_2 {X : TX} {m m' : Mem} {i : Nat} (h : ∀ k, lo 2 i ≤ k → k < hi 2 i → m' k = m k) : cellOf X m' 2 i = cellOf X m 2 i := by rw [zco_2, zco_2]; rfl
theorem zcg_3 {X : TX} {m m' : Mem} {i : Nat} (h : ∀ k, lo 3 i ≤ k → k < hi 3 i → m' k = m k) : cellOf X m' 3 i = cellOf X m 3 i := by
  rw [lo_3, hi_3] at h
  rw [zco_3, zco_3]
  simp only [zce_3, h (tf i 0) (by (try simp only [sf, vf, hf, lf, tf]); omega) (by (try simp only [sf, vf, hf, lf, tf]); omega), h (tf i 1) (by (try simp only [sf, vf, hf, lf, tf]); omega) (by (try simp only [sf, vf, hf, lf, tf]); omega), h (tf i 2) (by (try simp only [sf, vf, hf, lf, tf]); omega) (by (try simp only [sf, vf, hf, lf, tf]); omega)]
theorem zcg_4 {X : TX} {m m' : Mem} {i : Nat} (h : ∀ k, lo 4 i ≤ k → k < hi 4 i → m' k = m k) : cellOf X m' 4 i = cellOf X m 4 i := by
  rw [lo_4, hi_4] at h
  exact aI_congr (fun k h1 h2 => h k h1 h2)
theorem zcg_5 {X : TX} {m m' : Mem} {i : Nat} (h : ∀ k, lo 5 i ≤ k → k < hi 5 i → m' k = m k) : cellOf X m' 5 i = cellOf X m 5 i := by
  rw [lo_5, hi_5] at h
  exact aI_congr (fun k h1 h2 => h k h1 h2)
theorem zcg_6 {X : TX} {m m' : Mem} {i : Nat} (h : ∀ k, lo 6 i ≤ k → k < hi 6 i → m' k = m k) : cellOf X m' 6 i = cellOf X m 6 i := by
  rw [lo_6, hi_6] at h
  rw [zco_6, zco_6]
  simp only [zce_6, h 280 (by (try simp only [sf, vf, hf, lf, tf]); omega) (by (try simp only [sf, vf, hf, lf, tf]); omega), h 281 (by (try simp only [sf, vf, hf, lf, tf]); omega) (by (try simp only [sf, vf, hf, lf, tf]); omega), h 282 (by (try simp only [sf, vf, hf, lf, tf]); omega) (by (try simp only [sf, vf, hf, lf, tf]); omega), h 283 (by (try simp only [sf, vf, hf, lf, tf]); omega) (by (try simp only [sf, vf, hf, lf, tf]); omega), h 284 (by (try simp only [sf, vf, hf, lf, tf]); omega) (by (try simp only [sf, vf, hf, lf, tf]); omega), h 285 (by (try simp only [sf, vf, hf, lf, tf]); omega) (by (try simp only [sf, vf, hf, lf, tf]); omega), h 286 (by (try simp only [sf, vf, hf, lf, tf]); omega) (by (try simp only [sf, vf, hf, lf, tf]); omega), h 287 (by (try simp only [sf, vf, hf, lf, tf]); omega) (by (try simp only [sf, vf, hf, lf, tf]); omega), h 288 (by (try simp only [sf, vf, hf, lf, tf]); omega) (by (try simp only [sf, vf, hf, lf, tf]); omega)]
theorem zcg_7 {X : TX} {m m' : Mem} {i : Nat} (h : ∀ k, lo 7 i ≤ k → k < hi 7 i → m' k = m k) : cellOf X m' 7 i = cellOf X m 7 i := by
  rw [lo_7, hi_7] at h
  exact aI_congr (fun k h1 h2 => h k h1 h2)
theorem zcg_8 {X : TX} {m m' : Mem} {i : Nat} (h : ∀ k, lo 8 i ≤ k → k < hi 8 i → m' k = m k) : cellOf X m' 8 i = cellOf X m 8 i := by
  rw [lo_8, hi_8] at h
  exact aI_congr (fun k h1 h2 => h k h1 h2)
theorem zcg_9 {X : TX} {m m' : Mem} {i : Nat} (h : ∀ k, lo 9 i ≤ k → k < hi 9 i → m' k = m k) : cellOf X m' 9 i = cellOf X m 9 i := by
  rw [lo_9, hi_9] at h
  rw [zco_9, zco_9]
  simp only [zce_9, h (sf i 1) (by (try simp only [sf, vf, hf, lf, tf]); omega) (by (try simp only [sf, vf, hf, lf, tf]); omega), h (sf i 5) (by (try simp only [sf, vf, hf, lf, tf]); omega) (by (try simp only [sf, vf, hf, lf, tf]); omega), h (sf i 3) (by (try simp only [sf, vf, hf, lf, tf]); omega) (by (try simp only [sf, vf, hf, lf, tf]); omega), h (sf i 4) (by (try simp only [sf, vf, hf, lf, tf]); omega) (by (try simp only [sf, vf, hf, lf, tf]); omega), h (sf i 6) (by (try simp only [sf, vf, hf, lf, tf]); omega) (by (try simp only [sf, vf, hf, lf, tf]); omega), h (sf i 7) (by (try simp only [sf, vf, hf, lf, tf]); omega) (by (try simp only [sf, vf, hf, lf, tf]); omega), h (sf i 8) (by (try simp only [sf, vf, hf, lf, tf]); omega) (by (try simp only [sf, vf, hf, lf, tf]); omega), h (sf i 9) (by (try simp only [sf, vf, hf, lf, tf]); omega) (by (try simp only [sf, vf, hf, lf, tf]); omega), h (sf i 10) (by (try simp only [sf, vf, hf, lf, tf]); omega) (by (try simp only [sf, vf, hf, lf, tf]); omega), h (sf i 11) (by (try simp only [sf, vf, hf, lf, tf]); omega) (by (try simp only [sf, vf, hf, lf, tf]); omega), h (sf i 12) (by (try simp only [sf, vf, hf, lf, tf]); omega) (by (try simp only [sf, vf, hf, lf, tf]); omega), h (sf i 13) (by (try simp only [sf, vf, hf, lf, tf]); omega) (by (try simp only [sf, vf, hf, lf, tf]); omega), h (sf i 14) (by (try simp only [sf, vf, hf, lf, tf]); omega) (by (try simp only [sf, vf, hf, lf, tf]); omega), h (sf i 2) (by (try simp only [sf, vf, hf, lf, tf]); omega) (by (try simp only [sf, vf, hf, lf, tf]); omega), h (sf i 0) (by (try simp only [sf, vf, hf, lf, tf]); omega) (by (try simp only [sf, vf, hf, lf, tf]); omega), h (sf i 15) (by (try simp only [sf, vf, hf, lf, tf]); omega) (by (try simp only [sf, vf, hf, lf, tf]); omega)]
theorem zcg_10 {X : TX} {m m' : Mem} {i : Nat} (h : ∀ k, lo 10 i ≤ k → k < hi 10 i → m' k = m k) : cellOf X m' 10 i = cellOf X m 10 i := by rw [zco_10, zco_10]; rfl
theorem zcg_11 {X : TX} {m m' : Mem} {i : Nat} (h : ∀ k, lo 11 i ≤ k → k < hi 11 i → m' k = m k) : cellOf X m' 11 i = cellOf X m 11 i := by
  rw [lo_11, hi_11] at h
  rw [zco_11, zco_11]
  simp only [zce_11, h (vf i 0) (by (try simp only [sf, vf, hf, lf, tf]); omega) (by (try simp only [sf, vf, hf, lf, tf]); omega), h (vf i 1) (by (try simp only [sf, vf, hf, lf, tf]); omega) (by (try simp only [sf, vf, hf, lf, tf]); omega), h (vf i 2) (by (try simp only [sf, vf, hf, lf, tf]); omega) (by (try simp only [sf, vf, hf, lf, tf]); omega), h (vf i 3) (by (try simp only [sf, vf, hf, lf, tf]); omega) (by (try simp only [sf, vf, hf, lf, tf]); omega), h (vf i 4) (by (try simp only [sf, vf, hf, lf, tf]); omega) (by (try simp only [sf, vf, hf, lf, tf]); omega), h (vf i 5) (by (try simp only [sf, vf, hf, lf, tf]); omega) (by (try simp only [sf, vf, hf, lf, tf]); omega), h (vf i 6) (by (try simp only [sf, vf, hf, lf, tf]); omega) (by (try simp only [sf, vf, hf, lf, tf]); omega)]
theorem zcg_12 {X : TX} {m m' : Mem} {i : Nat} (h : ∀ k, lo 12 i ≤ k → k < hi 12 i → m' k = m k) : cellOf X m' 12 i = cellOf X m 12 i := by
  rw [lo_12, hi_12] at h
  exact aI_congr (fun k h1 h2 => h k h1 h2)
theorem zcg_13 {X : TX} {m m' : Mem} {i : Nat} (h : ∀ k, lo 13 i ≤ k → k < hi 13 i → m' k = m k) : cellOf X m' 13 i = cellOf X m 13 i := by
  rw [lo_13, hi_13] at h
  rw [zco_13, zco_13]
  simp only [zce_13, h 272 (by (try simp only [sf, vf, hf, lf, tf]); omega) (by (try simp only [sf, vf, hf, lf, tf]); omega), h 273 (by (try simp only [sf, vf, hf, lf, tf]); omega) (by (try simp only [sf, vf, hf, lf, tf]); omega)]
theorem zcg_14 {X : TX} {m m' : Mem} {i : Nat} (h : ∀ k, lo 14 i ≤ k → k < hi 14 i → m' k = m k) : cellOf X m' 14 i = cellOf X m 14 i := by rw [zco_14, zco_14]; rfl
theorem zcg_15 {X : TX} {m m' : Mem} {i : Nat} (h : ∀ k, lo 15 i ≤ k → k < hi 15 i → m' k = m k) : cellOf X m' 15 i = cellOf X m 15 i := by
  rw [lo_15, hi_15] at h
  rw [zco_15, zco_15]
  simp only [zce_15, h (hf i 0) (by (try simp only [sf, vf, hf, lf, tf]); omega) (by (try simp only [sf, vf, hf, lf, tf]); omega), h (hf i 1) (by (try simp only [sf, vf, hf, lf, tf]); omega) (by (try simp only [sf, vf, hf, lf, tf]); omega)]
theorem zcg_16 {X : TX} {m m' : Mem} {i : Nat} (h : ∀ k, lo 16 i ≤ k → k < hi 16 i → m' k = m k) : cellOf X m' 16 i = cellOf X m 16 i := by
  rw [lo_16, hi_16] at h
  exact aI_congr (fun k h1 h2 => h k h1 h2)
theorem zcg_17 {X : TX} {m m' : Mem} {i : Nat} (h : ∀ k, lo 17 i ≤ k → k < hi 17 i → m' k = m k) : cellOf X m' 17 i = cellOf X m 17 i := by rw [zco_17, zco_17]; rfl
theorem zcg_18 {X : TX} {m m' : Mem} {i : Nat} (h : ∀ k, lo 18 i ≤ k → k < hi 18 i → m' k = m k) : cellOf X m' 18 i = cellOf X m 18 i := by
  rw [lo_18, hi_18] at h
  rw [zco_18, zco_18]
  simp only [zce_18, h (lf i 0) (by (try simp only [sf, vf, hf, lf, tf]); omega) (by (try simp only [sf, vf, hf, lf, tf]); omega), h (lf i 1) (by (try simp only [sf, vf, hf, lf, tf]); omega) (by (try simp only [sf, vf, hf, lf, tf]); omega)]
theorem zcg_19 {X : TX} {m m' : Mem} {i : Nat} (h : ∀ k, lo 19 i ≤ k → k < hi 19 i → m' k = m k) : cellOf X m' 19 i = cellOf X m 19 i := by
  rw [lo_19, hi_19] at h
  exact aI_congr (fun k h1 h2 => h k h1 h2)
theorem zcg_20 {X : TX} {m m' : Mem} {i : Nat} (h : ∀ k, lo 20 i ≤ k → k < hi 20 i → m' k = m k) : cellOf X m' 20 i = cellOf X m 20 i := by
  rw [lo_20, hi_20] at h
  rw [zco_20, zco_20]
  simp only [zce_20, h 3000 (by (try simp only [sf, vf, hf, lf, tf]); omega) (by (try simp only [sf, vf, hf, lf, tf]); omega), h 3001 (by (try simp only [sf, vf, hf, lf, tf]); omega) (by (try simp only [sf, vf, hf, lf, tf]); omega), h 3002 (by (try simp only [sf, vf, hf, lf, tf]); omega) (by (try simp only [sf, vf, hf, lf, tf]); omega), h 3003 (by (try simp only [sf, vf, hf, lf, tf]); omega) (by (try simp only [sf, vf, hf, lf, tf]); omega), h 3004 (by (try simp only [sf, vf, hf, lf, tf]); omega) (by (try simp only [sf, vf, hf, lf, tf]); omega), h 3005 (by (try simp only [sf, vf, hf, lf, tf]); omega) (by (try simp only [sf, vf, hf, lf, tf]); omega), h 3006 (by (try simp only [sf, vf, hf, lf, tf]); omega) (by (try simp only [sf, vf, hf, lf, tf]); omega), h 3007 (by (try simp only [sf, vf, hf, lf, tf]); omega) (by (try simp only [sf, vf, hf, lf, tf]); omega), h 3008 (by (try simp only [sf, vf, hf, lf, tf]); omega) (by (try simp only [sf, vf, hf, lf, tf]); omega), h 3009 (by (try simp only [sf, vf, hf, lf, tf]); omega) (by (try simp only [sf, vf, hf, lf, tf]); omega), h 3010 (by (try simp only [sf, vf, hf, lf, tf]); omega) (by (try simp only [sf, vf, hf, lf, tf]); omega), h 3011 (by (try simp only [sf, vf, hf, lf, tf]); omega) (by (try simp only [sf, vf, hf, lf, tf]); omega), h 3012 (by (try simp only [sf, vf, hf, lf, tf]); omega) (by (try simp only [sf, vf, hf, lf, tf]); omega)]
theorem zcg_21 {X : TX} {m m' : Mem} {i : Nat} (h : ∀ k, lo 21 i ≤ k → k < hi 21 i → m' k = m k) : cellOf X m' 21 i = cellOf X m 21 i := by
  rw [lo_21, hi_21] at h
  exact aI_congr (fun k h1 h2 => h k h1 h2)
theorem zcg_22 {X : TX} {m m' : Mem} {i : Nat} (h : ∀ k, lo 22 i ≤ k → k < hi 22 i → m' k = m k) : cellOf X m' 22 i = cellOf X m 22 i := by
  rw [lo_22, hi_22] at h
  exact aI_congr (fun k h1 h2 => h k h1 h2)
theorem zcg_23 {X : TX} {m m' : Mem} {i : Nat} (h : ∀ k, lo 23 i ≤ k → k < hi 23 i → m' k = m k) : cellOf X m' 23 i = cellOf X m 23 i := by
  rw [lo_23, hi_23] at h
  exact aL_congr (fun k h1 h2 => h k h1 h2)
theorem zcg_24 {X : TX} {m m' : Mem} {i : Nat} (h : ∀ k, lo 24 i ≤ k → k < hi 24 i → m' k = m k) : cellOf X m' 24 i = cellOf X m 24 i := by
  rw [lo_24, hi_24] at h
  exact aI_congr (fun k h1 h2 => h k h1 h2)
theorem zcg_25 {X : TX} {m m' : Mem} {i : Nat} (h : ∀ k, lo 25 i ≤ k → k < hi 25 i → m' k = m k) : cellOf X m' 25 i = cellOf X m 25 i := by
  rw [lo_25, hi_25] at h
  exact aI_congr (fun k h1 h2 => h k h1 h2)
theorem zcg_26 {X : TX} {m m' : Mem} {i : Nat} (h : ∀ k, lo 26 i ≤ k → k < hi 26 i → m' k = m k) : cellOf X m' 26 i = cellOf X m 26 i := by
  rw [lo_26, hi_26] at h
  exact aI_congr (fun k h1 h2 => h k h1 h2)
theorem zcg_27 {X : TX} {m m' : Mem} {i : Nat} (h : ∀ k, lo 27 i ≤ k → k < hi 27 i → m' k = m k) : cellOf X m' 27 i = cellOf X m 27 i := by
  rw [lo_27, hi_27] at h
  exact aI_congr (fun k h1 h2 => h k h1 h2)
theorem zcg_28 {X : TX} {m m' : Mem} {i : Nat} (h : ∀ k, lo 28 i ≤ k → k < hi 28 i → m' k = m k) : cellOf X m' 28 i = cellOf X m 28 i := by
  rw [lo_28, hi_28] at h
  exact aI_congr (fun k h1 h2 => h k h1 h2)
theorem zcg_29 {X : TX} {m m' : Mem} {i : Nat} (h : ∀ k, lo 29 i ≤ k → k < hi 29 i → m' k = m k) : cellOf X m' 29 i = cellOf X m 29 i := by
  rw [lo_29, hi_29] at h
  exact aI_congr (fun k h1 h2 => h k h1 h2)
theorem zcg_30 {X : TX} {m m' : Mem} {i : Nat} (h : ∀ k, lo 30 i ≤ k → k < hi 30 i → m' k = m k) : cellOf X m' 30 i = cellOf X m 30 i := by
  rw [lo_30, hi_30] at h
  exact aI_congr (fun k h1 h2 => h k h1 h2)
theorem zcg_31 {X : TX} {m m' : Mem} {i : Nat} (h : ∀ k, lo 31 i ≤ k → k < hi 31 i → m' k = m k) : cellOf X m' 31 i = cellOf X m 31 i := by
  rw [lo_31, hi_31] at h
  exact aI_congr (fun k h1 h2 => h k h1 h2)
theorem zcg_32 {X : TX} {m m' : Mem} {i : Nat} (h : ∀ k, lo 32 i ≤ k → k < hi 32 i → m' k = m k) : cellOf X m' 32 i = cellOf X m 32 i := by
  rw [lo_32, hi_32] at h
  exact aI_congr (fun k h1 h2 => h k h1 h2)
theorem zcg_33 {X : TX} {m m' : Mem} {i : Nat} (h : ∀ k, lo 33 i ≤ k → k < hi 33 i → m' k = m k) : cellOf X m' 33 i = cellOf X m 33 i := by
  rw [lo_33, hi_33] at h
  exact aI_congr (fun k h1 h2 => h k h1 h2)
theorem zcg_34 {X : TX} {m m' : Mem} {i : Nat} (h : ∀ k, lo 34 i ≤ k → k < hi 34 i → m' k = m k) : cellOf X m' 34 i = cellOf X m 34 i := by
  rw [lo_34, hi_34] at h
  exact aI_congr (fun k h1 h2 => h k h1 h2)
theorem zcg_35 {X : TX} {m m' : Mem} {i : Nat} (h : ∀ k, lo 35 i ≤ k → k < hi 35 i → m' k = m k) : cellOf X m' 35 i = cellOf X m 35 i := by
  rw [lo_35, hi_35] at h
  exact aI_congr (fun k h1 h2 => h k h1 h2)
theorem zcg_36 {X : TX} {m m' : Mem} {i : Nat} (h : ∀ k, lo 36 i ≤ k → k < hi 36 i → m' k = m k) : cellOf X m' 36 i = cellOf X m 36 i := by
  rw [lo_36, hi_36] at h
  exact aI_congr (fun k h1 h2 => h k h1 h2)
theorem zcg_37 {X : TX} {m m' : Mem} {i : Nat} (h : ∀ k, lo 37 i ≤ k → k < hi 37 i → m' k = m k) : cellOf X m' 37 i = cellOf X m 37 i := by
  rw [lo_37, hi_37] at h
  exact aI_congr (fun k h1 h2 => h k h1 h2)
theorem zcg_38 {X : TX} {m m' : Mem} {i : Nat} (h : ∀ k, lo 38 i ≤ k → k < hi 38 i → m' k = m k) : cellOf X m' 38 i = cellOf X m 38 i := by
  rw [lo_38, hi_38] at h
  exact aI_congr (fun k h1 h2 => h k h1 h2)
theorem zcg_39 {X : TX} {m m' : Mem} {i : Nat} (h : ∀ k, lo 39 i ≤ k → k < hi 39 i → m' k = m k) : cellOf X m' 39 i = cellOf X m 39 i := by
  rw [lo_39, hi_39] at h
  exact aI_congr (fun k h1 h2 => h k h1 h2)
theorem zcg_40 {X : TX} {m m' : Mem} {i : Nat} (h : ∀ k, lo 40 i ≤ k → k < hi 40 i → m' k = m k) : cellOf X m' 40 i = cellOf X m 40 i := by
  rw [lo_40, hi_40] at h
  exact aI_congr (fun k h1 h2 => h k h1 h2)
theorem cell_congr {X : TX} {m m' : Mem} (r i : Nat) (h : ∀ k, lo r i ≤ k → k < hi r i → m' k = m k) : cellOf X m' r i = cellOf X m r i := by
  by_cases h0 : r = 0
  · subst h0; exact zcg_0 h
  by_cases h1 : r = 1
  · subst h1; exact zcg_1 h
  by_cases h2 : r = 2
  · subst h2; exact zcg_2 h
  by_cases h3 : r = 3
  · subst h3; exact zcg_3 h
  by_cases h4 : r = 4
  · subst h4; exact zcg_4 h
  by_cases h5 : r = 5
  · subst h5; exact zcg_5 h
  by_cases h6 : r = 6
  · subst h6; exact zcg_6 h
  by_cases h7 : r = 7
  · subst h7; exact zcg_7 h
  by_cases h8 : r = 8
  · subst h8; exact zcg_8 h
  by_cases h9 : r = 9
  · subst h9; exact zcg_9 h
  by_cases h10 : r = 10
  · subst h10; exact zcg_10 h
  by_cases h11 : r = 11
  · subst h11; exact zcg_11 h
  by_cases h12 : r = 12
  · subst h12; exact zcg_12 h
  by_cases h13 : r = 13
  · subst h13; exact zcg_13 h
  by_cases h14 : r = 14
  · subst h14; exact zcg_14 h
  by_cases h15 : r = 15
  · subst h15; exact zcg_15 h
  by_cases h16 : r = 16
  · subst h16; exact zcg_16 h
  by_cases h17 : r = 17
  · subst h17; exact zcg_17 h
  by_cases h18 : r = 18
  · subst h18; exact zcg_18 h
  by_cases h19 : r = 19
  · subst h19; exact zcg_19 h
  by_cases h20 : r = 20
  · subst h20; exact zcg_20 h
  by_cases h21 : r = 21
  · subst h21; exact zcg_21 h
  by_cases h22 : r = 22
  · subst h22; exact zcg_22 h
  by_cases h23 : r = 23
  · subst h23; exact zcg_23 h
  by_cases h24 : r = 24
  · subst h24; exact zcg_24 h
  by_cases h25 : r = 25
  · subst h25; exact zcg_25 h
  by_cases h26 : r = 26
  · subst h26; exact zcg_26 h
  by_cases h27 : r = 27
  · subst h27; exact zcg_27 h
  by_cases h28 : r = 28
  · subst h28; exact zcg_28 h
  by_cases h29 : r = 29
  · subst h29; exact zcg_29 h
  by_cases h30 : r = 30
  · subst h30; exact zcg_30 h
  by_cases h31 : r = 31
  · subst h31; exact zcg_31 h
  by_cases h32 : r = 32
  · subst h32; exact zcg_32 h
  by_cases h33 : r = 33
  · subst h33; exact zcg_33 h
  by_cases h34 : r = 34
  · subst h34; exact zcg_34 h
  by_cases h35 : r = 35
  · subst h35; exact zcg_35 h
  by_cases h36 : r = 36
  · subst h36; exact zcg_36 h
  by_cases h37 : r = 37
  · subst h37; exact zcg_37 h
  by_cases h38 : r = 38
  · subst h38; exact zcg_38 h
  by_cases h39 : r = 39
  · subst h39; exact zcg_39 h
  by_cases h40 : r = 40
  · subst h40; exact zcg_40 h
  simp only [cellOf, if_neg h0, if_neg h1, if_neg h2, if_neg h3, if_neg h4, if_neg h5, if_neg h6, if_neg h7, if_neg h8, if_neg h9, if_neg h10, if_neg h11, if_neg h12, if_neg h13, if_neg h14, if_neg h15, if_neg h16, if_neg h17, if_neg h18, if_neg h19, if_neg h20, if_neg h21, if_neg h22, if_neg h23, if_neg h24, if_neg h25, if_neg h26, if_neg h27, if_neg h28, if_neg h29, if_neg h30, if_neg h31, if_neg h32, if_neg h33, if_neg h34, if_neg h35, if_neg h36, if_neg h37, if_neg h38, if_neg h39, if_neg h40]
theorem cell_out {X : TX} {m : Mem} {a b : Nat × Nat} (ha : a ∈ ids) (hb : b ∈ ids) (hn : b ≠ a) {k : Nat} {x : Int32} (h1 : lo a.1 a.2 ≤ k) (h2 : k < hi a.1 a.2) : cellOf X (upd m k x) b.1 b.2 = cellOf X m b.1 b.2 :=
  cell_congr b.1 b.2 (fun q q1 q2 => pk_un (by rcases apart_ids ha hb (Ne.symm hn) with h | h <;> omega))
theorem ids_nodup : va_nd (ids.map fun q => 100 * q.1 + q.2) = true := by decide +kernel
theorem at_ids {X : TX} {m : Mem} {a : Nat × Nat} (ha : a ∈ ids) : ∃ p : Nat, ids[p]? = some a ∧ (wcells X m)[p]? = some (ad X a.1 a.2, cellOf X m a.1 a.2) := by
  obtain ⟨p, hp⟩ := List.getElem?_of_mem ha
  exact ⟨p, hp, by rw [wcells, List.getElem?_map, hp]; rfl⟩
theorem ids_inj {p q : Nat} {a : Nat × Nat} (hp : ids[p]? = some a) (hq : ids[q]? = some a) : p = q :=
  va_nd_inj _ ids_nodup p q (100 * a.1 + a.2) (by rw [List.getElem?_map, hp]; rfl) (by rw [List.getElem?_map, hq]; rfl)
theorem wcells_D {X : TX} {m : Mem} (hI : IJ X) : va_D (ar X) (wcells X m) := by
  have key : ∀ (k : Nat) (q : Nat × va_E), (wcells X m)[k]? = some q → ∃ a, ids[k]? = some a ∧ a ∈ ids ∧ q.1 = ad X a.1 a.2 := by
    intro k q hk
    rw [wcells, List.getElem?_map] at hk
    cases ha : ids[k]? with
    | none => rw [ha] at hk; cases hk
    | some a => rw [ha] at hk; cases hk; exact ⟨a, rfl, List.mem_of_getElem? ha, rfl⟩
  refine ⟨fun i j x y hi hj hxy => ?_, fun k q hk => ?_⟩
  · obtain ⟨a, h1, h2, h3⟩ := key i x hi
    obtain ⟨b, h4, h5, h6⟩ := key j y hj
    have := hI a h2 b h5 (by rw [← h3, ← h6, hxy])
    subst this
    exact ids_inj h1 h4
  · obtain ⟨a, h1, h2, h3⟩ := key k q hk
    exact ⟨a, h2, h3⟩
theorem map_set {L : List (Nat × Nat)} (hinj : ∀ (p q : Nat) (a : Nat × Nat), L[p]? = some a → L[q]? = some a → p = q) {f g : Nat × Nat → Nat × va_E} {a : Nat × Nat} {p : Nat} {z : Nat × va_E} (hp : L[p]? = some a) (he : g a = z) (ho : ∀ b ∈ L, b ≠ a → g b = f b) : (L.map f).set p z = L.map g := by
  apply List.ext_getElem?
  intro k
  by_cases hk : k = p
  · subst hk
    have hl : k < (L.map f).length := by
      rw [List.length_map]; exact (List.getElem?_eq_some_iff.mp hp).1
    rw [List.getElem?_set_self hl, List.getElem?_map, hp, ← he]; rfl
  · rw [List.getElem?_set_ne (Ne.symm hk), List.getElem?_map, List.getElem?_map]
    cases hb : L[k]? with
    | none => rfl
    | some b =>
      show some (f b) = some (g b)
      rw [ho b (List.mem_of_getElem? hb) (fun z => hk (hinj k p a (by rw [hb, z]) hp))]
/-- a store in one cell -/
theorem wcells_set {X : TX} {m m1 : Mem} {a : Nat × Nat} {p : Nat} {e : va_E} (hp : ids[p]? = some a) (he : cellOf X m1 a.1 a.2 = e) (ho : ∀ b ∈ ids, b ≠ a → cellOf X m1 b.1 b.2 = cellOf X m b.1 b.2) : (wcells X m).set p (ad X a.1 a.2, e) = wcells X m1 :=
  map_set (fun _ _ _ h1 h2 => ids_inj h1 h2) hp (by rw [he]) (fun b hb hn => by rw [ho b hb hn])
