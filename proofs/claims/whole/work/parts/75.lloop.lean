/-! ===== the law's loop ===== -/
theorem z_63 (x : Int32) : 0 ≤ (x &&& Int32.ofInt 63).toInt ∧ (x &&& Int32.ofInt 63).toInt ≤ 63 := by
  have h : (x &&& Int32.ofInt 63).toBitVec.toNat ≤ 63 := by
    rw [Int32.toBitVec_and, BitVec.toNat_and]
    exact Nat.and_le_right
  have h2 : (x &&& Int32.ofInt 63).toInt = ((x &&& Int32.ofInt 63).toBitVec.toNat : Int) := by
    show (x &&& Int32.ofInt 63).toBitVec.toInt = _
    exact BitVec.toInt_eq_toNat_of_lt (by omega)
  omega
theorem law_step {X : zC} {L : Nat} {xs : Nat → Int32} (hX : zOk X RL cL_law 10 15) (hS : zSc X L xs) (hN : zNc X.2.1.2.2.2) (hL : L ≤ 2048) (hE : ∀ b lo st, Z X b 2671 lo [vi 1] st) {i b : Nat} {D : Int} {c : Nat → Int} {R : aQ} {τ : Nat → Nat → Int} {l : (Nat → Int64) × (Nat → UInt64)} (hiL : i ≤ L) (hs : LwS D c R τ) (hk0 : i + 4 ≤ L → D + 1800 ≤ 1000000 ∧ 1 ≤ b ∧ ∀ (c' : Nat → Int) (R' : aQ) (τ' : Nat → Nat → Int) (l' : (Nat → Int64) × (Nat → UInt64)), LwS (D + 1800) c' R' τ' → Z X (b - 1) 2664 (lL i) [] (τ', l')) : Z X b 28 (lL i) [] (τ, l) := by
  refine z_b hX (fo_no RL) [.iload 5, .aload_n 0] 31 (by decide +kernel) rfl ?_
  refine z_slen hX hS (by decide +kernel) ?_
  refine z_b hX (fo_no RL) [.iconst 4, .isub] 34 (by decide +kernel) rfl ?_
  refine z_ic_gt hX (off := 2636) 2670 (by decide +kernel) (by decide) ⟨by omega, by omega⟩ ⟨by omega, by omega⟩ (fun _ => z_b hX (fo_no RL) [.iconst 1] 2671 (by decide +kernel) rfl (hE _ _ _)) (fun hle => ?_)
  have hi4 : i + 4 ≤ L := by omega
  obtain ⟨hD, hb, hk⟩ := hk0 hi4
  refine z_b hX (fo_no RL) [.aload_n 0, .iload 5] 40 (by decide +kernel) rfl ?_
  refine z_sld hX hS i (by omega) hL rfl (by decide +kernel) ?_
  refine z_b hX (fo_no RL) [.bipush 63] 43 (by decide +kernel) rfl ?_
  refine z_iand hX (by decide +kernel) ?_
  have ho := z_63 (Int32.ofInt (xs i).toInt)
  generalize (Int32.ofInt (xs i).toInt &&& Int32.ofInt 63).toInt = o at ho ⊢
  have hd : decode cL_law 44 = .ok (.tableswitch 2620 0 42 #[188, 244, 312, 380, 448, 516, 584, 652, 727, 783, 851, 919, 963, 1031, 1099, 1167, 1247, 1315, 1371, 1427, 1483, 1527, 1595, 1651, 1719, 1775, 1819, 1875, 1931, 1987, 2043, 2099, 2157, 2201, 2214, 2286, 2342, 2398, 2411, 2476, 2519, 2563, 2576], 188) := (by decide +kernel)
  by_cases h43 : 42 < o
  · refine z_tOut hX 2664 hd ⟨by omega, by omega⟩ (Or.inr h43) (by decide) ?_
    exact z_less (by omega) (hk c R τ l (hs.mono (by omega)))
  by_cases e0 : o = 0
  · rw [e0]
    exact z_tIn hX (off := 188) 232 hd ⟨by decide, by decide⟩ (by decide) (by decide) (by decide) (by decide) (law_0 hX hS hN hL hi4 hs hD hb hk)
  by_cases e1 : o = 1
  · rw [e1]
    exact z_tIn hX (off := 244) 288 hd ⟨by decide, by decide⟩ (by decide) (by decide) (by decide) (by decide) (law_1 hX hS hN hL hi4 hs hD hb hk)
  by_cases e2 : o = 2
  · rw [e2]
    exact z_tIn hX (off := 312) 356 hd ⟨by decide, by decide⟩ (by decide) (by decide) (by decide) (by decide) (law_2 hX hS hN hL hi4 hs hD hb hk)
  by_cases e3 : o = 3
  · rw [e3]
    exact z_tIn hX (off := 380) 424 hd ⟨by decide, by decide⟩ (by decide) (by decide) (by decide) (by decide) (law_3 hX hS hN hL hi4 hs hD hb hk)
  by_cases e4 : o = 4
  · rw [e4]
    exact z_tIn hX (off := 448) 492 hd ⟨by decide, by decide⟩ (by decide) (by decide) (by decide) (by decide) (law_4 hX hS hN hL hi4 hs hD hb hk)
  by_cases e5 : o = 5
  · rw [e5]
    exact z_tIn hX (off := 516) 560 hd ⟨by decide, by decide⟩ (by decide) (by decide) (by decide) (by decide) (law_5 hX hS hN hL hi4 hs hD hb hk)
  by_cases e6 : o = 6
  · rw [e6]
    exact z_tIn hX (off := 584) 628 hd ⟨by decide, by decide⟩ (by decide) (by decide) (by decide) (by decide) (law_6 hX hS hN hL hi4 hs hD hb hk)
  by_cases e7 : o = 7
  · rw [e7]
    exact z_tIn hX (off := 652) 696 hd ⟨by decide, by decide⟩ (by decide) (by decide) (by decide) (by decide) (law_7 hX hS hN hL hi4 hs hD hb hk)
  by_cases e8 : o = 8
  · rw [e8]
    exact z_tIn hX (off := 727) 771 hd ⟨by decide, by decide⟩ (by decide) (by decide) (by decide) (by decide) (law_8 hX hS hN hL hi4 hs hD hb hk)
  by_cases e9 : o = 9
  · rw [e9]
    exact z_tIn hX (off := 783) 827 hd ⟨by decide, by decide⟩ (by decide) (by decide) (by decide) (by decide) (law_9 hX hS hN hL hi4 hs hD hb hk)
  by_cases e10 : o = 10
  · rw [e10]
    exact z_tIn hX (off := 851) 895 hd ⟨by decide, by decide⟩ (by decide) (by decide) (by decide) (by decide) (law_10 hX hS hN hL hi4 hs hD hb hk)
  by_cases e11 : o = 11
  · rw [e11]
    exact z_tIn hX (off := 919) 963 hd ⟨by decide, by decide⟩ (by decide) (by decide) (by decide) (by decide) (law_11 hX hS hN hL hi4 hs hD hb hk)
  by_cases e12 : o = 12
  · rw [e12]
    exact z_tIn hX (off := 963) 1007 hd ⟨by decide, by decide⟩ (by decide) (by decide) (by decide) (by decide) (law_12 hX hS hN hL hi4 hs hD hb hk)
  by_cases e13 : o = 13
  · rw [e13]
    exact z_tIn hX (off := 1031) 1075 hd ⟨by decide, by decide⟩ (by decide) (by decide) (by decide) (by decide) (law_13 hX hS hN hL hi4 hs hD hb hk)
  by_cases e14 : o = 14
  · rw [e14]
    exact z_tIn hX (off := 1099) 1143 hd ⟨by decide, by decide⟩ (by decide) (by decide) (by decide) (by decide) (law_14 hX hS hN hL hi4 hs hD hb hk)
  by_cases e15 : o = 15
  · rw [e15]
    exact z_tIn hX (off := 1167) 1211 hd ⟨by decide, by decide⟩ (by decide) (by decide) (by decide) (by decide) (law_15 hX hS hN hL hi4 hs hD hb hk)
  by_cases e16 : o = 16
  · rw [e16]
    exact z_tIn hX (off := 1247) 1291 hd ⟨by decide, by decide⟩ (by decide) (by decide) (by decide) (by decide) (law_16 hX hS hN hL hi4 hs hD hb hk)
  by_cases e17 : o = 17
  · rw [e17]
    exact z_tIn hX (off := 1315) 1359 hd ⟨by decide, by decide⟩ (by decide) (by decide) (by decide) (by decide) (law_17 hX hS hN hL hi4 hs hD hb hk)
  by_cases e18 : o = 18
  · rw [e18]
    exact z_tIn hX (off := 1371) 1415 hd ⟨by decide, by decide⟩ (by decide) (by decide) (by decide) (by decide) (law_18 hX hS hN hL hi4 hs hD hb hk)
  by_cases e19 : o = 19
  · rw [e19]
    exact z_tIn hX (off := 1427) 1471 hd ⟨by decide, by decide⟩ (by decide) (by decide) (by decide) (by decide) (law_19 hX hS hN hL hi4 hs hD hb hk)
  by_cases e20 : o = 20
  · rw [e20]
    exact z_tIn hX (off := 1483) 1527 hd ⟨by decide, by decide⟩ (by decide) (by decide) (by decide) (by decide) (law_20 hX hS hN hL hi4 hs hD hb hk)
  by_cases e21 : o = 21
  · rw [e21]
    exact z_tIn hX (off := 1527) 1571 hd ⟨by decide, by decide⟩ (by decide) (by decide) (by decide) (by decide) (law_21 hX hS hN hL hi4 hs hD hb hk)
  by_cases e22 : o = 22
  · rw [e22]
    exact z_tIn hX (off := 1595) 1639 hd ⟨by decide, by decide⟩ (by decide) (by decide) (by decide) (by decide) (law_22 hX hS hN hL hi4 hs hD hb hk)
  by_cases e23 : o = 23
  · rw [e23]
    exact z_tIn hX (off := 1651) 1695 hd ⟨by decide, by decide⟩ (by decide) (by decide) (by decide) (by decide) (law_23 hX hS hN hL hi4 hs hD hb hk)
  by_cases e24 : o = 24
  · rw [e24]
    exact z_tIn hX (off := 1719) 1763 hd ⟨by decide, by decide⟩ (by decide) (by decide) (by decide) (by decide) (law_24 hX hS hN hL hi4 hs hD hb hk)
  by_cases e25 : o = 25
  · rw [e25]
    exact z_tIn hX (off := 1775) 1819 hd ⟨by decide, by decide⟩ (by decide) (by decide) (by decide) (by decide) (law_25 hX hS hN hL hi4 hs hD hb hk)
  by_cases e26 : o = 26
  · rw [e26]
    exact z_tIn hX (off := 1819) 1863 hd ⟨by decide, by decide⟩ (by decide) (by decide) (by decide) (by decide) (law_26 hX hS hN hL hi4 hs hD hb hk)
  by_cases e27 : o = 27
  · rw [e27]
    exact z_tIn hX (off := 1875) 1919 hd ⟨by decide, by decide⟩ (by decide) (by decide) (by decide) (by decide) (law_27 hX hS hN hL hi4 hs hD hb hk)
  by_cases e28 : o = 28
  · rw [e28]
    exact z_tIn hX (off := 1931) 1975 hd ⟨by decide, by decide⟩ (by decide) (by decide) (by decide) (by decide) (law_28 hX hS hN hL hi4 hs hD hb hk)
  by_cases e29 : o = 29
  · rw [e29]
    exact z_tIn hX (off := 1987) 2031 hd ⟨by decide, by decide⟩ (by decide) (by decide) (by decide) (by decide) (law_29 hX hS hN hL hi4 hs hD hb hk)
  by_cases e30 : o = 30
  · rw [e30]
    exact z_tIn hX (off := 2043) 2087 hd ⟨by decide, by decide⟩ (by decide) (by decide) (by decide) (by decide) (law_30 hX hS hN hL hi4 hs hD hb hk)
  by_cases e31 : o = 31
  · rw [e31]
    exact z_tIn hX (off := 2099) 2143 hd ⟨by decide, by decide⟩ (by decide) (by decide) (by decide) (by decide) (law_31 hX hS hN hL hi4 hs hD hb hk)
  by_cases e32 : o = 32
  · rw [e32]
    exact z_tIn hX (off := 2157) 2201 hd ⟨by decide, by decide⟩ (by decide) (by decide) (by decide) (by decide) (law_32 hX hS hN hL hi4 hs hD hb hk)
  by_cases e33 : o = 33
  · rw [e33]
    exact z_tIn hX (off := 2201) 2245 hd ⟨by decide, by decide⟩ (by decide) (by decide) (by decide) (by decide) (law_33 hX hS hN hL hi4 hs hD hb hk)
  by_cases e34 : o = 34
  · rw [e34]
    exact z_tIn hX (off := 2214) 2258 hd ⟨by decide, by decide⟩ (by decide) (by decide) (by decide) (by decide) (law_34 hX hS hN hL hi4 hs hD hb hk)
  by_cases e35 : o = 35
  · rw [e35]
    exact z_tIn hX (off := 2286) 2330 hd ⟨by decide, by decide⟩ (by decide) (by decide) (by decide) (by decide) (law_35 hX hS hN hL hi4 hs hD hb hk)
  by_cases e36 : o = 36
  · rw [e36]
    exact z_tIn hX (off := 2342) 2386 hd ⟨by decide, by decide⟩ (by decide) (by decide) (by decide) (by decide) (law_36 hX hS hN hL hi4 hs hD hb hk)
  by_cases e37 : o = 37
  · rw [e37]
    exact z_tIn hX (off := 2398) 2442 hd ⟨by decide, by decide⟩ (by decide) (by decide) (by decide) (by decide) (law_37 hX hS hN hL hi4 hs hD hb hk)
  by_cases e38 : o = 38
  · rw [e38]
    exact z_tIn hX (off := 2411) 2455 hd ⟨by decide, by decide⟩ (by decide) (by decide) (by decide) (by decide) (law_38 hX hS hN hL hi4 hs hD hb hk)
  by_cases e39 : o = 39
  · rw [e39]
    exact z_tIn hX (off := 2476) 2520 hd ⟨by decide, by decide⟩ (by decide) (by decide) (by decide) (by decide) (law_39 hX hS hN hL hi4 hs hD hb hk)
  by_cases e40 : o = 40
  · rw [e40]
    exact z_tIn hX (off := 2519) 2563 hd ⟨by decide, by decide⟩ (by decide) (by decide) (by decide) (by decide) (law_40 hX hS hN hL hi4 hs hD hb hk)
  by_cases e41 : o = 41
  · rw [e41]
    exact z_tIn hX (off := 2563) 2607 hd ⟨by decide, by decide⟩ (by decide) (by decide) (by decide) (by decide) (law_41 hX hS hN hL hi4 hs hD hb hk)
  by_cases e42 : o = 42
  · rw [e42]
    exact z_tIn hX (off := 2576) 2620 hd ⟨by decide, by decide⟩ (by decide) (by decide) (by decide) (by decide) (law_42 hX hS hN hL hi4 hs hD hb hk)
  exfalso
  omega
theorem law_loop {X : zC} {L : Nat} {xs : Nat → Int32} (hX : zOk X RL cL_law 10 15) (hS : zSc X L xs) (hN : zNc X.2.1.2.2.2) (hL : L ≤ 2048) (hE : ∀ b lo st, Z X b 2671 lo [vi 1] st) : ∀ (m i b : Nat) (D : Int) (c : Nat → Int) (R : aQ) (τ : Nat → Nat → Int) (l : (Nat → Int64) × (Nat → UInt64)), L ≤ i + 4 * m + 3 → i ≤ L → m ≤ b → D + 1800 * (m : Int) ≤ 1000000 → LwS D c R τ → Z X b 28 (lL i) [] (τ, l)
  | 0, i, b, D, c, R, τ, l, h1, h2, h3, h4, hs => law_step hX hS hN hL hE h2 hs (fun h => by omega)
  | m + 1, i, b, D, c, R, τ, l, h1, h2, h3, h4, hs => law_step hX hS hN hL hE h2 hs (fun h => ⟨by omega, by omega, fun c' R' τ' l' h' =>
      z_b hX (fo_no RL) [.iinc 5 4] 2667 (by decide +kernel) rfl (z_goto hX (off := -2639) 28 (by decide +kernel) (by decide) (z_wk (wk6 (i := i + 4) (congrArg (fun z => some (vi z)) (show (i : Int) + 4 = ((i + 4 : Nat) : Int) by omega)) rfl rfl rfl rfl rfl) (law_loop hX hS hN hL hE m (i + 4) (b - 1) (D + 1800) c' R' τ' l' (by omega) (by omega) (by omega) (by omega) h')))⟩)
