/-! ===== the start: what the machine holds ===== -/
theorem lw_gd {s : State} {args : Array Value} (hts : ∀ w ∈ lw_tbl, w.before args s = true) : ∀ w ∈ lw_good, w.before args s = true := fun w hw => hts w (List.mem_filter.mp hw).1
theorem tm_1 {i : Nat} {w : Cond} (h : tables_1[i]? = some w) : w ∈ lw_tbl := List.mem_append_right _ (List.mem_of_getElem? h)
theorem zK_start {s : State} {args : Array Value} (hts : ∀ w ∈ lw_tbl, w.before args s = true) : ∃ (D : va_G) (aC : Nat → ClassId), ∀ (l : Launch) (ad : Nat → Nat) (base : Nat), va_K D zCl (ztys (l, D, aC, ad, base)) s := by
  have hg := lw_gd hts
  obtain ⟨c10, i10, K10⟩ := u_known (C := RX10) (T := TX10) (N := 6) (n := 6) hg ws_X10 (hg _ ib_10)
  obtain ⟨c6, i6, K6⟩ := u_known (C := RX6) (T := TX6) (N := 1) (n := 1) hg ws_X6 (hg _ ib_6)
  obtain ⟨c1, i1, K1⟩ := u_known (C := RX1) (T := TX1) (N := 3) (n := 3) hg ws_X1 (hg _ ib_1)
  obtain ⟨c5, i5, K5⟩ := u_known (C := RX5) (T := TX5) (N := 2) (n := 2) hg ws_X5 (hg _ ib_5)
  obtain ⟨c2, i2, K2⟩ := u_known (C := RX2) (T := TX2) (N := 8) (n := 8) hg ws_X2 (hg _ ib_2)
  obtain ⟨c11, i11, K11⟩ := u_known (C := RX11) (T := TX11) (N := 17) (n := 17) hg ws_X11 (hg _ ib_11)
  obtain ⟨a0, k0, m0, p0, p1, p2⟩ := Cond.arrayClass_spec (hg _ ac_int)
  obtain ⟨a1, k1, m1, q0, q1, q2⟩ := Cond.arrayClass_spec (hg _ ac_char)
  obtain ⟨a2, k2, m2, r0, r1, r2⟩ := Cond.arrayClass_spec (hg _ ac_long)
  obtain ⟨a3, k3, m3, t0, t1, t2⟩ := Cond.arrayClass_spec (hg _ ac_double)
  obtain ⟨m4, a4, k4, u0, u1, u2, u3, u4⟩ := Cond.arrayOver_spec (hts (.arrayOver (.object RX6)) (tm_1 (i := 55) (by decide +kernel)))
  refine ⟨(fun k => match k with | 0 => c10 | 1 => c6 | 2 => c1 | 3 => c5 | 4 => c2 | _ => c11, fun k => match k with | 0 => i10 | 1 => i6 | 2 => i1 | 3 => i5 | 4 => i2 | _ => i11), fun k => match k with | 0 => a0 | 1 => a1 | 2 => a2 | 3 => a3 | _ => a4, fun l ad base => ⟨fun c q hq => ?_, fun k q hq => ?_⟩⟩
  · match c, hq with
    | 0, hq => cases hq; exact K10
    | 1, hq => cases hq; exact K6
    | 2, hq => cases hq; exact K1
    | 3, hq => cases hq; exact K5
    | 4, hq => cases hq; exact K2
    | 5, hq => cases hq; exact K11
    | c + 6, hq => cases hq
  · match k, hq with
    | 0, hq => cases hq; exact ⟨fun n z => ⟨fun k h => (by cases h), k0, p1, m0, p2⟩, p0⟩
    | 1, hq => cases hq; exact ⟨fun n z => ⟨fun k h => (by cases h), k1, q1, m1, q2⟩, q0⟩
    | 2, hq => cases hq; exact ⟨fun n z => ⟨fun k h => (by cases h), k2, r1, m2, r2⟩, r0⟩
    | 3, hq => cases hq; exact ⟨fun n z => ⟨fun k h => (by cases h), k3, t1, m3, t2⟩, t0⟩
    | 4, hq => cases hq; exact ⟨fun n z => ⟨fun k h => (by cases h), k4, u2, m4, u3⟩, k4, m4, u2, u3, u0, u4⟩
    | k + 5, hq => cases hq
theorem zt_of {own tx : String} {k : Nat} {s : State} {args : Array Value} (h1 : (Cond.stringRef own k tx).before args s = true) (h2 : (Cond.exactly (.string own k) "java/lang/String").before args s = true) : ∃ sa, vk_R own k tx sa s := by
  obtain ⟨a, c, cA, kA, q1, -⟩ := Cond.exactly_spec (args := args) (first := s) (o := none) (s := s) (idx := []) (t := .string own k) (cls := "java/lang/String") h2
  exact ⟨a, vk_R.of h1 q1⟩
theorem zX_start {l : Launch} (hflags : l.flags = flags0) {s : State} {args : Array Value} (hts : ∀ w ∈ lw_tbl, w.before args s = true) (hgv : (Jvm.Cond.and given_1 narrow_1).before args s = true) {D : va_G} {aC : Nat → ClassId} (hK : ∀ (l : Launch) (ad : Nat → Nat) (base : Nat), va_K D zCl (ztys (l, D, aC, ad, base)) s) : ∃ k1 k2 : Nat, ∀ ad : Nat → Nat, ad 40 = k1 → ad 41 = k2 → zDD (l, D, aC, ad, s.heap.size) → zX (l, D, aC, ad, s.heap.size) s := by
  have hgs := flat_of_before _ hgv
  have hg := lw_gd hts
  have hA : ∀ a : Nat, a < s.heap.size → ¬ (fun q : Nat => s.heap.size ≤ q) a := fun a h => Nat.not_le.mpr h
  have hi0 : ∀ i : Nat, i < 1 → i = 0 := fun i h => by omega
  obtain ⟨adK, adV, hS, hev⟩ := vk_Sof (args := args) (s := s) (N := 1) (tm := fun _ => .string RX2 75) (len := [7]) (byt := [[115, 119, 107, 108, 117, 103, 112]]) (A := fun q : Nat => s.heap.size ≤ q) (fun i hi => by rw [hi0 i hi]; decide) (fun i hi => hgs (Cond.exactly (.string RX2 75) "java/lang/String") (by decide +kernel)) (fun i hi => hgs (Cond.eq (.field (.string RX2 75) "java/lang/String" "coder" "B") (.int 0)) (by decide +kernel)) (fun i hi => hgs (Cond.arrayOf (.field (.string RX2 75) "java/lang/String" "value" "[B") .byte) (by decide +kernel)) (fun i hi => by rw [hi0 i hi]; exact hgs (Cond.eq (.length (.field (.string RX2 75) "java/lang/String" "value" "[B")) (.int (Int32.ofNat 7))) (by decide +kernel))
    (fun i hi j hj => by
      rw [hi0 i hi] at hj ⊢
      match j, hj with
      | 0, _ => exact hgs (Cond.eq (.elem (.field (.string RX2 75) "java/lang/String" "value" "[B") (.int (Int32.ofNat 0))) (.int 115)) (by decide +kernel)
      | 1, _ => exact hgs (Cond.eq (.elem (.field (.string RX2 75) "java/lang/String" "value" "[B") (.int (Int32.ofNat 1))) (.int 119)) (by decide +kernel)
      | 2, _ => exact hgs (Cond.eq (.elem (.field (.string RX2 75) "java/lang/String" "value" "[B") (.int (Int32.ofNat 2))) (.int 107)) (by decide +kernel)
      | 3, _ => exact hgs (Cond.eq (.elem (.field (.string RX2 75) "java/lang/String" "value" "[B") (.int (Int32.ofNat 3))) (.int 108)) (by decide +kernel)
      | 4, _ => exact hgs (Cond.eq (.elem (.field (.string RX2 75) "java/lang/String" "value" "[B") (.int (Int32.ofNat 4))) (.int 117)) (by decide +kernel)
      | 5, _ => exact hgs (Cond.eq (.elem (.field (.string RX2 75) "java/lang/String" "value" "[B") (.int (Int32.ofNat 5))) (.int 103)) (by decide +kernel)
      | 6, _ => exact hgs (Cond.eq (.elem (.field (.string RX2 75) "java/lang/String" "value" "[B") (.int (Int32.ofNat 6))) (.int 112)) (by decide +kernel)
      | j + 7, hj => exact absurd hj (by show ¬ j + 7 < 7; omega))
    (fun i j hi hj hij => absurd ((hi0 i hi).trans (hi0 j hj).symm) hij) hA
  refine ⟨adK 0, adV 0, fun ad h40 h41 hD => ⟨hK l ad s.heap.size, ⟨vx_Zqof (hts (.laysStatic Bundle.tN "UNASSIGNED_STACK" Bundle.steD) (by decide +kernel)) (hts (.initialized Bundle.tN) (by decide +kernel)) (hgs (Cond.isRef (.static Bundle.tN "UNASSIGNED_STACK" Bundle.steD)) (by decide +kernel)) hA, vx_Zqof (hts (.laysStatic Bundle.tN "SUPPRESSED_SENTINEL" Bundle.listD) (by decide +kernel)) (hts (.initialized Bundle.tN) (by decide +kernel)) (hgs (Cond.isRef (.static Bundle.tN "SUPPRESSED_SENTINEL" Bundle.listD)) (by decide +kernel)) hA⟩, fun q hq => ?_, fun w hw => va_Nw.of (zNw_ot hw) (hts w (List.mem_append_right _ (List.mem_filter.mp hw).1)), by show l.stackTraces = false; unfold Launch.stackTraces; rw [hflags]; decide +kernel, hD, ⟨⟨?_, ?_⟩, va_Zof (hts (.laysStatic "java/lang/String" "COMPACT_STRINGS" "Z") (by decide +kernel)) (hts (.initialized "java/lang/String") (by decide +kernel)) (va_eqt (hgs (Cond.eq (.static "java/lang/String" "COMPACT_STRINGS" "Z") (.int 1)) (by decide +kernel))) hA⟩⟩⟩
  · simp only [ztx, List.mem_cons, List.not_mem_nil, or_false] at hq
    rcases hq with rfl | rfl | rfl | rfl | rfl | rfl | rfl | rfl | rfl | rfl | rfl | rfl | rfl | rfl
    · exact zt_of (hts (.stringRef RX10 331 "a number is out of range") (tm_1 (i := 259) (by decide +kernel))) (hgs (Cond.exactly (.string RX10 331) "java/lang/String") (by decide +kernel))
    · exact zt_of (hts (.stringRef RX10 340 "refused") (tm_1 (i := 306) (by decide +kernel))) (hgs (Cond.exactly (.string RX10 340) "java/lang/String") (by decide +kernel))
    · exact zt_of (hts (.stringRef RX10 335 "there is no such number") (tm_1 (i := 399) (by decide +kernel))) (hgs (Cond.exactly (.string RX10 335) "java/lang/String") (by decide +kernel))
    · exact zt_of (hts (.stringRef RX10 99 "no such number of a coat") (tm_1 (i := 444) (by decide +kernel))) (hgs (Cond.exactly (.string RX10 99) "java/lang/String") (by decide +kernel))
    · exact zt_of (hts (.stringRef RX10 104 "no such number of an act") (tm_1 (i := 452) (by decide +kernel))) (hgs (Cond.exactly (.string RX10 104) "java/lang/String") (by decide +kernel))
    · exact zt_of (hts (.stringRef RX10 343 "there is none") (tm_1 (i := 494) (by decide +kernel))) (hgs (Cond.exactly (.string RX10 343) "java/lang/String") (by decide +kernel))
    · exact zt_of (hts (.stringRef RX10 130 "no such number of a seamstress") (tm_1 (i := 551) (by decide +kernel))) (hgs (Cond.exactly (.string RX10 130) "java/lang/String") (by decide +kernel))
    · exact zt_of (hts (.stringRef RX10 238 "the input is full") (tm_1 (i := 848) (by decide +kernel))) (hgs (Cond.exactly (.string RX10 238) "java/lang/String") (by decide +kernel))
    · exact zt_of (hts (.stringRef RX10 251 "the text has an error") (tm_1 (i := 989) (by decide +kernel))) (hgs (Cond.exactly (.string RX10 251) "java/lang/String") (by decide +kernel))
    · exact zt_of (hts (.stringRef RX10 265 "an order names what is not there") (tm_1 (i := 1040) (by decide +kernel))) (hgs (Cond.exactly (.string RX10 265) "java/lang/String") (by decide +kernel))
    · exact zt_of (hts (.stringRef RX10 278 "nothing was refused") (tm_1 (i := 1054) (by decide +kernel))) (hgs (Cond.exactly (.string RX10 278) "java/lang/String") (by decide +kernel))
    · exact zt_of (hts (.stringRef RX10 310 "there are no seamstresses") (tm_1 (i := 1110) (by decide +kernel))) (hgs (Cond.exactly (.string RX10 310) "java/lang/String") (by decide +kernel))
    · exact zt_of (hts (.stringRef RX10 318 "no change can be undone") (tm_1 (i := 1120) (by decide +kernel))) (hgs (Cond.exactly (.string RX10 318) "java/lang/String") (by decide +kernel))
    · exact zt_of (hts (.stringRef RX10 326 "there is no snapshot") (tm_1 (i := 1134) (by decide +kernel))) (hgs (Cond.exactly (.string RX10 326) "java/lang/String") (by decide +kernel))
  · refine ⟨fun i hi => ?_, fun i j hi hj _ => (hi0 i hi).trans (hi0 j hj).symm⟩
    rw [hi0 i hi]
    show _ ∧ va_OF "java/lang/String" "coder" "B" (.int 0) (ad 40) _ _ _ ∧ va_OF "java/lang/String" "value" "[B" (.ref (ad 41)) (ad 40) _ _ _ ∧ _
    have h1 := hS.1 0 (by decide)
    rw [← h40, ← h41] at h1
    exact h1
  · refine vk_R.of (hts (.stringRef RX2 75 "swklugp") (tm_1 (i := 885) (by decide +kernel))) ?_
    show _ = some (Value.ref (ad 40))
    rw [h40]
    exact hev 0 (by decide)
theorem zNc_start {s : State} {args : Array Value} (hgv : (Jvm.Cond.and given_1 narrow_1).before args s = true) : zNc s := by
  have hgs := flat_of_before _ hgv
  intro q hq
  simp only [zNcs, List.mem_cons, List.not_mem_nil, or_false] at hq
  rcases hq with rfl | rfl | rfl | rfl
  · exact va_Nc.of (hgs (Cond.not (.castable eUO eIA)) (by decide +kernel))
  · exact va_Nc.of (hgs (Cond.not (.castable eUO eIB)) (by decide +kernel))
  · exact va_Nc.of (hgs (Cond.not (.castable eIA eIB)) (by decide +kernel))
  · exact va_Nc.of (hgs (Cond.not (.castable eNS eIB)) (by decide +kernel))
