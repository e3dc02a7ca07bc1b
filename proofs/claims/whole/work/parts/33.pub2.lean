/-! ===== CircusCoats: the other public methods ===== -/
set_option maxHeartbeats 1000000 in
theorem c_X10_coatOf {E : zE} {x y D : Int} {R : aQ} {σ : Nat → Nat → Int} {c : Nat → Int} {l : (Nat → Int64) × (Nat → UInt64)} (hI : AI D c R) (hK : CR R σ) (h_x : zi x) (h_y : zi y) : Pb E yX10_coatOf (Cond.code yX10_coatOf cX10_coatOf 3 (Option.some FieldType.int)) 2 [vr 0, vi x, vi y] (σ) (c) (l) (aCoatOf c R x y) := by
  refine Ctr_of (own := RX10) (by decide +kernel) rfl rfl (fun Y hX hR hnx => ?_)
  have g8 := hI.1.1.coats
  have g9 := hI.1.1.acts
  have g10 := hI.1.1.women
  have g11 := hI.1.1.trunks
  have g12 := hI.1.1.loaded
  refine z_b hX fo_X10 [.aload_n 0, .getfield 10, .iload_n 1] 5 (by decide +kernel) rfl ?_
  refine z_cV hX m_X6_hasCoat l_X10_81 p_X6_hasCoat (c_X6_hasCoat h_x ⟨by omega, by omega⟩) rfl rfl rfl rfl rfl rfl (by decide +kernel) ?_
  by_cases h0 : hC c x
  · obtain ⟨k, rfl⟩ : ∃ z : Nat, x = (z : Int) := ⟨x.toNat, by omega⟩
    refine z_cS0 hX m_X10_needThere l_X10_78 p_X10_needThere (c_there1 (th1 h0)) rfl rfl rfl rfl (by decide +kernel) ?_
    refine z_b hX fo_X10 [.iload_n 2] 12 (by decide +kernel) rfl ?_
    rcases (show y = 0 ∨ y = 1 ∨ y = 2 ∨ y = 3 ∨ y = 4 ∨ y = 5 ∨ ¬ (0 ≤ y ∧ y ≤ 5) by omega) with hs | hs | hs | hs | hs | hs | hs
    · refine z_tIn hX (dflt := 112) (l0 := 0) (h0 := 5) (offs := #[40, 52, 64, 76, 88, 100]) (len := 40) (off := 40) 52 (by decide +kernel) h_y (by omega) (by omega) (by rw [hs]; rfl) (by decide) ?_
      refine z_b hX fo_X10 [.aload_n 0, .getfield 10, .bipush 13, .iload_n 1, .iadd] 60 (by decide +kernel) rfl ?_
      refine z_cV hX m_X6_at l_X10_48 p_X6_at (c_at (j := 13 + k) (by omega) (by omega)) rfl rfl rfl rfl rfl rfl (by decide +kernel) ?_
      exact z_iret hX hR (by decide +kernel) (Pk_ok (by unfold aCoatOf; rw [if_pos h0]; rw [hs]; rw [if_pos (by decide)]; (try simp only [Int.toNat_natCast]); rfl) (by first | rfl | (congr 1; omega)) σ rfl hK (Fr.rf σ))
    · refine z_tIn hX (dflt := 112) (l0 := 0) (h0 := 5) (offs := #[40, 52, 64, 76, 88, 100]) (len := 40) (off := 52) 64 (by decide +kernel) h_y (by omega) (by omega) (by rw [hs]; rfl) (by decide) ?_
      refine z_b hX fo_X10 [.aload_n 0, .getfield 10, .bipush 25, .iload_n 1, .iadd] 72 (by decide +kernel) rfl ?_
      refine z_cV hX m_X6_at l_X10_48 p_X6_at (c_at (j := 25 + k) (by omega) (by omega)) rfl rfl rfl rfl rfl rfl (by decide +kernel) ?_
      exact z_iret hX hR (by decide +kernel) (Pk_ok (by unfold aCoatOf; rw [if_pos h0]; rw [hs]; rw [if_pos (by decide)]; (try simp only [Int.toNat_natCast]); rfl) (by first | rfl | (congr 1; omega)) σ rfl hK (Fr.rf σ))
    · refine z_tIn hX (dflt := 112) (l0 := 0) (h0 := 5) (offs := #[40, 52, 64, 76, 88, 100]) (len := 40) (off := 64) 76 (by decide +kernel) h_y (by omega) (by omega) (by rw [hs]; rfl) (by decide) ?_
      refine z_b hX fo_X10 [.aload_n 0, .getfield 10, .bipush 37, .iload_n 1, .iadd] 84 (by decide +kernel) rfl ?_
      refine z_cV hX m_X6_at l_X10_48 p_X6_at (c_at (j := 37 + k) (by omega) (by omega)) rfl rfl rfl rfl rfl rfl (by decide +kernel) ?_
      exact z_iret hX hR (by decide +kernel) (Pk_ok (by unfold aCoatOf; rw [if_pos h0]; rw [hs]; rw [if_pos (by decide)]; (try simp only [Int.toNat_natCast]); rfl) (by first | rfl | (congr 1; omega)) σ rfl hK (Fr.rf σ))
    · refine z_tIn hX (dflt := 112) (l0 := 0) (h0 := 5) (offs := #[40, 52, 64, 76, 88, 100]) (len := 40) (off := 76) 88 (by decide +kernel) h_y (by omega) (by omega) (by rw [hs]; rfl) (by decide) ?_
      refine z_b hX fo_X10 [.aload_n 0, .getfield 10, .bipush 49, .iload_n 1, .iadd] 96 (by decide +kernel) rfl ?_
      refine z_cV hX m_X6_at l_X10_48 p_X6_at (c_at (j := 49 + k) (by omega) (by omega)) rfl rfl rfl rfl rfl rfl (by decide +kernel) ?_
      exact z_iret hX hR (by decide +kernel) (Pk_ok (by unfold aCoatOf; rw [if_pos h0]; rw [hs]; rw [if_pos (by decide)]; (try simp only [Int.toNat_natCast]); rfl) (by first | rfl | (congr 1; omega)) σ rfl hK (Fr.rf σ))
    · refine z_tIn hX (dflt := 112) (l0 := 0) (h0 := 5) (offs := #[40, 52, 64, 76, 88, 100]) (len := 40) (off := 88) 100 (by decide +kernel) h_y (by omega) (by omega) (by rw [hs]; rfl) (by decide) ?_
      refine z_b hX fo_X10 [.aload_n 0, .getfield 10, .bipush 61, .iload_n 1, .iadd] 108 (by decide +kernel) rfl ?_
      refine z_cV hX m_X6_at l_X10_48 p_X6_at (c_at (j := 61 + k) (by omega) (by omega)) rfl rfl rfl rfl rfl rfl (by decide +kernel) ?_
      exact z_iret hX hR (by decide +kernel) (Pk_ok (by unfold aCoatOf; rw [if_pos h0]; rw [hs]; rw [if_pos (by decide)]; (try simp only [Int.toNat_natCast]); rfl) (by first | rfl | (congr 1; omega)) σ rfl hK (Fr.rf σ))
    · refine z_tIn hX (dflt := 112) (l0 := 0) (h0 := 5) (offs := #[40, 52, 64, 76, 88, 100]) (len := 40) (off := 100) 112 (by decide +kernel) h_y (by omega) (by omega) (by rw [hs]; rfl) (by decide) ?_
      refine z_b hX fo_X10 [.aload_n 0, .getfield 10, .bipush 73, .iload_n 1, .iadd] 120 (by decide +kernel) rfl ?_
      refine z_cV hX m_X6_at l_X10_48 p_X6_at (c_at (j := 73 + k) (by omega) (by omega)) rfl rfl rfl rfl rfl rfl (by decide +kernel) ?_
      exact z_iret hX hR (by decide +kernel) (Pk_ok (by unfold aCoatOf; rw [if_pos h0]; rw [hs]; rw [if_pos (by decide)]; (try simp only [Int.toNat_natCast]); rfl) (by first | rfl | (congr 1; omega)) σ rfl hK (Fr.rf σ))
    · refine z_tOut hX (dflt := 112) (l0 := 0) (h0 := 5) (offs := #[40, 52, 64, 76, 88, 100]) (len := 40) 124 (by decide +kernel) h_y (by omega) (by decide) ?_
      exact z_throw (is := 99) (text := "no such number of a coat") hX hR hnx a_IA k_X10_97 (by decide +kernel) (by decide +kernel) (by decide +kernel) (by decide +kernel) (by decide +kernel) (by decide +kernel) (by decide) (by decide) (Pk_ex (by unfold aCoatOf; rw [if_pos h0]; rw [if_neg hs]; rfl) σ rfl hK (Fr.rf σ))
  · refine z_cSx hX m_X10_needThere l_X10_78 p_X10_needThere (c_there0 (th0 h0)) rfl (by decide) rfl rfl rfl (by decide +kernel) ?_
    exact z_out hX hR hnx (Pk_ex (by unfold aCoatOf; rw [if_neg h0]; rfl) σ rfl hK (Fr.rf σ))
set_option maxHeartbeats 1000000 in
theorem c_X10_actOf {E : zE} {x y D : Int} {R : aQ} {σ : Nat → Nat → Int} {c : Nat → Int} {l : (Nat → Int64) × (Nat → UInt64)} (hI : AI D c R) (hK : CR R σ) (h_x : zi x) (h_y : zi y) : Pb E yX10_actOf (Cond.code yX10_actOf cX10_actOf 3 (Option.some FieldType.int)) 2 [vr 0, vi x, vi y] (σ) (c) (l) (aActOf c R x y) := by
  refine Ctr_of (own := RX10) (by decide +kernel) rfl rfl (fun Y hX hR hnx => ?_)
  have g8 := hI.1.1.coats
  have g9 := hI.1.1.acts
  have g10 := hI.1.1.women
  have g11 := hI.1.1.trunks
  have g12 := hI.1.1.loaded
  refine z_b hX fo_X10 [.aload_n 0, .getfield 10, .iload_n 1] 5 (by decide +kernel) rfl ?_
  refine z_cV hX m_X6_hasAct l_X10_74 p_X6_hasAct (c_X6_hasAct h_x ⟨by omega, by omega⟩) rfl rfl rfl rfl rfl rfl (by decide +kernel) ?_
  by_cases h0 : hA c x
  · obtain ⟨a, rfl⟩ : ∃ z : Nat, x = (z : Int) := ⟨x.toNat, by omega⟩
    refine z_cS0 hX m_X10_needThere l_X10_78 p_X10_needThere (c_there1 (th1 h0)) rfl rfl rfl rfl (by decide +kernel) ?_
    refine z_b hX fo_X10 [.iload_n 2] 12 (by decide +kernel) rfl ?_
    rcases (show y = 0 ∨ y = 1 ∨ y = 2 ∨ y = 3 ∨ ¬ (0 ≤ y ∧ y ≤ 3) by omega) with hs | hs | hs | hs | hs
    · refine z_tIn hX (dflt := 80) (l0 := 0) (h0 := 3) (offs := #[32, 44, 56, 68]) (len := 32) (off := 32) 44 (by decide +kernel) h_y (by omega) (by omega) (by rw [hs]; rfl) (by decide) ?_
      refine z_b hX fo_X10 [.aload_n 0, .getfield 10, .bipush 85, .iload_n 1, .iadd] 52 (by decide +kernel) rfl ?_
      refine z_cV hX m_X6_at l_X10_48 p_X6_at (c_at (j := 85 + a) (by omega) (by omega)) rfl rfl rfl rfl rfl rfl (by decide +kernel) ?_
      exact z_iret hX hR (by decide +kernel) (Pk_ok (by unfold aActOf; rw [if_pos h0]; rw [hs]; rw [if_pos (by decide)]; (try simp only [Int.toNat_natCast]); rfl) (by first | rfl | (congr 1; omega)) σ rfl hK (Fr.rf σ))
    · refine z_tIn hX (dflt := 80) (l0 := 0) (h0 := 3) (offs := #[32, 44, 56, 68]) (len := 32) (off := 44) 56 (by decide +kernel) h_y (by omega) (by omega) (by rw [hs]; rfl) (by decide) ?_
      refine z_b hX fo_X10 [.aload_n 0, .getfield 10, .bipush 91, .iload_n 1, .iadd] 64 (by decide +kernel) rfl ?_
      refine z_cV hX m_X6_at l_X10_48 p_X6_at (c_at (j := 91 + a) (by omega) (by omega)) rfl rfl rfl rfl rfl rfl (by decide +kernel) ?_
      exact z_iret hX hR (by decide +kernel) (Pk_ok (by unfold aActOf; rw [if_pos h0]; rw [hs]; rw [if_pos (by decide)]; (try simp only [Int.toNat_natCast]); rfl) (by first | rfl | (congr 1; omega)) σ rfl hK (Fr.rf σ))
    · refine z_tIn hX (dflt := 80) (l0 := 0) (h0 := 3) (offs := #[32, 44, 56, 68]) (len := 32) (off := 56) 68 (by decide +kernel) h_y (by omega) (by omega) (by rw [hs]; rfl) (by decide) ?_
      refine z_b hX fo_X10 [.aload_n 0, .getfield 10, .bipush 97, .iload_n 1, .iadd] 76 (by decide +kernel) rfl ?_
      refine z_cV hX m_X6_at l_X10_48 p_X6_at (c_at (j := 97 + a) (by omega) (by omega)) rfl rfl rfl rfl rfl rfl (by decide +kernel) ?_
      exact z_iret hX hR (by decide +kernel) (Pk_ok (by unfold aActOf; rw [if_pos h0]; rw [hs]; rw [if_pos (by decide)]; (try simp only [Int.toNat_natCast]); rfl) (by first | rfl | (congr 1; omega)) σ rfl hK (Fr.rf σ))
    · refine z_tIn hX (dflt := 80) (l0 := 0) (h0 := 3) (offs := #[32, 44, 56, 68]) (len := 32) (off := 68) 80 (by decide +kernel) h_y (by omega) (by omega) (by rw [hs]; rfl) (by decide) ?_
      refine z_b hX fo_X10 [.aload_n 0, .getfield 10, .bipush 103, .iload_n 1, .iadd] 88 (by decide +kernel) rfl ?_
      refine z_cV hX m_X6_at l_X10_48 p_X6_at (c_at (j := 103 + a) (by omega) (by omega)) rfl rfl rfl rfl rfl rfl (by decide +kernel) ?_
      exact z_iret hX hR (by decide +kernel) (Pk_ok (by unfold aActOf; rw [if_pos h0]; rw [hs]; rw [if_pos (by decide)]; (try simp only [Int.toNat_natCast]); rfl) (by first | rfl | (congr 1; omega)) σ rfl hK (Fr.rf σ))
    · refine z_tOut hX (dflt := 80) (l0 := 0) (h0 := 3) (offs := #[32, 44, 56, 68]) (len := 32) 92 (by decide +kernel) h_y (by omega) (by decide) ?_
      exact z_throw (is := 104) (text := "no such number of an act") hX hR hnx a_IA k_X10_97 (by decide +kernel) (by decide +kernel) (by decide +kernel) (by decide +kernel) (by decide +kernel) (by decide +kernel) (by decide) (by decide) (Pk_ex (by unfold aActOf; rw [if_pos h0]; rw [if_neg hs]; rfl) σ rfl hK (Fr.rf σ))
  · refine z_cSx hX m_X10_needThere l_X10_78 p_X10_needThere (c_there0 (th0 h0)) rfl (by decide) rfl rfl rfl (by decide +kernel) ?_
    exact z_out hX hR hnx (Pk_ex (by unfold aActOf; rw [if_neg h0]; rfl) σ rfl hK (Fr.rf σ))
set_option maxHeartbeats 1000000 in
theorem c_X10_seamstressOf {E : zE} {x y D : Int} {R : aQ} {σ : Nat → Nat → Int} {c : Nat → Int} {l : (Nat → Int64) × (Nat → UInt64)} (hI : AI D c R) (hK : CR R σ) (h_x : zi x) (h_y : zi y) : Pb E yX10_seamstressOf (Cond.code yX10_seamstressOf cX10_seamstressOf 3 (Option.some FieldType.int)) 2 [vr 0, vi x, vi y] (σ) (c) (l) (aWomanOf c R x y) := by
  refine Ctr_of (own := RX10) (by decide +kernel) rfl rfl (fun Y hX hR hnx => ?_)
  have g8 := hI.1.1.coats
  have g9 := hI.1.1.acts
  have g10 := hI.1.1.women
  have g11 := hI.1.1.trunks
  have g12 := hI.1.1.loaded
  refine z_b hX fo_X10 [.aload_n 0, .getfield 10, .iload_n 1] 5 (by decide +kernel) rfl ?_
  refine z_cV hX m_X6_hasSeamstress l_X10_127 p_X6_hasSeamstress (c_X6_hasSeamstress h_x ⟨by omega, by omega⟩) rfl rfl rfl rfl rfl rfl (by decide +kernel) ?_
  by_cases h0 : hW c x
  · obtain ⟨a, rfl⟩ : ∃ z : Nat, x = (z : Int) := ⟨x.toNat, by omega⟩
    refine z_cS0 hX m_X10_needThere l_X10_78 p_X10_needThere (c_there1 (th1 h0)) rfl rfl rfl rfl (by decide +kernel) ?_
    refine z_b hX fo_X10 [.iload_n 2] 12 (by decide +kernel) rfl ?_
    rcases (show y = 0 ∨ y = 1 ∨ y = 2 ∨ ¬ (0 ≤ y ∧ y ≤ 2) by omega) with hs | hs | hs | hs
    · refine z_tIn hX (dflt := 64) (l0 := 0) (h0 := 2) (offs := #[28, 40, 52]) (len := 28) (off := 28) 40 (by decide +kernel) h_y (by omega) (by omega) (by rw [hs]; rfl) (by decide) ?_
      refine z_b hX fo_X10 [.aload_n 0, .getfield 10, .bipush 109, .iload_n 1, .iadd] 48 (by decide +kernel) rfl ?_
      refine z_cV hX m_X6_at l_X10_48 p_X6_at (c_at (j := 109 + a) (by omega) (by omega)) rfl rfl rfl rfl rfl rfl (by decide +kernel) ?_
      exact z_iret hX hR (by decide +kernel) (Pk_ok (by unfold aWomanOf; rw [if_pos h0]; rw [hs]; rw [if_pos (by decide)]; (try simp only [Int.toNat_natCast]); rfl) (by first | rfl | (congr 1; omega)) σ rfl hK (Fr.rf σ))
    · refine z_tIn hX (dflt := 64) (l0 := 0) (h0 := 2) (offs := #[28, 40, 52]) (len := 28) (off := 40) 52 (by decide +kernel) h_y (by omega) (by omega) (by rw [hs]; rfl) (by decide) ?_
      refine z_b hX fo_X10 [.aload_n 0, .getfield 10, .bipush 113, .iload_n 1, .iadd] 60 (by decide +kernel) rfl ?_
      refine z_cV hX m_X6_at l_X10_48 p_X6_at (c_at (j := 113 + a) (by omega) (by omega)) rfl rfl rfl rfl rfl rfl (by decide +kernel) ?_
      exact z_iret hX hR (by decide +kernel) (Pk_ok (by unfold aWomanOf; rw [if_pos h0]; rw [hs]; rw [if_pos (by decide)]; (try simp only [Int.toNat_natCast]); rfl) (by first | rfl | (congr 1; omega)) σ rfl hK (Fr.rf σ))
    · refine z_tIn hX (dflt := 64) (l0 := 0) (h0 := 2) (offs := #[28, 40, 52]) (len := 28) (off := 52) 64 (by decide +kernel) h_y (by omega) (by omega) (by rw [hs]; rfl) (by decide) ?_
      refine z_b hX fo_X10 [.aload_n 0, .getfield 10, .bipush 117, .iload_n 1, .iadd] 72 (by decide +kernel) rfl ?_
      refine z_cV hX m_X6_at l_X10_48 p_X6_at (c_at (j := 117 + a) (by omega) (by omega)) rfl rfl rfl rfl rfl rfl (by decide +kernel) ?_
      exact z_iret hX hR (by decide +kernel) (Pk_ok (by unfold aWomanOf; rw [if_pos h0]; rw [hs]; rw [if_pos (by decide)]; (try simp only [Int.toNat_natCast]); rfl) (by first | rfl | (congr 1; omega)) σ rfl hK (Fr.rf σ))
    · refine z_tOut hX (dflt := 64) (l0 := 0) (h0 := 2) (offs := #[28, 40, 52]) (len := 28) 76 (by decide +kernel) h_y (by omega) (by decide) ?_
      exact z_throw (is := 130) (text := "no such number of a seamstress") hX hR hnx a_IA k_X10_97 (by decide +kernel) (by decide +kernel) (by decide +kernel) (by decide +kernel) (by decide +kernel) (by decide +kernel) (by decide) (by decide) (Pk_ex (by unfold aWomanOf; rw [if_pos h0]; rw [if_neg hs]; rfl) σ rfl hK (Fr.rf σ))
  · refine z_cSx hX m_X10_needThere l_X10_78 p_X10_needThere (c_there0 (th0 h0)) rfl (by decide) rfl rfl rfl (by decide +kernel) ?_
    exact z_out hX hR hnx (Pk_ex (by unfold aWomanOf; rw [if_neg h0]; rfl) σ rfl hK (Fr.rf σ))
set_option maxHeartbeats 1000000 in
theorem c_X10_bring {E : zE} {x y D : Int} {R : aQ} {σ : Nat → Nat → Int} {c : Nat → Int} {l : (Nat → Int64) × (Nat → UInt64)} (hI : AI D c R) (hK : CR R σ) (h_x : zi x) (h_y : zi y) : Pb E yX10_bring (Cond.code yX10_bring cX10_bring 3 (Option.some FieldType.int)) 4 [vr 0, vi x, vi y] (σ) (c) (l) (aBring false c R x y) := by
  refine Ctr_of (own := RX10) (by decide +kernel) rfl rfl (fun Y hX hR hnx => ?_)
  have g8 := hI.1.1.coats
  have g9 := hI.1.1.acts
  have g10 := hI.1.1.women
  have g11 := hI.1.1.trunks
  have g12 := hI.1.1.loaded
  refine z_b hX fo_X10 [.iload_n 1, .iconst 0, .iconst 2] 3 (by decide +kernel) rfl ?_
  by_cases h0 : 0 ≤ x ∧ x ≤ 2
  · refine z_cS0 hX m_X10_needRange l_X10_44 p_X10_needRange (c_range1 h_x ⟨by decide, by decide⟩ ⟨by decide, by decide⟩ h0) rfl rfl rfl rfl (by decide +kernel) ?_
    refine z_b hX fo_X10 [.iload_n 2, .iconst 1, .bipush 99] 10 (by decide +kernel) rfl ?_
    by_cases h1 : 1 ≤ y ∧ y ≤ 99
    · refine z_cS0 hX m_X10_needRange l_X10_44 p_X10_needRange (c_range1 h_y ⟨by decide, by decide⟩ ⟨by decide, by decide⟩ h1) rfl rfl rfl rfl (by decide +kernel) ?_
      refine z_b hX fo_X10 [.aload_n 0, .getfield 22, .aload_n 0, .getfield 10] 21 (by decide +kernel) rfl ?_
      have g1 := hI.1.1.g1
      have g2 := hI.1.1.g2
      have g3 := hI.1.1.g3
      obtain ⟨σ1, hkp, hC1, hF1⟩ := c_keep (E := E) (l := l) hI hK
      refine z_cV0 hX m_X1_keep l_X10_60 p_X1_keep hkp rfl rfl rfl rfl rfl rfl (by decide +kernel) ?_
      refine z_b hX fo_X10 [.aload_n 0, .getfield 10, .iload_n 1, .iload_n 2] 30 (by decide +kernel) rfl ?_
      rcases (show x = 0 ∨ x = 1 ∨ x = 2 by omega) with hs | hs | hs
      · subst hs
        refine z_cS hX m_X7_store l_X10_132 p_X7_store (c_X7_store0 (by omega) (by omega)) rfl rfl rfl rfl (by decide +kernel) ?_
        exact z_iret hX hR (by decide +kernel) (Pk_ok (by unfold aBring; rw [if_pos h0]; rw [if_pos h1]; rfl) (by first | rfl | (simp [ad, va_up]; done)) σ1 rfl hC1 hF1)
      · subst hs
        refine z_cS hX m_X7_store l_X10_132 p_X7_store (c_X7_store1 (by omega) (by omega)) rfl rfl rfl rfl (by decide +kernel) ?_
        exact z_iret hX hR (by decide +kernel) (Pk_ok (by unfold aBring; rw [if_pos h0]; rw [if_pos h1]; rfl) (by first | rfl | (simp [ad, va_up]; done)) σ1 rfl hC1 hF1)
      · subst hs
        refine z_cS hX m_X7_store l_X10_132 p_X7_store (c_X7_store2 (by omega) (by omega)) rfl rfl rfl rfl (by decide +kernel) ?_
        exact z_iret hX hR (by decide +kernel) (Pk_ok (by unfold aBring; rw [if_pos h0]; rw [if_pos h1]; rfl) (by first | rfl | (simp [ad, va_up]; done)) σ1 rfl hC1 hF1)
    · refine z_cSx hX m_X10_needRange l_X10_44 p_X10_needRange (c_range0 h_y ⟨by decide, by decide⟩ ⟨by decide, by decide⟩ h1) rfl (by decide) rfl rfl rfl (by decide +kernel) ?_
      exact z_out hX hR hnx (Pk_ex (by unfold aBring; rw [if_pos h0]; rw [if_neg h1]; rfl) σ rfl hK (Fr.rf σ))
  · refine z_cSx hX m_X10_needRange l_X10_44 p_X10_needRange (c_range0 h_x ⟨by decide, by decide⟩ ⟨by decide, by decide⟩ h0) rfl (by decide) rfl rfl rfl (by decide +kernel) ?_
    exact z_out hX hR hnx (Pk_ex (by unfold aBring; rw [if_neg h0]; rfl) σ rfl hK (Fr.rf σ))
set_option maxHeartbeats 1000000 in
theorem c_X10_append {E : zE} {x D : Int} {R : aQ} {σ : Nat → Nat → Int} {c : Nat → Int} {l : (Nat → Int64) × (Nat → UInt64)} (hI : AI D c R) (hK : CR R σ) (hx : 0 ≤ x ∧ x ≤ 65535) : Pb E yX10_append (Cond.code yX10_append cX10_append 2 (Option.some FieldType.int)) 1 [vr 0, vi x] (σ) (c) (l) (aAppend c R x) := by
  refine Ctr_of (own := RX10) (by decide +kernel) rfl rfl (fun Y hX hR hnx => ?_)
  refine z_b hX fo_X10 [.aload_n 0, .getfield 36] 4 (by decide +kernel) rfl ?_
  have hn : R.2.2.2.1.2 ≤ 60 := hI.2.2.2.2.1
  have h4 : (zs σ 21 c) 15 4 = (R.2.2.2.1.2 : Int) := hK.2.2.2.2.1.1
  refine z_cV hX m_X2_isFull l_X10_232 p_X2_isFull (c_X2_isFull (n := R.2.2.2.1.2) (σ := zs σ 21 c) h4 hn) rfl rfl rfl rfl rfl rfl (by decide +kernel) ?_
  refine z_if_eq hX (off := 13) 20 (by decide +kernel) (by decide) z01 (fun c7 => ?_) (fun c7 => ?_)
  · refine z_b hX fo_X10 [.aload_n 0, .getfield 36, .iload_n 1] 25 (by decide +kernel) rfl ?_
    have hq := zif0 c7
    refine z_cV hX m_X2_add l_X10_241 p_X2_add (c_X2_add (n := R.2.2.2.1.2) (σ := zs σ 21 c) h4 (by omega) hx) rfl rfl rfl rfl rfl rfl (by decide +kernel) ?_
    exact z_iret hX hR (by decide +kernel) (Pk_ok (by unfold aAppend; rw [if_neg hq]; rfl) rfl (zs (zs σ 16 (va_up (σ 16) R.2.2.2.1.2 x)) 15 (va_up (σ 15) 4 ((R.2.2.2.1.2 : Int) + 1))) (by rw [zs_comm (show 21 ≠ 16 by decide), zs_comm (show 21 ≠ 15 by decide)]; (try rfl)) (hK.app x) (fun k hk => by rw [zs_ne (by omega), zs_ne (by omega)]))
  · exact z_throw (is := 238) (text := "the input is full") hX hR hnx a_IS k_X10_236 (by decide +kernel) (by decide +kernel) (by decide +kernel) (by decide +kernel) (by decide +kernel) (by decide +kernel) (by decide) (by decide) (Pk_ex (by unfold aAppend; rw [if_pos (zif1 c7)]; rfl) σ rfl hK (Fr.rf σ))
set_option maxHeartbeats 1000000 in
theorem c_X10_errorPosition {E : zE} {D : Int} {R : aQ} {σ : Nat → Nat → Int} {c : Nat → Int} {l : (Nat → Int64) × (Nat → UInt64)} (hI : AI D c R) (hK : CR R σ) : Pb E yX10_errorPosition (Cond.code yX10_errorPosition cX10_errorPosition 1 (Option.some FieldType.int)) 1 [vr 0] (σ) (c) (l) (aErr c R) := by
  refine Ctr_of (own := RX10) (by decide +kernel) rfl rfl (fun Y hX hR hnx => ?_)
  refine z_b hX fo_X10 [.aload_n 0, .getfield 36] 4 (by decide +kernel) rfl ?_
  refine z_cV hX m_X2_errorAt l_X10_248 p_X2_errorAt c_X2_errorAt rfl rfl rfl rfl rfl rfl (by decide +kernel) ?_
  rw [show (zs σ 21 c, l).1 15 7 = R.2.2.2.2 from hK.2.2.2.2.2.1]
  exact z_iret hX hR (by decide +kernel) (Pk_ok rfl rfl σ rfl hK (Fr.rf σ))
set_option maxHeartbeats 1000000 in
theorem c_X10_refusal {E : zE} {b D : Int} {R : aQ} {σ : Nat → Nat → Int} {c : Nat → Int} {l : (Nat → Int64) × (Nat → UInt64)} (hI : AI D c R) (hK : CR R σ) (hb : b = 0 ∨ b = 1) : Pb E yX10_refusal (Cond.code yX10_refusal cX10_refusal 2 (Option.some FieldType.int)) 1 [vr 0, vi b] (σ) (c) (l) (aRefusal c R b) := by
  refine Ctr_of (own := RX10) (by decide +kernel) rfl rfl (fun Y hX hR hnx => ?_)
  refine z_b hX fo_X10 [.aload_n 0, .getfield 29] 4 (by decide +kernel) rfl ?_
  refine z_cV hX m_X5_reason l_X10_273 p_X5_reason c_X5_reason rfl rfl rfl rfl rfl rfl (by decide +kernel) ?_
  rw [show (zs σ 21 c, l).1 14 0 = R.2.2.1.1 from hK.2.2.2.1.1]
  refine z_if_ne hX (off := 14) 21 (by decide +kernel) (by decide) hI.reason (fun c7 => ?_) (fun c7 => ?_)
  · refine z_b hX fo_X10 [.iload_n 1] 22 (by decide +kernel) rfl ?_
    refine z_if_eq hX (off := 13) 35 (by decide +kernel) (by decide) ⟨by omega, by omega⟩ (fun c22 => ?_) (fun c22 => ?_)
    · refine z_b hX fo_X10 [.aload_n 0, .getfield 29] 39 (by decide +kernel) rfl ?_
      refine z_cV hX m_X5_reason l_X10_273 p_X5_reason c_X5_reason rfl rfl rfl rfl rfl rfl (by decide +kernel) ?_
      rw [show (zs σ 21 c, l).1 14 0 = R.2.2.1.1 from hK.2.2.2.1.1]
      exact z_iret hX hR (by decide +kernel) (Pk_ok (by unfold aRefusal; rw [if_neg c7]; rfl) (by first | rw [if_pos (by omega)] | rw [if_neg (by omega)]) σ rfl hK (Fr.rf σ))
    · refine z_b hX fo_X10 [.aload_n 0, .getfield 29] 29 (by decide +kernel) rfl ?_
      refine z_cV hX m_X5_detail l_X10_281 p_X5_detail c_X5_detail rfl rfl rfl rfl rfl rfl (by decide +kernel) ?_
      rw [show (zs σ 21 c, l).1 14 1 = R.2.2.1.2 from hK.2.2.2.1.2]
      refine z_goto hX (off := 10) 42 (by decide +kernel) (by decide) ?_
      exact z_iret hX hR (by decide +kernel) (Pk_ok (by unfold aRefusal; rw [if_neg c7]; rfl) (by first | rw [if_pos (by omega)] | rw [if_neg (by omega)]) σ rfl hK (Fr.rf σ))
  · exact z_throwN (is := 278) (text := "nothing was refused") hX hR hnx a_NS k_X10_276 (by decide +kernel) (by decide +kernel) (by decide +kernel) (by decide +kernel) (by decide +kernel) (by decide +kernel) (by decide) (by decide) (Pk_ex (by unfold aRefusal; rw [if_pos c7]; rfl) σ rfl hK (Fr.rf σ))
set_option maxHeartbeats 1000000 in
theorem c_X10_account {E : zE} {x D : Int} {R : aQ} {σ : Nat → Nat → Int} {c : Nat → Int} {l : (Nat → Int64) × (Nat → UInt64)} (hI : AI D c R) (hK : CR R σ) (h_x : zi x) : Pb E yX10_account (Cond.code yX10_account cX10_account 2 (Option.some FieldType.int)) 4 [vr 0, vi x] (σ) (c) (l) (aAccount c R x) := by
  refine Ctr_of (own := RX10) (by decide +kernel) rfl rfl (fun Y hX hR hnx => ?_)
  refine z_b hX fo_X10 [.iload_n 1] 1 (by decide +kernel) rfl ?_
  rcases (show x = 17 ∨ x = 18 ∨ ¬ (x = 17 ∨ x = 18) by omega) with hs | hs | hs
  · refine z_lk hX (dflt := 43) (ps := #[(17, 27), (18, 35)]) (len := 27) (off := 27) 28 (by decide +kernel) h_x (by decide +kernel) (by rw [hs]; rfl) (by decide) ?_
    refine z_b hX fo_X10 [.aload_n 0, .getfield 36] 32 (by decide +kernel) rfl ?_
    refine z_cV hX m_X2_length l_X10_288 p_X2_length c_X2_length rfl rfl rfl rfl rfl rfl (by decide +kernel) ?_
    rw [show (zs σ 21 c, l).1 15 4 = (R.2.2.2.1.2 : Int) from hK.2.2.2.2.1.1]
    exact z_iret hX hR (by decide +kernel) (Pk_ok (by unfold aAccount; rw [if_pos hs]; rfl) rfl σ rfl hK (Fr.rf σ))
  · refine z_lk hX (dflt := 43) (ps := #[(17, 27), (18, 35)]) (len := 27) (off := 35) 36 (by decide +kernel) h_x (by decide +kernel) (by rw [hs]; rfl) (by decide) ?_
    refine z_b hX fo_X10 [.aload_n 0, .getfield 22] 40 (by decide +kernel) rfl ?_
    refine z_cV hX m_X1_kept l_X10_291 p_X1_kept c_X1_kept rfl rfl rfl rfl rfl rfl (by decide +kernel) ?_
    rw [show (zs σ 21 c, l).1 12 2 = (R.1.length : Int) from hK.2.1]
    exact z_iret hX hR (by decide +kernel) (Pk_ok (by unfold aAccount; rw [if_neg (by omega)]; rw [if_pos hs]; rfl) rfl σ rfl hK (Fr.rf σ))
  · refine z_lk hX (dflt := 43) (ps := #[(17, 27), (18, 35)]) (len := 27) (off := 43) 44 (by decide +kernel) h_x (by decide +kernel) (by rw [z_lkn (by omega)]; rw [z_lkn (by omega)]; rfl) (by decide) ?_
    refine z_b hX fo_X10 [.iload_n 1, .iconst 0, .bipush 16] 48 (by decide +kernel) rfl ?_
    by_cases h0 : 0 ≤ x ∧ x ≤ 16
    · refine z_cS0 hX m_X10_needRange l_X10_44 p_X10_needRange (c_range1 h_x ⟨by decide, by decide⟩ ⟨by decide, by decide⟩ h0) rfl rfl rfl rfl (by decide +kernel) ?_
      refine z_b hX fo_X10 [.aload_n 0, .getfield 10, .iload_n 1] 56 (by decide +kernel) rfl ?_
      refine z_cS hX m_X0_accountOf l_X10_294 p_X0_accountOf (c_X0_accountOf hI.1 h0) rfl rfl rfl rfl (by decide +kernel) ?_
      exact z_iret hX hR (by decide +kernel) (Pk_ok (by unfold aAccount; rw [if_neg (by omega)]; rw [if_neg (by omega)]; rw [if_pos h0]; rfl) rfl σ rfl hK (Fr.rf σ))
    · refine z_cSx hX m_X10_needRange l_X10_44 p_X10_needRange (c_range0 h_x ⟨by decide, by decide⟩ ⟨by decide, by decide⟩ h0) rfl (by decide) rfl rfl rfl (by decide +kernel) ?_
      exact z_out hX hR hnx (Pk_ex (by unfold aAccount; rw [if_neg (by omega)]; rw [if_neg (by omega)]; rw [if_neg h0]; rfl) σ rfl hK (Fr.rf σ))
set_option maxHeartbeats 1000000 in
theorem c_X10_isWell {E : zE} {D : Int} {R : aQ} {σ : Nat → Nat → Int} {c : Nat → Int} {l : (Nat → Int64) × (Nat → UInt64)} (hI : AI D c R) (hK : CR R σ) : Pb E yX10_isWell (Cond.code yX10_isWell cX10_isWell 1 (Option.some FieldType.boolean)) 5 [vr 0] (σ) (c) (l) (aWell c R) := by
  refine Ctr_of (own := RX10) (by decide +kernel) rfl rfl (fun Y hX hR hnx => ?_)
  refine z_b hX fo_X10 [.aload_n 0, .getfield 10] 4 (by decide +kernel) rfl ?_
  refine z_cS hX m_X0_spanglesAddUp l_X10_299 p_X0_spanglesAddUp (c_X0_spanglesAddUp hI.1) rfl rfl rfl rfl (by decide +kernel) ?_
  refine z_if_eq hX (off := 27) 34 (by decide +kernel) (by decide) ⟨by decide, by decide⟩ (fun c7 => by exact absurd c7 (by decide)) (fun c7 => ?_)
  refine z_b hX fo_X10 [.aload_n 0, .getfield 10] 14 (by decide +kernel) rfl ?_
  refine z_cS hX m_X0_trunksAgree l_X10_302 p_X0_trunksAgree (c_X0_trunksAgree hI.1) rfl rfl rfl rfl (by decide +kernel) ?_
  refine z_if_eq hX (off := 17) 34 (by decide +kernel) (by decide) ⟨by decide, by decide⟩ (fun c17 => by exact absurd c17 (by decide)) (fun c17 => ?_)
  refine z_b hX fo_X10 [.aload_n 0, .getfield 10] 24 (by decide +kernel) rfl ?_
  refine z_cS hX m_X0_actsAgree l_X10_305 p_X0_actsAgree (c_X0_actsAgree hI.1) rfl rfl rfl rfl (by decide +kernel) ?_
  refine z_if_eq hX (off := 7) 34 (by decide +kernel) (by decide) ⟨by decide, by decide⟩ (fun c27 => by exact absurd c27 (by decide)) (fun c27 => ?_)
  refine z_b hX fo_X10 [.iconst 1] 31 (by decide +kernel) rfl ?_
  refine z_goto hX (off := 4) 35 (by decide +kernel) (by decide) ?_
  exact z_zret hX hR (by decide +kernel) (by decide +kernel) (Pk_ok rfl rfl σ rfl hK (Fr.rf σ))
set_option maxHeartbeats 1000000 in
theorem c_X10_undo {E : zE} {D : Int} {R : aQ} {σ : Nat → Nat → Int} {c : Nat → Int} {l : (Nat → Int64) × (Nat → UInt64)} (hI : AI D c R) (hK : CR R σ) : Pb E yX10_undo (Cond.code yX10_undo cX10_undo 1 (Option.some FieldType.int)) 4 [vr 0] (σ) (c) (l) (aUndo c R) := by
  refine Ctr_of (own := RX10) (by decide +kernel) rfl rfl (fun Y hX hR hnx => ?_)
  refine z_b hX fo_X10 [.aload_n 0, .getfield 22] 4 (by decide +kernel) rfl ?_
  refine z_cV hX m_X1_kept l_X10_291 p_X1_kept c_X1_kept rfl rfl rfl rfl rfl rfl (by decide +kernel) ?_
  rw [show (zs σ 21 c, l).1 12 2 = (R.1.length : Int) from hK.2.1]
  have hl8 := hI.2.2.1
  refine z_if_ne hX (off := 14) 21 (by decide +kernel) (by decide) ⟨by omega, by omega⟩ (fun c7 => ?_) (fun c7 => ?_)
  · obtain ⟨r, H, hRH⟩ := List.exists_cons_of_length_pos (show 0 < R.1.length by omega)
    obtain ⟨q, q1, q2, q3, q4, q5, q6, q7⟩ := hK.back hRH hl8
    have e9 : ∀ j, 181 ≤ j → σ (23 + q) j = c j := fun j hj => by
      have z := hK.2.2.2.2.2.2 (1 + q) (by omega) j hj
      rw [show 22 + (1 + q) = 23 + q by omega] at z
      rw [z, hI.1.2.2.2.2.2 j hj]
    refine z_b hX fo_X10 [.aload_n 0, .getfield 22, .aload_n 0, .getfield 10] 29 (by decide +kernel) rfl ?_
    refine z_cV0 hX m_X1_back l_X10_320 p_X1_back (c_X1_back q2 q1 q4 q5 e9) rfl rfl rfl rfl rfl rfl (by decide +kernel) ?_
    rw [q3]
    refine z_b hX fo_X10 [.aload_n 0, .getfield 22] 36 (by decide +kernel) rfl ?_
    refine z_cV hX m_X1_kept l_X10_291 p_X1_kept c_X1_kept rfl rfl rfl rfl rfl rfl (by decide +kernel) ?_
    rw [show (zs (zbk σ) 21 r, l).1 12 2 = (H.length : Int) from q6]
    exact z_iret hX hR (by decide +kernel) (Pk_ok (aUndo_c hRH) rfl (zbk σ) rfl q7 (fun k hk => by unfold zbk; rw [zs_ne (by omega)]))
  · exact z_throwW (is := 318) (text := "no change can be undone") hX hR hnx a_IS k_X10_236 (by decide +kernel) (by decide +kernel) (by decide +kernel) (by decide +kernel) (by decide +kernel) (by decide +kernel) (by decide) (by decide) (Pk_ex (aUndo_n (List.length_eq_zero_iff.mp (by omega))) σ rfl hK (Fr.rf σ))
set_option maxHeartbeats 1000000 in
theorem c_X10_save {E : zE} {D : Int} {R : aQ} {σ : Nat → Nat → Int} {c : Nat → Int} {l : (Nat → Int64) × (Nat → UInt64)} (hI : AI D c R) (hK : CR R σ) : Pb E yX10_save (Cond.code yX10_save cX10_save 1 (Option.some FieldType.int)) 2 [vr 0] (σ) (c) (l) (aSave c R) := by
  refine Ctr_of (own := RX10) (by decide +kernel) rfl rfl (fun Y hX hR hnx => ?_)
  refine z_b hX fo_X10 [.aload_n 0, .getfield 16, .aload_n 0, .getfield 10] 8 (by decide +kernel) rfl ?_
  refine z_cV0 hX m_X6_copyFrom l_X10_323 p_X6_copyFrom (c_X6_copyFrom (r := 2) (q := 1) (st := (zs σ 21 c, l)) ⟨by omega, by omega⟩ ⟨by omega, by omega⟩ (by decide)) rfl rfl rfl rfl rfl rfl (by decide +kernel) ?_
  have e9 : zs (zs σ 21 c) 22 (zcp ((zs σ 21 c) 21) ((zs σ 21 c) 22) 181) = zs (zs σ 22 c) 21 c := by
    rw [zs_eq, zs_ne (show 22 ≠ 21 by decide), zcp_all (fun j hj => by rw [hI.1.2.2.2.2.2 j hj, hK.2.2.2.2.2.2 0 (by omega) j hj]), zs_comm (show 21 ≠ 22 by decide)]
  dsimp only
  rw [e9]
  refine z_b hX fo_X10 [.aload_n 0, .iconst 1] 13 (by decide +kernel) rfl ?_
  refine z_putz hX (oc := 0) (f := 5) rfl ws_X10 tyX10_ok nmX10 (by decide) f_X10_40 rfl rfl rfl (by decide) rfl rfl (by decide +kernel) ?_
  have e8 : zup (zs (zs σ 22 c) 21 c) 0 5 1 = zs (zs (zs σ 22 c) 0 (va_up (σ 0) 5 1)) 21 c := by
    rw [zup_zs, zs_ne (show 0 ≠ 21 by decide), zs_ne (show 0 ≠ 22 by decide), zs_comm (show 21 ≠ 0 by decide)]
  rw [e8]
  refine z_b hX fo_X10 [.aload_n 0, .getfield 10, .bipush 8] 22 (by decide +kernel) rfl ?_
  refine z_cV hX m_X6_at l_X10_48 p_X6_at (c_at (j := 8) (by omega) (by omega)) rfl rfl rfl rfl rfl rfl (by decide +kernel) ?_
  exact z_iret hX hR (by decide +kernel) (Pk_ok rfl rfl (zs (zs σ 22 c) 0 (va_up (σ 0) 5 1)) rfl (hK.save c hI.1.2.2.2.2.2) (fun k hk => by rw [zs_ne (by omega), zs_ne (by omega)]))
set_option maxHeartbeats 1000000 in
theorem c_X10_restore {E : zE} {D : Int} {R : aQ} {σ : Nat → Nat → Int} {c : Nat → Int} {l : (Nat → Int64) × (Nat → UInt64)} (hI : AI D c R) (hK : CR R σ) : Pb E yX10_restore (Cond.code yX10_restore cX10_restore 1 (Option.some FieldType.int)) 2 [vr 0] (σ) (c) (l) (aRestore c R) := by
  refine Ctr_of (own := RX10) (by decide +kernel) rfl rfl (fun Y hX hR hnx => ?_)
  refine z_b hX fo_X10 [.aload_n 0, .getfield 40] 4 (by decide +kernel) rfl ?_
  dsimp only
  have h5 := hK.2.2.1
  cases hv : R.2.1 with
  | none =>
    rw [hv] at h5
    rw [show (zs σ 21 c) 0 5 = 0 from h5]
    refine z_if_ne hX (off := 14) 18 (by decide +kernel) (by decide) ⟨by omega, by omega⟩ (fun c4 => by exfalso; omega) (fun c4 => ?_)
    exact z_throwW (is := 326) (text := "there is no snapshot") hX hR hnx a_IS k_X10_236 (by decide +kernel) (by decide +kernel) (by decide +kernel) (by decide +kernel) (by decide +kernel) (by decide +kernel) (by decide) (by decide) (Pk_ex (aRestore_n hv) σ rfl hK (Fr.rf σ))
  | some v =>
    rw [hv] at h5
    obtain ⟨h1, h2⟩ := h5
    rw [show (zs σ 21 c) 0 5 = 1 from h1]
    refine z_if_ne hX (off := 14) 18 (by decide +kernel) (by decide) ⟨by omega, by omega⟩ (fun c4 => ?_) (fun c4 => by exfalso; omega)
    refine z_b hX fo_X10 [.aload_n 0, .getfield 10, .aload_n 0, .getfield 16] 26 (by decide +kernel) rfl ?_
    refine z_cV0 hX m_X6_copyFrom l_X10_323 p_X6_copyFrom (c_X6_copyFrom (r := 1) (q := 2) (st := (zs σ 21 c, l)) ⟨by omega, by omega⟩ ⟨by omega, by omega⟩ (by decide)) rfl rfl rfl rfl rfl rfl (by decide +kernel) ?_
    have e9 : zs (zs σ 21 c) 21 (zcp ((zs σ 21 c) 22) ((zs σ 21 c) 21) 181) = zs σ 21 v := by
      rw [zs_eq, zs_ne (show 22 ≠ 21 by decide), zcp_all (fun j hj => by rw [hI.1.2.2.2.2.2 j hj, hK.2.2.2.2.2.2 0 (by omega) j hj]), zs_zs, h2]
    dsimp only
    rw [e9]
    refine z_b hX fo_X10 [.aload_n 0, .getfield 22] 33 (by decide +kernel) rfl ?_
    refine z_cV0 hX m_X1_forget l_X10_328 p_X1_forget c_X1_forget rfl rfl rfl rfl rfl rfl (by decide +kernel) ?_
    refine z_b hX fo_X10 [.aload_n 0, .getfield 10, .bipush 8] 42 (by decide +kernel) rfl ?_
    refine z_cV hX m_X6_at l_X10_48 p_X6_at (c_at (j := 8) (by omega) (by omega)) rfl rfl rfl rfl rfl rfl (by decide +kernel) ?_
    exact z_iret hX hR (by decide +kernel) (Pk_ok (aRestore_s hv) rfl (zs σ 12 (va_up (σ 12) 2 0)) rfl hK.forget (fun k hk => by rw [zs_ne (by omega)]))
