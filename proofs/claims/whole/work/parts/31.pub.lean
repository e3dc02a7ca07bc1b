/-! ===== CircusCoats: its public methods ===== -/
set_option maxHeartbeats 1000000 in
theorem c_X10_coat {E : zE} {x D : Int} {R : aQ} {σ : Nat → Nat → Int} {c : Nat → Int} {l : (Nat → Int64) × (Nat → UInt64)} (hI : AI D c R) (hK : CR R σ) (h_x : zi x) : Pb E yX10_coat (Cond.code yX10_coat cX10_coat 2 (Option.some FieldType.int)) 4 [vr 0, vi x] (σ) (c) (l) (aCoat false c R x) := by
  refine Ctr_of (own := RX10) (by decide +kernel) rfl rfl (fun Y hX hR hnx => ?_)
  have g8 := hI.1.1.coats
  have g9 := hI.1.1.acts
  have g10 := hI.1.1.women
  have g11 := hI.1.1.trunks
  have g12 := hI.1.1.loaded
  refine z_b hX fo_X10 [.iload_n 1, .bipush 30, .bipush 60] 5 (by decide +kernel) rfl ?_
  by_cases h0 : 30 ≤ x ∧ x ≤ 60
  · refine z_cS0 hX m_X10_needRange l_X10_44 p_X10_needRange (c_range1 h_x ⟨by decide, by decide⟩ ⟨by decide, by decide⟩ h0) rfl rfl rfl rfl (by decide +kernel) ?_
    refine z_b hX fo_X10 [.aload_n 0, .getfield 29, .aload_n 0, .getfield 10, .bipush 8] 18 (by decide +kernel) rfl ?_
    refine z_cV hX m_X6_at l_X10_48 p_X6_at (c_at (j := 8) (by omega) (by omega)) rfl rfl rfl rfl rfl rfl (by decide +kernel) ?_
    refine z_b hX fo_X10 [.bipush 12] 23 (by decide +kernel) rfl ?_
    refine z_cV hX m_X5_againstMore l_X10_52 p_X5_againstMore (c_X5_againstMore ⟨by omega, by omega⟩ ⟨by decide, by decide⟩) rfl rfl rfl rfl rfl rfl (by decide +kernel) ?_
    cases hr : (rMore (c 8) 12 : zr) with
    | some q =>
      obtain ⟨q1, q2⟩ := q
      dsimp only [zo, zoσ]
      refine z_cSx hX m_X10_heed l_X10_56 p_X10_heed (c_heed0 rfl) rfl (by decide) rfl rfl rfl (by decide +kernel) ?_
      exact z_out hX hR hnx (Pk_ex (by unfold aCoat; rw [if_pos h0]; (try simp only [Int.toNat_natCast]); rw [hr]; rfl) (zrf σ q1 q2) rfl (hK.ref (q1, q2)) (Fr.ref (q1, q2)))
    | none =>
      dsimp only [zo, zoσ]
      refine z_cS0 hX m_X10_heed l_X10_56 p_X10_heed (c_heed1 rfl) rfl rfl rfl rfl (by decide +kernel) ?_
      refine z_b hX fo_X10 [.aload_n 0, .getfield 22, .aload_n 0, .getfield 10] 37 (by decide +kernel) rfl ?_
      have hq := rif_n hr
      obtain ⟨σ1, hkp, hC1, hF1⟩ := c_keep (E := E) (l := l) hI hK
      refine z_cV0 hX m_X1_keep l_X10_60 p_X1_keep hkp rfl rfl rfl rfl rfl rfl (by decide +kernel) ?_
      refine z_b hX fo_X10 [.aload_n 0, .getfield 10, .iload_n 1] 45 (by decide +kernel) rfl ?_
      refine z_cS hX m_X9_addCoat l_X10_64 p_X9_addCoat (c_X9_addCoat (k := (c 8).toNat) (by omega) (by omega)) rfl rfl rfl rfl (by decide +kernel) ?_
      exact z_iret hX hR (by decide +kernel) (Pk_ok (by unfold aCoat; rw [if_pos h0]; (try simp only [Int.toNat_natCast]); rw [hr]; (try simp only [Int.toNat_natCast]); rfl) (by omega) σ1 rfl hC1 hF1)
  · refine z_cSx hX m_X10_needRange l_X10_44 p_X10_needRange (c_range0 h_x ⟨by decide, by decide⟩ ⟨by decide, by decide⟩ h0) rfl (by decide) rfl rfl rfl (by decide +kernel) ?_
    exact z_out hX hR hnx (Pk_ex (by unfold aCoat; rw [if_neg h0]; rfl) σ rfl hK (Fr.rf σ))
set_option maxHeartbeats 1000000 in
theorem c_X10_act {E : zE} {x y D : Int} {R : aQ} {σ : Nat → Nat → Int} {c : Nat → Int} {l : (Nat → Int64) × (Nat → UInt64)} (hI : AI D c R) (hK : CR R σ) (h_x : zi x) (h_y : zi y) : Pb E yX10_act (Cond.code yX10_act cX10_act 3 (Option.some FieldType.int)) 4 [vr 0, vi x, vi y] (σ) (c) (l) (aAct false c R x y) := by
  refine Ctr_of (own := RX10) (by decide +kernel) rfl rfl (fun Y hX hR hnx => ?_)
  have g8 := hI.1.1.coats
  have g9 := hI.1.1.acts
  have g10 := hI.1.1.women
  have g11 := hI.1.1.trunks
  have g12 := hI.1.1.loaded
  refine z_b hX fo_X10 [.iload_n 1, .bipush 30, .bipush 60] 5 (by decide +kernel) rfl ?_
  by_cases h0 : 30 ≤ x ∧ x ≤ 60
  · refine z_cS0 hX m_X10_needRange l_X10_44 p_X10_needRange (c_range1 h_x ⟨by decide, by decide⟩ ⟨by decide, by decide⟩ h0) rfl rfl rfl rfl (by decide +kernel) ?_
    refine z_b hX fo_X10 [.iload_n 2, .iconst 0, .iconst 3] 11 (by decide +kernel) rfl ?_
    by_cases h1 : 0 ≤ y ∧ y ≤ 3
    · refine z_cS0 hX m_X10_needRange l_X10_44 p_X10_needRange (c_range1 h_y ⟨by decide, by decide⟩ ⟨by decide, by decide⟩ h1) rfl rfl rfl rfl (by decide +kernel) ?_
      refine z_b hX fo_X10 [.aload_n 0, .getfield 29, .aload_n 0, .getfield 10, .bipush 9] 24 (by decide +kernel) rfl ?_
      refine z_cV hX m_X6_at l_X10_48 p_X6_at (c_at (j := 9) (by omega) (by omega)) rfl rfl rfl rfl rfl rfl (by decide +kernel) ?_
      refine z_b hX fo_X10 [.bipush 6] 29 (by decide +kernel) rfl ?_
      refine z_cV hX m_X5_againstMore l_X10_52 p_X5_againstMore (c_X5_againstMore ⟨by omega, by omega⟩ ⟨by decide, by decide⟩) rfl rfl rfl rfl rfl rfl (by decide +kernel) ?_
      cases hr : (rMore (c 9) 6 : zr) with
      | some q =>
        obtain ⟨q1, q2⟩ := q
        dsimp only [zo, zoσ]
        refine z_cSx hX m_X10_heed l_X10_56 p_X10_heed (c_heed0 rfl) rfl (by decide) rfl rfl rfl (by decide +kernel) ?_
        exact z_out hX hR hnx (Pk_ex (by unfold aAct; rw [if_pos h0]; rw [if_pos h1]; (try simp only [Int.toNat_natCast]); rw [hr]; rfl) (zrf σ q1 q2) rfl (hK.ref (q1, q2)) (Fr.ref (q1, q2)))
      | none =>
        dsimp only [zo, zoσ]
        refine z_cS0 hX m_X10_heed l_X10_56 p_X10_heed (c_heed1 rfl) rfl rfl rfl rfl (by decide +kernel) ?_
        refine z_b hX fo_X10 [.aload_n 0, .getfield 22, .aload_n 0, .getfield 10] 43 (by decide +kernel) rfl ?_
        have hq := rif_n hr
        obtain ⟨σ1, hkp, hC1, hF1⟩ := c_keep (E := E) (l := l) hI hK
        refine z_cV0 hX m_X1_keep l_X10_60 p_X1_keep hkp rfl rfl rfl rfl rfl rfl (by decide +kernel) ?_
        refine z_b hX fo_X10 [.aload_n 0, .getfield 10, .iload_n 1, .iload_n 2] 52 (by decide +kernel) rfl ?_
        refine z_cS hX m_X9_addAct l_X10_70 p_X9_addAct (c_X9_addAct (a := (c 9).toNat) (by omega) (by omega)) rfl rfl rfl rfl (by decide +kernel) ?_
        exact z_iret hX hR (by decide +kernel) (Pk_ok (by unfold aAct; rw [if_pos h0]; rw [if_pos h1]; (try simp only [Int.toNat_natCast]); rw [hr]; (try simp only [Int.toNat_natCast]); rfl) (by omega) σ1 rfl hC1 hF1)
    · refine z_cSx hX m_X10_needRange l_X10_44 p_X10_needRange (c_range0 h_y ⟨by decide, by decide⟩ ⟨by decide, by decide⟩ h1) rfl (by decide) rfl rfl rfl (by decide +kernel) ?_
      exact z_out hX hR hnx (Pk_ex (by unfold aAct; rw [if_pos h0]; rw [if_neg h1]; rfl) σ rfl hK (Fr.rf σ))
  · refine z_cSx hX m_X10_needRange l_X10_44 p_X10_needRange (c_range0 h_x ⟨by decide, by decide⟩ ⟨by decide, by decide⟩ h0) rfl (by decide) rfl rfl rfl (by decide +kernel) ?_
    exact z_out hX hR hnx (Pk_ex (by unfold aAct; rw [if_neg h0]; rfl) σ rfl hK (Fr.rf σ))
set_option maxHeartbeats 1000000 in
theorem c_X10_wear {E : zE} {x y D : Int} {R : aQ} {σ : Nat → Nat → Int} {c : Nat → Int} {l : (Nat → Int64) × (Nat → UInt64)} (hI : AI D c R) (hK : CR R σ) (h_x : zi x) (h_y : zi y) : Pb E yX10_wear (Cond.code yX10_wear cX10_wear 3 (Option.some FieldType.int)) 4 [vr 0, vi x, vi y] (σ) (c) (l) (aWear false c R x y) := by
  refine Ctr_of (own := RX10) (by decide +kernel) rfl rfl (fun Y hX hR hnx => ?_)
  have g8 := hI.1.1.coats
  have g9 := hI.1.1.acts
  have g10 := hI.1.1.women
  have g11 := hI.1.1.trunks
  have g12 := hI.1.1.loaded
  refine z_b hX fo_X10 [.aload_n 0, .getfield 10, .iload_n 1] 5 (by decide +kernel) rfl ?_
  refine z_cV hX m_X6_hasAct l_X10_74 p_X6_hasAct (c_X6_hasAct h_x ⟨by omega, by omega⟩) rfl rfl rfl rfl rfl rfl (by decide +kernel) ?_
  by_cases h0 : hA c x
  · obtain ⟨a, rfl⟩ : ∃ z : Nat, x = (z : Int) := ⟨x.toNat, by omega⟩
    refine z_cS0 hX m_X10_needThere l_X10_78 p_X10_needThere (c_there1 (th1 h0)) rfl rfl rfl rfl (by decide +kernel) ?_
    refine z_b hX fo_X10 [.aload_n 0, .getfield 10, .iload_n 2] 16 (by decide +kernel) rfl ?_
    refine z_cV hX m_X6_hasCoat l_X10_81 p_X6_hasCoat (c_X6_hasCoat h_y ⟨by omega, by omega⟩) rfl rfl rfl rfl rfl rfl (by decide +kernel) ?_
    by_cases h1 : hC c y
    · obtain ⟨k, rfl⟩ : ∃ z : Nat, y = (z : Int) := ⟨y.toNat, by omega⟩
      refine z_cS0 hX m_X10_needThere l_X10_78 p_X10_needThere (c_there1 (th1 h1)) rfl rfl rfl rfl (by decide +kernel) ?_
      refine z_b hX fo_X10 [.aload_n 0, .getfield 29, .aload_n 0, .getfield 10, .iload_n 1, .iload_n 2] 32 (by decide +kernel) rfl ?_
      refine z_cV hX m_X5_againstWearing l_X10_84 p_X5_againstWearing (c_X5_againstWearing hI.1.1 (by omega) (by omega)) rfl rfl rfl rfl rfl rfl (by decide +kernel) ?_
      cases hr : (rWear c (a : Int) k : zr) with
      | some q =>
        obtain ⟨q1, q2⟩ := q
        dsimp only [zo, zoσ]
        refine z_cSx hX m_X10_heed l_X10_56 p_X10_heed (c_heed0 rfl) rfl (by decide) rfl rfl rfl (by decide +kernel) ?_
        exact z_out hX hR hnx (Pk_ex (by unfold aWear; rw [if_pos h0]; rw [if_pos h1]; (try simp only [Int.toNat_natCast]); rw [hr]; rfl) (zrf σ q1 q2) rfl (hK.ref (q1, q2)) (Fr.ref (q1, q2)))
      | none =>
        dsimp only [zo, zoσ]
        refine z_cS0 hX m_X10_heed l_X10_56 p_X10_heed (c_heed1 rfl) rfl rfl rfl rfl (by decide +kernel) ?_
        refine z_b hX fo_X10 [.aload_n 0, .getfield 22, .aload_n 0, .getfield 10] 46 (by decide +kernel) rfl ?_
        obtain ⟨σ1, hkp, hC1, hF1⟩ := c_keep (E := E) (l := l) hI hK
        refine z_cV0 hX m_X1_keep l_X10_60 p_X1_keep hkp rfl rfl rfl rfl rfl rfl (by decide +kernel) ?_
        refine z_b hX fo_X10 [.aload_n 0, .getfield 10, .iload_n 1, .iload_n 2] 55 (by decide +kernel) rfl ?_
        refine z_cS hX m_X9_give l_X10_88 p_X9_give (c_X9_give hI.1.1 (by omega) (by omega)) rfl rfl rfl rfl (by decide +kernel) ?_
        exact z_iret hX hR (by decide +kernel) (Pk_ok (by unfold aWear; rw [if_pos h0]; rw [if_pos h1]; (try simp only [Int.toNat_natCast]); rw [hr]; (try simp only [Int.toNat_natCast]); rfl) (rfl) σ1 rfl hC1 hF1)
    · refine z_cSx hX m_X10_needThere l_X10_78 p_X10_needThere (c_there0 (th0 h1)) rfl (by decide) rfl rfl rfl (by decide +kernel) ?_
      exact z_out hX hR hnx (Pk_ex (by unfold aWear; rw [if_pos h0]; rw [if_neg h1]; rfl) σ rfl hK (Fr.rf σ))
  · refine z_cSx hX m_X10_needThere l_X10_78 p_X10_needThere (c_there0 (th0 h0)) rfl (by decide) rfl rfl rfl (by decide +kernel) ?_
    exact z_out hX hR hnx (Pk_ex (by unfold aWear; rw [if_neg h0]; rfl) σ rfl hK (Fr.rf σ))
set_option maxHeartbeats 1000000 in
theorem c_X10_rip {E : zE} {x y D : Int} {R : aQ} {σ : Nat → Nat → Int} {c : Nat → Int} {l : (Nat → Int64) × (Nat → UInt64)} (hI : AI D c R) (hK : CR R σ) (h_x : zi x) (h_y : zi y) : Pb E yX10_rip (Cond.code yX10_rip cX10_rip 3 (Option.some FieldType.int)) 4 [vr 0, vi x, vi y] (σ) (c) (l) (aRip false c R x y) := by
  refine Ctr_of (own := RX10) (by decide +kernel) rfl rfl (fun Y hX hR hnx => ?_)
  have g8 := hI.1.1.coats
  have g9 := hI.1.1.acts
  have g10 := hI.1.1.women
  have g11 := hI.1.1.trunks
  have g12 := hI.1.1.loaded
  refine z_b hX fo_X10 [.aload_n 0, .getfield 10, .iload_n 1] 5 (by decide +kernel) rfl ?_
  refine z_cV hX m_X6_hasCoat l_X10_81 p_X6_hasCoat (c_X6_hasCoat h_x ⟨by omega, by omega⟩) rfl rfl rfl rfl rfl rfl (by decide +kernel) ?_
  by_cases h0 : hC c x
  · obtain ⟨k, rfl⟩ : ∃ z : Nat, x = (z : Int) := ⟨x.toNat, by omega⟩
    refine z_cS0 hX m_X10_needThere l_X10_78 p_X10_needThere (c_there1 (th1 h0)) rfl rfl rfl rfl (by decide +kernel) ?_
    refine z_b hX fo_X10 [.iload_n 2, .iconst 1, .bipush 9] 15 (by decide +kernel) rfl ?_
    by_cases h1 : 1 ≤ y ∧ y ≤ 9
    · refine z_cS0 hX m_X10_needRange l_X10_44 p_X10_needRange (c_range1 h_y ⟨by decide, by decide⟩ ⟨by decide, by decide⟩ h1) rfl rfl rfl rfl (by decide +kernel) ?_
      refine z_b hX fo_X10 [.aload_n 0, .getfield 22, .aload_n 0, .getfield 10] 26 (by decide +kernel) rfl ?_
      obtain ⟨σ1, hkp, hC1, hF1⟩ := c_keep (E := E) (l := l) hI hK
      refine z_cV0 hX m_X1_keep l_X10_60 p_X1_keep hkp rfl rfl rfl rfl rfl rfl (by decide +kernel) ?_
      refine z_b hX fo_X10 [.aload_n 0, .getfield 10, .iload_n 1, .iload_n 2] 35 (by decide +kernel) rfl ?_
      refine z_cS hX m_X9_addRips l_X10_91 p_X9_addRips (c_X9_addRips hI.1.1 (by omega) (by omega)) rfl rfl rfl rfl (by decide +kernel) ?_
      exact z_iret hX hR (by decide +kernel) (Pk_ok (by unfold aRip; rw [if_pos h0]; rw [if_pos h1]; (try simp only [Int.toNat_natCast]); rfl) (rfl) σ1 rfl hC1 hF1)
    · refine z_cSx hX m_X10_needRange l_X10_44 p_X10_needRange (c_range0 h_y ⟨by decide, by decide⟩ ⟨by decide, by decide⟩ h1) rfl (by decide) rfl rfl rfl (by decide +kernel) ?_
      exact z_out hX hR hnx (Pk_ex (by unfold aRip; rw [if_pos h0]; rw [if_neg h1]; rfl) σ rfl hK (Fr.rf σ))
  · refine z_cSx hX m_X10_needThere l_X10_78 p_X10_needThere (c_there0 (th0 h0)) rfl (by decide) rfl rfl rfl (by decide +kernel) ?_
    exact z_out hX hR hnx (Pk_ex (by unfold aRip; rw [if_neg h0]; rfl) σ rfl hK (Fr.rf σ))
set_option maxHeartbeats 1000000 in
theorem c_X10_lose {E : zE} {x y D : Int} {R : aQ} {σ : Nat → Nat → Int} {c : Nat → Int} {l : (Nat → Int64) × (Nat → UInt64)} (hI : AI D c R) (hK : CR R σ) (h_x : zi x) (h_y : zi y) : Pb E yX10_lose (Cond.code yX10_lose cX10_lose 3 (Option.some FieldType.int)) 4 [vr 0, vi x, vi y] (σ) (c) (l) (aLose false c R x y) := by
  refine Ctr_of (own := RX10) (by decide +kernel) rfl rfl (fun Y hX hR hnx => ?_)
  have g8 := hI.1.1.coats
  have g9 := hI.1.1.acts
  have g10 := hI.1.1.women
  have g11 := hI.1.1.trunks
  have g12 := hI.1.1.loaded
  refine z_b hX fo_X10 [.aload_n 0, .getfield 10, .iload_n 1] 5 (by decide +kernel) rfl ?_
  refine z_cV hX m_X6_hasCoat l_X10_81 p_X6_hasCoat (c_X6_hasCoat h_x ⟨by omega, by omega⟩) rfl rfl rfl rfl rfl rfl (by decide +kernel) ?_
  by_cases h0 : hC c x
  · obtain ⟨k, rfl⟩ : ∃ z : Nat, x = (z : Int) := ⟨x.toNat, by omega⟩
    refine z_cS0 hX m_X10_needThere l_X10_78 p_X10_needThere (c_there1 (th1 h0)) rfl rfl rfl rfl (by decide +kernel) ?_
    refine z_b hX fo_X10 [.iload_n 2, .iconst 1, .bipush 60] 15 (by decide +kernel) rfl ?_
    by_cases h1 : 1 ≤ y ∧ y ≤ 60
    · refine z_cS0 hX m_X10_needRange l_X10_44 p_X10_needRange (c_range1 h_y ⟨by decide, by decide⟩ ⟨by decide, by decide⟩ h1) rfl rfl rfl rfl (by decide +kernel) ?_
      refine z_b hX fo_X10 [.aload_n 0, .getfield 22, .aload_n 0, .getfield 10] 26 (by decide +kernel) rfl ?_
      obtain ⟨σ1, hkp, hC1, hF1⟩ := c_keep (E := E) (l := l) hI hK
      refine z_cV0 hX m_X1_keep l_X10_60 p_X1_keep hkp rfl rfl rfl rfl rfl rfl (by decide +kernel) ?_
      refine z_b hX fo_X10 [.aload_n 0, .getfield 10, .iload_n 1, .iload_n 2] 35 (by decide +kernel) rfl ?_
      refine z_cS hX m_X9_takeOff l_X10_94 p_X9_takeOff (c_X9_takeOff hI.1.1 (by omega) (by omega)) rfl rfl rfl rfl (by decide +kernel) ?_
      exact z_iret hX hR (by decide +kernel) (Pk_ok (by unfold aLose; rw [if_pos h0]; rw [if_pos h1]; (try simp only [Int.toNat_natCast]); rfl) (by unfold ad; rw [vne (by omega)]) σ1 rfl hC1 hF1)
    · refine z_cSx hX m_X10_needRange l_X10_44 p_X10_needRange (c_range0 h_y ⟨by decide, by decide⟩ ⟨by decide, by decide⟩ h1) rfl (by decide) rfl rfl rfl (by decide +kernel) ?_
      exact z_out hX hR hnx (Pk_ex (by unfold aLose; rw [if_pos h0]; rw [if_neg h1]; rfl) σ rfl hK (Fr.rf σ))
  · refine z_cSx hX m_X10_needThere l_X10_78 p_X10_needThere (c_there0 (th0 h0)) rfl (by decide) rfl rfl rfl (by decide +kernel) ?_
    exact z_out hX hR hnx (Pk_ex (by unfold aLose; rw [if_neg h0]; rfl) σ rfl hK (Fr.rf σ))
set_option maxHeartbeats 1000000 in
theorem c_X10_open {E : zE} {x y D : Int} {R : aQ} {σ : Nat → Nat → Int} {c : Nat → Int} {l : (Nat → Int64) × (Nat → UInt64)} (hI : AI D c R) (hK : CR R σ) (h_x : zi x) (h_y : zi y) : Pb E yX10_open (Cond.code yX10_open cX10_open 3 (Option.some FieldType.boolean)) 3 [vr 0, vi x, vi y] (σ) (c) (l) (aOpen c R x y) := by
  refine Ctr_of (own := RX10) (by decide +kernel) rfl rfl (fun Y hX hR hnx => ?_)
  have g8 := hI.1.1.coats
  have g9 := hI.1.1.acts
  have g10 := hI.1.1.women
  have g11 := hI.1.1.trunks
  have g12 := hI.1.1.loaded
  refine z_b hX fo_X10 [.aload_n 0, .getfield 10, .iload_n 1] 5 (by decide +kernel) rfl ?_
  refine z_cV hX m_X6_hasCoat l_X10_81 p_X6_hasCoat (c_X6_hasCoat h_x ⟨by omega, by omega⟩) rfl rfl rfl rfl rfl rfl (by decide +kernel) ?_
  by_cases h0 : hC c x
  · obtain ⟨k, rfl⟩ : ∃ z : Nat, x = (z : Int) := ⟨x.toNat, by omega⟩
    refine z_cS0 hX m_X10_needThere l_X10_78 p_X10_needThere (c_there1 (th1 h0)) rfl rfl rfl rfl (by decide +kernel) ?_
    refine z_b hX fo_X10 [.aload_n 0, .getfield 10, .iload_n 2] 16 (by decide +kernel) rfl ?_
    refine z_cV hX m_X6_hasAct l_X10_74 p_X6_hasAct (c_X6_hasAct h_y ⟨by omega, by omega⟩) rfl rfl rfl rfl rfl rfl (by decide +kernel) ?_
    by_cases h1 : hA c y
    · obtain ⟨a, rfl⟩ : ∃ z : Nat, y = (z : Int) := ⟨y.toNat, by omega⟩
      refine z_cS0 hX m_X10_needThere l_X10_78 p_X10_needThere (c_there1 (th1 h1)) rfl rfl rfl rfl (by decide +kernel) ?_
      refine z_b hX fo_X10 [.aload_n 0, .getfield 10, .iload_n 1, .iload_n 2] 28 (by decide +kernel) rfl ?_
      refine z_cS hX m_X9_isOpen l_X10_106 p_X9_isOpen (c_X9_isOpen hI.1.1 (by omega) (by omega)) rfl rfl rfl rfl (by decide +kernel) ?_
      exact z_zret hX hR z01n (by decide +kernel) (Pk_ok (by unfold aOpen; rw [if_pos h0]; rw [if_pos h1]; (try simp only [Int.toNat_natCast]); rfl) (rfl) σ rfl hK (Fr.rf σ))
    · refine z_cSx hX m_X10_needThere l_X10_78 p_X10_needThere (c_there0 (th0 h1)) rfl (by decide) rfl rfl rfl (by decide +kernel) ?_
      exact z_out hX hR hnx (Pk_ex (by unfold aOpen; rw [if_pos h0]; rw [if_neg h1]; rfl) σ rfl hK (Fr.rf σ))
  · refine z_cSx hX m_X10_needThere l_X10_78 p_X10_needThere (c_there0 (th0 h0)) rfl (by decide) rfl rfl rfl (by decide +kernel) ?_
    exact z_out hX hR hnx (Pk_ex (by unfold aOpen; rw [if_neg h0]; rfl) σ rfl hK (Fr.rf σ))
set_option maxHeartbeats 1000000 in
theorem c_X10_best {E : zE} {x D : Int} {R : aQ} {σ : Nat → Nat → Int} {c : Nat → Int} {l : (Nat → Int64) × (Nat → UInt64)} (hI : AI D c R) (hK : CR R σ) (h_x : zi x) : Pb E yX10_best (Cond.code yX10_best cX10_best 2 (Option.some FieldType.int)) 4 [vr 0, vi x] (σ) (c) (l) (aBest c R x) := by
  refine Ctr_of (own := RX10) (by decide +kernel) rfl rfl (fun Y hX hR hnx => ?_)
  have g8 := hI.1.1.coats
  have g9 := hI.1.1.acts
  have g10 := hI.1.1.women
  have g11 := hI.1.1.trunks
  have g12 := hI.1.1.loaded
  refine z_b hX fo_X10 [.aload_n 0, .getfield 10, .iload_n 1] 5 (by decide +kernel) rfl ?_
  refine z_cV hX m_X6_hasAct l_X10_74 p_X6_hasAct (c_X6_hasAct h_x ⟨by omega, by omega⟩) rfl rfl rfl rfl rfl rfl (by decide +kernel) ?_
  by_cases h0 : hA c x
  · obtain ⟨a, rfl⟩ : ∃ z : Nat, x = (z : Int) := ⟨x.toNat, by omega⟩
    refine z_cS0 hX m_X10_needThere l_X10_78 p_X10_needThere (c_there1 (th1 h0)) rfl rfl rfl rfl (by decide +kernel) ?_
    refine z_b hX fo_X10 [.aload_n 0, .getfield 10, .iload_n 1] 16 (by decide +kernel) rfl ?_
    refine z_cS hX m_X9_bestFor l_X10_109 p_X9_bestFor (c_X9_bestFor (n := (c 8).toNat) hI.1.1 (by omega) (by omega)) rfl rfl rfl rfl (by decide +kernel) ?_
    by_cases hf : zbest c a 0 (c 8).toNat (-1) = -1
    · refine z_cSx hX m_X10_found l_X10_112 p_X10_found (c_found0 hf) rfl (by decide) rfl rfl rfl (by decide +kernel) ?_
      exact z_out hX hR hnx (Pk_ex (by unfold aBest; rw [if_pos h0]; (try simp only [Int.toNat_natCast]); unfold fnd; rw [if_pos hf]; rfl) σ rfl hK (Fr.rf σ))
    · refine z_cS hX m_X10_found l_X10_112 p_X10_found (c_found1 (zbest_zi hI.1.1) hf) rfl rfl rfl rfl (by decide +kernel) ?_
      exact z_iret hX hR (by decide +kernel) (Pk_ok (by unfold aBest; rw [if_pos h0]; (try simp only [Int.toNat_natCast]); unfold fnd; rw [if_neg hf]; rfl) rfl σ rfl hK (Fr.rf σ))
  · refine z_cSx hX m_X10_needThere l_X10_78 p_X10_needThere (c_there0 (th0 h0)) rfl (by decide) rfl rfl rfl (by decide +kernel) ?_
    exact z_out hX hR hnx (Pk_ex (by unfold aBest; rw [if_neg h0]; rfl) σ rfl hK (Fr.rf σ))
set_option maxHeartbeats 1000000 in
theorem c_X10_work {E : zE} {x y D : Int} {R : aQ} {σ : Nat → Nat → Int} {c : Nat → Int} {l : (Nat → Int64) × (Nat → UInt64)} (hI : AI D c R) (hK : CR R σ) (h_x : zi x) (h_y : zi y) : Pb E yX10_work (Cond.code yX10_work cX10_work 3 (Option.some FieldType.int)) 2 [vr 0, vi x, vi y] (σ) (c) (l) (aWork c R x y) := by
  refine Ctr_of (own := RX10) (by decide +kernel) rfl rfl (fun Y hX hR hnx => ?_)
  have g8 := hI.1.1.coats
  have g9 := hI.1.1.acts
  have g10 := hI.1.1.women
  have g11 := hI.1.1.trunks
  have g12 := hI.1.1.loaded
  refine z_b hX fo_X10 [.aload_n 0, .getfield 10, .iload_n 1] 5 (by decide +kernel) rfl ?_
  refine z_cV hX m_X6_hasCoat l_X10_81 p_X6_hasCoat (c_X6_hasCoat h_x ⟨by omega, by omega⟩) rfl rfl rfl rfl rfl rfl (by decide +kernel) ?_
  by_cases h0 : hC c x
  · obtain ⟨k, rfl⟩ : ∃ z : Nat, x = (z : Int) := ⟨x.toNat, by omega⟩
    refine z_cS0 hX m_X10_needThere l_X10_78 p_X10_needThere (c_there1 (th1 h0)) rfl rfl rfl rfl (by decide +kernel) ?_
    refine z_b hX fo_X10 [.aload_n 0, .getfield 10, .iload_n 2] 16 (by decide +kernel) rfl ?_
    refine z_cV hX m_X6_hasAct l_X10_74 p_X6_hasAct (c_X6_hasAct h_y ⟨by omega, by omega⟩) rfl rfl rfl rfl rfl rfl (by decide +kernel) ?_
    by_cases h1 : hA c y
    · obtain ⟨a, rfl⟩ : ∃ z : Nat, y = (z : Int) := ⟨y.toNat, by omega⟩
      refine z_cS0 hX m_X10_needThere l_X10_78 p_X10_needThere (c_there1 (th1 h1)) rfl rfl rfl rfl (by decide +kernel) ?_
      refine z_b hX fo_X10 [.aload_n 0, .getfield 10, .iload_n 1, .iload_n 2] 28 (by decide +kernel) rfl ?_
      refine z_cS hX m_X9_hoursByCount l_X10_115 p_X9_hoursByCount (c_X9_hoursByCount hI.1.1 (by omega) (by omega)) rfl rfl rfl rfl (by decide +kernel) ?_
      by_cases hf : (if 70 < c (85 + a) then -1 else zhrs (c (25 + k)) (c (37 + k)) (c (13 + k)) (c (85 + a))) = -1
      · refine z_cSx hX m_X10_found l_X10_112 p_X10_found (c_found0 hf) rfl (by decide) rfl rfl rfl (by decide +kernel) ?_
        exact z_out hX hR hnx (Pk_ex (by unfold aWork; rw [if_pos h0]; rw [if_pos h1]; (try simp only [Int.toNat_natCast]); unfold fnd; rw [if_pos hf]; rfl) σ rfl hK (Fr.rf σ))
      · refine z_cS hX m_X10_found l_X10_112 p_X10_found (c_found1 (zwork_zi hI.1.1 (by omega) (by omega)) hf) rfl rfl rfl rfl (by decide +kernel) ?_
        exact z_iret hX hR (by decide +kernel) (Pk_ok (by unfold aWork; rw [if_pos h0]; rw [if_pos h1]; (try simp only [Int.toNat_natCast]); unfold fnd; rw [if_neg hf]; rfl) rfl σ rfl hK (Fr.rf σ))
    · refine z_cSx hX m_X10_needThere l_X10_78 p_X10_needThere (c_there0 (th0 h1)) rfl (by decide) rfl rfl rfl (by decide +kernel) ?_
      exact z_out hX hR hnx (Pk_ex (by unfold aWork; rw [if_pos h0]; rw [if_neg h1]; rfl) σ rfl hK (Fr.rf σ))
  · refine z_cSx hX m_X10_needThere l_X10_78 p_X10_needThere (c_there0 (th0 h0)) rfl (by decide) rfl rfl rfl (by decide +kernel) ?_
    exact z_out hX hR hnx (Pk_ex (by unfold aWork; rw [if_neg h0]; rfl) σ rfl hK (Fr.rf σ))
set_option maxHeartbeats 1000000 in
theorem c_X10_workAgain {E : zE} {x y D : Int} {R : aQ} {σ : Nat → Nat → Int} {c : Nat → Int} {l : (Nat → Int64) × (Nat → UInt64)} (hI : AI D c R) (hK : CR R σ) (h_x : zi x) (h_y : zi y) : Pb E yX10_workAgain (Cond.code yX10_workAgain cX10_workAgain 3 (Option.some FieldType.int)) 2 [vr 0, vi x, vi y] (σ) (c) (l) (aWork c R x y) := by
  refine Ctr_of (own := RX10) (by decide +kernel) rfl rfl (fun Y hX hR hnx => ?_)
  have g8 := hI.1.1.coats
  have g9 := hI.1.1.acts
  have g10 := hI.1.1.women
  have g11 := hI.1.1.trunks
  have g12 := hI.1.1.loaded
  refine z_b hX fo_X10 [.aload_n 0, .getfield 10, .iload_n 1] 5 (by decide +kernel) rfl ?_
  refine z_cV hX m_X6_hasCoat l_X10_81 p_X6_hasCoat (c_X6_hasCoat h_x ⟨by omega, by omega⟩) rfl rfl rfl rfl rfl rfl (by decide +kernel) ?_
  by_cases h0 : hC c x
  · obtain ⟨k, rfl⟩ : ∃ z : Nat, x = (z : Int) := ⟨x.toNat, by omega⟩
    refine z_cS0 hX m_X10_needThere l_X10_78 p_X10_needThere (c_there1 (th1 h0)) rfl rfl rfl rfl (by decide +kernel) ?_
    refine z_b hX fo_X10 [.aload_n 0, .getfield 10, .iload_n 2] 16 (by decide +kernel) rfl ?_
    refine z_cV hX m_X6_hasAct l_X10_74 p_X6_hasAct (c_X6_hasAct h_y ⟨by omega, by omega⟩) rfl rfl rfl rfl rfl rfl (by decide +kernel) ?_
    by_cases h1 : hA c y
    · obtain ⟨a, rfl⟩ : ∃ z : Nat, y = (z : Int) := ⟨y.toNat, by omega⟩
      refine z_cS0 hX m_X10_needThere l_X10_78 p_X10_needThere (c_there1 (th1 h1)) rfl rfl rfl rfl (by decide +kernel) ?_
      refine z_b hX fo_X10 [.aload_n 0, .getfield 10, .iload_n 1, .iload_n 2] 28 (by decide +kernel) rfl ?_
      refine z_cS hX m_X9_hoursOneByOne l_X10_118 p_X9_hoursOneByOne (c_X9_hoursOneByOne hI.1.1 (by omega) (by omega)) rfl rfl rfl rfl (by decide +kernel) ?_
      by_cases hf : (if 70 < c (85 + a) then -1 else zhrs (c (25 + k)) (c (37 + k)) (c (13 + k)) (c (85 + a))) = -1
      · refine z_cSx hX m_X10_found l_X10_112 p_X10_found (c_found0 hf) rfl (by decide) rfl rfl rfl (by decide +kernel) ?_
        exact z_out hX hR hnx (Pk_ex (by unfold aWork; rw [if_pos h0]; rw [if_pos h1]; (try simp only [Int.toNat_natCast]); unfold fnd; rw [if_pos hf]; rfl) σ rfl hK (Fr.rf σ))
      · refine z_cS hX m_X10_found l_X10_112 p_X10_found (c_found1 (zwork_zi hI.1.1 (by omega) (by omega)) hf) rfl rfl rfl rfl (by decide +kernel) ?_
        exact z_iret hX hR (by decide +kernel) (Pk_ok (by unfold aWork; rw [if_pos h0]; rw [if_pos h1]; (try simp only [Int.toNat_natCast]); unfold fnd; rw [if_neg hf]; rfl) rfl σ rfl hK (Fr.rf σ))
    · refine z_cSx hX m_X10_needThere l_X10_78 p_X10_needThere (c_there0 (th0 h1)) rfl (by decide) rfl rfl rfl (by decide +kernel) ?_
      exact z_out hX hR hnx (Pk_ex (by unfold aWork; rw [if_pos h0]; rw [if_neg h1]; rfl) σ rfl hK (Fr.rf σ))
  · refine z_cSx hX m_X10_needThere l_X10_78 p_X10_needThere (c_there0 (th0 h0)) rfl (by decide) rfl rfl rfl (by decide +kernel) ?_
    exact z_out hX hR hnx (Pk_ex (by unfold aWork; rw [if_neg h0]; rfl) σ rfl hK (Fr.rf σ))
set_option maxHeartbeats 1000000 in
theorem c_X10_seamstress {E : zE} {D : Int} {R : aQ} {σ : Nat → Nat → Int} {c : Nat → Int} {l : (Nat → Int64) × (Nat → UInt64)} (hI : AI D c R) (hK : CR R σ)  : Pb E yX10_seamstress (Cond.code yX10_seamstress cX10_seamstress 1 (Option.some FieldType.int)) 4 [vr 0] (σ) (c) (l) (aWoman false c R ) := by
  refine Ctr_of (own := RX10) (by decide +kernel) rfl rfl (fun Y hX hR hnx => ?_)
  have g8 := hI.1.1.coats
  have g9 := hI.1.1.acts
  have g10 := hI.1.1.women
  have g11 := hI.1.1.trunks
  have g12 := hI.1.1.loaded
  refine z_b hX fo_X10 [.aload_n 0, .getfield 29, .aload_n 0, .getfield 10, .bipush 10] 10 (by decide +kernel) rfl ?_
  refine z_cV hX m_X6_at l_X10_48 p_X6_at (c_at (j := 10) (by omega) (by omega)) rfl rfl rfl rfl rfl rfl (by decide +kernel) ?_
  refine z_b hX fo_X10 [.iconst 4] 14 (by decide +kernel) rfl ?_
  refine z_cV hX m_X5_againstMore l_X10_52 p_X5_againstMore (c_X5_againstMore ⟨by omega, by omega⟩ ⟨by decide, by decide⟩) rfl rfl rfl rfl rfl rfl (by decide +kernel) ?_
  cases hr : (rMore (c 10) 4 : zr) with
  | some q =>
    obtain ⟨q1, q2⟩ := q
    dsimp only [zo, zoσ]
    refine z_cSx hX m_X10_heed l_X10_56 p_X10_heed (c_heed0 rfl) rfl (by decide) rfl rfl rfl (by decide +kernel) ?_
    exact z_out hX hR hnx (Pk_ex (by unfold aWoman; (try simp only [Int.toNat_natCast]); rw [hr]; rfl) (zrf σ q1 q2) rfl (hK.ref (q1, q2)) (Fr.ref (q1, q2)))
  | none =>
    dsimp only [zo, zoσ]
    refine z_cS0 hX m_X10_heed l_X10_56 p_X10_heed (c_heed1 rfl) rfl rfl rfl rfl (by decide +kernel) ?_
    refine z_b hX fo_X10 [.aload_n 0, .getfield 22, .aload_n 0, .getfield 10] 28 (by decide +kernel) rfl ?_
    have hq := rif_n hr
    obtain ⟨σ1, hkp, hC1, hF1⟩ := c_keep (E := E) (l := l) hI hK
    refine z_cV0 hX m_X1_keep l_X10_60 p_X1_keep hkp rfl rfl rfl rfl rfl rfl (by decide +kernel) ?_
    refine z_b hX fo_X10 [.aload_n 0, .getfield 10] 35 (by decide +kernel) rfl ?_
    refine z_cS hX m_X7_addSeamstress l_X10_121 p_X7_addSeamstress (c_X7_addSeamstress (w := (c 10).toNat) (by omega) (by omega)) rfl rfl rfl rfl (by decide +kernel) ?_
    exact z_iret hX hR (by decide +kernel) (Pk_ok (by unfold aWoman; (try simp only [Int.toNat_natCast]); rw [hr]; (try simp only [Int.toNat_natCast]); rfl) (by omega) σ1 rfl hC1 hF1)
set_option maxHeartbeats 1000000 in
theorem c_X10_trunk {E : zE} {D : Int} {R : aQ} {σ : Nat → Nat → Int} {c : Nat → Int} {l : (Nat → Int64) × (Nat → UInt64)} (hI : AI D c R) (hK : CR R σ)  : Pb E yX10_trunk (Cond.code yX10_trunk cX10_trunk 1 (Option.some FieldType.int)) 4 [vr 0] (σ) (c) (l) (aTrunk false c R ) := by
  refine Ctr_of (own := RX10) (by decide +kernel) rfl rfl (fun Y hX hR hnx => ?_)
  have g8 := hI.1.1.coats
  have g9 := hI.1.1.acts
  have g10 := hI.1.1.women
  have g11 := hI.1.1.trunks
  have g12 := hI.1.1.loaded
  refine z_b hX fo_X10 [.aload_n 0, .getfield 29, .aload_n 0, .getfield 10, .bipush 11] 10 (by decide +kernel) rfl ?_
  refine z_cV hX m_X6_at l_X10_48 p_X6_at (c_at (j := 11) (by omega) (by omega)) rfl rfl rfl rfl rfl rfl (by decide +kernel) ?_
  refine z_b hX fo_X10 [.iconst 4] 14 (by decide +kernel) rfl ?_
  refine z_cV hX m_X5_againstMore l_X10_52 p_X5_againstMore (c_X5_againstMore ⟨by omega, by omega⟩ ⟨by decide, by decide⟩) rfl rfl rfl rfl rfl rfl (by decide +kernel) ?_
  cases hr : (rMore (c 11) 4 : zr) with
  | some q =>
    obtain ⟨q1, q2⟩ := q
    dsimp only [zo, zoσ]
    refine z_cSx hX m_X10_heed l_X10_56 p_X10_heed (c_heed0 rfl) rfl (by decide) rfl rfl rfl (by decide +kernel) ?_
    exact z_out hX hR hnx (Pk_ex (by unfold aTrunk; (try simp only [Int.toNat_natCast]); rw [hr]; rfl) (zrf σ q1 q2) rfl (hK.ref (q1, q2)) (Fr.ref (q1, q2)))
  | none =>
    dsimp only [zo, zoσ]
    refine z_cS0 hX m_X10_heed l_X10_56 p_X10_heed (c_heed1 rfl) rfl rfl rfl rfl (by decide +kernel) ?_
    refine z_b hX fo_X10 [.aload_n 0, .getfield 22, .aload_n 0, .getfield 10] 28 (by decide +kernel) rfl ?_
    have hq := rif_n hr
    obtain ⟨σ1, hkp, hC1, hF1⟩ := c_keep (E := E) (l := l) hI hK
    refine z_cV0 hX m_X1_keep l_X10_60 p_X1_keep hkp rfl rfl rfl rfl rfl rfl (by decide +kernel) ?_
    refine z_b hX fo_X10 [.aload_n 0, .getfield 10] 35 (by decide +kernel) rfl ?_
    refine z_cS hX m_X4_addTrunk l_X10_176 p_X4_addTrunk (c_X4_addTrunk (t := (c 11).toNat) (by omega) (by omega)) rfl rfl rfl rfl (by decide +kernel) ?_
    exact z_iret hX hR (by decide +kernel) (Pk_ok (by unfold aTrunk; (try simp only [Int.toNat_natCast]); rw [hr]; (try simp only [Int.toNat_natCast]); rfl) (by omega) σ1 rfl hC1 hF1)
set_option maxHeartbeats 1000000 in
theorem c_X10_sew {E : zE} {x y D : Int} {R : aQ} {σ : Nat → Nat → Int} {c : Nat → Int} {l : (Nat → Int64) × (Nat → UInt64)} (hI : AI D c R) (hK : CR R σ) (h_x : zi x) (h_y : zi y) : Pb E yX10_sew (Cond.code yX10_sew cX10_sew 3 (Option.some FieldType.int)) 4 [vr 0, vi x, vi y] (σ) (c) (l) (aSew false c R x y) := by
  refine Ctr_of (own := RX10) (by decide +kernel) rfl rfl (fun Y hX hR hnx => ?_)
  have g8 := hI.1.1.coats
  have g9 := hI.1.1.acts
  have g10 := hI.1.1.women
  have g11 := hI.1.1.trunks
  have g12 := hI.1.1.loaded
  refine z_b hX fo_X10 [.aload_n 0, .getfield 10, .iload_n 1] 5 (by decide +kernel) rfl ?_
  refine z_cV hX m_X6_hasSeamstress l_X10_127 p_X6_hasSeamstress (c_X6_hasSeamstress h_x ⟨by omega, by omega⟩) rfl rfl rfl rfl rfl rfl (by decide +kernel) ?_
  by_cases h0 : hW c x
  · obtain ⟨a, rfl⟩ : ∃ z : Nat, x = (z : Int) := ⟨x.toNat, by omega⟩
    refine z_cS0 hX m_X10_needThere l_X10_78 p_X10_needThere (c_there1 (th1 h0)) rfl rfl rfl rfl (by decide +kernel) ?_
    refine z_b hX fo_X10 [.aload_n 0, .getfield 10, .iload_n 2] 16 (by decide +kernel) rfl ?_
    refine z_cV hX m_X6_hasCoat l_X10_81 p_X6_hasCoat (c_X6_hasCoat h_y ⟨by omega, by omega⟩) rfl rfl rfl rfl rfl rfl (by decide +kernel) ?_
    by_cases h1 : hC c y
    · obtain ⟨k, rfl⟩ : ∃ z : Nat, y = (z : Int) := ⟨y.toNat, by omega⟩
      refine z_cS0 hX m_X10_needThere l_X10_78 p_X10_needThere (c_there1 (th1 h1)) rfl rfl rfl rfl (by decide +kernel) ?_
      refine z_b hX fo_X10 [.aload_n 0, .getfield 29, .aload_n 0, .getfield 10, .iload_n 1, .iload_n 2] 32 (by decide +kernel) rfl ?_
      refine z_cV hX m_X5_againstMending l_X10_135 p_X5_againstMending (c_X5_againstMending hI.1.1 (by omega) (by omega)) rfl rfl rfl rfl rfl rfl (by decide +kernel) ?_
      cases hr : (rMend c a k : zr) with
      | some q =>
        obtain ⟨q1, q2⟩ := q
        dsimp only [zo, zoσ]
        refine z_cSx hX m_X10_heed l_X10_56 p_X10_heed (c_heed0 rfl) rfl (by decide) rfl rfl rfl (by decide +kernel) ?_
        exact z_out hX hR hnx (Pk_ex (by unfold aSew; rw [if_pos h0]; rw [if_pos h1]; (try simp only [Int.toNat_natCast]); rw [hr]; rfl) (zrf σ q1 q2) rfl (hK.ref (q1, q2)) (Fr.ref (q1, q2)))
      | none =>
        dsimp only [zo, zoσ]
        refine z_cS0 hX m_X10_heed l_X10_56 p_X10_heed (c_heed1 rfl) rfl rfl rfl rfl (by decide +kernel) ?_
        refine z_b hX fo_X10 [.aload_n 0, .getfield 22, .aload_n 0, .getfield 10] 46 (by decide +kernel) rfl ?_
        obtain ⟨σ1, hkp, hC1, hF1⟩ := c_keep (E := E) (l := l) hI hK
        refine z_cV0 hX m_X1_keep l_X10_60 p_X1_keep hkp rfl rfl rfl rfl rfl rfl (by decide +kernel) ?_
        refine z_b hX fo_X10 [.aload_n 0, .getfield 10, .iload_n 1, .iload_n 2] 55 (by decide +kernel) rfl ?_
        refine z_cS hX m_X7_mend l_X10_138 p_X7_mend (c_X7_mend (by omega) (by omega) (hI.1.1.sore (by omega))) rfl rfl rfl rfl (by decide +kernel) ?_
        exact z_iret hX hR (by decide +kernel) (Pk_ok (by unfold aSew; rw [if_pos h0]; rw [if_pos h1]; (try simp only [Int.toNat_natCast]); rw [hr]; (try simp only [Int.toNat_natCast]); rfl) (by unfold sMend0 ad; rw [vne (by omega), sSpend_o (by omega) (by omega) (by omega)]; omega) σ1 rfl hC1 hF1)
    · refine z_cSx hX m_X10_needThere l_X10_78 p_X10_needThere (c_there0 (th0 h1)) rfl (by decide) rfl rfl rfl (by decide +kernel) ?_
      exact z_out hX hR hnx (Pk_ex (by unfold aSew; rw [if_pos h0]; rw [if_neg h1]; rfl) σ rfl hK (Fr.rf σ))
  · refine z_cSx hX m_X10_needThere l_X10_78 p_X10_needThere (c_there0 (th0 h0)) rfl (by decide) rfl rfl rfl (by decide +kernel) ?_
    exact z_out hX hR hnx (Pk_ex (by unfold aSew; rw [if_neg h0]; rfl) σ rfl hK (Fr.rf σ))
set_option maxHeartbeats 1000000 in
theorem c_X10_spangle {E : zE} {x y z D : Int} {R : aQ} {σ : Nat → Nat → Int} {c : Nat → Int} {l : (Nat → Int64) × (Nat → UInt64)} (hI : AI D c R) (hK : CR R σ) (h_x : zi x) (h_y : zi y) (h_z : zi z) : Pb E yX10_spangle (Cond.code yX10_spangle cX10_spangle 4 (Option.some FieldType.int)) 4 [vr 0, vi x, vi y, vi z] (σ) (c) (l) (aSpangle false c R x y z) := by
  refine Ctr_of (own := RX10) (by decide +kernel) rfl rfl (fun Y hX hR hnx => ?_)
  have g8 := hI.1.1.coats
  have g9 := hI.1.1.acts
  have g10 := hI.1.1.women
  have g11 := hI.1.1.trunks
  have g12 := hI.1.1.loaded
  refine z_b hX fo_X10 [.aload_n 0, .getfield 10, .iload_n 1] 5 (by decide +kernel) rfl ?_
  refine z_cV hX m_X6_hasSeamstress l_X10_127 p_X6_hasSeamstress (c_X6_hasSeamstress h_x ⟨by omega, by omega⟩) rfl rfl rfl rfl rfl rfl (by decide +kernel) ?_
  by_cases h0 : hW c x
  · obtain ⟨a, rfl⟩ : ∃ z : Nat, x = (z : Int) := ⟨x.toNat, by omega⟩
    refine z_cS0 hX m_X10_needThere l_X10_78 p_X10_needThere (c_there1 (th1 h0)) rfl rfl rfl rfl (by decide +kernel) ?_
    refine z_b hX fo_X10 [.aload_n 0, .getfield 10, .iload_n 2] 16 (by decide +kernel) rfl ?_
    refine z_cV hX m_X6_hasCoat l_X10_81 p_X6_hasCoat (c_X6_hasCoat h_y ⟨by omega, by omega⟩) rfl rfl rfl rfl rfl rfl (by decide +kernel) ?_
    by_cases h1 : hC c y
    · obtain ⟨k, rfl⟩ : ∃ z : Nat, y = (z : Int) := ⟨y.toNat, by omega⟩
      refine z_cS0 hX m_X10_needThere l_X10_78 p_X10_needThere (c_there1 (th1 h1)) rfl rfl rfl rfl (by decide +kernel) ?_
      refine z_b hX fo_X10 [.iload_n 3, .iconst 1, .bipush 60] 26 (by decide +kernel) rfl ?_
      by_cases h2 : 1 ≤ z ∧ z ≤ 60
      · refine z_cS0 hX m_X10_needRange l_X10_44 p_X10_needRange (c_range1 h_z ⟨by decide, by decide⟩ ⟨by decide, by decide⟩ h2) rfl rfl rfl rfl (by decide +kernel) ?_
        refine z_b hX fo_X10 [.aload_n 0, .getfield 29, .aload_n 0, .getfield 10, .iload_n 1, .iload_n 2, .iload_n 3] 40 (by decide +kernel) rfl ?_
        refine z_cV hX m_X5_againstSewingOn l_X10_141 p_X5_againstSewingOn (c_X5_againstSewingOn hI.1.1 (by omega) (by omega) (by omega)) rfl rfl rfl rfl rfl rfl (by decide +kernel) ?_
        cases hr : (rSew c a k z : zr) with
        | some q =>
          obtain ⟨q1, q2⟩ := q
          dsimp only [zo, zoσ]
          refine z_cSx hX m_X10_heed l_X10_56 p_X10_heed (c_heed0 rfl) rfl (by decide) rfl rfl rfl (by decide +kernel) ?_
          exact z_out hX hR hnx (Pk_ex (by unfold aSpangle; rw [if_pos h0]; rw [if_pos h1]; rw [if_pos h2]; (try simp only [Int.toNat_natCast]); rw [hr]; rfl) (zrf σ q1 q2) rfl (hK.ref (q1, q2)) (Fr.ref (q1, q2)))
        | none =>
          dsimp only [zo, zoσ]
          refine z_cS0 hX m_X10_heed l_X10_56 p_X10_heed (c_heed1 rfl) rfl rfl rfl rfl (by decide +kernel) ?_
          refine z_b hX fo_X10 [.aload_n 0, .getfield 22, .aload_n 0, .getfield 10] 54 (by decide +kernel) rfl ?_
          obtain ⟨σ1, hkp, hC1, hF1⟩ := c_keep (E := E) (l := l) hI hK
          refine z_cV0 hX m_X1_keep l_X10_60 p_X1_keep hkp rfl rfl rfl rfl rfl rfl (by decide +kernel) ?_
          refine z_b hX fo_X10 [.aload_n 0, .getfield 10, .iload_n 1, .iload_n 2, .iload_n 3] 64 (by decide +kernel) rfl ?_
          refine z_cS hX m_X7_sewOn l_X10_145 p_X7_sewOn (c_X7_sewOn (by omega) (by omega) (by omega) (hI.1.1.sore (by omega))) rfl rfl rfl rfl (by decide +kernel) ?_
          exact z_iret hX hR (by decide +kernel) (Pk_ok (by unfold aSpangle; rw [if_pos h0]; rw [if_pos h1]; rw [if_pos h2]; (try simp only [Int.toNat_natCast]); rw [hr]; (try simp only [Int.toNat_natCast]); rfl) (by unfold sSew0 ad; rw [vne (by omega), vne (by omega), vne (by omega), sSpend_o (by omega) (by omega) (by omega)]; omega) σ1 rfl hC1 hF1)
      · refine z_cSx hX m_X10_needRange l_X10_44 p_X10_needRange (c_range0 h_z ⟨by decide, by decide⟩ ⟨by decide, by decide⟩ h2) rfl (by decide) rfl rfl rfl (by decide +kernel) ?_
        exact z_out hX hR hnx (Pk_ex (by unfold aSpangle; rw [if_pos h0]; rw [if_pos h1]; rw [if_neg h2]; rfl) σ rfl hK (Fr.rf σ))
    · refine z_cSx hX m_X10_needThere l_X10_78 p_X10_needThere (c_there0 (th0 h1)) rfl (by decide) rfl rfl rfl (by decide +kernel) ?_
      exact z_out hX hR hnx (Pk_ex (by unfold aSpangle; rw [if_pos h0]; rw [if_neg h1]; rfl) σ rfl hK (Fr.rf σ))
  · refine z_cSx hX m_X10_needThere l_X10_78 p_X10_needThere (c_there0 (th0 h0)) rfl (by decide) rfl rfl rfl (by decide +kernel) ?_
    exact z_out hX hR hnx (Pk_ex (by unfold aSpangle; rw [if_neg h0]; rfl) σ rfl hK (Fr.rf σ))
set_option maxHeartbeats 1000000 in
theorem c_X10_letOut {E : zE} {x y D : Int} {R : aQ} {σ : Nat → Nat → Int} {c : Nat → Int} {l : (Nat → Int64) × (Nat → UInt64)} (hI : AI D c R) (hK : CR R σ) (h_x : zi x) (h_y : zi y) : Pb E yX10_letOut (Cond.code yX10_letOut cX10_letOut 3 (Option.some FieldType.int)) 4 [vr 0, vi x, vi y] (σ) (c) (l) (aLetOut false c R x y) := by
  refine Ctr_of (own := RX10) (by decide +kernel) rfl rfl (fun Y hX hR hnx => ?_)
  have g8 := hI.1.1.coats
  have g9 := hI.1.1.acts
  have g10 := hI.1.1.women
  have g11 := hI.1.1.trunks
  have g12 := hI.1.1.loaded
  refine z_b hX fo_X10 [.aload_n 0, .getfield 10, .iload_n 1] 5 (by decide +kernel) rfl ?_
  refine z_cV hX m_X6_hasSeamstress l_X10_127 p_X6_hasSeamstress (c_X6_hasSeamstress h_x ⟨by omega, by omega⟩) rfl rfl rfl rfl rfl rfl (by decide +kernel) ?_
  by_cases h0 : hW c x
  · obtain ⟨a, rfl⟩ : ∃ z : Nat, x = (z : Int) := ⟨x.toNat, by omega⟩
    refine z_cS0 hX m_X10_needThere l_X10_78 p_X10_needThere (c_there1 (th1 h0)) rfl rfl rfl rfl (by decide +kernel) ?_
    refine z_b hX fo_X10 [.aload_n 0, .getfield 10, .iload_n 2] 16 (by decide +kernel) rfl ?_
    refine z_cV hX m_X6_hasCoat l_X10_81 p_X6_hasCoat (c_X6_hasCoat h_y ⟨by omega, by omega⟩) rfl rfl rfl rfl rfl rfl (by decide +kernel) ?_
    by_cases h1 : hC c y
    · obtain ⟨k, rfl⟩ : ∃ z : Nat, y = (z : Int) := ⟨y.toNat, by omega⟩
      refine z_cS0 hX m_X10_needThere l_X10_78 p_X10_needThere (c_there1 (th1 h1)) rfl rfl rfl rfl (by decide +kernel) ?_
      refine z_b hX fo_X10 [.aload_n 0, .getfield 29, .aload_n 0, .getfield 10, .iload_n 1, .iload_n 2] 32 (by decide +kernel) rfl ?_
      refine z_cV hX m_X5_againstWidening l_X10_149 p_X5_againstWidening (c_X5_againstWidening hI.1.1 (by omega) (by omega)) rfl rfl rfl rfl rfl rfl (by decide +kernel) ?_
      cases hr : (rWiden c a k : zr) with
      | some q =>
        obtain ⟨q1, q2⟩ := q
        dsimp only [zo, zoσ]
        refine z_cSx hX m_X10_heed l_X10_56 p_X10_heed (c_heed0 rfl) rfl (by decide) rfl rfl rfl (by decide +kernel) ?_
        exact z_out hX hR hnx (Pk_ex (by unfold aLetOut; rw [if_pos h0]; rw [if_pos h1]; (try simp only [Int.toNat_natCast]); rw [hr]; rfl) (zrf σ q1 q2) rfl (hK.ref (q1, q2)) (Fr.ref (q1, q2)))
      | none =>
        dsimp only [zo, zoσ]
        refine z_cS0 hX m_X10_heed l_X10_56 p_X10_heed (c_heed1 rfl) rfl rfl rfl rfl (by decide +kernel) ?_
        refine z_b hX fo_X10 [.aload_n 0, .getfield 22, .aload_n 0, .getfield 10] 46 (by decide +kernel) rfl ?_
        obtain ⟨σ1, hkp, hC1, hF1⟩ := c_keep (E := E) (l := l) hI hK
        refine z_cV0 hX m_X1_keep l_X10_60 p_X1_keep hkp rfl rfl rfl rfl rfl rfl (by decide +kernel) ?_
        refine z_b hX fo_X10 [.aload_n 0, .getfield 10, .iload_n 1, .iload_n 2] 55 (by decide +kernel) rfl ?_
        refine z_cS hX m_X7_widen l_X10_152 p_X7_widen (c_X7_widen (by omega) (by omega) (hI.1.1.sore (by omega))) rfl rfl rfl rfl (by decide +kernel) ?_
        exact z_iret hX hR (by decide +kernel) (Pk_ok (by unfold aLetOut; rw [if_pos h0]; rw [if_pos h1]; (try simp only [Int.toNat_natCast]); rw [hr]; (try simp only [Int.toNat_natCast]); rfl) (by unfold sWiden0 ad; rw [vne (by omega), sSpend_o (by omega) (by omega) (by omega)]) σ1 rfl hC1 hF1)
    · refine z_cSx hX m_X10_needThere l_X10_78 p_X10_needThere (c_there0 (th0 h1)) rfl (by decide) rfl rfl rfl (by decide +kernel) ?_
      exact z_out hX hR hnx (Pk_ex (by unfold aLetOut; rw [if_pos h0]; rw [if_neg h1]; rfl) σ rfl hK (Fr.rf σ))
  · refine z_cSx hX m_X10_needThere l_X10_78 p_X10_needThere (c_there0 (th0 h0)) rfl (by decide) rfl rfl rfl (by decide +kernel) ?_
    exact z_out hX hR hnx (Pk_ex (by unfold aLetOut; rw [if_neg h0]; rfl) σ rfl hK (Fr.rf σ))
set_option maxHeartbeats 1000000 in
theorem c_X10_tear {E : zE} {x D : Int} {R : aQ} {σ : Nat → Nat → Int} {c : Nat → Int} {l : (Nat → Int64) × (Nat → UInt64)} (hI : AI D c R) (hK : CR R σ) (h_x : zi x) : Pb E yX10_tear (Cond.code yX10_tear cX10_tear 2 (Option.some FieldType.int)) 4 [vr 0, vi x] (σ) (c) (l) (aTear false c R x) := by
  refine Ctr_of (own := RX10) (by decide +kernel) rfl rfl (fun Y hX hR hnx => ?_)
  have g8 := hI.1.1.coats
  have g9 := hI.1.1.acts
  have g10 := hI.1.1.women
  have g11 := hI.1.1.trunks
  have g12 := hI.1.1.loaded
  refine z_b hX fo_X10 [.iload_n 1] 1 (by decide +kernel) rfl ?_
  refine z_cS hX m_X10_isPanel l_X10_155 p_X10_isPanel (c_X10_isPanel h_x) rfl rfl rfl rfl (by decide +kernel) ?_
  by_cases h0 : hP x
  · obtain ⟨p, rfl⟩ : ∃ z : Nat, x = (z : Int) := ⟨x.toNat, by omega⟩
    refine z_cS0 hX m_X10_needThere l_X10_78 p_X10_needThere (c_there1 (th1 h0)) rfl rfl rfl rfl (by decide +kernel) ?_
    refine z_b hX fo_X10 [.aload_n 0, .getfield 22, .aload_n 0, .getfield 10] 15 (by decide +kernel) rfl ?_
    obtain ⟨σ1, hkp, hC1, hF1⟩ := c_keep (E := E) (l := l) hI hK
    refine z_cV0 hX m_X1_keep l_X10_60 p_X1_keep hkp rfl rfl rfl rfl rfl rfl (by decide +kernel) ?_
    refine z_b hX fo_X10 [.aload_n 0, .getfield 10, .sipush 149, .iload_n 1, .iadd, .iconst 1] 28 (by decide +kernel) rfl ?_
    refine z_cV0 hX m_X6_put l_X10_158 p_X6_put (c_put (j := 149 + p) (by omega) (by omega)) rfl rfl rfl rfl rfl rfl (by decide +kernel) ?_
    refine z_b hX fo_X10 [.aload_n 0, .getfield 10] 35 (by decide +kernel) rfl ?_
    refine z_cV hX m_X6_tornPanels l_X10_162 p_X6_tornPanels c_X6_tornPanels rfl rfl rfl rfl rfl rfl (by decide +kernel) ?_
    exact z_iret hX hR (by decide +kernel) (Pk_ok (by unfold aTear; rw [if_pos h0]; (try simp only [Int.toNat_natCast]); rfl) (rfl) σ1 rfl hC1 hF1)
  · refine z_cSx hX m_X10_needThere l_X10_78 p_X10_needThere (c_there0 (th0 h0)) rfl (by decide) rfl rfl rfl (by decide +kernel) ?_
    exact z_out hX hR hnx (Pk_ex (by unfold aTear; rw [if_neg h0]; rfl) σ rfl hK (Fr.rf σ))
set_option maxHeartbeats 1000000 in
theorem c_X10_patch {E : zE} {x D : Int} {R : aQ} {σ : Nat → Nat → Int} {c : Nat → Int} {l : (Nat → Int64) × (Nat → UInt64)} (hI : AI D c R) (hK : CR R σ) (h_x : zi x) : Pb E yX10_patch (Cond.code yX10_patch cX10_patch 2 (Option.some FieldType.int)) 4 [vr 0, vi x] (σ) (c) (l) (aPatch false c R x) := by
  refine Ctr_of (own := RX10) (by decide +kernel) rfl rfl (fun Y hX hR hnx => ?_)
  have g8 := hI.1.1.coats
  have g9 := hI.1.1.acts
  have g10 := hI.1.1.women
  have g11 := hI.1.1.trunks
  have g12 := hI.1.1.loaded
  refine z_b hX fo_X10 [.aload_n 0, .getfield 10, .iload_n 1] 5 (by decide +kernel) rfl ?_
  refine z_cV hX m_X6_hasSeamstress l_X10_127 p_X6_hasSeamstress (c_X6_hasSeamstress h_x ⟨by omega, by omega⟩) rfl rfl rfl rfl rfl rfl (by decide +kernel) ?_
  by_cases h0 : hW c x
  · obtain ⟨a, rfl⟩ : ∃ z : Nat, x = (z : Int) := ⟨x.toNat, by omega⟩
    refine z_cS0 hX m_X10_needThere l_X10_78 p_X10_needThere (c_there1 (th1 h0)) rfl rfl rfl rfl (by decide +kernel) ?_
    refine z_b hX fo_X10 [.aload_n 0, .getfield 29, .aload_n 0, .getfield 10, .iload_n 1] 20 (by decide +kernel) rfl ?_
    refine z_cV hX m_X5_againstPatching l_X10_166 p_X5_againstPatching (c_X5_againstPatching hI.1.1 (by omega)) rfl rfl rfl rfl rfl rfl (by decide +kernel) ?_
    cases hr : (rPatch c a : zr) with
    | some q =>
      obtain ⟨q1, q2⟩ := q
      dsimp only [zo, zoσ]
      refine z_cSx hX m_X10_heed l_X10_56 p_X10_heed (c_heed0 rfl) rfl (by decide) rfl rfl rfl (by decide +kernel) ?_
      exact z_out hX hR hnx (Pk_ex (by unfold aPatch; rw [if_pos h0]; (try simp only [Int.toNat_natCast]); rw [hr]; rfl) (zrf σ q1 q2) rfl (hK.ref (q1, q2)) (Fr.ref (q1, q2)))
    | none =>
      dsimp only [zo, zoσ]
      refine z_cS0 hX m_X10_heed l_X10_56 p_X10_heed (c_heed1 rfl) rfl rfl rfl rfl (by decide +kernel) ?_
      refine z_b hX fo_X10 [.aload_n 0, .getfield 22, .aload_n 0, .getfield 10] 34 (by decide +kernel) rfl ?_
      have hq := zfst_t hI.1.1 (rPatch_n hr).2.1
      obtain ⟨σ1, hkp, hC1, hF1⟩ := c_keep (E := E) (l := l) hI hK
      refine z_cV0 hX m_X1_keep l_X10_60 p_X1_keep hkp rfl rfl rfl rfl rfl rfl (by decide +kernel) ?_
      refine z_b hX fo_X10 [.aload_n 0, .getfield 10, .iload_n 1] 42 (by decide +kernel) rfl ?_
      refine z_cS hX m_X7_patchLowest l_X10_170 p_X7_patchLowest (c_X7_patchLowest (p := (zfst (fun p => c (149 + p)) 0 32).toNat) (by omega) (by omega) (fun p hp => by have := hI.1.1.torn hp; exact ⟨by omega, by omega⟩) (by omega) (hI.1.1.sore (by omega))) rfl rfl rfl rfl (by decide +kernel) ?_
      exact z_iret hX hR (by decide +kernel) (Pk_ok (by unfold aPatch; rw [if_pos h0]; (try simp only [Int.toNat_natCast]); rw [hr]; (try simp only [Int.toNat_natCast]); rfl) (by omega) σ1 rfl hC1 hF1)
  · refine z_cSx hX m_X10_needThere l_X10_78 p_X10_needThere (c_there0 (th0 h0)) rfl (by decide) rfl rfl rfl (by decide +kernel) ?_
    exact z_out hX hR hnx (Pk_ex (by unfold aPatch; rw [if_neg h0]; rfl) σ rfl hK (Fr.rf σ))
set_option maxHeartbeats 1000000 in
theorem c_X10_torn {E : zE} {x D : Int} {R : aQ} {σ : Nat → Nat → Int} {c : Nat → Int} {l : (Nat → Int64) × (Nat → UInt64)} (hI : AI D c R) (hK : CR R σ) (h_x : zi x) : Pb E yX10_torn (Cond.code yX10_torn cX10_torn 2 (Option.some FieldType.int)) 2 [vr 0, vi x] (σ) (c) (l) (aTorn c R x) := by
  refine Ctr_of (own := RX10) (by decide +kernel) rfl rfl (fun Y hX hR hnx => ?_)
  have g8 := hI.1.1.coats
  have g9 := hI.1.1.acts
  have g10 := hI.1.1.women
  have g11 := hI.1.1.trunks
  have g12 := hI.1.1.loaded
  refine z_b hX fo_X10 [.iload_n 1] 1 (by decide +kernel) rfl ?_
  refine z_cS hX m_X10_isPanel l_X10_155 p_X10_isPanel (c_X10_isPanel h_x) rfl rfl rfl rfl (by decide +kernel) ?_
  by_cases h0 : hP x
  · obtain ⟨p, rfl⟩ : ∃ z : Nat, x = (z : Int) := ⟨x.toNat, by omega⟩
    refine z_cS0 hX m_X10_needThere l_X10_78 p_X10_needThere (c_there1 (th1 h0)) rfl rfl rfl rfl (by decide +kernel) ?_
    refine z_b hX fo_X10 [.aload_n 0, .getfield 10, .iload_n 1] 12 (by decide +kernel) rfl ?_
    refine z_cV hX m_X6_tornFrom l_X10_173 p_X6_tornFrom (c_X6_tornFrom (by omega) (fun p hp => by have := hI.1.1.torn hp; exact ⟨by omega, by omega⟩)) rfl rfl rfl rfl rfl rfl (by decide +kernel) ?_
    by_cases hf : zfst (fun q => c (149 + q)) p (32 - p) = -1
    · refine z_cSx hX m_X10_found l_X10_112 p_X10_found (c_found0 hf) rfl (by decide) rfl rfl rfl (by decide +kernel) ?_
      exact z_out hX hR hnx (Pk_ex (by unfold aTorn; rw [if_pos h0]; (try simp only [Int.toNat_natCast]); unfold fnd; rw [if_pos hf]; rfl) σ rfl hK (Fr.rf σ))
    · refine z_cS hX m_X10_found l_X10_112 p_X10_found (c_found1 (zfst_zi _ _ (by omega)) hf) rfl rfl rfl rfl (by decide +kernel) ?_
      exact z_iret hX hR (by decide +kernel) (Pk_ok (by unfold aTorn; rw [if_pos h0]; (try simp only [Int.toNat_natCast]); unfold fnd; rw [if_neg hf]; rfl) rfl σ rfl hK (Fr.rf σ))
  · refine z_cSx hX m_X10_needThere l_X10_78 p_X10_needThere (c_there0 (th0 h0)) rfl (by decide) rfl rfl rfl (by decide +kernel) ?_
    exact z_out hX hR hnx (Pk_ex (by unfold aTorn; rw [if_neg h0]; rfl) σ rfl hK (Fr.rf σ))
set_option maxHeartbeats 1000000 in
theorem c_X10_pack {E : zE} {x y D : Int} {R : aQ} {σ : Nat → Nat → Int} {c : Nat → Int} {l : (Nat → Int64) × (Nat → UInt64)} (hI : AI D c R) (hK : CR R σ) (h_x : zi x) (h_y : zi y) : Pb E yX10_pack (Cond.code yX10_pack cX10_pack 3 (Option.some FieldType.int)) 4 [vr 0, vi x, vi y] (σ) (c) (l) (aPack false c R x y) := by
  refine Ctr_of (own := RX10) (by decide +kernel) rfl rfl (fun Y hX hR hnx => ?_)
  have g8 := hI.1.1.coats
  have g9 := hI.1.1.acts
  have g10 := hI.1.1.women
  have g11 := hI.1.1.trunks
  have g12 := hI.1.1.loaded
  refine z_b hX fo_X10 [.aload_n 0, .getfield 10, .iload_n 1] 5 (by decide +kernel) rfl ?_
  refine z_cV hX m_X6_hasCoat l_X10_81 p_X6_hasCoat (c_X6_hasCoat h_x ⟨by omega, by omega⟩) rfl rfl rfl rfl rfl rfl (by decide +kernel) ?_
  by_cases h0 : hC c x
  · obtain ⟨k, rfl⟩ : ∃ z : Nat, x = (z : Int) := ⟨x.toNat, by omega⟩
    refine z_cS0 hX m_X10_needThere l_X10_78 p_X10_needThere (c_there1 (th1 h0)) rfl rfl rfl rfl (by decide +kernel) ?_
    refine z_b hX fo_X10 [.aload_n 0, .getfield 10, .iload_n 2] 16 (by decide +kernel) rfl ?_
    refine z_cV hX m_X6_hasTrunk l_X10_181 p_X6_hasTrunk (c_X6_hasTrunk h_y ⟨by omega, by omega⟩) rfl rfl rfl rfl rfl rfl (by decide +kernel) ?_
    by_cases h1 : hT c y
    · obtain ⟨t, rfl⟩ : ∃ z : Nat, y = (z : Int) := ⟨y.toNat, by omega⟩
      refine z_cS0 hX m_X10_needThere l_X10_78 p_X10_needThere (c_there1 (th1 h1)) rfl rfl rfl rfl (by decide +kernel) ?_
      refine z_b hX fo_X10 [.aload_n 0, .getfield 29, .aload_n 0, .getfield 10, .iload_n 1, .iload_n 2] 32 (by decide +kernel) rfl ?_
      refine z_cV hX m_X5_againstPacking l_X10_184 p_X5_againstPacking (c_X5_againstPacking hI.1.1 (by omega) (by omega)) rfl rfl rfl rfl rfl rfl (by decide +kernel) ?_
      cases hr : (rPack c k t : zr) with
      | some q =>
        obtain ⟨q1, q2⟩ := q
        dsimp only [zo, zoσ]
        refine z_cSx hX m_X10_heed l_X10_56 p_X10_heed (c_heed0 rfl) rfl (by decide) rfl rfl rfl (by decide +kernel) ?_
        exact z_out hX hR hnx (Pk_ex (by unfold aPack; rw [if_pos h0]; rw [if_pos h1]; (try simp only [Int.toNat_natCast]); rw [hr]; rfl) (zrf σ q1 q2) rfl (hK.ref (q1, q2)) (Fr.ref (q1, q2)))
      | none =>
        dsimp only [zo, zoσ]
        refine z_cS0 hX m_X10_heed l_X10_56 p_X10_heed (c_heed1 rfl) rfl rfl rfl rfl (by decide +kernel) ?_
        refine z_b hX fo_X10 [.aload_n 0, .getfield 22, .aload_n 0, .getfield 10] 46 (by decide +kernel) rfl ?_
        have hq := rPack_n hI.1.1 hr
        have gi := hI.1.1.intr (k := t) (by omega)
        obtain ⟨σ1, hkp, hC1, hF1⟩ := c_keep (E := E) (l := l) hI hK
        refine z_cV0 hX m_X1_keep l_X10_60 p_X1_keep hkp rfl rfl rfl rfl rfl rfl (by decide +kernel) ?_
        refine z_b hX fo_X10 [.aload_n 0, .getfield 10, .iload_n 1, .iload_n 2] 55 (by decide +kernel) rfl ?_
        refine z_cS hX m_X4_putInto l_X10_187 p_X4_putInto (c_X4_putInto (p := (c (121 + t)).toNat) (by omega) (by omega) (by omega) (by omega)) rfl rfl rfl rfl (by decide +kernel) ?_
        exact z_iret hX hR (by decide +kernel) (Pk_ok (by unfold aPack; rw [if_pos h0]; rw [if_pos h1]; (try simp only [Int.toNat_natCast]); rw [hr]; (try simp only [Int.toNat_natCast]); rfl) (by unfold sPack0; rw [vne (by omega), vne (by omega)]) σ1 rfl hC1 hF1)
    · refine z_cSx hX m_X10_needThere l_X10_78 p_X10_needThere (c_there0 (th0 h1)) rfl (by decide) rfl rfl rfl (by decide +kernel) ?_
      exact z_out hX hR hnx (Pk_ex (by unfold aPack; rw [if_pos h0]; rw [if_neg h1]; rfl) σ rfl hK (Fr.rf σ))
  · refine z_cSx hX m_X10_needThere l_X10_78 p_X10_needThere (c_there0 (th0 h0)) rfl (by decide) rfl rfl rfl (by decide +kernel) ?_
    exact z_out hX hR hnx (Pk_ex (by unfold aPack; rw [if_neg h0]; rfl) σ rfl hK (Fr.rf σ))
set_option maxHeartbeats 1000000 in
theorem c_X10_unpack {E : zE} {x D : Int} {R : aQ} {σ : Nat → Nat → Int} {c : Nat → Int} {l : (Nat → Int64) × (Nat → UInt64)} (hI : AI D c R) (hK : CR R σ) (h_x : zi x) : Pb E yX10_unpack (Cond.code yX10_unpack cX10_unpack 2 (Option.some FieldType.int)) 5 [vr 0, vi x] (σ) (c) (l) (aUnpack false c R x) := by
  refine Ctr_of (own := RX10) (by decide +kernel) rfl rfl (fun Y hX hR hnx => ?_)
  have g8 := hI.1.1.coats
  have g9 := hI.1.1.acts
  have g10 := hI.1.1.women
  have g11 := hI.1.1.trunks
  have g12 := hI.1.1.loaded
  refine z_b hX fo_X10 [.aload_n 0, .getfield 10, .iload_n 1] 5 (by decide +kernel) rfl ?_
  refine z_cV hX m_X6_hasCoat l_X10_81 p_X6_hasCoat (c_X6_hasCoat h_x ⟨by omega, by omega⟩) rfl rfl rfl rfl rfl rfl (by decide +kernel) ?_
  by_cases h0 : hC c x
  · obtain ⟨k, rfl⟩ : ∃ z : Nat, x = (z : Int) := ⟨x.toNat, by omega⟩
    refine z_cS0 hX m_X10_needThere l_X10_78 p_X10_needThere (c_there1 (th1 h0)) rfl rfl rfl rfl (by decide +kernel) ?_
    refine z_b hX fo_X10 [.aload_n 0, .getfield 29, .aload_n 0, .getfield 10, .iload_n 1] 20 (by decide +kernel) rfl ?_
    refine z_cV hX m_X5_againstUnpacking l_X10_190 p_X5_againstUnpacking (c_X5_againstUnpacking hI.1.1 (by omega)) rfl rfl rfl rfl rfl rfl (by decide +kernel) ?_
    cases hr : (rUnpack c k : zr) with
    | some q =>
      obtain ⟨q1, q2⟩ := q
      dsimp only [zo, zoσ]
      refine z_cSx hX m_X10_heed l_X10_56 p_X10_heed (c_heed0 rfl) rfl (by decide) rfl rfl rfl (by decide +kernel) ?_
      exact z_out hX hR hnx (Pk_ex (by unfold aUnpack; rw [if_pos h0]; (try simp only [Int.toNat_natCast]); rw [hr]; rfl) (zrf σ q1 q2) rfl (hK.ref (q1, q2)) (Fr.ref (q1, q2)))
    | none =>
      dsimp only [zo, zoσ]
      refine z_cS0 hX m_X10_heed l_X10_56 p_X10_heed (c_heed1 rfl) rfl rfl rfl rfl (by decide +kernel) ?_
      refine z_b hX fo_X10 [.aload_n 0, .getfield 22, .aload_n 0, .getfield 10] 34 (by decide +kernel) rfl ?_
      have hu := plc_t hI.1 (by omega) (rUnpack_n hI.1.1 hr).1
      obtain ⟨σ1, hkp, hC1, hF1⟩ := c_keep (E := E) (l := l) hI hK
      refine z_cV0 hX m_X1_keep l_X10_60 p_X1_keep hkp rfl rfl rfl rfl rfl rfl (by decide +kernel) ?_
      refine z_b hX fo_X10 [.aload_n 0, .getfield 10, .iload_n 1] 42 (by decide +kernel) rfl ?_
      refine z_cS hX m_X4_takeOut l_X10_193 p_X4_takeOut (c_X4_takeOut (k := k) (t := (c (61 + k)).toNat) (p := (plc c k).toNat) (q := (c (121 + (c (61 + k)).toNat) + (-1)).toNat) (by omega) (by omega) (by omega) (by omega) hu.2.2.1 hu.2.2.2.1 hu.2.2.2.2.1 (by have := hu.2.2.2.2.2; omega) (by have := hu.2.2.2.2.2; omega)) rfl rfl rfl rfl (by decide +kernel) ?_
      exact z_iret hX hR (by decide +kernel) (Pk_ok (by unfold aUnpack; rw [if_pos h0]; (try simp only [Int.toNat_natCast]); rw [hr]; (try simp only [Int.toNat_natCast]); rfl) (by have := hu.2.2.2.2.1; exact this) σ1 rfl hC1 hF1)
  · refine z_cSx hX m_X10_needThere l_X10_78 p_X10_needThere (c_there0 (th0 h0)) rfl (by decide) rfl rfl rfl (by decide +kernel) ?_
    exact z_out hX hR hnx (Pk_ex (by unfold aUnpack; rw [if_neg h0]; rfl) σ rfl hK (Fr.rf σ))
set_option maxHeartbeats 1000000 in
theorem c_X10_packed {E : zE} {x y D : Int} {R : aQ} {σ : Nat → Nat → Int} {c : Nat → Int} {l : (Nat → Int64) × (Nat → UInt64)} (hI : AI D c R) (hK : CR R σ) (h_x : zi x) (h_y : zi y) : Pb E yX10_packed (Cond.code yX10_packed cX10_packed 3 (Option.some FieldType.int)) 3 [vr 0, vi x, vi y] (σ) (c) (l) (aPacked c R x y) := by
  refine Ctr_of (own := RX10) (by decide +kernel) rfl rfl (fun Y hX hR hnx => ?_)
  have g8 := hI.1.1.coats
  have g9 := hI.1.1.acts
  have g10 := hI.1.1.women
  have g11 := hI.1.1.trunks
  have g12 := hI.1.1.loaded
  refine z_b hX fo_X10 [.aload_n 0, .getfield 10, .iload_n 1] 5 (by decide +kernel) rfl ?_
  refine z_cV hX m_X6_hasTrunk l_X10_181 p_X6_hasTrunk (c_X6_hasTrunk h_x ⟨by omega, by omega⟩) rfl rfl rfl rfl rfl rfl (by decide +kernel) ?_
  by_cases h0 : hT c x
  · obtain ⟨t, rfl⟩ : ∃ z : Nat, x = (z : Int) := ⟨x.toNat, by omega⟩
    refine z_cS0 hX m_X10_needThere l_X10_78 p_X10_needThere (c_there1 (th1 h0)) rfl rfl rfl rfl (by decide +kernel) ?_
    refine z_b hX fo_X10 [.aload_n 0, .getfield 10, .iload_n 1, .iload_n 2] 17 (by decide +kernel) rfl ?_
    refine z_cS hX m_X4_coatAt l_X10_196 p_X4_coatAt (c_X4_coatAt (by omega) (by omega) (hI.1.1.intr (by omega)) h_y) rfl rfl rfl rfl (by decide +kernel) ?_
    by_cases hf : zcoat c t y = -1
    · refine z_cSx hX m_X10_found l_X10_112 p_X10_found (c_found0 hf) rfl (by decide) rfl rfl rfl (by decide +kernel) ?_
      exact z_out hX hR hnx (Pk_ex (by unfold aPacked; rw [if_pos h0]; (try simp only [Int.toNat_natCast]); unfold fnd; rw [if_pos hf]; rfl) σ rfl hK (Fr.rf σ))
    · refine z_cS hX m_X10_found l_X10_112 p_X10_found (c_found1 (zcoat_i hI.1.1 (by omega)) hf) rfl rfl rfl rfl (by decide +kernel) ?_
      exact z_iret hX hR (by decide +kernel) (Pk_ok (by unfold aPacked; rw [if_pos h0]; (try simp only [Int.toNat_natCast]); unfold fnd; rw [if_neg hf]; rfl) rfl σ rfl hK (Fr.rf σ))
  · refine z_cSx hX m_X10_needThere l_X10_78 p_X10_needThere (c_there0 (th0 h0)) rfl (by decide) rfl rfl rfl (by decide +kernel) ?_
    exact z_out hX hR hnx (Pk_ex (by unfold aPacked; rw [if_neg h0]; rfl) σ rfl hK (Fr.rf σ))
set_option maxHeartbeats 1000000 in
theorem c_X10_load {E : zE} {x D : Int} {R : aQ} {σ : Nat → Nat → Int} {c : Nat → Int} {l : (Nat → Int64) × (Nat → UInt64)} (hI : AI D c R) (hK : CR R σ) (h_x : zi x) : Pb E yX10_load (Cond.code yX10_load cX10_load 2 (Option.some FieldType.int)) 4 [vr 0, vi x] (σ) (c) (l) (aLoad false c R x) := by
  refine Ctr_of (own := RX10) (by decide +kernel) rfl rfl (fun Y hX hR hnx => ?_)
  have g8 := hI.1.1.coats
  have g9 := hI.1.1.acts
  have g10 := hI.1.1.women
  have g11 := hI.1.1.trunks
  have g12 := hI.1.1.loaded
  refine z_b hX fo_X10 [.aload_n 0, .getfield 10, .iload_n 1] 5 (by decide +kernel) rfl ?_
  refine z_cV hX m_X6_hasTrunk l_X10_181 p_X6_hasTrunk (c_X6_hasTrunk h_x ⟨by omega, by omega⟩) rfl rfl rfl rfl rfl rfl (by decide +kernel) ?_
  by_cases h0 : hT c x
  · obtain ⟨t, rfl⟩ : ∃ z : Nat, x = (z : Int) := ⟨x.toNat, by omega⟩
    refine z_cS0 hX m_X10_needThere l_X10_78 p_X10_needThere (c_there1 (th1 h0)) rfl rfl rfl rfl (by decide +kernel) ?_
    refine z_b hX fo_X10 [.aload_n 0, .getfield 29, .aload_n 0, .getfield 10, .iload_n 1] 20 (by decide +kernel) rfl ?_
    refine z_cV hX m_X5_againstLoading l_X10_199 p_X5_againstLoading (c_X5_againstLoading hI.1.1 (by omega)) rfl rfl rfl rfl rfl rfl (by decide +kernel) ?_
    cases hr : (rLoaded c (t : Int) : zr) with
    | some q =>
      obtain ⟨q1, q2⟩ := q
      dsimp only [zo, zoσ]
      refine z_cSx hX m_X10_heed l_X10_56 p_X10_heed (c_heed0 rfl) rfl (by decide) rfl rfl rfl (by decide +kernel) ?_
      exact z_out hX hR hnx (Pk_ex (by unfold aLoad; rw [if_pos h0]; (try simp only [Int.toNat_natCast]); rw [hr]; rfl) (zrf σ q1 q2) rfl (hK.ref (q1, q2)) (Fr.ref (q1, q2)))
    | none =>
      dsimp only [zo, zoσ]
      refine z_cS0 hX m_X10_heed l_X10_56 p_X10_heed (c_heed1 rfl) rfl rfl rfl rfl (by decide +kernel) ?_
      refine z_b hX fo_X10 [.aload_n 0, .getfield 22, .aload_n 0, .getfield 10] 34 (by decide +kernel) rfl ?_
      have q2 := rLoaded_n hI.1.1 hr
      have h4 : c 12 ≠ 4 := fun z => by
        obtain ⟨p, p1, p2⟩ := hI.1.2.2.2.1.full hI.1.1 z (t := t) (by omega)
        exact q2 p (by omega) (by omega)
      obtain ⟨σ1, hkp, hC1, hF1⟩ := c_keep (E := E) (l := l) hI hK
      refine z_cV0 hX m_X1_keep l_X10_60 p_X1_keep hkp rfl rfl rfl rfl rfl rfl (by decide +kernel) ?_
      refine z_b hX fo_X10 [.aload_n 0, .getfield 10, .iload_n 1] 42 (by decide +kernel) rfl ?_
      refine z_cS hX m_X4_putOnTrain l_X10_202 p_X4_putOnTrain (c_X4_putOnTrain (n := (c 12).toNat) (by omega) (by omega)) rfl rfl rfl rfl (by decide +kernel) ?_
      exact z_iret hX hR (by decide +kernel) (Pk_ok (by unfold aLoad; rw [if_pos h0]; (try simp only [Int.toNat_natCast]); rw [hr]; (try simp only [Int.toNat_natCast]); rfl) (by rw [vne (by omega)]) σ1 rfl hC1 hF1)
  · refine z_cSx hX m_X10_needThere l_X10_78 p_X10_needThere (c_there0 (th0 h0)) rfl (by decide) rfl rfl rfl (by decide +kernel) ?_
    exact z_out hX hR hnx (Pk_ex (by unfold aLoad; rw [if_neg h0]; rfl) σ rfl hK (Fr.rf σ))
set_option maxHeartbeats 1000000 in
theorem c_X10_unload {E : zE} {D : Int} {R : aQ} {σ : Nat → Nat → Int} {c : Nat → Int} {l : (Nat → Int64) × (Nat → UInt64)} (hI : AI D c R) (hK : CR R σ)  : Pb E yX10_unload (Cond.code yX10_unload cX10_unload 1 (Option.some FieldType.int)) 4 [vr 0] (σ) (c) (l) (aUnload false c R ) := by
  refine Ctr_of (own := RX10) (by decide +kernel) rfl rfl (fun Y hX hR hnx => ?_)
  have g8 := hI.1.1.coats
  have g9 := hI.1.1.acts
  have g10 := hI.1.1.women
  have g11 := hI.1.1.trunks
  have g12 := hI.1.1.loaded
  refine z_b hX fo_X10 [.aload_n 0, .getfield 29, .aload_n 0, .getfield 10] 8 (by decide +kernel) rfl ?_
  refine z_cV hX m_X5_againstUnloading l_X10_205 p_X5_againstUnloading (c_X5_againstUnloading hI.1.1) rfl rfl rfl rfl rfl rfl (by decide +kernel) ?_
  cases hr : (rUnload c : zr) with
  | some q =>
    obtain ⟨q1, q2⟩ := q
    dsimp only [zo, zoσ]
    refine z_cSx hX m_X10_heed l_X10_56 p_X10_heed (c_heed0 rfl) rfl (by decide) rfl rfl rfl (by decide +kernel) ?_
    exact z_out hX hR hnx (Pk_ex (by unfold aUnload; (try simp only [Int.toNat_natCast]); rw [hr]; rfl) (zrf σ q1 q2) rfl (hK.ref (q1, q2)) (Fr.ref (q1, q2)))
  | none =>
    dsimp only [zo, zoσ]
    refine z_cS0 hX m_X10_heed l_X10_56 p_X10_heed (c_heed1 rfl) rfl rfl rfl rfl (by decide +kernel) ?_
    refine z_b hX fo_X10 [.aload_n 0, .getfield 22, .aload_n 0, .getfield 10] 22 (by decide +kernel) rfl ?_
    have hq := rif_n hr
    obtain ⟨σ1, hkp, hC1, hF1⟩ := c_keep (E := E) (l := l) hI hK
    refine z_cV0 hX m_X1_keep l_X10_60 p_X1_keep hkp rfl rfl rfl rfl rfl rfl (by decide +kernel) ?_
    refine z_b hX fo_X10 [.aload_n 0, .getfield 10] 29 (by decide +kernel) rfl ?_
    refine z_cS hX m_X4_takeOffTrain l_X10_209 p_X4_takeOffTrain (c_X4_takeOffTrain (q := (c 12 + (-1)).toNat) (by omega) (by omega)) rfl rfl rfl rfl (by decide +kernel) ?_
    exact z_iret hX hR (by decide +kernel) (Pk_ok (by unfold aUnload; (try simp only [Int.toNat_natCast]); rw [hr]; (try simp only [Int.toNat_natCast]); rfl) (rfl) σ1 rfl hC1 hF1)
set_option maxHeartbeats 1000000 in
theorem c_X10_onTrain {E : zE} {x D : Int} {R : aQ} {σ : Nat → Nat → Int} {c : Nat → Int} {l : (Nat → Int64) × (Nat → UInt64)} (hI : AI D c R) (hK : CR R σ) (h_x : zi x) : Pb E yX10_onTrain (Cond.code yX10_onTrain cX10_onTrain 2 (Option.some FieldType.int)) 2 [vr 0, vi x] (σ) (c) (l) (aOnTrain c R x) := by
  refine Ctr_of (own := RX10) (by decide +kernel) rfl rfl (fun Y hX hR hnx => ?_)
  have g8 := hI.1.1.coats
  have g9 := hI.1.1.acts
  have g10 := hI.1.1.women
  have g11 := hI.1.1.trunks
  have g12 := hI.1.1.loaded
  refine z_b hX fo_X10 [.aload_n 0, .getfield 10, .iload_n 1] 5 (by decide +kernel) rfl ?_
  refine z_cS hX m_X4_trunkAt l_X10_212 p_X4_trunkAt (c_X4_trunkAt (by omega) h_x) rfl rfl rfl rfl (by decide +kernel) ?_
  by_cases hf : ztrain c x = -1
  · refine z_cSx hX m_X10_found l_X10_112 p_X10_found (c_found0 hf) rfl (by decide) rfl rfl rfl (by decide +kernel) ?_
    exact z_out hX hR hnx (Pk_ex (by unfold aOnTrain; (try simp only [Int.toNat_natCast]); unfold fnd; rw [if_pos hf]; rfl) σ rfl hK (Fr.rf σ))
  · refine z_cS hX m_X10_found l_X10_112 p_X10_found (c_found1 (ztrain_i hI.1.1) hf) rfl rfl rfl rfl (by decide +kernel) ?_
    exact z_iret hX hR (by decide +kernel) (Pk_ok (by unfold aOnTrain; (try simp only [Int.toNat_natCast]); unfold fnd; rw [if_neg hf]; rfl) rfl σ rfl hK (Fr.rf σ))
set_option maxHeartbeats 1000000 in
theorem c_X10_unloads {E : zE} {x D : Int} {R : aQ} {σ : Nat → Nat → Int} {c : Nat → Int} {l : (Nat → Int64) × (Nat → UInt64)} (hI : AI D c R) (hK : CR R σ) (h_x : zi x) : Pb E yX10_unloads (Cond.code yX10_unloads cX10_unloads 2 (Option.some FieldType.int)) 2 [vr 0, vi x] (σ) (c) (l) (aUnloads c R x) := by
  refine Ctr_of (own := RX10) (by decide +kernel) rfl rfl (fun Y hX hR hnx => ?_)
  have g8 := hI.1.1.coats
  have g9 := hI.1.1.acts
  have g10 := hI.1.1.women
  have g11 := hI.1.1.trunks
  have g12 := hI.1.1.loaded
  refine z_b hX fo_X10 [.aload_n 0, .getfield 10, .iload_n 1] 5 (by decide +kernel) rfl ?_
  refine z_cV hX m_X6_hasCoat l_X10_81 p_X6_hasCoat (c_X6_hasCoat h_x ⟨by omega, by omega⟩) rfl rfl rfl rfl rfl rfl (by decide +kernel) ?_
  by_cases h0 : hC c x
  · obtain ⟨k, rfl⟩ : ∃ z : Nat, x = (z : Int) := ⟨x.toNat, by omega⟩
    refine z_cS0 hX m_X10_needThere l_X10_78 p_X10_needThere (c_there1 (th1 h0)) rfl rfl rfl rfl (by decide +kernel) ?_
    refine z_b hX fo_X10 [.iconst 1, .aload_n 0, .getfield 10, .aload_n 0, .getfield 10, .bipush 61, .iload_n 1, .iadd] 24 (by decide +kernel) rfl ?_
    refine z_cV hX m_X6_at l_X10_48 p_X6_at (c_at (j := 61 + k) (by omega) (by omega)) rfl rfl rfl rfl rfl rfl (by decide +kernel) ?_
    refine z_cS hX m_X4_placeOnTrain l_X10_215 p_X4_placeOnTrain (c_X4_placeOnTrain (n := (c 12).toNat) (by omega) (by omega) (fun p hp => by have := hI.1.1.train (k := p) (by omega); exact ⟨by omega, by omega⟩) (by have := hI.1.1.tr (k := k) (by omega); exact ⟨by omega, by omega⟩)) rfl rfl rfl rfl (by decide +kernel) ?_
    refine z_b hX fo_X10 [.iadd] 31 (by decide +kernel) rfl ?_
    exact z_iret hX hR (by decide +kernel) (Pk_ok (by unfold aUnloads; rw [if_pos h0]; (try simp only [Int.toNat_natCast]); rfl) (rfl) σ rfl hK (Fr.rf σ))
  · refine z_cSx hX m_X10_needThere l_X10_78 p_X10_needThere (c_there0 (th0 h0)) rfl (by decide) rfl rfl rfl (by decide +kernel) ?_
    exact z_out hX hR hnx (Pk_ex (by unfold aUnloads; rw [if_neg h0]; rfl) σ rfl hK (Fr.rf σ))
set_option maxHeartbeats 1000000 in
theorem c_X10_goOn {E : zE} {x D : Int} {R : aQ} {σ : Nat → Nat → Int} {c : Nat → Int} {l : (Nat → Int64) × (Nat → UInt64)} (hI : AI D c R) (hK : CR R σ) (h_x : zi x) : Pb E yX10_goOn (Cond.code yX10_goOn cX10_goOn 2 (Option.some FieldType.int)) 4 [vr 0, vi x] (σ) (c) (l) (aGoOn false c R x) := by
  refine Ctr_of (own := RX10) (by decide +kernel) rfl rfl (fun Y hX hR hnx => ?_)
  have g8 := hI.1.1.coats
  have g9 := hI.1.1.acts
  have g10 := hI.1.1.women
  have g11 := hI.1.1.trunks
  have g12 := hI.1.1.loaded
  refine z_b hX fo_X10 [.aload_n 0, .getfield 10, .iload_n 1] 5 (by decide +kernel) rfl ?_
  refine z_cV hX m_X6_hasAct l_X10_74 p_X6_hasAct (c_X6_hasAct h_x ⟨by omega, by omega⟩) rfl rfl rfl rfl rfl rfl (by decide +kernel) ?_
  by_cases h0 : hA c x
  · obtain ⟨a, rfl⟩ : ∃ z : Nat, x = (z : Int) := ⟨x.toNat, by omega⟩
    refine z_cS0 hX m_X10_needThere l_X10_78 p_X10_needThere (c_there1 (th1 h0)) rfl rfl rfl rfl (by decide +kernel) ?_
    refine z_b hX fo_X10 [.aload_n 0, .getfield 29, .aload_n 0, .getfield 10, .iload_n 1] 20 (by decide +kernel) rfl ?_
    refine z_cV hX m_X5_againstGoingOn l_X10_218 p_X5_againstGoingOn (c_X5_againstGoingOn hI.1.1 (by omega)) rfl rfl rfl rfl rfl rfl (by decide +kernel) ?_
    cases hr : (rGo c a : zr) with
    | some q =>
      obtain ⟨q1, q2⟩ := q
      dsimp only [zo, zoσ]
      refine z_cSx hX m_X10_heed l_X10_56 p_X10_heed (c_heed0 rfl) rfl (by decide) rfl rfl rfl (by decide +kernel) ?_
      exact z_out hX hR hnx (Pk_ex (by unfold aGoOn; rw [if_pos h0]; (try simp only [Int.toNat_natCast]); rw [hr]; rfl) (zrf σ q1 q2) rfl (hK.ref (q1, q2)) (Fr.ref (q1, q2)))
    | none =>
      dsimp only [zo, zoσ]
      refine z_cS0 hX m_X10_heed l_X10_56 p_X10_heed (c_heed1 rfl) rfl rfl rfl rfl (by decide +kernel) ?_
      refine z_b hX fo_X10 [.aload_n 0, .getfield 22, .aload_n 0, .getfield 10] 34 (by decide +kernel) rfl ?_
      have q2 := rGo_n hr
      obtain ⟨j, hj, q5, q6, q7⟩ := hI.1.2.1.2 a (by omega) (by omega) q2.1
      obtain ⟨σ1, hkp, hC1, hF1⟩ := c_keep (E := E) (l := l) hI hK
      refine z_cV0 hX m_X1_keep l_X10_60 p_X1_keep hkp rfl rfl rfl rfl rfl rfl (by decide +kernel) ?_
      refine z_b hX fo_X10 [.aload_n 0, .getfield 10, .iload_n 1] 42 (by decide +kernel) rfl ?_
      refine z_cS hX m_X8_show l_X10_221 p_X8_show (c_X8_show (k := (c (97 + a)).toNat) hI.1.1 (by omega) (by omega) (by omega)) rfl rfl rfl rfl (by decide +kernel) ?_
      exact z_iret hX hR (by decide +kernel) (Pk_ok (by unfold aGoOn; rw [if_pos h0]; (try simp only [Int.toNat_natCast]); rw [hr]; (try simp only [Int.toNat_natCast]); rfl) (rfl) σ1 rfl hC1 hF1)
  · refine z_cSx hX m_X10_needThere l_X10_78 p_X10_needThere (c_there0 (th0 h0)) rfl (by decide) rfl rfl rfl (by decide +kernel) ?_
    exact z_out hX hR hnx (Pk_ex (by unfold aGoOn; rw [if_neg h0]; rfl) σ rfl hK (Fr.rf σ))
set_option maxHeartbeats 1000000 in
theorem c_X10_tightIn {E : zE} {x D : Int} {R : aQ} {σ : Nat → Nat → Int} {c : Nat → Int} {l : (Nat → Int64) × (Nat → UInt64)} (hI : AI D c R) (hK : CR R σ) (h_x : zi x) (hD : D ≤ 1000000) : Pb E yX10_tightIn (Cond.code yX10_tightIn cX10_tightIn 2 (Option.some FieldType.int)) 2 [vr 0, vi x] (σ) (c) (l) (aTight c R x) := by
  refine Ctr_of (own := RX10) (by decide +kernel) rfl rfl (fun Y hX hR hnx => ?_)
  have g8 := hI.1.1.coats
  have g9 := hI.1.1.acts
  have g10 := hI.1.1.women
  have g11 := hI.1.1.trunks
  have g12 := hI.1.1.loaded
  refine z_b hX fo_X10 [.aload_n 0, .getfield 10, .iload_n 1] 5 (by decide +kernel) rfl ?_
  refine z_cV hX m_X6_hasAct l_X10_74 p_X6_hasAct (c_X6_hasAct h_x ⟨by omega, by omega⟩) rfl rfl rfl rfl rfl rfl (by decide +kernel) ?_
  by_cases h0 : hA c x
  · obtain ⟨a, rfl⟩ : ∃ z : Nat, x = (z : Int) := ⟨x.toNat, by omega⟩
    refine z_cS0 hX m_X10_needThere l_X10_78 p_X10_needThere (c_there1 (th1 h0)) rfl rfl rfl rfl (by decide +kernel) ?_
    refine z_b hX fo_X10 [.aload_n 0, .getfield 10, .iload_n 1] 16 (by decide +kernel) rfl ?_
    refine z_cS hX m_X8_daysUntilTight l_X10_226 p_X8_daysUntilTight (c_X8_daysUntilTight hI.1.1 (by omega) hD) rfl rfl rfl rfl (by decide +kernel) ?_
    by_cases hf : zdtt c a = -1
    · refine z_cSx hX m_X10_found l_X10_112 p_X10_found (c_found0 hf) rfl (by decide) rfl rfl rfl (by decide +kernel) ?_
      exact z_out hX hR hnx (Pk_ex (by unfold aTight; rw [if_pos h0]; (try simp only [Int.toNat_natCast]); unfold fnd; rw [if_pos hf]; rfl) σ rfl hK (Fr.rf σ))
    · refine z_cS hX m_X10_found l_X10_112 p_X10_found (c_found1 (zdtt_zi hI.1.1 (by omega) hD) hf) rfl rfl rfl rfl (by decide +kernel) ?_
      exact z_iret hX hR (by decide +kernel) (Pk_ok (by unfold aTight; rw [if_pos h0]; (try simp only [Int.toNat_natCast]); unfold fnd; rw [if_neg hf]; rfl) rfl σ rfl hK (Fr.rf σ))
  · refine z_cSx hX m_X10_needThere l_X10_78 p_X10_needThere (c_there0 (th0 h0)) rfl (by decide) rfl rfl rfl (by decide +kernel) ?_
    exact z_out hX hR hnx (Pk_ex (by unfold aTight; rw [if_neg h0]; rfl) σ rfl hK (Fr.rf σ))
set_option maxHeartbeats 1000000 in
theorem c_X10_pass {E : zE} {x D : Int} {R : aQ} {σ : Nat → Nat → Int} {c : Nat → Int} {l : (Nat → Int64) × (Nat → UInt64)} (hI : AI D c R) (hK : CR R σ) (h_x : zi x) (hD : D ≤ 1000000) : Pb E yX10_pass (Cond.code yX10_pass cX10_pass 2 (Option.some FieldType.int)) 4 [vr 0, vi x] (σ) (c) (l) (aPass false c R x) := by
  refine Ctr_of (own := RX10) (by decide +kernel) rfl rfl (fun Y hX hR hnx => ?_)
  have g8 := hI.1.1.coats
  have g9 := hI.1.1.acts
  have g10 := hI.1.1.women
  have g11 := hI.1.1.trunks
  have g12 := hI.1.1.loaded
  refine z_b hX fo_X10 [.iload_n 1, .iconst 1, .bipush 60] 4 (by decide +kernel) rfl ?_
  by_cases h0 : 1 ≤ x ∧ x ≤ 60
  · refine z_cS0 hX m_X10_needRange l_X10_44 p_X10_needRange (c_range1 h_x ⟨by decide, by decide⟩ ⟨by decide, by decide⟩ h0) rfl rfl rfl rfl (by decide +kernel) ?_
    refine z_b hX fo_X10 [.aload_n 0, .getfield 22, .aload_n 0, .getfield 10] 15 (by decide +kernel) rfl ?_
    obtain ⟨n, rfl⟩ : ∃ z : Nat, x = (z : Int) := ⟨x.toNat, by omega⟩
    obtain ⟨σ1, hkp, hC1, hF1⟩ := c_keep (E := E) (l := l) hI hK
    refine z_cV0 hX m_X1_keep l_X10_60 p_X1_keep hkp rfl rfl rfl rfl rfl rfl (by decide +kernel) ?_
    refine z_b hX fo_X10 [.aload_n 0, .getfield 10, .iload_n 1] 23 (by decide +kernel) rfl ?_
    refine z_cS hX m_X8_letDaysGoBy l_X10_229 p_X8_letDaysGoBy (c_X8_letDaysGoBy (n := n) hI.1.1 (by omega) hD) rfl rfl rfl rfl (by decide +kernel) ?_
    exact z_iret hX hR (by decide +kernel) (Pk_ok (by unfold aPass; rw [if_pos h0]; (try simp only [Int.toNat_natCast]); rfl) (rfl) σ1 rfl hC1 hF1)
  · refine z_cSx hX m_X10_needRange l_X10_44 p_X10_needRange (c_range0 h_x ⟨by decide, by decide⟩ ⟨by decide, by decide⟩ h0) rfl (by decide) rfl rfl rfl (by decide +kernel) ?_
    exact z_out hX hR hnx (Pk_ex (by unfold aPass; rw [if_neg h0]; rfl) σ rfl hK (Fr.rf σ))
set_option maxHeartbeats 1000000 in
theorem c_X10_sign {E : zE} {x D : Int} {R : aQ} {σ : Nat → Nat → Int} {c : Nat → Int} {l : (Nat → Int64) × (Nat → UInt64)} (hI : AI D c R) (hK : CR R σ) (h_x : zi x) : Pb E yX10_sign (Cond.code yX10_sign cX10_sign 2 (Option.some FieldType.char)) 3 [vr 0, vi x] (σ) (c) (l) (aSign c R x) := by
  refine Ctr_of (own := RX10) (by decide +kernel) rfl rfl (fun Y hX hR hnx => ?_)
  have g8 := hI.1.1.coats
  have g9 := hI.1.1.acts
  have g10 := hI.1.1.women
  have g11 := hI.1.1.trunks
  have g12 := hI.1.1.loaded
  refine z_b hX fo_X10 [.aload_n 0, .getfield 10, .iload_n 1] 5 (by decide +kernel) rfl ?_
  refine z_cV hX m_X6_hasCoat l_X10_81 p_X6_hasCoat (c_X6_hasCoat h_x ⟨by omega, by omega⟩) rfl rfl rfl rfl rfl rfl (by decide +kernel) ?_
  by_cases h0 : hC c x
  · obtain ⟨k, rfl⟩ : ∃ z : Nat, x = (z : Int) := ⟨x.toNat, by omega⟩
    refine z_cS0 hX m_X10_needThere l_X10_78 p_X10_needThere (c_there1 (th1 h0)) rfl rfl rfl rfl (by decide +kernel) ?_
    refine z_b hX fo_X10 [.aload_n 0, .getfield 10, .iload_n 1] 16 (by decide +kernel) rfl ?_
    refine z_cS hX m_X9_signOf l_X10_284 p_X9_signOf (c_X9_signOf hI.1.1 (by omega)) rfl rfl rfl rfl (by decide +kernel) ?_
    exact z_zret hX hR (zc_nar (zsign_i _ _)) (by decide +kernel) (Pk_ok (by unfold aSign; rw [if_pos h0]; (try simp only [Int.toNat_natCast]); rfl) (rfl) σ rfl hK (Fr.rf σ))
  · refine z_cSx hX m_X10_needThere l_X10_78 p_X10_needThere (c_there0 (th0 h0)) rfl (by decide) rfl rfl rfl (by decide +kernel) ?_
    exact z_out hX hR hnx (Pk_ex (by unfold aSign; rw [if_neg h0]; rfl) σ rfl hK (Fr.rf σ))
