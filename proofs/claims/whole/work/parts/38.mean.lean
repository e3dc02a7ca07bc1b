/-! ===== CircusCoats: the two means ===== -/
set_option maxHeartbeats 1000000 in
theorem c_X10_mean1 {E : zE} {D : Int} {σ : Nat → Nat → Int} {c : Nat → Int} {l : (Nat → Int64) × (Nat → UInt64)} (hg : Rg D c) (h0 : c 10 ≠ 0) : Rv E yX10_meanThumb (Cond.code yX10_meanThumb cX10_meanThumb 2 (Option.some FieldType.double)) 2 [vr 0] ((zs σ 21 c, l)) (vd (zmean c)) ((zs σ 21 c, l)) := by
  refine Ctr_of (own := RX10) (by decide +kernel) rfl rfl (fun Y hX hR hnx => ?_)
  have g10 := hg.women
  obtain ⟨n, hn⟩ : ∃ n : Nat, c 10 = (n : Int) := ⟨(c 10).toNat, by omega⟩
  refine z_b hX fo_X10 [.aload_n 0, .getfield 10, .bipush 10] 6 (by decide +kernel) rfl ?_
  refine z_cV hX m_X6_at l_X10_48 p_X6_at (c_at (j := 10) (by omega) (by omega)) rfl rfl rfl rfl rfl rfl (by decide +kernel) ?_
  rw [hn]
  refine z_b hX fo_X10 [.istore_n 1, .iload_n 1] 11 (by decide +kernel) rfl ?_
  refine z_if_ne hX (off := 14) 25 (by decide +kernel) (by decide) ⟨by omega, by omega⟩ (fun c11 => ?_) (fun c11 => by exfalso; omega)
  refine z_b hX fo_X10 [.aload_n 0, .getfield 10, .bipush 113, .iload_n 1] 32 (by decide +kernel) rfl ?_
  refine z_cV hX m_X6_sum l_X10_313 p_X6_sum (c_X6_sum (a := 113) (n := n) (by omega)) rfl rfl rfl rfl rfl rfl (by decide +kernel) ?_
  refine z_i2d hX (by decide +kernel) ?_
  refine z_b hX fo_X10 [.iload_n 1] 37 (by decide +kernel) rfl ?_
  refine z_i2d hX (by decide +kernel) ?_
  refine z_ddiv hX (by decide +kernel) (by have e := zmean_n hg h0; unfold zmean at e; rw [hn] at e; exact e) ?_
  exact z_dret hX hR (by decide +kernel) ⟨by unfold zmean; rw [hn]; rfl, rfl⟩
set_option maxHeartbeats 1000000 in
theorem c_X10_mean0 {E : zE} {D : Int} {σ : Nat → Nat → Int} {c : Nat → Int} {l : (Nat → Int64) × (Nat → UInt64)} (hg : Rg D c) (h0 : c 10 = 0) : Tx E yX10_meanThumb (Cond.code yX10_meanThumb cX10_meanThumb 2 (Option.some FieldType.double)) 1 [vr 0] ((zs σ 21 c, l)) (eAE) ((zs σ 21 c, l)) := by
  refine Ctr_of (own := RX10) (by decide +kernel) rfl rfl (fun Y hX hR hnx => ?_)
  refine z_b hX fo_X10 [.aload_n 0, .getfield 10, .bipush 10] 6 (by decide +kernel) rfl ?_
  refine z_cV hX m_X6_at l_X10_48 p_X6_at (c_at (j := 10) (by omega) (by omega)) rfl rfl rfl rfl rfl rfl (by decide +kernel) ?_
  rw [h0]
  refine z_b hX fo_X10 [.istore_n 1, .iload_n 1] 11 (by decide +kernel) rfl ?_
  refine z_if_ne hX (off := 14) 25 (by decide +kernel) (by decide) ⟨by omega, by omega⟩ (fun c11 => by exfalso; omega) (fun c11 => ?_)
  exact z_throwW (is := 310) (text := "there are no seamstresses") hX hR hnx a_AE k_X10_308 (by decide +kernel) (by decide +kernel) (by decide +kernel) (by decide +kernel) (by decide +kernel) (by decide +kernel) (by decide) (by decide) ⟨rfl, rfl⟩
set_option maxHeartbeats 1000000 in
theorem c_X10_tornShare {E : zE} {D : Int} {σ : Nat → Nat → Int} {c : Nat → Int} {l : (Nat → Int64) × (Nat → UInt64)} (hg : Rg D c) : Rv E yX10_tornShare (Cond.code yX10_tornShare cX10_tornShare 1 (Option.some FieldType.float)) 3 [vr 0] ((zs σ 21 c, l)) (vf (zshare c)) ((zs σ 21 c, l)) := by
  refine Ctr_of (own := RX10) (by decide +kernel) rfl rfl (fun Y hX hR hnx => ?_)
  refine z_b hX fo_X10 [.aload_n 0, .getfield 10] 4 (by decide +kernel) rfl ?_
  refine z_cV hX m_X6_tornPanels l_X10_162 p_X6_tornPanels c_X6_tornPanels rfl rfl rfl rfl rfl rfl (by decide +kernel) ?_
  refine z_i2f hX (by decide +kernel) ?_
  refine z_ldcwf hX kf_10 (by decide +kernel) ?_
  refine z_fdiv hX (by decide +kernel) (zshare_n hg).1 ?_
  exact z_fret hX hR (by decide +kernel) ⟨rfl, rfl⟩
