/-! ===== CircusCoats.read ===== -/
set_option maxHeartbeats 1000000 in
theorem c_X10_read {E : zE} {D : Int} {R : aQ} {σ : Nat → Nat → Int} {c : Nat → Int} {l : (Nat → Int64) × (Nat → UInt64)} (hI : AI D c R) (hK : CR R σ) (hD : D + 1800 ≤ 1000000) : Pb E yX10_read (Cond.code yX10_read cX10_read 2 (Option.some FieldType.int)) 8 [vr 0] (σ) (c) (l) (aRead c R) := by
  refine Ctr_of (own := RX10) (by decide +kernel) rfl rfl (fun Y hX hR hnx => ?_)
  refine z_b hX fo_X10 [.aload_n 0, .getfield 36] 4 (by decide +kernel) rfl ?_
  have hn : R.2.2.2.1.2 ≤ 60 := hI.2.2.2.2.1
  have h4 : (zs σ 21 c) 15 4 = (R.2.2.2.1.2 : Int) := hK.2.2.2.2.1.1
  refine z_cV0 hX m_X2_parse l_X10_245 p_X2_parse (c_X2_parse (σ := zs σ 21 c) (t := R.2.2.2.1.1) (n := R.2.2.2.1.2) h4 hK.2.2.2.2.1.2 hn hI.2.2.2.2.2.1) rfl rfl rfl rfl rfl rfl (by decide +kernel) ?_
  rw [ipz_21]
  have hK1 := CR.parse (D := D) (c := c) hK
  have h6 : (ipz σ R.2.2.2.1.1 R.2.2.2.1.2) 15 6 = ((rdL R).length : Int) := ipz_6
  have hat : ∀ i, i < (rdL R).length → (ipz σ R.2.2.2.1.1 R.2.2.2.1.2) 17 i = oK (rdL R) i ∧ (ipz σ R.2.2.2.1.1 R.2.2.2.1.2) 18 i = oF (rdL R) i ∧ (ipz σ R.2.2.2.1.1 R.2.2.2.1.2) 19 i = oS (rdL R) i := fun i hi => ipz_at hi
  have hF1 : Fr σ (ipz σ R.2.2.2.1.1 R.2.2.2.1.2) := fun k hk => ipz_n (by omega) (by omega) (by omega) (by omega)
  generalize ipz σ R.2.2.2.1.1 R.2.2.2.1.2 = σ1 at *
  refine z_b hX fo_X10 [.aload_n 0, .getfield 36] 11 (by decide +kernel) rfl ?_
  refine z_cV hX m_X2_errorAt l_X10_248 p_X2_errorAt c_X2_errorAt rfl rfl rfl rfl rfl rfl (by decide +kernel) ?_
  rw [show (zs σ1 21 c, l).1 15 7 = (if (rdP R).1 = true then -1 else ((rdP R).2.1 : Int)) from hK1.2.2.2.2.2.1]
  by_cases hp : (rdP R).1 = true
  · rw [if_pos hp] at hK1 ⊢
    refine z_b hX fo_X10 [.iconst (-1)] 15 (by decide +kernel) rfl ?_
    refine z_ic_eq hX (off := 13) 28 (by decide +kernel) (by decide) ⟨by decide, by decide⟩ ⟨by omega, by omega⟩ (fun c15 => ?_) (fun c15 => by exact absurd rfl c15)
    obtain ⟨p, p1, p2, p3⟩ := hK1.1
    have hz : ∀ {D2 : Int} (d : Nat → Int), Inv D2 d → ∀ j, 181 ≤ j → d j = 0 := fun d hd => hd.2.2.2.2.2
    refine z_b hX fo_X10 [.aload_n 0, .getfield 22, .aload_n 0, .getfield 10] 36 (by decide +kernel) rfl ?_
    refine z_cV0 hX m_X1_mark l_X10_253 p_X1_mark (c_X1_mark p2 p1 (fun j hj => by have z := hK1.2.2.2.2.2.2 (1 + p) (by omega) j hj; rw [show 22 + (1 + p) = 23 + p by omega] at z; rw [z, hz c hI.1 j hj])) rfl rfl rfl rfl rfl rfl (by decide +kernel) ?_
    have hK2 := hK1.mark p1 p2 hI.2.2.1 (hz c hI.1)
    have hK3 := hK1.keep p1 p2 hI.2.2.1 (hz c hI.1)
    have hpg : (zs σ1 (23 + p) c) (23 + p) = c := zs_eq _ _ _
    have hn2 : (zs σ1 (23 + p) c) 12 1 = (p : Int) := by rw [zs_ne (by omega)]; exact p2
    have hk2 : (zs σ1 (23 + p) c) 12 2 = (R.1.length : Int) := by rw [zs_ne (by omega)]; exact hK1.2.1
    have h62 : (zs σ1 (23 + p) c) 15 6 = ((rdL R).length : Int) := by rw [zs_ne (by omega)]; exact h6
    have hat2 : ∀ i, i < (rdL R).length → (zs σ1 (23 + p) c) 17 i = oK (rdL R) i ∧ (zs σ1 (23 + p) c) 18 i = oF (rdL R) i ∧ (zs σ1 (23 + p) c) 19 i = oS (rdL R) i := fun i hi => by rw [zs_ne (by omega), zs_ne (by omega), zs_ne (by omega)]; exact hat i hi
    have hF2 : Fr σ (zs σ1 (23 + p) c) := fun k hk => by rw [zs_ne (by omega)]; exact hF1 k hk
    generalize zs σ1 (23 + p) c = σ2 at *
    have hln := rdL_n hn
    have hl8 := hI.2.2.1
    have hI2 := rdO_I hI.1 hn
    have hcr : crO (σ2 17) (σ2 18) (σ2 19) (rdL R).length 0 c = rdO c R := crO_cg _ 0 c (fun j _ q2 => hat2 j (by omega))
    refine z_b hX fo_X10 [.aload_n 0, .getfield 36, .aload_n 0, .getfield 10, .aload_n 0, .getfield 29] 51 (by decide +kernel) rfl ?_
    refine z_cS hX m_X3_carryOutAll l_X10_256 p_X3_carryOutAll (c_X3_carryOutAll (n := (rdL R).length) hI.1 hD h62 hln (fun i hi => by obtain ⟨a1, a2, a3⟩ := hat2 i hi; obtain ⟨b1, b2, b3⟩ := oAt hi (rdL_v R); rw [a1, a2, a3]; exact ⟨b1, ⟨by omega, by omega⟩, ⟨by omega, by omega⟩⟩)) rfl rfl rfl rfl (by decide +kernel) ?_
    rw [hcr]
    rcases rdO_t c R with ⟨⟨q1, q2⟩, e1, e2⟩ | ⟨e1, e2 | e2⟩
    · rw [e2, e1]
      dsimp only [zoσ]
      have hn2r : (zrf σ2 q1 q2) 12 1 = (p : Int) := hn2
      have hpgr : (zrf σ2 q1 q2) (23 + p) = c := by unfold zrf; rw [zs_ne (by omega)]; exact hpg
      refine z_b hX fo_X10 [.istore_n 1, .iload_n 1] 56 (by decide +kernel) rfl ?_
      refine z_if_eq hX (off := 14) 70 (by decide +kernel) (by decide) ⟨by decide, by decide⟩ (fun c56 => by exact absurd c56 (by decide)) (fun c56 => ?_)
      refine z_b hX fo_X10 [.aload_n 0, .getfield 22, .aload_n 0, .getfield 10] 67 (by decide +kernel) rfl ?_
      refine z_cV0 hX m_X1_backToMark l_X10_262 p_X1_backToMark (c_X1_backToMark (σ := (zrf σ2 q1 q2)) (p := p) hn2r p1 (fun j hj => by rw [show (zrf σ2 q1 q2) (23 + p) = c from hpgr, hz c hI.1 j hj, hz _ hI2 j hj])) rfl rfl rfl rfl rfl rfl (by decide +kernel) ?_
      rw [show (zrf σ2 q1 q2) (23 + p) = c from hpgr]
      refine z_b hX fo_X10 [.iload_n 1, .iconst 1] 72 (by decide +kernel) rfl ?_
      refine z_ic_ne hX (off := 7) 79 (by decide +kernel) (by decide) ⟨by decide, by decide⟩ ⟨by decide, by decide⟩ (fun c72 => by exact absurd c72 (by decide)) (fun c72 => ?_)
      refine z_b hX fo_X10 [.iconst 1] 76 (by decide +kernel) rfl ?_
      refine z_goto hX (off := 4) 80 (by decide +kernel) (by decide) ?_
      refine z_cSx hX m_X10_heed l_X10_56 p_X10_heed (c_heed0 rfl) rfl (by decide) rfl rfl rfl (by decide +kernel) ?_
      exact z_out hX hR hnx (Pk_ex (aRead_u hp e1) (zrf σ2 q1 q2) rfl (hK2.ref (q1, q2)) (fun k hk => (Fr.ref (q1, q2) k hk).trans (hF2 k hk)))
    · rw [e2, e1]
      dsimp only [zoσ]
      refine z_b hX fo_X10 [.istore_n 1, .iload_n 1] 56 (by decide +kernel) rfl ?_
      refine z_if_eq hX (off := 14) 70 (by decide +kernel) (by decide) ⟨by decide, by decide⟩ (fun c56 => by exact absurd c56 (by decide)) (fun c56 => ?_)
      refine z_b hX fo_X10 [.aload_n 0, .getfield 22, .aload_n 0, .getfield 10] 67 (by decide +kernel) rfl ?_
      refine z_cV0 hX m_X1_backToMark l_X10_262 p_X1_backToMark (c_X1_backToMark (σ := σ2) (p := p) hn2 p1 (fun j hj => by rw [show σ2 (23 + p) = c from hpg, hz c hI.1 j hj, hz _ hI2 j hj])) rfl rfl rfl rfl rfl rfl (by decide +kernel) ?_
      rw [show σ2 (23 + p) = c from hpg]
      refine z_b hX fo_X10 [.iload_n 1, .iconst 1] 72 (by decide +kernel) rfl ?_
      refine z_ic_ne hX (off := 7) 79 (by decide +kernel) (by decide) ⟨by decide, by decide⟩ ⟨by decide, by decide⟩ (fun c72 => ?_) (fun c72 => by exact absurd c72 (by decide))
      refine z_b hX fo_X10 [.iconst 0] 80 (by decide +kernel) rfl ?_
      refine z_cS0 hX m_X10_heed l_X10_56 p_X10_heed (c_heed1 rfl) rfl rfl rfl rfl (by decide +kernel) ?_
      refine z_b hX fo_X10 [.iload_n 1, .iconst 2] 85 (by decide +kernel) rfl ?_
      refine z_ic_ne hX (off := 14) 99 (by decide +kernel) (by decide) ⟨by decide, by decide⟩ ⟨by decide, by decide⟩ (fun c85 => by exact absurd c85 (by decide)) (fun c85 => ?_)
      exact z_throwW (is := 265) (text := "an order names what is not there") hX hR hnx a_IA k_X10_97 (by decide +kernel) (by decide +kernel) (by decide +kernel) (by decide +kernel) (by decide +kernel) (by decide +kernel) (by decide) (by decide) (Pk_ex (aRead_w hp e1 e2) σ2 rfl hK2 hF2)
    · rw [e2, e1]
      dsimp only [zoσ]
      refine z_b hX fo_X10 [.istore_n 1, .iload_n 1] 56 (by decide +kernel) rfl ?_
      refine z_if_eq hX (off := 14) 70 (by decide +kernel) (by decide) ⟨by decide, by decide⟩ (fun c56 => ?_) (fun c56 => by exact absurd c56 (by decide))
      refine z_b hX fo_X10 [.iload_n 1, .iconst 1] 72 (by decide +kernel) rfl ?_
      refine z_ic_ne hX (off := 7) 79 (by decide +kernel) (by decide) ⟨by decide, by decide⟩ ⟨by decide, by decide⟩ (fun c72 => ?_) (fun c72 => by exact absurd c72 (by decide))
      refine z_b hX fo_X10 [.iconst 0] 80 (by decide +kernel) rfl ?_
      refine z_cS0 hX m_X10_heed l_X10_56 p_X10_heed (c_heed1 rfl) rfl rfl rfl rfl (by decide +kernel) ?_
      refine z_b hX fo_X10 [.iload_n 1, .iconst 2] 85 (by decide +kernel) rfl ?_
      refine z_ic_ne hX (off := 14) 99 (by decide +kernel) (by decide) ⟨by decide, by decide⟩ ⟨by decide, by decide⟩ (fun c85 => ?_) (fun c85 => by exact absurd c85 (by decide))
      refine z_b hX fo_X10 [.aload_n 0, .getfield 22] 103 (by decide +kernel) rfl ?_
      refine z_cV0 hX m_X1_keepMark l_X10_267 p_X1_keepMark (c_X1_keepMark (σ := σ2) ⟨by omega, by omega⟩ (by rw [hk2]; exact ⟨by omega, by omega⟩)) rfl rfl rfl rfl rfl rfl (by decide +kernel) ?_
      refine z_b hX fo_X10 [.aload_n 0, .getfield 36] 110 (by decide +kernel) rfl ?_
      refine z_cV hX m_X2_orders l_X10_270 p_X2_orders c_X2_orders rfl rfl rfl rfl rfl rfl (by decide +kernel) ?_
      rw [show (zs (zkm σ2) 21 (rdO c R).2.2, l).1 15 6 = ((rdL R).length : Int) from h62]
      exact z_iret hX hR (by decide +kernel) (Pk_ok (aRead_d hp e1 e2) rfl (zkm σ2) rfl hK3 (fun k hk => by unfold zkm; rw [zs_ne (by omega)]; exact hF2 k hk))
  · rw [if_neg hp] at hK1 ⊢
    have hpb : (rdP R).2.1 ≤ 0 + 7 * 61 := ipr_p 61 0
    refine z_b hX fo_X10 [.iconst (-1)] 15 (by decide +kernel) rfl ?_
    refine z_ic_eq hX (off := 13) 28 (by decide +kernel) (by decide) ⟨by omega, by omega⟩ ⟨by omega, by omega⟩ (fun c15 => by exfalso; omega) (fun c15 => ?_)
    exact z_throw (is := 251) (text := "the text has an error") hX hR hnx a_IA k_X10_97 (by decide +kernel) (by decide +kernel) (by decide +kernel) (by decide +kernel) (by decide +kernel) (by decide +kernel) (by decide) (by decide) (Pk_ex (aRead_e hp) σ1 rfl hK1 hF1)
