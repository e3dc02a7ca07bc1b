/-! ===== the law: the cases that go their own way ===== -/
theorem vf_meanE : ∀ s : Fin 37, ∀ n : Fin 4, FP.dcmp (FP.ddiv (FP.i2d (Int32.ofInt ((s.val : Nat) : Int))) (FP.i2d (Int32.ofInt ((n.val + 1 : Nat) : Int)))) (FP.ddiv (FP.i2d (Int32.ofInt ((s.val : Nat) : Int))) (FP.i2d (Int32.ofInt ((n.val + 1 : Nat) : Int)))) = some .eq := by decide +kernel
theorem vf_shareE : ∀ s : Fin 33, FP.dcmp (FP.f2d (FP.fdiv (FP.i2f (Int32.ofInt ((s.val : Nat) : Int))) 1107296256)) (FP.f2d (FP.fdiv (FP.i2f (Int32.ofInt ((s.val : Nat) : Int))) 1107296256)) = some .eq := by decide +kernel
theorem zmean_e {D : Int} {c : Nat → Int} (h : Rg D c) (h0 : c 10 ≠ 0) : FP.dcmp (zmean c) (zmean c) = some .eq := by
  have g := h.women
  have g2 := h.soreN (c 10).toNat (by omega)
  have e := vf_meanE ⟨(zsum c 113 (c 10).toNat).toNat, by omega⟩ ⟨(c 10).toNat - 1, by omega⟩
  dsimp only at e
  rw [show (((c 10).toNat - 1 + 1 : Nat) : Int) = c 10 by omega, Int.toNat_of_nonneg g2.1] at e
  exact e
theorem zshare_e {D : Int} {c : Nat → Int} (h : Rg D c) : FP.dcmp (FP.f2d (zshare c)) (FP.f2d (zshare c)) = some .eq := by
  have g2 := h.tornN 32 (by omega)
  have e := vf_shareE ⟨(zsum c 149 32).toNat, by omega⟩
  dsimp only at e
  rw [Int.toNat_of_nonneg g2.1] at e
  exact e
theorem LwS.co {D : Int} {c : Nat → Int} {R : aQ} {τ : Nat → Nat → Int} (h : LwS D c R τ) (v : Int) : LwS (D + 1800) c R (zs (zco τ v) 33 (gm c)) := by
  have e : ∀ k, k ≠ 32 → k ≠ 33 → zs (zco τ v) 33 (gm c) k = τ k := fun k h1 h2 => by unfold zco; rw [zs_ne h2, zs_ne h1]
  refine ⟨h.1.mono (by omega), by rw [e 21 (by decide) (by decide)]; exact h.2.1, h.2.2.1.cg (fun k hk => e k (by omega) (by omega)), zs_eq _ _ _, (h.2.2.2.2.1.co v).cg (fun i _ => by rw [zs_ne (by decide)]) (fun k hk => zs_ne (by omega) _), ?_⟩
  rw [zs_ne (by decide)]
  unfold zco
  rw [zs_eq, vne (by decide)]
  exact h.2.2.2.2.2
theorem zco_t7 (τ : Nat → Nat → Int) (v : Int) (g : Nat → Int) : zs (zco τ v) 33 g 32 7 = v := by
  rw [zs_ne (by decide)]
  unfold zco
  rw [zs_eq, va_e, if_pos rfl]
theorem LwS.eqm {D : Int} {c : Nat → Int} {R : aQ} {τ : Nat → Nat → Int} (h : LwS D c R τ) : zs τ 33 (gm c) = τ := by rw [← h.2.2.2.1, zs_id]
theorem law_7 {X : zC} {L i b : Nat} {xs : Nat → Int32} {D : Int} {c : Nat → Int} {R : aQ} {τ : Nat → Nat → Int} {l : (Nat → Int64) × (Nat → UInt64)} (hX : zOk X RL cL_law 10 15) (hS : zSc X L xs) (hN : zNc X.2.1.2.2.2) (hL : L ≤ 2048) (hi : i + 4 ≤ L) (hs : LwS D c R τ) (hD : D + 1800 ≤ 1000000) (hb : 1 ≤ b) (hk : ∀ (c' : Nat → Int) (R' : aQ) (τ' : Nat → Nat → Int) (l' : (Nat → Int64) × (Nat → UInt64)), LwS (D + 1800) c' R' τ' → Z X (b - 1) 2664 (lL i) [] (τ', l')) : Z X b 696 (lL i) [] (τ, l) := by
  have hI := hs.1
  have hK := hs.2.2.1
  rw [show (τ, l) = (zs τ 21 c, l) from by rw [hs.eq]]
  refine z_b hX (fo_no RL) [.aload_n 1, .aload_n 0, .iload 5, .iconst 1, .iadd] 702 (by decide +kernel) rfl ?_
  refine z_sld hX hS (i + 1) (by omega) hL (by omega) (by decide +kernel) ?_
  refine z_b hX (fo_no RL) [.aload_n 0, .iload 5, .iconst 2, .iadd] 708 (by decide +kernel) rfl ?_
  refine z_sld hX hS (i + 2) (by omega) hL (by omega) (by decide +kernel) ?_
  refine z_b hX (fo_no RL) [.aload_n 3] 710 (by decide +kernel) rfl ?_
  refine z_callN hX hN m_L_open l_L_179 p_L_open (c_L_open hI hK (zi_x _) (zi_x _)) (by decide) hb rfl rfl rfl (by decide +kernel) (fun v st q => ?_) (fun cls st q => by obtain ⟨k, σ1, lg, q1, -⟩ := q; cases q1)
  obtain ⟨k, σ1, lg, q1, rfl, hc, hf, hr⟩ := q
  cases q1
  obtain ⟨m1, m2, m3⟩ := hs.mid (c' := _) hf
  refine z_b hX (fo_no RL) [.istore 6, .aload_n 2, .aload_n 0, .iload 5, .iconst 1, .iadd] 721 (by decide +kernel) rfl ?_
  refine z_sld hX hS (i + 1) (by omega) hL (by omega) (by decide +kernel) ?_
  refine z_b hX (fo_no RL) [.aload_n 0, .iload 5, .iconst 2, .iadd] 727 (by decide +kernel) rfl ?_
  refine z_sld hX hS (i + 2) (by omega) hL (by omega) (by decide +kernel) ?_
  rw [← m1]
  refine z_cVK hX m_X11_open l_L_181 p_X11_open (c_X11_open (w := false) hI m2 m3 (zi_x _) (zi_x _)) rfl rfl rfl rfl rfl rfl (by decide +kernel) (fun o s q => by obtain ⟨v, σ2, q1, -⟩ := q; exact ⟨_, q1⟩) (fun v st q => ?_)
  obtain ⟨v, σ2, q1, rfl, hM2, hr2, hlow, h62⟩ := q.w
  cases q1
  have ha := law_and hr hr2 (fun e he => cd1_in (aOpen_x he))
  have hv : k = 0 → v = 0 ∨ v = 1 := by
    intro hk0
    cases ho : (aOpen c R (xs (i + 1)).toInt (xs (i + 2)).toInt).1 with
    | inl a =>
      rw [ho] at hr2
      have h9 : v = a := hr2.1
      rw [h9]
      exact aOpen_v ho
    | inr e =>
      rw [ho] at hr
      have h8 := cd1_in (aOpen_x ho)
      have h9 : k = cd1 eIB e := hr
      omega
  have fin : Z X (b - 1) 2664 (lL i) [] (zs σ2 33 (gm (aOpen c R (xs (i + 1)).toInt (xs (i + 2)).toInt).2.1), lg, l.2) := hk _ _ _ _ (LwS.next (aOpen_I hI) hc hM2 hlow h62 m3)
  refine z_b hX (fo_no RL) [.istore 7, .aload_n 2] 734 (by decide +kernel) rfl ?_
  refine z_cV hX m_X11_thrown l_L_157 p_X11_thrown c_X11_thrown rfl rfl rfl rfl rfl rfl (by decide +kernel) ?_
  rw [show (zs σ2 33 (gm (aOpen c R (xs (i + 1)).toInt (xs (i + 2)).toInt).2.1), lg, l.2).1 32 7 = k from (congrFun (zs_ne (show (32 : Nat) ≠ 33 by decide) (gm (aOpen c R (xs (i + 1)).toInt (xs (i + 2)).toInt).2.1)) 7).trans ha.1]
  refine z_b hX (fo_no RL) [.iload 6] 739 (by decide +kernel) rfl ?_
  refine z_ic_eq hX (off := 5) 744 (by decide +kernel) (by decide) ha.2.1 ha.2.1 (fun _ => ?_) (fun q => absurd rfl q)
  refine z_b hX (fo_no RL) [.iload 6] 746 (by decide +kernel) rfl ?_
  refine z_if_ne hX (off := 22) 768 (by decide +kernel) (by decide) ha.2.1 (fun _ => z_goto hX (off := 1896) 2664 (by decide +kernel) (by decide) (z_wk (wk6 rfl rfl rfl rfl rfl rfl) fin)) (fun h0 => ?_)
  refine z_b hX (fo_no RL) [.aload_n 3, .iconst 0] 751 (by decide +kernel) rfl ?_
  refine z_lald hX (by decide +kernel) ?_
  refine z_b hX (fo_no RL) [.iload 7] 754 (by decide +kernel) rfl ?_
  have hx := ha.2.2 h0
  rcases hv h0 with rfl | rfl
  · refine z_if_eq hX (off := 7) 761 (by decide +kernel) (by decide) ⟨by decide, by decide⟩ (fun h0 => ?_) (fun h0 => absurd rfl h0)
    refine z_lconst hX (i := 0) (by decide +kernel) rfl ?_
    refine z_lcmpE hX (hx.trans (by decide)) (by decide +kernel) ?_
    refine z_if_eq hX (off := 5) 768 (by decide +kernel) (by decide) ⟨by decide, by decide⟩ (fun _ => ?_) (fun q => absurd rfl q)
    exact z_goto hX (off := 1896) 2664 (by decide +kernel) (by decide) (z_wk (wk6 rfl rfl rfl rfl rfl rfl) fin)
  · refine z_if_eq hX (off := 7) 761 (by decide +kernel) (by decide) ⟨by decide, by decide⟩ (fun h0 => absurd h0 (by decide)) (fun h0 => ?_)
    refine z_lconst hX (i := 1) (by decide +kernel) rfl ?_
    refine z_goto hX (off := 4) 762 (by decide +kernel) (by decide) ?_
    refine z_lcmpE hX (hx.trans (by decide)) (by decide +kernel) ?_
    refine z_if_eq hX (off := 5) 768 (by decide +kernel) (by decide) ⟨by decide, by decide⟩ (fun _ => ?_) (fun q => absurd rfl q)
    exact z_goto hX (off := 1896) 2664 (by decide +kernel) (by decide) (z_wk (wk6 rfl rfl rfl rfl rfl rfl) fin)
theorem law_33 {X : zC} {L i b : Nat} {xs : Nat → Int32} {D : Int} {c : Nat → Int} {R : aQ} {τ : Nat → Nat → Int} {l : (Nat → Int64) × (Nat → UInt64)} (hX : zOk X RL cL_law 10 15) (hS : zSc X L xs) (hN : zNc X.2.1.2.2.2) (hL : L ≤ 2048) (hi : i + 4 ≤ L) (hs : LwS D c R τ) (hD : D + 1800 ≤ 1000000) (hb : 1 ≤ b) (hk : ∀ (c' : Nat → Int) (R' : aQ) (τ' : Nat → Nat → Int) (l' : (Nat → Int64) × (Nat → UInt64)), LwS (D + 1800) c' R' τ' → Z X (b - 1) 2664 (lL i) [] (τ', l')) : Z X b 2245 (lL i) [] (τ, l) := by
  have hI := hs.1
  have hK := hs.2.2.1
  rw [show (τ, l) = (zs τ 21 c, l) from by rw [hs.eq]]
  refine z_b hX (fo_no RL) [.aload_n 1] 2246 (by decide +kernel) rfl ?_
  refine z_callV hX m_X10_errorPosition l_L_260 p_X10_errorPosition (c_X10_errorPosition hI hK) (by decide) hb rfl rfl rfl rfl rfl (by decide +kernel) (fun v st q => ?_) (fun cls st q => by obtain ⟨σ1, hq, -⟩ := q.inr; cases hq)
  obtain ⟨v0, σ1, hq, rfl, rfl, hc, hf⟩ := q.inl
  obtain ⟨m1, m2, m3⟩ := hs.mid (c' := _) hf
  refine z_b hX (fo_no RL) [.aload_n 2] 2250 (by decide +kernel) rfl ?_
  rw [← m1]
  refine z_cVK hX m_X11_errorPosition l_L_263 p_X11_errorPosition (c_X11_errorPosition (cd := cd0) hI m2) rfl rfl rfl (rest := [vi v0]) rfl rfl rfl (by decide +kernel) (fun o s q => by obtain ⟨v, σ2, q1, -⟩ := q; exact ⟨_, q1⟩) (fun v st q => ?_)
  obtain ⟨v, σ2, q1, rfl, hM2, hr2, hlow, h62⟩ := q.w
  cases q1
  have e1 : R.2.2.2.2 = v0 := Sum.inl.inj hq
  have e2 : v = R.2.2.2.2 := hr2.1
  subst e1
  rw [e2]
  refine z_ic_eq hX (off := 411) 2664 (by decide +kernel) (by decide) hI.2.2.2.2.2.2.2 hI.2.2.2.2.2.2.2 (fun _ => ?_) (fun q => absurd rfl q)
  exact z_wk (wk6 rfl rfl rfl rfl rfl rfl) (hk _ _ _ _ (LwS.next (aErr_I hI) hc hM2 hlow h62 m3))
theorem law_37 {X : zC} {L i b : Nat} {xs : Nat → Int32} {D : Int} {c : Nat → Int} {R : aQ} {τ : Nat → Nat → Int} {l : (Nat → Int64) × (Nat → UInt64)} (hX : zOk X RL cL_law 10 15) (hS : zSc X L xs) (hN : zNc X.2.1.2.2.2) (hL : L ≤ 2048) (hi : i + 4 ≤ L) (hs : LwS D c R τ) (hD : D + 1800 ≤ 1000000) (hb : 1 ≤ b) (hk : ∀ (c' : Nat → Int) (R' : aQ) (τ' : Nat → Nat → Int) (l' : (Nat → Int64) × (Nat → UInt64)), LwS (D + 1800) c' R' τ' → Z X (b - 1) 2664 (lL i) [] (τ', l')) : Z X b 2442 (lL i) [] (τ, l) := by
  have hI := hs.1
  have hK := hs.2.2.1
  rw [show (τ, l) = (zs τ 21 c, l) from by rw [hs.eq]]
  refine z_b hX (fo_no RL) [.aload_n 1] 2443 (by decide +kernel) rfl ?_
  refine z_callV hX m_X10_isWell l_L_274 p_X10_isWell (c_X10_isWell hI hK) (by decide) hb rfl rfl rfl rfl rfl (by decide +kernel) (fun v st q => ?_) (fun cls st q => by obtain ⟨σ1, hq, -⟩ := q.inr; cases hq)
  obtain ⟨v0, σ1, hq, rfl, rfl, hc, hf⟩ := q.inl
  obtain ⟨m1, m2, m3⟩ := hs.mid (c' := _) hf
  refine z_b hX (fo_no RL) [.aload_n 2] 2447 (by decide +kernel) rfl ?_
  rw [← m1]
  refine z_cVK hX m_X11_isWell l_L_278 p_X11_isWell (c_X11_isWell (cd := cd0) hI m2) rfl rfl rfl (rest := [vi v0]) rfl rfl rfl (by decide +kernel) (fun o s q => by obtain ⟨v, σ2, q1, -⟩ := q; exact ⟨_, q1⟩) (fun v st q => ?_)
  obtain ⟨v, σ2, q1, rfl, hM2, hr2, hlow, h62⟩ := q.w
  cases q1
  have e1 : 1 = v0 := Sum.inl.inj hq
  have e2 : v = 1 := hr2.1
  subst e1
  rw [e2]
  refine z_ic_eq hX (off := 214) 2664 (by decide +kernel) (by decide) ⟨by decide, by decide⟩ ⟨by decide, by decide⟩ (fun _ => ?_) (fun q => absurd rfl q)
  exact z_wk (wk6 rfl rfl rfl rfl rfl rfl) (hk _ _ _ _ (LwS.next (aWell_I hI) hc hM2 hlow h62 m3))
theorem law_41 {X : zC} {L i b : Nat} {xs : Nat → Int32} {D : Int} {c : Nat → Int} {R : aQ} {τ : Nat → Nat → Int} {l : (Nat → Int64) × (Nat → UInt64)} (hX : zOk X RL cL_law 10 15) (hS : zSc X L xs) (hN : zNc X.2.1.2.2.2) (hL : L ≤ 2048) (hi : i + 4 ≤ L) (hs : LwS D c R τ) (hD : D + 1800 ≤ 1000000) (hb : 1 ≤ b) (hk : ∀ (c' : Nat → Int) (R' : aQ) (τ' : Nat → Nat → Int) (l' : (Nat → Int64) × (Nat → UInt64)), LwS (D + 1800) c' R' τ' → Z X (b - 1) 2664 (lL i) [] (τ', l')) : Z X b 2607 (lL i) [] (τ, l) := by
  have hI := hs.1
  have hK := hs.2.2.1
  rw [show (τ, l) = (zs τ 21 c, l) from by rw [hs.eq]]
  refine z_b hX (fo_no RL) [.aload_n 1] 2608 (by decide +kernel) rfl ?_
  refine z_callV hX m_X10_save l_L_291 p_X10_save (c_X10_save hI hK) (by decide) hb rfl rfl rfl rfl rfl (by decide +kernel) (fun v st q => ?_) (fun cls st q => by obtain ⟨σ1, hq, -⟩ := q.inr; cases hq)
  obtain ⟨v0, σ1, hq, rfl, rfl, hc, hf⟩ := q.inl
  obtain ⟨m1, m2, m3⟩ := hs.mid (c' := _) hf
  refine z_b hX (fo_no RL) [.aload_n 2] 2612 (by decide +kernel) rfl ?_
  rw [← m1]
  refine z_cVK hX m_X11_save l_L_294 p_X11_save (c_X11_save (cd := cd0) hI m2) rfl rfl rfl (rest := [vi v0]) rfl rfl rfl (by decide +kernel) (fun o s q => by obtain ⟨v, σ2, q1, -⟩ := q; exact ⟨_, q1⟩) (fun v st q => ?_)
  obtain ⟨v, σ2, q1, rfl, hM2, hr2, hlow, h62⟩ := q
  cases q1
  have e1 : c 8 = v0 := Sum.inl.inj hq
  have e2 : v = c 8 := hr2.1
  subst e1
  rw [e2]
  refine z_ic_eq hX (off := 49) 2664 (by decide +kernel) (by decide) (by have g := hI.1.1.coats; exact ⟨by omega, by omega⟩) (by have g := hI.1.1.coats; exact ⟨by omega, by omega⟩) (fun _ => ?_) (fun q => absurd rfl q)
  exact z_wk (wk6 rfl rfl rfl rfl rfl rfl) (hk _ _ _ _ (LwS.next (aSave_I hI) hc hM2 hlow h62 m3))
theorem law_38 {X : zC} {L i b : Nat} {xs : Nat → Int32} {D : Int} {c : Nat → Int} {R : aQ} {τ : Nat → Nat → Int} {l : (Nat → Int64) × (Nat → UInt64)} (hX : zOk X RL cL_law 10 15) (hS : zSc X L xs) (hN : zNc X.2.1.2.2.2) (hL : L ≤ 2048) (hi : i + 4 ≤ L) (hs : LwS D c R τ) (hD : D + 1800 ≤ 1000000) (hb : 1 ≤ b) (hk : ∀ (c' : Nat → Int) (R' : aQ) (τ' : Nat → Nat → Int) (l' : (Nat → Int64) × (Nat → UInt64)), LwS (D + 1800) c' R' τ' → Z X (b - 1) 2664 (lL i) [] (τ', l')) : Z X b 2455 (lL i) [] (τ, l) := by
  have hI := hs.1
  rw [show (τ, l) = (zs τ 21 c, l) from by rw [hs.eq]]
  refine z_b hX (fo_no RL) [.aload_n 1, .aload 4] 2458 (by decide +kernel) rfl ?_
  refine z_callN hX hN m_L_meanThumb l_L_279 p_L_meanThumb (c_L_meanThumb hI.1.1) (by decide) hb rfl rfl rfl (by decide +kernel) (fun v st q => ?_) (fun cls st q => by obtain ⟨k, dd, q1, -⟩ := q; cases q1)
  obtain ⟨k, dd, q1, rfl, hr⟩ := q
  cases q1
  rw [hs.eq]
  refine z_b hX (fo_no RL) [.istore 6, .aload_n 2] 2464 (by decide +kernel) rfl ?_
  rcases hr with ⟨h0, rfl, hd⟩ | ⟨h0, rfl⟩
  · rw [show (τ, l.1, dd) = (zs τ 33 (gm c), l.1, dd) from by rw [hs.eqm]]
    refine z_cV hX m_X11_meanThumb l_L_282 p_X11_meanThumb (c_X11_mean1 hI.1.1 h0) rfl rfl rfl rfl rfl rfl (by decide +kernel) ?_
    refine z_dstore hX (i := 7) (lo2 := (6, vi 0) :: lL i) (by decide +kernel) rfl rfl ?_
    refine z_b hX (fo_no RL) [.aload_n 2] 2470 (by decide +kernel) rfl ?_
    refine z_cV hX m_X11_thrown l_L_157 p_X11_thrown c_X11_thrown rfl rfl rfl rfl rfl rfl (by decide +kernel) ?_
    rw [show (zs (zco τ 0) 33 (gm c), l.1, dd).1 32 7 = 0 from zco_t7 τ 0 (gm c)]
    refine z_b hX (fo_no RL) [.iload 6] 2475 (by decide +kernel) rfl ?_
    refine z_ic_eq hX (off := 5) 2480 (by decide +kernel) (by decide) ⟨by decide, by decide⟩ ⟨by decide, by decide⟩ (fun _ => ?_) (fun q => absurd rfl q)
    refine z_b hX (fo_no RL) [.iload 6] 2482 (by decide +kernel) rfl ?_
    refine z_if_ne hX (off := 35) 2517 (by decide +kernel) (by decide) ⟨by decide, by decide⟩ (fun q => absurd rfl q) (fun _ => ?_)
    refine z_b hX (fo_no RL) [.aload 4, .iconst 0] 2488 (by decide +kernel) rfl ?_
    refine z_dald hX (by decide +kernel) ?_
    rw [hd]
    refine z_dload hX (i := 7) (by decide +kernel) rfl ?_
    refine z_dcmpE hX (op := .l) (zmean_e hI.1.1 h0) (by decide +kernel) ?_
    refine z_if_eq hX (off := 25) 2517 (by decide +kernel) (by decide) ⟨by decide, by decide⟩ (fun _ => ?_) (fun q => absurd rfl q)
    exact z_goto hX (off := 147) 2664 (by decide +kernel) (by decide) (z_wk (wk6 rfl rfl rfl rfl rfl rfl) (hk _ _ _ _ (hs.co 0)))
  · rw [show (τ, l.1, dd) = (zs τ 33 (gm c), l.1, dd) from by rw [hs.eqm]]
    refine z_cV hX m_X11_meanThumb l_L_282 p_X11_meanThumb (c_X11_mean0 hI.1.1 h0) rfl rfl rfl rfl rfl rfl (by decide +kernel) ?_
    refine z_dstore hX (i := 7) (lo2 := (6, vi 1) :: lL i) (by decide +kernel) rfl rfl ?_
    refine z_b hX (fo_no RL) [.aload_n 2] 2470 (by decide +kernel) rfl ?_
    refine z_cV hX m_X11_thrown l_L_157 p_X11_thrown c_X11_thrown rfl rfl rfl rfl rfl rfl (by decide +kernel) ?_
    rw [show (zs (zco τ 1) 33 (gm c), l.1, dd).1 32 7 = 1 from zco_t7 τ 1 (gm c)]
    refine z_b hX (fo_no RL) [.iload 6] 2475 (by decide +kernel) rfl ?_
    refine z_ic_eq hX (off := 5) 2480 (by decide +kernel) (by decide) ⟨by decide, by decide⟩ ⟨by decide, by decide⟩ (fun _ => ?_) (fun q => absurd rfl q)
    refine z_b hX (fo_no RL) [.iload 6] 2482 (by decide +kernel) rfl ?_
    refine z_if_ne hX (off := 35) 2517 (by decide +kernel) (by decide) ⟨by decide, by decide⟩ (fun _ => ?_) (fun q => absurd q (by decide))
    exact z_goto hX (off := 147) 2664 (by decide +kernel) (by decide) (z_wk (wk6 rfl rfl rfl rfl rfl rfl) (hk _ _ _ _ (hs.co 1)))
theorem law_39 {X : zC} {L i b : Nat} {xs : Nat → Int32} {D : Int} {c : Nat → Int} {R : aQ} {τ : Nat → Nat → Int} {l : (Nat → Int64) × (Nat → UInt64)} (hX : zOk X RL cL_law 10 15) (hS : zSc X L xs) (hN : zNc X.2.1.2.2.2) (hL : L ≤ 2048) (hi : i + 4 ≤ L) (hs : LwS D c R τ) (hD : D + 1800 ≤ 1000000) (hb : 1 ≤ b) (hk : ∀ (c' : Nat → Int) (R' : aQ) (τ' : Nat → Nat → Int) (l' : (Nat → Int64) × (Nat → UInt64)), LwS (D + 1800) c' R' τ' → Z X (b - 1) 2664 (lL i) [] (τ', l')) : Z X b 2520 (lL i) [] (τ, l) := by
  have hI := hs.1
  rw [show (τ, l) = (zs τ 21 c, l) from by rw [hs.eq]]
  refine z_b hX (fo_no RL) [.aload_n 1] 2521 (by decide +kernel) rfl ?_
  refine z_cV hX m_X10_tornShare l_L_283 p_X10_tornShare (c_X10_tornShare hI.1.1) rfl rfl rfl rfl rfl rfl (by decide +kernel) ?_
  refine z_f2d hX (by decide +kernel) (zshare_n hI.1.1).2 ?_
  refine z_dstore hX (i := 6) (lo2 := lL i) (by decide +kernel) rfl rfl ?_
  refine z_b hX (fo_no RL) [.aload_n 2] 2528 (by decide +kernel) rfl ?_
  rw [hs.eq, show (τ, l) = (zs τ 33 (gm c), l) from by rw [hs.eqm]]
  refine z_cV hX m_X11_tornShare l_L_287 p_X11_tornShare (c_X11_tornShare hI.1.1) rfl rfl rfl rfl rfl rfl (by decide +kernel) ?_
  refine z_f2d hX (by decide +kernel) (zshare_n hI.1.1).2 ?_
  refine z_dstore hX (i := 8) (lo2 := (6, vd (FP.f2d (zshare c))) :: lL i) (by decide +kernel) rfl rfl ?_
  refine z_dload hX (i := 6) (by decide +kernel) rfl ?_
  refine z_dload hX (i := 8) (by decide +kernel) rfl ?_
  refine z_dcmpE hX (op := .l) (zshare_e hI.1.1) (by decide +kernel) ?_
  refine z_if_eq hX (off := 21) 2560 (by decide +kernel) (by decide) ⟨by decide, by decide⟩ (fun _ => ?_) (fun q => absurd rfl q)
  exact z_goto hX (off := 104) 2664 (by decide +kernel) (by decide) (z_wk (wk6 rfl rfl rfl rfl rfl rfl) (z_less (by omega) (hk _ _ _ _ (hs.co 0))))
