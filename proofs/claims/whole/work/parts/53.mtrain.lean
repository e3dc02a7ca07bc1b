/-! ===== the model: the tent, trunks, the train ===== -/
theorem hP_y {x : Int} (h : 0 ≤ x ∧ x ≤ 31) : hP x := ⟨by omega, by omega⟩
theorem hP_n {x : Int} (h : ¬ (0 ≤ x ∧ x ≤ 31)) : ¬ hP x := fun z => h ⟨by omega, by omega⟩
theorem zco_co {σ : Nat → Nat → Int} {v w : Int} : zco (zco σ v) w = zco σ w := by unfold zco; rw [zs_zs, zs_eq, va_va]
theorem mSews_0 {c : Nat → Int} {w : Nat} {h : Int} : mSews c w h 0 = sSpend c w h := by
  unfold mSews ad
  rw [show sSpend c w h 2 + -0 = sSpend c w h 2 by omega, va_id]
theorem zfst_ge (f : Nat → Int) (i m : Nat) : -1 ≤ zfst f i m := by
  rcases zfst_b f m i with ⟨h1, h2⟩ | ⟨p, h1, h2, h3, h4, h5⟩
  · rw [h1]; decide
  · rw [h5]; omega
theorem packed_y {D y : Int} {c : Nat → Int} {R : aQ} {t : Nat} (hg : Rg D c) (ht : t < 4) (h : 0 ≤ y ∧ y < c (121 + t)) : fnd (zcoat c t y) c R = okk (c (129 + t * 5 + y.toNat)) c R := by
  have g := hg.intr ht
  have g2 := hg.place (k := t * 5 + y.toNat) (by omega)
  rw [show 129 + (t * 5 + y.toNat) = 129 + t * 5 + y.toNat by omega] at g2
  unfold fnd zcoat
  rw [if_pos h, if_neg (by omega)]
theorem packed_n {y : Int} {c : Nat → Int} {R : aQ} {t : Nat} (h : ¬ (0 ≤ y ∧ y < c (121 + t))) : fnd (zcoat c t y) c R = thr eNS c R := by
  unfold fnd zcoat
  rw [if_neg h, if_pos rfl]
theorem train_y {D y : Int} {c : Nat → Int} {R : aQ} (hg : Rg D c) (h : 0 ≤ y ∧ y < c 12) : fnd (ztrain c y) c R = okk (c (125 + y.toNat)) c R := by
  have g := hg.loaded
  have g2 := hg.train (k := y.toNat) (by omega)
  unfold fnd ztrain
  rw [if_pos h, if_neg (by omega)]
theorem train_n {y : Int} {c : Nat → Int} {R : aQ} (h : ¬ (0 ≤ y ∧ y < c 12)) : fnd (ztrain c y) c R = thr eNS c R := by
  unfold fnd ztrain
  rw [if_neg h, if_pos rfl]
theorem zonT_no {D : Int} {c : Nat → Int} (h : Inv D c) : zonT c (-1) = -1 := by
  have g := h.1.loaded
  refine Decidable.not_not.mp (fun z => ?_)
  obtain ⟨p, p1, p2, p3, p4⟩ := zfnd_x _ _ z
  obtain ⟨t, ht, q3, q4⟩ := h.2.2.2.1.1 p (by omega) (by omega)
  have p5 : c (125 + p) = -1 := p3
  omega
set_option maxHeartbeats 1000000 in
theorem c_X11_tear {E : zE} {x D : Int} {R : aQ} {σ : Nat → Nat → Int} {c : Nat → Int} {l : (Nat → Int64) × (Nat → UInt64)} {w : Bool} (hI : AI D c R) (hM : MR R σ) (hw : σ 32 6 = wi w) (h_x : zi x) : Mb E yX11_tear (Cond.code yX11_tear cX11_tear 2 (Option.some FieldType.int)) 2 [vr 32, vi x] (σ) (c) (l) (aTear w c R x) ((cd1 eIB)) := by
  refine Ctr_of (own := RX11) (by decide +kernel) rfl rfl (fun Y hX hR hnx => ?_)
  have g8 := hI.1.1.coats
  have g9 := hI.1.1.acts
  have g10 := hI.1.1.women
  have g11 := hI.1.1.trunks
  have g12 := hI.1.1.loaded
  have g1 := hI.1.1.g1
  have g2 := hI.1.1.g2
  have g3 := hI.1.1.g3
  refine z_b hX fo_X11 [.aload_n 0, .iload_n 1, .iconst 0, .bipush 31] 5 (by decide +kernel) rfl ?_
  refine z_cS hX m_X11_in l_X11_55 p_X11_in (c_X11_in h_x ⟨by decide, by decide⟩ ⟨by decide, by decide⟩) rfl rfl rfl rfl (by decide +kernel) ?_
  by_cases h1 : 0 ≤ x ∧ x ≤ 31
  · rw [if_pos h1]
    refine z_if_eq hX (off := 7) 15 (by decide +kernel) (by decide) ⟨by decide, by decide⟩ (fun c8 => by exact absurd c8 (by decide)) (fun c8 => ?_)
    refine z_b hX fo_X11 [.iconst 0] 12 (by decide +kernel) rfl ?_
    refine z_goto hX (off := 4) 16 (by decide +kernel) (by decide) ?_
    refine z_cV hX m_X11_fails l_X11_59 p_X11_fails (c_fails0 rfl) rfl rfl rfl rfl rfl rfl (by decide +kernel) ?_
    refine z_if_eq hX (off := 5) 24 (by decide +kernel) (by decide) ⟨by decide, by decide⟩ (fun c19 => ?_) (fun c19 => by exact absurd c19 (by decide))
    obtain ⟨p, rfl⟩ : ∃ z : Nat, x = (z : Int) := ⟨x.toNat, by omega⟩
    refine z_b hX fo_X11 [.aload_n 0, .aload_n 0, .getfield 7] 29 (by decide +kernel) rfl ?_
    obtain ⟨σ1, hkp, hM1, hc1, hF1⟩ := m_keep (E := E) (l := l) hI hM hw
    refine z_cV0 hX m_X11_keeps l_X11_67 p_X11_keeps hkp rfl rfl rfl rfl rfl rfl (by decide +kernel) ?_
    refine z_b hX fo_X11 [.aload_n 0, .getfield 7, .bipush 7, .dup2] 39 (by decide +kernel) rfl ?_
    refine z_ig hX (v := tb c) (7) rfl (by omega) (by omega) (by decide +kernel) ?_
    refine z_b hX fo_X11 [.iconst 1, .iload_n 1] 42 (by decide +kernel) rfl ?_
    refine z_ishl hX (by decide +kernel) ?_
    refine z_ior hX (by decide +kernel) ?_
    refine z_sg hX (7) (gm_up7 (by omega) (bt_set c (by omega))) (by omega) (by omega) (by decide +kernel) ?_
    refine z_b hX fo_X11 [.aload_n 0] 46 (by decide +kernel) rfl ?_
    refine z_cV hX m_X11_holes l_X11_119 p_X11_holes (c_X11_holes (hI.1.1.upb (zbd_torn (by omega)) ⟨by omega, by omega⟩)) rfl rfl rfl rfl rfl rfl (by decide +kernel) ?_
    exact z_iret hX hR (by decide +kernel) (Pm_ok (v := zsum (va_up c (149 + p) 1) 149 32) (c' := va_up c (149 + p) 1) (by unfold aTear; rw [if_pos (hP_y h1)]; (try simp only [Int.toNat_natCast]); rfl) rfl σ1 (congrArg (fun z => (zs σ1 33 (gm z), l)) rfl) hM1 hc1 hF1)
  · rw [if_neg h1]
    refine z_if_eq hX (off := 7) 15 (by decide +kernel) (by decide) ⟨by decide, by decide⟩ (fun c8 => ?_) (fun c8 => by exact absurd c8 (by decide))
    refine z_b hX fo_X11 [.iconst 1] 16 (by decide +kernel) rfl ?_
    refine z_cV hX m_X11_fails l_X11_59 p_X11_fails (c_fails1 ⟨by decide, by decide⟩) rfl rfl rfl rfl rfl rfl (by decide +kernel) ?_
    refine z_if_eq hX (off := 5) 24 (by decide +kernel) (by decide) ⟨by decide, by decide⟩ (fun c19 => by exact absurd c19 (by decide)) (fun c19 => ?_)
    refine z_b hX fo_X11 [.iconst 0] 23 (by decide +kernel) rfl ?_
    exact z_iret hX hR (by decide +kernel) (Pm_fail (e := eIB) (by unfold aTear; rw [if_neg (hP_n h1)]; (try simp only [Int.toNat_natCast]); rfl) ne_IB_UO hM cd1_1)
set_option maxHeartbeats 1000000 in
theorem c_X11_patch {E : zE} {x D : Int} {R : aQ} {σ : Nat → Nat → Int} {c : Nat → Int} {l : (Nat → Int64) × (Nat → UInt64)} {w : Bool} (hI : AI D c R) (hM : MR R σ) (hw : σ 32 6 = wi w) (h_x : zi x) : Mb E yX11_patch (Cond.code yX11_patch cX11_patch 3 (Option.some FieldType.int)) 2 [vr 32, vi x] (σ) (c) (l) (aPatch w c R x) ((cd2 eIB eUO)) := by
  refine Ctr_of (own := RX11) (by decide +kernel) rfl rfl (fun Y hX hR hnx => ?_)
  have g8 := hI.1.1.coats
  have g9 := hI.1.1.acts
  have g10 := hI.1.1.women
  have g11 := hI.1.1.trunks
  have g12 := hI.1.1.loaded
  have g1 := hI.1.1.g1
  have g2 := hI.1.1.g2
  have g3 := hI.1.1.g3
  refine z_b hX fo_X11 [.aload_n 0, .aload_n 0, .iload_n 1] 3 (by decide +kernel) rfl ?_
  refine z_cV hX m_X11_isWoman l_X11_103 p_X11_isWoman (c_X11_isWoman h_x ⟨by omega, by omega⟩) rfl rfl rfl rfl rfl rfl (by decide +kernel) ?_
  by_cases h1 : hW c x
  · rw [if_pos h1]
    obtain ⟨a, rfl⟩ : ∃ z : Nat, x = (z : Int) := ⟨x.toNat, by omega⟩
    refine z_if_eq hX (off := 7) 13 (by decide +kernel) (by decide) ⟨by decide, by decide⟩ (fun c6 => by exact absurd c6 (by decide)) (fun c6 => ?_)
    refine z_b hX fo_X11 [.iconst 0] 10 (by decide +kernel) rfl ?_
    refine z_goto hX (off := 4) 14 (by decide +kernel) (by decide) ?_
    refine z_cV hX m_X11_fails l_X11_59 p_X11_fails (c_fails0 rfl) rfl rfl rfl rfl rfl rfl (by decide +kernel) ?_
    refine z_if_eq hX (off := 5) 22 (by decide +kernel) (by decide) ⟨by decide, by decide⟩ (fun c17 => ?_) (fun c17 => by exact absurd c17 (by decide))
    refine z_b hX fo_X11 [.aload_n 0, .iconst 0] 24 (by decide +kernel) rfl ?_
    refine z_cV hX m_X11_tornFrom l_X11_123 p_X11_tornFrom (c_X11_tornFrom (a := 0) hI.1.1 (by omega)) rfl rfl rfl rfl rfl rfl (by decide +kernel) ?_
    rw [show (32 - 0 : Nat) = 32 from rfl]
    have zf := zfst_s hI.1.1
    have zf0 := zfst_ge (fun p => c (149 + p)) 0 32
    have s5 := hI.1.1.sore (k := a) (by omega)
    have s4 := hI.1.1.hours (k := a) (by omega)
    refine z_b hX fo_X11 [.istore_n 2, .aload_n 0, .iload_n 1, .iconst 1] 31 (by decide +kernel) rfl ?_
    refine z_cV hX m_X11_ofWoman l_X11_106 p_X11_ofWoman (c_ofWoman1 (k := a) (by omega)) rfl rfl rfl rfl rfl rfl (by decide +kernel) ?_
    refine z_b hX fo_X11 [.bipush 6] 36 (by decide +kernel) rfl ?_
    refine z_ic_lt hX (off := 21) 57 (by decide +kernel) (by decide) ⟨by omega, by omega⟩ ⟨by omega, by omega⟩ (fun c36 => ?_) (fun c36 => ?_)
    · refine z_b hX fo_X11 [.iload_n 2] 58 (by decide +kernel) rfl ?_
      refine z_if_ge hX (off := 12) 70 (by decide +kernel) (by decide) ⟨by omega, by omega⟩ (fun c58 => ?_) (fun c58 => ?_)
      · obtain ⟨p, hp⟩ : ∃ p : Nat, zfst (fun p => c (149 + p)) 0 32 = (p : Int) := ⟨(zfst (fun p => c (149 + p)) 0 32).toNat, by omega⟩
        rw [hp]
        refine z_b hX fo_X11 [.aload_n 0, .getfield 7, .iconst 3] 75 (by decide +kernel) rfl ?_
        refine z_ig hX (v := c 3) (3) rfl (by omega) (by omega) (by decide +kernel) ?_
        refine z_if_ne hX (off := 12) 88 (by decide +kernel) (by decide) ⟨by omega, by omega⟩ (fun c76 => ?_) (fun c76 => ?_)
        · refine z_b hX fo_X11 [.aload_n 0, .iload_n 1, .iconst 2, .iconst 1, .iconst 0] 93 (by decide +kernel) rfl ?_
          rcases (show (1 ≤ c (109 + a) ∧ 0 ≤ c 2) ∨ c (109 + a) < 1 by omega) with ⟨q1, q2⟩ | q1
          · refine z_cV hX m_X11_lacks l_X11_109 p_X11_lacks (c_lacks_n (hI.1.1) (w := a) (h := 1) (t := 0) (by omega) ⟨by decide, by decide⟩ ⟨by decide, by decide⟩ q1 q2) rfl rfl rfl rfl rfl rfl (by decide +kernel) ?_
            refine z_if_eq hX (off := 5) 101 (by decide +kernel) (by decide) ⟨by decide, by decide⟩ (fun c96 => ?_) (fun c96 => by exact absurd c96 (by decide))
            refine z_b hX fo_X11 [.aload_n 0, .aload_n 0, .getfield 7] 106 (by decide +kernel) rfl ?_
            obtain ⟨σ1, hkp, hM1, hc1, hF1⟩ := m_keep (E := E) (l := l) hI hM hw
            refine z_cV0 hX m_X11_keeps l_X11_67 p_X11_keeps hkp rfl rfl rfl rfl rfl rfl (by decide +kernel) ?_
            refine z_b hX fo_X11 [.aload_n 0, .iload_n 1, .iconst 1, .iconst 0] 113 (by decide +kernel) rfl ?_
            refine z_cV0 hX m_X11_sews l_X11_113 p_X11_sews (c_X11_sews hI.1.1 (by omega)) rfl rfl rfl rfl rfl rfl (by decide +kernel) ?_
            refine z_b hX fo_X11 [.aload_n 0, .getfield 7, .iconst 3, .dup2] 122 (by decide +kernel) rfl ?_
            refine z_ig hX (v := (mSews c a 1 0) 3) (3) rfl (by omega) (by omega) (by decide +kernel) ?_
            refine z_b hX fo_X11 [.iconst 1, .isub] 125 (by decide +kernel) rfl ?_
            refine z_sg hX (3) (ulit (j := 3) (by decide) (by decide) rfl) (by omega) (by omega) (by decide +kernel) ?_
            refine z_b hX fo_X11 [.aload_n 0, .getfield 7, .bipush 7, .dup2] 133 (by decide +kernel) rfl ?_
            refine z_ig hX (v := _) (7) (gm_7 _) (by omega) (by omega) (by decide +kernel) ?_
            refine z_b hX fo_X11 [.iconst 1, .iload_n 2] 136 (by decide +kernel) rfl ?_
            refine z_ishl hX (by decide +kernel) ?_
            refine z_b hX fo_X11 [.iconst (-1)] 138 (by decide +kernel) rfl ?_
            refine z_ixor hX (by decide +kernel) ?_
            refine z_iand hX (by decide +kernel) ?_
            refine z_sg hX (7) (gm_up7 (p := p) (by omega) (bt_clr _ (by omega))) (by omega) (by omega) (by decide +kernel) ?_
            refine z_b hX fo_X11 [.iload_n 2] 142 (by decide +kernel) rfl ?_
            exact z_iret hX hR (by decide +kernel) (Pm_ok (v := zfst (fun p => c (149 + p)) 0 32) (c' := sPatch c a (zfst (fun p => c (149 + p)) 0 32).toNat) (by unfold aPatch; rw [if_pos h1]; (try simp only [Int.toNat_natCast]); rw [show (rPatch c a : zr) = none from (by unfold rPatch rSore rNoTorn rNoPatch rHours; rw [if_neg (by omega)]; rw [if_neg (by omega)]; rw [if_neg (by omega)]; rw [if_neg (by omega)]; (first | done | rfl))]; rfl) hp σ1 (congrArg (fun z => (zs σ1 33 (gm z), l)) (by rw [hp, Int.toNat_natCast, mSews_0]; rfl)) hM1 hc1 hF1)
          · refine z_cV hX m_X11_lacks l_X11_109 p_X11_lacks (c_lacks_h (hI.1.1) (w := a) (h := 1) (t := 0) (by omega) ⟨by decide, by decide⟩ ⟨by decide, by decide⟩ q1) rfl rfl rfl rfl rfl rfl (by decide +kernel) ?_
            refine z_if_eq hX (off := 5) 101 (by decide +kernel) (by decide) ⟨by decide, by decide⟩ (fun c96 => by exact absurd c96 (by decide)) (fun c96 => ?_)
            refine z_b hX fo_X11 [.iconst 0] 100 (by decide +kernel) rfl ?_
            exact z_iret hX hR (by decide +kernel) (Pm_ref (w := 5) (x := (1 - c (109 + a))) (by unfold aPatch; rw [if_pos h1]; (try simp only [Int.toNat_natCast]); rw [show (rPatch c a : zr) = some (5, (1 - c (109 + a))) from (by unfold rPatch rSore rNoTorn rNoPatch rHours; rw [if_neg (by omega)]; rw [if_neg (by omega)]; rw [if_neg (by omega)]; rw [if_pos (by omega)]; (first | done | rfl | exact congrArg some (Prod.ext rfl (by dsimp only; omega))))]; rfl) hM (cd2_2 ne_UO_IB))
        · refine z_b hX fo_X11 [.aload_n 0, .iconst 2, .bipush 12, .iconst 0] 84 (by decide +kernel) rfl ?_
          refine z_cV hX m_X11_refuses l_X11_63 p_X11_refuses c_X11_refuses rfl rfl rfl rfl rfl rfl (by decide +kernel) ?_
          exact z_iret hX hR (by decide +kernel) (Pm_ref (w := 12) (x := 0) (by unfold aPatch; rw [if_pos h1]; (try simp only [Int.toNat_natCast]); rw [show (rPatch c a : zr) = some (12, 0) from (by unfold rPatch rSore rNoTorn rNoPatch rHours; rw [if_neg (by omega)]; rw [if_neg (by omega)]; rw [if_pos (by omega)]; (first | done | rfl | exact congrArg some (Prod.ext rfl (by dsimp only; omega))))]; rfl) hM (cd2_2 ne_UO_IB))
      · refine z_b hX fo_X11 [.aload_n 0, .iconst 2, .bipush 11, .iconst 0] 66 (by decide +kernel) rfl ?_
        refine z_cV hX m_X11_refuses l_X11_63 p_X11_refuses c_X11_refuses rfl rfl rfl rfl rfl rfl (by decide +kernel) ?_
        exact z_iret hX hR (by decide +kernel) (Pm_ref (w := 11) (x := 0) (by unfold aPatch; rw [if_pos h1]; (try simp only [Int.toNat_natCast]); rw [show (rPatch c a : zr) = some (11, 0) from (by unfold rPatch rSore rNoTorn rNoPatch rHours; rw [if_neg (by omega)]; rw [if_pos (by omega)]; (first | done | rfl | exact congrArg some (Prod.ext rfl (by dsimp only; omega))))]; rfl) hM (cd2_2 ne_UO_IB))
    · refine z_b hX fo_X11 [.aload_n 0, .iconst 2, .iconst 4, .aload_n 0, .iload_n 1, .iconst 1] 45 (by decide +kernel) rfl ?_
      refine z_cV hX m_X11_ofWoman l_X11_106 p_X11_ofWoman (c_ofWoman1 (k := a) (by omega)) rfl rfl rfl rfl rfl rfl (by decide +kernel) ?_
      refine z_b hX fo_X11 [.bipush 6, .isub, .iconst 1, .iadd] 53 (by decide +kernel) rfl ?_
      refine z_cV hX m_X11_refuses l_X11_63 p_X11_refuses c_X11_refuses rfl rfl rfl rfl rfl rfl (by decide +kernel) ?_
      exact z_iret hX hR (by decide +kernel) (Pm_ref (w := 4) (x := (((c (113 + a)) - 6) + 1)) (by unfold aPatch; rw [if_pos h1]; (try simp only [Int.toNat_natCast]); rw [show (rPatch c a : zr) = some (4, (((c (113 + a)) - 6) + 1)) from (by unfold rPatch rSore rNoTorn rNoPatch rHours;  rw [if_pos (by omega)]; (first | done | rfl | exact congrArg some (Prod.ext rfl (by dsimp only; omega))))]; rfl) hM (cd2_2 ne_UO_IB))
  · rw [if_neg h1]
    refine z_if_eq hX (off := 7) 13 (by decide +kernel) (by decide) ⟨by decide, by decide⟩ (fun c6 => ?_) (fun c6 => by exact absurd c6 (by decide))
    refine z_b hX fo_X11 [.iconst 1] 14 (by decide +kernel) rfl ?_
    refine z_cV hX m_X11_fails l_X11_59 p_X11_fails (c_fails1 ⟨by decide, by decide⟩) rfl rfl rfl rfl rfl rfl (by decide +kernel) ?_
    refine z_if_eq hX (off := 5) 22 (by decide +kernel) (by decide) ⟨by decide, by decide⟩ (fun c17 => by exact absurd c17 (by decide)) (fun c17 => ?_)
    refine z_b hX fo_X11 [.iconst 0] 21 (by decide +kernel) rfl ?_
    exact z_iret hX hR (by decide +kernel) (Pm_fail (e := eIB) (by unfold aPatch; rw [if_neg h1]; (try simp only [Int.toNat_natCast]); rfl) ne_IB_UO hM cd2_1)
set_option maxHeartbeats 1000000 in
theorem c_X11_torn {E : zE} {x D : Int} {R : aQ} {σ : Nat → Nat → Int} {c : Nat → Int} {l : (Nat → Int64) × (Nat → UInt64)} {w : Bool} (hI : AI D c R) (hM : MR R σ) (hw : σ 32 6 = wi w) (h_x : zi x) : Mb E yX11_torn (Cond.code yX11_torn cX11_torn 3 (Option.some FieldType.int)) 2 [vr 32, vi x] (σ) (c) (l) (aTorn c R x) ((cd2 eIB eNS)) := by
  refine Ctr_of (own := RX11) (by decide +kernel) rfl rfl (fun Y hX hR hnx => ?_)
  have g8 := hI.1.1.coats
  have g9 := hI.1.1.acts
  have g10 := hI.1.1.women
  have g11 := hI.1.1.trunks
  have g12 := hI.1.1.loaded
  have g1 := hI.1.1.g1
  have g2 := hI.1.1.g2
  have g3 := hI.1.1.g3
  refine z_b hX fo_X11 [.aload_n 0, .iload_n 1, .iconst 0, .bipush 31] 5 (by decide +kernel) rfl ?_
  refine z_cS hX m_X11_in l_X11_55 p_X11_in (c_X11_in h_x ⟨by decide, by decide⟩ ⟨by decide, by decide⟩) rfl rfl rfl rfl (by decide +kernel) ?_
  by_cases h1 : 0 ≤ x ∧ x ≤ 31
  · rw [if_pos h1]
    refine z_if_eq hX (off := 7) 15 (by decide +kernel) (by decide) ⟨by decide, by decide⟩ (fun c8 => by exact absurd c8 (by decide)) (fun c8 => ?_)
    refine z_b hX fo_X11 [.iconst 0] 12 (by decide +kernel) rfl ?_
    refine z_goto hX (off := 4) 16 (by decide +kernel) (by decide) ?_
    refine z_cV hX m_X11_fails l_X11_59 p_X11_fails (c_fails0 rfl) rfl rfl rfl rfl rfl rfl (by decide +kernel) ?_
    refine z_if_eq hX (off := 5) 24 (by decide +kernel) (by decide) ⟨by decide, by decide⟩ (fun c19 => ?_) (fun c19 => by exact absurd c19 (by decide))
    obtain ⟨p, rfl⟩ : ∃ z : Nat, x = (z : Int) := ⟨x.toNat, by omega⟩
    refine z_b hX fo_X11 [.aload_n 0, .iload_n 1] 26 (by decide +kernel) rfl ?_
    refine z_cV hX m_X11_tornFrom l_X11_123 p_X11_tornFrom (c_X11_tornFrom (a := p) hI.1.1 (by omega)) rfl rfl rfl rfl rfl rfl (by decide +kernel) ?_
    have zf := zfst_ge (fun q => c (149 + q)) p (32 - p)
    have zf2 := zfst_zi (fun q => c (149 + q)) p (m := 32 - p) (by omega)
    refine z_b hX fo_X11 [.istore_n 2, .aload_n 0, .iload_n 2] 32 (by decide +kernel) rfl ?_
    refine z_if_ge hX (off := 7) 39 (by decide +kernel) (by decide) zf2 (fun c32 => ?_) (fun c32 => ?_)
    · refine z_b hX fo_X11 [.iconst 0] 40 (by decide +kernel) rfl ?_
      refine z_cV hX m_X11_fails l_X11_59 p_X11_fails (c_fails0 rfl) rfl rfl rfl rfl rfl rfl (by decide +kernel) ?_
      rw [zco_co]
      refine z_if_eq hX (off := 7) 50 (by decide +kernel) (by decide) ⟨by decide, by decide⟩ (fun c43 => ?_) (fun c43 => by exact absurd c43 (by decide))
      refine z_b hX fo_X11 [.iload_n 2] 51 (by decide +kernel) rfl ?_
      exact z_iret hX hR (by decide +kernel) (Pm_que (v := zfst (fun q => c (149 + q)) p (32 - p)) (by unfold aTorn; rw [if_pos (hP_y h1)]; (try simp only [Int.toNat_natCast]); unfold fnd; rw [if_neg (show zfst (fun q => c (149 + q)) p (32 - p) ≠ -1 by omega)]; (try simp only [Int.toNat_natCast]); rfl) rfl hM)
    · refine z_b hX fo_X11 [.iconst 2] 36 (by decide +kernel) rfl ?_
      refine z_goto hX (off := 4) 40 (by decide +kernel) (by decide) ?_
      refine z_cV hX m_X11_fails l_X11_59 p_X11_fails (c_fails1 ⟨by decide, by decide⟩) rfl rfl rfl rfl rfl rfl (by decide +kernel) ?_
      rw [zco_co]
      refine z_if_eq hX (off := 7) 50 (by decide +kernel) (by decide) ⟨by decide, by decide⟩ (fun c43 => by exact absurd c43 (by decide)) (fun c43 => ?_)
      refine z_b hX fo_X11 [.iconst 0] 47 (by decide +kernel) rfl ?_
      refine z_goto hX (off := 4) 51 (by decide +kernel) (by decide) ?_
      exact z_iret hX hR (by decide +kernel) (Pm_fail (e := eNS) (by unfold aTorn; rw [if_pos (hP_y h1)]; (try simp only [Int.toNat_natCast]); unfold fnd; rw [if_pos (show zfst (fun q => c (149 + q)) p (32 - p) = -1 by omega)]; (try simp only [Int.toNat_natCast]); rfl) ne_NS_UO hM (cd2_2 ne_NS_IB))
  · rw [if_neg h1]
    refine z_if_eq hX (off := 7) 15 (by decide +kernel) (by decide) ⟨by decide, by decide⟩ (fun c8 => ?_) (fun c8 => by exact absurd c8 (by decide))
    refine z_b hX fo_X11 [.iconst 1] 16 (by decide +kernel) rfl ?_
    refine z_cV hX m_X11_fails l_X11_59 p_X11_fails (c_fails1 ⟨by decide, by decide⟩) rfl rfl rfl rfl rfl rfl (by decide +kernel) ?_
    refine z_if_eq hX (off := 5) 24 (by decide +kernel) (by decide) ⟨by decide, by decide⟩ (fun c19 => by exact absurd c19 (by decide)) (fun c19 => ?_)
    refine z_b hX fo_X11 [.iconst 0] 23 (by decide +kernel) rfl ?_
    exact z_iret hX hR (by decide +kernel) (Pm_fail (e := eIB) (by unfold aTorn; rw [if_neg (hP_n h1)]; (try simp only [Int.toNat_natCast]); rfl) ne_IB_UO hM cd2_1)
set_option maxHeartbeats 1000000 in
theorem c_X11_trunk {E : zE} {D : Int} {R : aQ} {σ : Nat → Nat → Int} {c : Nat → Int} {l : (Nat → Int64) × (Nat → UInt64)} {w : Bool} (hI : AI D c R) (hM : MR R σ) (hw : σ 32 6 = wi w)  : Mb E yX11_trunk (Cond.code yX11_trunk cX11_trunk 1 (Option.some FieldType.int)) 2 [vr 32] (σ) (c) (l) (aTrunk w c R ) ((cd1 eUO)) := by
  refine Ctr_of (own := RX11) (by decide +kernel) rfl rfl (fun Y hX hR hnx => ?_)
  have g8 := hI.1.1.coats
  have g9 := hI.1.1.acts
  have g10 := hI.1.1.women
  have g11 := hI.1.1.trunks
  have g12 := hI.1.1.loaded
  have g1 := hI.1.1.g1
  have g2 := hI.1.1.g2
  have g3 := hI.1.1.g3
  refine z_b hX fo_X11 [.aload_n 0, .iconst 0, .putfield 32, .aload_n 0, .getfield 7, .bipush 120] 11 (by decide +kernel) rfl ?_
  rw [zco_eq]
  refine z_ig hX (v := c 11) (120) rfl (by omega) (by omega) (by decide +kernel) ?_
  refine z_b hX fo_X11 [.iconst 4] 13 (by decide +kernel) rfl ?_
  refine z_ic_ne hX (off := 11) 24 (by decide +kernel) (by decide) ⟨by omega, by omega⟩ ⟨by omega, by omega⟩ (fun c13 => ?_) (fun c13 => ?_)
  · refine z_b hX fo_X11 [.aload_n 0, .aload_n 0, .getfield 7] 29 (by decide +kernel) rfl ?_
    obtain ⟨σ1, hkp, hM1, hc1, hF1⟩ := m_keep (E := E) (l := l) hI hM hw
    refine z_cV0 hX m_X11_keeps l_X11_67 p_X11_keeps hkp rfl rfl rfl rfl rfl rfl (by decide +kernel) ?_
    refine z_b hX fo_X11 [.aload_n 0, .getfield 7, .bipush 121, .bipush 6, .aload_n 0, .getfield 7, .bipush 120] 46 (by decide +kernel) rfl ?_
    refine z_ig hX (v := c 11) (120) rfl (by omega) (by omega) (by decide +kernel) ?_
    have hk : c 11 = ((c 11).toNat : Int) := by omega
    refine z_b hX fo_X11 [.imul, .iadd, .iconst 0] 50 (by decide +kernel) rfl ?_
    refine z_sg hX (121 + 6 * (c 11).toNat) (utr (by omega)) (by omega) (by omega) (by decide +kernel) ?_
    refine z_b hX fo_X11 [.aload_n 0, .getfield 7, .bipush 120, .dup2] 58 (by decide +kernel) rfl ?_
    refine z_ig hX (v := (va_up c (121 + (c 11).toNat) 0) 11) (120) rfl (by omega) (by omega) (by decide +kernel) ?_
    refine z_b hX fo_X11 [.iconst 1, .iadd] 61 (by decide +kernel) rfl ?_
    refine z_sg hX (120) (ulit (j := 11) (by decide) (by decide) rfl) (by omega) (by omega) (by decide +kernel) ?_
    refine z_b hX fo_X11 [.aload_n 0, .getfield 7, .bipush 120] 68 (by decide +kernel) rfl ?_
    refine z_ig hX (v := (va_up (va_up c (121 + (c 11).toNat) 0) 11 (((va_up c (121 + (c 11).toNat) 0) 11) + 1)) 11) (120) rfl (by omega) (by omega) (by decide +kernel) ?_
    refine z_b hX fo_X11 [.iconst 1, .isub] 71 (by decide +kernel) rfl ?_
    exact z_iret hX hR (by decide +kernel) (Pm_ok (v := c 11) (c' := sTrunk c (c 11).toNat) (by unfold aTrunk;  (try simp only [Int.toNat_natCast]); rw [show (rMore (c 11) 4 : zr) = none from (by unfold rMore; rw [if_neg (by omega)]; (first | done | rfl))]; rfl) (by first | omega | (rw [va_e, if_pos rfl, vne (by omega)]; omega)) σ1 (congrArg (fun z => (zs σ1 33 (gm z), l)) rfl) hM1 hc1 hF1)
  · refine z_b hX fo_X11 [.aload_n 0, .iconst 1, .iconst 1, .iconst 4] 20 (by decide +kernel) rfl ?_
    refine z_cV hX m_X11_refuses l_X11_63 p_X11_refuses c_X11_refuses rfl rfl rfl rfl rfl rfl (by decide +kernel) ?_
    exact z_iret hX hR (by decide +kernel) (Pm_ref (w := 1) (x := 4) (by unfold aTrunk;  (try simp only [Int.toNat_natCast]); rw [show (rMore (c 11) 4 : zr) = some (1, 4) from (by unfold rMore;  rw [if_pos (by omega)]; (first | done | rfl | exact congrArg some (Prod.ext rfl (by dsimp only; omega))))]; rfl) hM cd1_1)
set_option maxHeartbeats 1000000 in
theorem c_X11_pack {E : zE} {x y D : Int} {R : aQ} {σ : Nat → Nat → Int} {c : Nat → Int} {l : (Nat → Int64) × (Nat → UInt64)} {w : Bool} (hI : AI D c R) (hM : MR R σ) (hw : σ 32 6 = wi w) (h_x : zi x) (h_y : zi y) : Mb E yX11_pack (Cond.code yX11_pack cX11_pack 3 (Option.some FieldType.int)) 2 [vr 32, vi x, vi y] (σ) (c) (l) (aPack w c R x y) ((cd2 eIB eUO)) := by
  refine Ctr_of (own := RX11) (by decide +kernel) rfl rfl (fun Y hX hR hnx => ?_)
  have g8 := hI.1.1.coats
  have g9 := hI.1.1.acts
  have g10 := hI.1.1.women
  have g11 := hI.1.1.trunks
  have g12 := hI.1.1.loaded
  have g1 := hI.1.1.g1
  have g2 := hI.1.1.g2
  have g3 := hI.1.1.g3
  refine z_b hX fo_X11 [.aload_n 0, .aload_n 0, .iload_n 1] 3 (by decide +kernel) rfl ?_
  refine z_cV hX m_X11_isCoat l_X11_81 p_X11_isCoat (c_X11_isCoat h_x ⟨by omega, by omega⟩) rfl rfl rfl rfl rfl rfl (by decide +kernel) ?_
  by_cases h1 : hC c x
  · rw [if_pos h1]
    obtain ⟨k, rfl⟩ : ∃ z : Nat, x = (z : Int) := ⟨x.toNat, by omega⟩
    refine z_if_eq hX (off := 15) 21 (by decide +kernel) (by decide) ⟨by decide, by decide⟩ (fun c6 => by exact absurd c6 (by decide)) (fun c6 => ?_)
    refine z_b hX fo_X11 [.aload_n 0, .iload_n 2] 11 (by decide +kernel) rfl ?_
    refine z_cV hX m_X11_isTrunk l_X11_127 p_X11_isTrunk (c_X11_isTrunk h_y ⟨by omega, by omega⟩) rfl rfl rfl rfl rfl rfl (by decide +kernel) ?_
    by_cases h2 : hT c y
    · rw [if_pos h2]
      obtain ⟨t, rfl⟩ : ∃ z : Nat, y = (z : Int) := ⟨y.toNat, by omega⟩
      refine z_if_eq hX (off := 7) 21 (by decide +kernel) (by decide) ⟨by decide, by decide⟩ (fun c14 => by exact absurd c14 (by decide)) (fun c14 => ?_)
      refine z_b hX fo_X11 [.iconst 0] 18 (by decide +kernel) rfl ?_
      refine z_goto hX (off := 4) 22 (by decide +kernel) (by decide) ?_
      refine z_cV hX m_X11_fails l_X11_59 p_X11_fails (c_fails0 rfl) rfl rfl rfl rfl rfl rfl (by decide +kernel) ?_
      refine z_if_eq hX (off := 5) 30 (by decide +kernel) (by decide) ⟨by decide, by decide⟩ (fun c25 => ?_) (fun c25 => by exact absurd c25 (by decide))
      refine z_b hX fo_X11 [.aload_n 0, .iload_n 1, .iconst 4] 33 (by decide +kernel) rfl ?_
      refine z_cV hX m_X11_of l_X11_84 p_X11_of (c_of4 (k := k) (by omega)) rfl rfl rfl rfl rfl rfl (by decide +kernel) ?_
      have s0 := hI.1.1.tr (k := k) (by omega)
      refine z_if_lt hX (off := 16) 52 (by decide +kernel) (by decide) ⟨by omega, by omega⟩ (fun c36 => ?_) (fun c36 => ?_)
      · refine z_b hX fo_X11 [.aload_n 0, .iload_n 2] 54 (by decide +kernel) rfl ?_
        refine z_cV hX m_X11_trainPlace l_X11_130 p_X11_trainPlace (c_X11_trainPlace hI.1.1 ⟨by omega, by omega⟩) rfl rfl rfl rfl rfl rfl (by decide +kernel) ?_
        have hz : -1 ≤ zonT c (t : Int) ∧ zonT c (t : Int) < 1000 := zfnd_zi _ _ _ _ (by omega)
        refine z_if_lt hX (off := 16) 73 (by decide +kernel) (by decide) ⟨by omega, by omega⟩ (fun c57 => ?_) (fun c57 => ?_)
        · refine z_b hX fo_X11 [.aload_n 0, .iload_n 2] 75 (by decide +kernel) rfl ?_
          refine z_cV hX m_X11_packedIn l_X11_133 p_X11_packedIn (c_X11_packedIn (t := t) (by omega)) rfl rfl rfl rfl rfl rfl (by decide +kernel) ?_
          have gi := hI.1.1.intr (k := t) (by omega)
          refine z_b hX fo_X11 [.iconst 5] 79 (by decide +kernel) rfl ?_
          refine z_ic_ne hX (off := 11) 90 (by decide +kernel) (by decide) ⟨by omega, by omega⟩ ⟨by omega, by omega⟩ (fun c79 => ?_) (fun c79 => ?_)
          · refine z_b hX fo_X11 [.aload_n 0, .aload_n 0, .getfield 7] 95 (by decide +kernel) rfl ?_
            obtain ⟨σ1, hkp, hM1, hc1, hF1⟩ := m_keep (E := E) (l := l) hI hM hw
            refine z_cV0 hX m_X11_keeps l_X11_67 p_X11_keeps hkp rfl rfl rfl rfl rfl rfl (by decide +kernel) ?_
            refine z_b hX fo_X11 [.aload_n 0, .getfield 7, .bipush 121, .bipush 6, .iload_n 2, .imul, .iadd, .dup2] 110 (by decide +kernel) rfl ?_
            refine z_ig hX (v := c (121 + t)) (121 + 6 * t) (gtr (by omega)) (by omega) (by omega) (by decide +kernel) ?_
            refine z_b hX fo_X11 [.iconst 1, .iadd] 113 (by decide +kernel) rfl ?_
            refine z_sg hX (121 + 6 * t) (utr (by omega)) (by omega) (by omega) (by decide +kernel) ?_
            refine z_b hX fo_X11 [.aload_n 0, .getfield 7, .bipush 121, .bipush 6, .iload_n 2, .imul, .iadd, .aload_n 0, .iload_n 2] 127 (by decide +kernel) rfl ?_
            refine z_cV hX m_X11_packedIn l_X11_133 p_X11_packedIn (c_X11_packedIn (t := t) (by omega)) rfl rfl rfl rfl rfl rfl (by decide +kernel) ?_
            rw [show (va_up c (121 + t) (c (121 + t) + 1)) (121 + t) = c (121 + t) + 1 by rw [va_e, if_pos rfl]]
            refine z_b hX fo_X11 [.iadd, .iload_n 1] 132 (by decide +kernel) rfl ?_
            refine z_sg hX (121 + 6 * t + 1 + (c (121 + t)).toNat) (upl (by omega) (by omega)) (by omega) (by omega) (by decide +kernel) ?_
            refine z_b hX fo_X11 [.aload_n 0, .iload_n 1, .iconst 4, .iload_n 2] 137 (by decide +kernel) rfl ?_
            refine z_cV0 hX m_X11_lays l_X11_71 p_X11_lays (c_lays4 (k := k) (by omega)) rfl rfl rfl rfl rfl rfl (by decide +kernel) ?_
            refine z_b hX fo_X11 [.aload_n 0, .iload_n 2] 142 (by decide +kernel) rfl ?_
            refine z_cV hX m_X11_packedIn l_X11_133 p_X11_packedIn (c_X11_packedIn (t := t) (by omega)) rfl rfl rfl rfl rfl rfl (by decide +kernel) ?_
            exact z_iret hX hR (by decide +kernel) (Pm_ok (v := c (121 + t) + 1) (c' := sPack c k t (c (121 + t)).toNat) (by unfold aPack; rw [if_pos h1]; rw [if_pos h2]; (try simp only [Int.toNat_natCast]); rw [show (rPack c k t : zr) = none from (by unfold rPack rPacked rLoaded rMore; rw [if_neg (by omega)]; rw [if_neg (by omega)]; rw [if_neg (by omega)]; (first | done | rfl))]; rfl) (by rw [vne (by omega), vne (by omega), va_e, if_pos rfl]) σ1 (congrArg (fun z => (zs σ1 33 (gm z), l)) (by funext j; simp only [sPack, sPack0, ad, va_e]; grind)) hM1 hc1 hF1)
          · refine z_b hX fo_X11 [.aload_n 0, .iconst 2, .iconst 1, .iconst 5] 86 (by decide +kernel) rfl ?_
            refine z_cV hX m_X11_refuses l_X11_63 p_X11_refuses c_X11_refuses rfl rfl rfl rfl rfl rfl (by decide +kernel) ?_
            exact z_iret hX hR (by decide +kernel) (Pm_ref (w := 1) (x := 5) (by unfold aPack; rw [if_pos h1]; rw [if_pos h2]; (try simp only [Int.toNat_natCast]); rw [show (rPack c k t : zr) = some (1, 5) from (by unfold rPack rPacked rLoaded rMore; rw [if_neg (by omega)]; rw [if_neg (by omega)]; rw [if_pos (by omega)]; (first | done | rfl | exact congrArg some (Prod.ext rfl (by dsimp only; omega))))]; rfl) hM (cd2_2 ne_UO_IB))
        · refine z_b hX fo_X11 [.aload_n 0, .iconst 2, .bipush 16, .aload_n 0, .iload_n 2] 66 (by decide +kernel) rfl ?_
          refine z_cV hX m_X11_trainPlace l_X11_130 p_X11_trainPlace (c_X11_trainPlace hI.1.1 ⟨by omega, by omega⟩) rfl rfl rfl rfl rfl rfl (by decide +kernel) ?_
          have hz : -1 ≤ zonT c (t : Int) ∧ zonT c (t : Int) < 1000 := zfnd_zi _ _ _ _ (by omega)
          refine z_cV hX m_X11_refuses l_X11_63 p_X11_refuses c_X11_refuses rfl rfl rfl rfl rfl rfl (by decide +kernel) ?_
          exact z_iret hX hR (by decide +kernel) (Pm_ref (w := 16) (x := (zonT c (t : Int))) (by unfold aPack; rw [if_pos h1]; rw [if_pos h2]; (try simp only [Int.toNat_natCast]); rw [show (rPack c k t : zr) = some (16, (zonT c (t : Int))) from (by unfold rPack rPacked rLoaded rMore; rw [if_neg (by omega)]; rw [if_pos (by omega)]; (first | done | rfl | exact congrArg some (Prod.ext rfl (by dsimp only; omega))))]; rfl) hM (cd2_2 ne_UO_IB))
      · refine z_b hX fo_X11 [.aload_n 0, .iconst 2, .iconst 3, .aload_n 0, .iload_n 1, .iconst 4] 45 (by decide +kernel) rfl ?_
        refine z_cV hX m_X11_of l_X11_84 p_X11_of (c_of4 (k := k) (by omega)) rfl rfl rfl rfl rfl rfl (by decide +kernel) ?_
        refine z_cV hX m_X11_refuses l_X11_63 p_X11_refuses c_X11_refuses rfl rfl rfl rfl rfl rfl (by decide +kernel) ?_
        exact z_iret hX hR (by decide +kernel) (Pm_ref (w := 3) (x := (c (61 + k))) (by unfold aPack; rw [if_pos h1]; rw [if_pos h2]; (try simp only [Int.toNat_natCast]); rw [show (rPack c k t : zr) = some (3, (c (61 + k))) from (by unfold rPack rPacked rLoaded rMore;  rw [if_pos (by omega)]; (first | done | rfl | exact congrArg some (Prod.ext rfl (by dsimp only; omega))))]; rfl) hM (cd2_2 ne_UO_IB))
    · rw [if_neg h2]
      refine z_if_eq hX (off := 7) 21 (by decide +kernel) (by decide) ⟨by decide, by decide⟩ (fun c14 => ?_) (fun c14 => by exact absurd c14 (by decide))
      refine z_b hX fo_X11 [.iconst 1] 22 (by decide +kernel) rfl ?_
      refine z_cV hX m_X11_fails l_X11_59 p_X11_fails (c_fails1 ⟨by decide, by decide⟩) rfl rfl rfl rfl rfl rfl (by decide +kernel) ?_
      refine z_if_eq hX (off := 5) 30 (by decide +kernel) (by decide) ⟨by decide, by decide⟩ (fun c25 => by exact absurd c25 (by decide)) (fun c25 => ?_)
      refine z_b hX fo_X11 [.iconst 0] 29 (by decide +kernel) rfl ?_
      exact z_iret hX hR (by decide +kernel) (Pm_fail (e := eIB) (by unfold aPack; rw [if_pos h1]; rw [if_neg h2]; (try simp only [Int.toNat_natCast]); rfl) ne_IB_UO hM cd2_1)
  · rw [if_neg h1]
    refine z_if_eq hX (off := 15) 21 (by decide +kernel) (by decide) ⟨by decide, by decide⟩ (fun c6 => ?_) (fun c6 => by exact absurd c6 (by decide))
    refine z_b hX fo_X11 [.iconst 1] 22 (by decide +kernel) rfl ?_
    refine z_cV hX m_X11_fails l_X11_59 p_X11_fails (c_fails1 ⟨by decide, by decide⟩) rfl rfl rfl rfl rfl rfl (by decide +kernel) ?_
    refine z_if_eq hX (off := 5) 30 (by decide +kernel) (by decide) ⟨by decide, by decide⟩ (fun c25 => by exact absurd c25 (by decide)) (fun c25 => ?_)
    refine z_b hX fo_X11 [.iconst 0] 29 (by decide +kernel) rfl ?_
    exact z_iret hX hR (by decide +kernel) (Pm_fail (e := eIB) (by unfold aPack; rw [if_neg h1]; (try simp only [Int.toNat_natCast]); rfl) ne_IB_UO hM cd2_1)
set_option maxHeartbeats 1000000 in
theorem c_X11_packed {E : zE} {x y D : Int} {R : aQ} {σ : Nat → Nat → Int} {c : Nat → Int} {l : (Nat → Int64) × (Nat → UInt64)} {w : Bool} (hI : AI D c R) (hM : MR R σ) (hw : σ 32 6 = wi w) (h_x : zi x) (h_y : zi y) : Mb E yX11_packed (Cond.code yX11_packed cX11_packed 3 (Option.some FieldType.int)) 2 [vr 32, vi x, vi y] (σ) (c) (l) (aPacked c R x y) ((cd2 eIB eNS)) := by
  refine Ctr_of (own := RX11) (by decide +kernel) rfl rfl (fun Y hX hR hnx => ?_)
  have g8 := hI.1.1.coats
  have g9 := hI.1.1.acts
  have g10 := hI.1.1.women
  have g11 := hI.1.1.trunks
  have g12 := hI.1.1.loaded
  have g1 := hI.1.1.g1
  have g2 := hI.1.1.g2
  have g3 := hI.1.1.g3
  refine z_b hX fo_X11 [.aload_n 0, .aload_n 0, .iload_n 1] 3 (by decide +kernel) rfl ?_
  refine z_cV hX m_X11_isTrunk l_X11_127 p_X11_isTrunk (c_X11_isTrunk h_x ⟨by omega, by omega⟩) rfl rfl rfl rfl rfl rfl (by decide +kernel) ?_
  by_cases h1 : hT c x
  · rw [if_pos h1]
    obtain ⟨t, rfl⟩ : ∃ z : Nat, x = (z : Int) := ⟨x.toNat, by omega⟩
    refine z_if_ne hX (off := 7) 13 (by decide +kernel) (by decide) ⟨by decide, by decide⟩ (fun c6 => ?_) (fun c6 => by exact absurd c6 (by decide))
    refine z_b hX fo_X11 [.iload_n 2, .iconst 0, .aload_n 0, .iload_n 1] 17 (by decide +kernel) rfl ?_
    refine z_cV hX m_X11_packedIn l_X11_133 p_X11_packedIn (c_X11_packedIn (t := t) (by omega)) rfl rfl rfl rfl rfl rfl (by decide +kernel) ?_
    have gi := hI.1.1.intr (k := t) (by omega)
    refine z_b hX fo_X11 [.iconst 1, .isub] 22 (by decide +kernel) rfl ?_
    refine z_cS hX m_X11_in l_X11_55 p_X11_in (c_X11_in h_y ⟨by decide, by decide⟩ ⟨by omega, by omega⟩) rfl rfl rfl rfl (by decide +kernel) ?_
    by_cases h2 : 0 ≤ y ∧ y ≤ (c (121 + t) - 1)
    · rw [if_pos h2]
      refine z_if_eq hX (off := 7) 32 (by decide +kernel) (by decide) ⟨by decide, by decide⟩ (fun c25 => by exact absurd c25 (by decide)) (fun c25 => ?_)
      refine z_b hX fo_X11 [.iconst 0] 29 (by decide +kernel) rfl ?_
      refine z_goto hX (off := 4) 33 (by decide +kernel) (by decide) ?_
      refine z_cV hX m_X11_fails l_X11_59 p_X11_fails (c_fails0 rfl) rfl rfl rfl rfl rfl rfl (by decide +kernel) ?_
      refine z_if_eq hX (off := 7) 43 (by decide +kernel) (by decide) ⟨by decide, by decide⟩ (fun c36 => ?_) (fun c36 => by exact absurd c36 (by decide))
      obtain ⟨q, rfl⟩ : ∃ z : Nat, y = (z : Int) := ⟨y.toNat, by omega⟩
      refine z_b hX fo_X11 [.aload_n 0, .getfield 7, .bipush 121, .bipush 6, .iload_n 1, .imul, .iadd, .iconst 1, .iadd, .iload_n 2, .iadd] 58 (by decide +kernel) rfl ?_
      refine z_ig hX (v := c (129 + t * 5 + q)) (121 + 6 * t + 1 + q) (gpl (by omega) (by omega)) (by omega) (by omega) (by decide +kernel) ?_
      exact z_iret hX hR (by decide +kernel) (Pm_que (v := c (129 + t * 5 + q)) (by unfold aPacked; rw [if_pos h1]; (try simp only [Int.toNat_natCast]); rw [packed_y hI.1.1 (by omega) (by omega)]; (try simp only [Int.toNat_natCast]); rfl) rfl hM)
    · rw [if_neg h2]
      refine z_if_eq hX (off := 7) 32 (by decide +kernel) (by decide) ⟨by decide, by decide⟩ (fun c25 => ?_) (fun c25 => by exact absurd c25 (by decide))
      refine z_b hX fo_X11 [.iconst 2] 33 (by decide +kernel) rfl ?_
      refine z_cV hX m_X11_fails l_X11_59 p_X11_fails (c_fails1 ⟨by decide, by decide⟩) rfl rfl rfl rfl rfl rfl (by decide +kernel) ?_
      refine z_if_eq hX (off := 7) 43 (by decide +kernel) (by decide) ⟨by decide, by decide⟩ (fun c36 => by exact absurd c36 (by decide)) (fun c36 => ?_)
      refine z_b hX fo_X11 [.iconst 0] 40 (by decide +kernel) rfl ?_
      refine z_goto hX (off := 19) 59 (by decide +kernel) (by decide) ?_
      exact z_iret hX hR (by decide +kernel) (Pm_fail (e := eNS) (by unfold aPacked; rw [if_pos h1]; (try simp only [Int.toNat_natCast]); rw [packed_n (by omega)]; (try simp only [Int.toNat_natCast]); rfl) ne_NS_UO hM (cd2_2 ne_NS_IB))
  · rw [if_neg h1]
    refine z_if_ne hX (off := 7) 13 (by decide +kernel) (by decide) ⟨by decide, by decide⟩ (fun c6 => by exact absurd c6 (by decide)) (fun c6 => ?_)
    refine z_b hX fo_X11 [.iconst 1] 10 (by decide +kernel) rfl ?_
    refine z_goto hX (off := 23) 33 (by decide +kernel) (by decide) ?_
    refine z_cV hX m_X11_fails l_X11_59 p_X11_fails (c_fails1 ⟨by decide, by decide⟩) rfl rfl rfl rfl rfl rfl (by decide +kernel) ?_
    refine z_if_eq hX (off := 7) 43 (by decide +kernel) (by decide) ⟨by decide, by decide⟩ (fun c36 => by exact absurd c36 (by decide)) (fun c36 => ?_)
    refine z_b hX fo_X11 [.iconst 0] 40 (by decide +kernel) rfl ?_
    refine z_goto hX (off := 19) 59 (by decide +kernel) (by decide) ?_
    exact z_iret hX hR (by decide +kernel) (Pm_fail (e := eIB) (by unfold aPacked; rw [if_neg h1]; (try simp only [Int.toNat_natCast]); rfl) ne_IB_UO hM cd2_1)
set_option maxHeartbeats 1000000 in
theorem c_X11_load {E : zE} {x D : Int} {R : aQ} {σ : Nat → Nat → Int} {c : Nat → Int} {l : (Nat → Int64) × (Nat → UInt64)} {w : Bool} (hI : AI D c R) (hM : MR R σ) (hw : σ 32 6 = wi w) (h_x : zi x) : Mb E yX11_load (Cond.code yX11_load cX11_load 2 (Option.some FieldType.int)) 2 [vr 32, vi x] (σ) (c) (l) (aLoad w c R x) ((cd2 eIB eUO)) := by
  refine Ctr_of (own := RX11) (by decide +kernel) rfl rfl (fun Y hX hR hnx => ?_)
  have g8 := hI.1.1.coats
  have g9 := hI.1.1.acts
  have g10 := hI.1.1.women
  have g11 := hI.1.1.trunks
  have g12 := hI.1.1.loaded
  have g1 := hI.1.1.g1
  have g2 := hI.1.1.g2
  have g3 := hI.1.1.g3
  refine z_b hX fo_X11 [.aload_n 0, .aload_n 0, .iload_n 1] 3 (by decide +kernel) rfl ?_
  refine z_cV hX m_X11_isTrunk l_X11_127 p_X11_isTrunk (c_X11_isTrunk h_x ⟨by omega, by omega⟩) rfl rfl rfl rfl rfl rfl (by decide +kernel) ?_
  by_cases h1 : hT c x
  · rw [if_pos h1]
    obtain ⟨t, rfl⟩ : ∃ z : Nat, x = (z : Int) := ⟨x.toNat, by omega⟩
    refine z_if_eq hX (off := 7) 13 (by decide +kernel) (by decide) ⟨by decide, by decide⟩ (fun c6 => by exact absurd c6 (by decide)) (fun c6 => ?_)
    refine z_b hX fo_X11 [.iconst 0] 10 (by decide +kernel) rfl ?_
    refine z_goto hX (off := 4) 14 (by decide +kernel) (by decide) ?_
    refine z_cV hX m_X11_fails l_X11_59 p_X11_fails (c_fails0 rfl) rfl rfl rfl rfl rfl rfl (by decide +kernel) ?_
    refine z_if_eq hX (off := 5) 22 (by decide +kernel) (by decide) ⟨by decide, by decide⟩ (fun c17 => ?_) (fun c17 => by exact absurd c17 (by decide))
    refine z_b hX fo_X11 [.aload_n 0, .iload_n 1] 24 (by decide +kernel) rfl ?_
    refine z_cV hX m_X11_trainPlace l_X11_130 p_X11_trainPlace (c_X11_trainPlace hI.1.1 ⟨by omega, by omega⟩) rfl rfl rfl rfl rfl rfl (by decide +kernel) ?_
    have hz : -1 ≤ zonT c (t : Int) ∧ zonT c (t : Int) < 1000 := zfnd_zi _ _ _ _ (by omega)
    refine z_if_lt hX (off := 16) 43 (by decide +kernel) (by decide) ⟨by omega, by omega⟩ (fun c27 => ?_) (fun c27 => ?_)
    · refine z_b hX fo_X11 [.aload_n 0, .aload_n 0, .getfield 7] 48 (by decide +kernel) rfl ?_
      have hl9 : rLoaded c (t : Int) = none := by unfold rLoaded; rw [if_neg (by omega)]
      have q2 := rLoaded_n hI.1.1 hl9
      have h4 : c 12 ≠ 4 := fun z => by
        obtain ⟨p, p1, p2⟩ := hI.1.2.2.2.1.full hI.1.1 z (t := t) (by omega)
        exact q2 p (by omega) (by omega)
      obtain ⟨σ1, hkp, hM1, hc1, hF1⟩ := m_keep (E := E) (l := l) hI hM hw
      refine z_cV0 hX m_X11_keeps l_X11_67 p_X11_keeps hkp rfl rfl rfl rfl rfl rfl (by decide +kernel) ?_
      refine z_b hX fo_X11 [.aload_n 0, .getfield 7, .sipush 146, .aload_n 0, .getfield 7, .sipush 145] 65 (by decide +kernel) rfl ?_
      refine z_ig hX (v := c 12) (145) rfl (by omega) (by omega) (by decide +kernel) ?_
      refine z_b hX fo_X11 [.iadd, .iload_n 1] 68 (by decide +kernel) rfl ?_
      refine z_sg hX (146 + (c 12).toNat) (utn (by omega)) (by omega) (by omega) (by decide +kernel) ?_
      refine z_b hX fo_X11 [.aload_n 0, .getfield 7, .sipush 145, .dup2] 77 (by decide +kernel) rfl ?_
      refine z_ig hX (v := (va_up c (125 + (c 12).toNat) (t : Int)) 12) (145) rfl (by omega) (by omega) (by decide +kernel) ?_
      refine z_b hX fo_X11 [.iconst 1, .iadd] 80 (by decide +kernel) rfl ?_
      refine z_sg hX (145) (ulit (j := 12) (by decide) (by decide) rfl) (by omega) (by omega) (by decide +kernel) ?_
      refine z_b hX fo_X11 [.aload_n 0, .getfield 7, .sipush 145] 88 (by decide +kernel) rfl ?_
      refine z_ig hX (v := (va_up (va_up c (125 + (c 12).toNat) (t : Int)) 12 (((va_up c (125 + (c 12).toNat) (t : Int)) 12) + 1)) 12) (145) rfl (by omega) (by omega) (by decide +kernel) ?_
      exact z_iret hX hR (by decide +kernel) (Pm_ok (v := c 12 + 1) (c' := sLoad c t (c 12).toNat) (by unfold aLoad; rw [if_pos h1]; (try simp only [Int.toNat_natCast]); rw [show (rLoaded c (t : Int) : zr) = none from (by unfold rLoaded; rw [if_neg (by omega)]; (first | done | rfl))]; rfl) (by rw [va_e, if_pos rfl, vne (by omega)]) σ1 (congrArg (fun z => (zs σ1 33 (gm z), l)) rfl) hM1 hc1 hF1)
    · refine z_b hX fo_X11 [.aload_n 0, .iconst 2, .bipush 16, .aload_n 0, .iload_n 1] 36 (by decide +kernel) rfl ?_
      refine z_cV hX m_X11_trainPlace l_X11_130 p_X11_trainPlace (c_X11_trainPlace hI.1.1 ⟨by omega, by omega⟩) rfl rfl rfl rfl rfl rfl (by decide +kernel) ?_
      have hz : -1 ≤ zonT c (t : Int) ∧ zonT c (t : Int) < 1000 := zfnd_zi _ _ _ _ (by omega)
      refine z_cV hX m_X11_refuses l_X11_63 p_X11_refuses c_X11_refuses rfl rfl rfl rfl rfl rfl (by decide +kernel) ?_
      exact z_iret hX hR (by decide +kernel) (Pm_ref (w := 16) (x := (zonT c (t : Int))) (by unfold aLoad; rw [if_pos h1]; (try simp only [Int.toNat_natCast]); rw [show (rLoaded c (t : Int) : zr) = some (16, (zonT c (t : Int))) from (by unfold rLoaded;  rw [if_pos (by omega)]; (first | done | rfl | exact congrArg some (Prod.ext rfl (by dsimp only; omega))))]; rfl) hM (cd2_2 ne_UO_IB))
  · rw [if_neg h1]
    refine z_if_eq hX (off := 7) 13 (by decide +kernel) (by decide) ⟨by decide, by decide⟩ (fun c6 => ?_) (fun c6 => by exact absurd c6 (by decide))
    refine z_b hX fo_X11 [.iconst 1] 14 (by decide +kernel) rfl ?_
    refine z_cV hX m_X11_fails l_X11_59 p_X11_fails (c_fails1 ⟨by decide, by decide⟩) rfl rfl rfl rfl rfl rfl (by decide +kernel) ?_
    refine z_if_eq hX (off := 5) 22 (by decide +kernel) (by decide) ⟨by decide, by decide⟩ (fun c17 => by exact absurd c17 (by decide)) (fun c17 => ?_)
    refine z_b hX fo_X11 [.iconst 0] 21 (by decide +kernel) rfl ?_
    exact z_iret hX hR (by decide +kernel) (Pm_fail (e := eIB) (by unfold aLoad; rw [if_neg h1]; (try simp only [Int.toNat_natCast]); rfl) ne_IB_UO hM cd2_1)
set_option maxHeartbeats 1000000 in
theorem c_X11_onTrain {E : zE} {x D : Int} {R : aQ} {σ : Nat → Nat → Int} {c : Nat → Int} {l : (Nat → Int64) × (Nat → UInt64)} {w : Bool} (hI : AI D c R) (hM : MR R σ) (hw : σ 32 6 = wi w) (h_x : zi x) : Mb E yX11_onTrain (Cond.code yX11_onTrain cX11_onTrain 2 (Option.some FieldType.int)) 1 [vr 32, vi x] (σ) (c) (l) (aOnTrain c R x) ((cd1 eNS)) := by
  refine Ctr_of (own := RX11) (by decide +kernel) rfl rfl (fun Y hX hR hnx => ?_)
  have g8 := hI.1.1.coats
  have g9 := hI.1.1.acts
  have g10 := hI.1.1.women
  have g11 := hI.1.1.trunks
  have g12 := hI.1.1.loaded
  have g1 := hI.1.1.g1
  have g2 := hI.1.1.g2
  have g3 := hI.1.1.g3
  refine z_b hX fo_X11 [.aload_n 0, .iload_n 1, .iconst 0, .aload_n 0, .getfield 7, .sipush 145] 10 (by decide +kernel) rfl ?_
  refine z_ig hX (v := c 12) (145) rfl (by omega) (by omega) (by decide +kernel) ?_
  refine z_b hX fo_X11 [.iconst 1, .isub] 13 (by decide +kernel) rfl ?_
  refine z_cS hX m_X11_in l_X11_55 p_X11_in (c_X11_in h_x ⟨by decide, by decide⟩ ⟨by omega, by omega⟩) rfl rfl rfl rfl (by decide +kernel) ?_
  by_cases h1 : 0 ≤ x ∧ x ≤ (c 12 - 1)
  · rw [if_pos h1]
    refine z_if_eq hX (off := 7) 23 (by decide +kernel) (by decide) ⟨by decide, by decide⟩ (fun c16 => by exact absurd c16 (by decide)) (fun c16 => ?_)
    refine z_b hX fo_X11 [.iconst 0] 20 (by decide +kernel) rfl ?_
    refine z_goto hX (off := 4) 24 (by decide +kernel) (by decide) ?_
    refine z_cV hX m_X11_fails l_X11_59 p_X11_fails (c_fails0 rfl) rfl rfl rfl rfl rfl rfl (by decide +kernel) ?_
    refine z_if_eq hX (off := 7) 34 (by decide +kernel) (by decide) ⟨by decide, by decide⟩ (fun c27 => ?_) (fun c27 => by exact absurd c27 (by decide))
    obtain ⟨q, rfl⟩ : ∃ z : Nat, x = (z : Int) := ⟨x.toNat, by omega⟩
    refine z_b hX fo_X11 [.aload_n 0, .getfield 7, .sipush 146, .iload_n 1, .iadd] 43 (by decide +kernel) rfl ?_
    refine z_ig hX (v := c (125 + q)) (146 + q) (gtn (by omega)) (by omega) (by omega) (by decide +kernel) ?_
    exact z_iret hX hR (by decide +kernel) (Pm_que (v := c (125 + q)) (by unfold aOnTrain; (try simp only [Int.toNat_natCast]); rw [train_y hI.1.1 (by omega)]; (try simp only [Int.toNat_natCast]); rfl) rfl hM)
  · rw [if_neg h1]
    refine z_if_eq hX (off := 7) 23 (by decide +kernel) (by decide) ⟨by decide, by decide⟩ (fun c16 => ?_) (fun c16 => by exact absurd c16 (by decide))
    refine z_b hX fo_X11 [.iconst 1] 24 (by decide +kernel) rfl ?_
    refine z_cV hX m_X11_fails l_X11_59 p_X11_fails (c_fails1 ⟨by decide, by decide⟩) rfl rfl rfl rfl rfl rfl (by decide +kernel) ?_
    refine z_if_eq hX (off := 7) 34 (by decide +kernel) (by decide) ⟨by decide, by decide⟩ (fun c27 => by exact absurd c27 (by decide)) (fun c27 => ?_)
    refine z_b hX fo_X11 [.iconst 0] 31 (by decide +kernel) rfl ?_
    refine z_goto hX (off := 13) 44 (by decide +kernel) (by decide) ?_
    exact z_iret hX hR (by decide +kernel) (Pm_fail (e := eNS) (by unfold aOnTrain; (try simp only [Int.toNat_natCast]); rw [train_n (by omega)]; (try simp only [Int.toNat_natCast]); rfl) ne_NS_UO hM cd1_1)
set_option maxHeartbeats 1000000 in
theorem c_X11_unloads {E : zE} {x D : Int} {R : aQ} {σ : Nat → Nat → Int} {c : Nat → Int} {l : (Nat → Int64) × (Nat → UInt64)} {w : Bool} (hI : AI D c R) (hM : MR R σ) (hw : σ 32 6 = wi w) (h_x : zi x) : Mb E yX11_unloads (Cond.code yX11_unloads cX11_unloads 2 (Option.some FieldType.int)) 2 [vr 32, vi x] (σ) (c) (l) (aUnloads c R x) ((cd1 eIB)) := by
  refine Ctr_of (own := RX11) (by decide +kernel) rfl rfl (fun Y hX hR hnx => ?_)
  have g8 := hI.1.1.coats
  have g9 := hI.1.1.acts
  have g10 := hI.1.1.women
  have g11 := hI.1.1.trunks
  have g12 := hI.1.1.loaded
  have g1 := hI.1.1.g1
  have g2 := hI.1.1.g2
  have g3 := hI.1.1.g3
  refine z_b hX fo_X11 [.aload_n 0, .aload_n 0, .iload_n 1] 3 (by decide +kernel) rfl ?_
  refine z_cV hX m_X11_isCoat l_X11_81 p_X11_isCoat (c_X11_isCoat h_x ⟨by omega, by omega⟩) rfl rfl rfl rfl rfl rfl (by decide +kernel) ?_
  by_cases h1 : hC c x
  · rw [if_pos h1]
    obtain ⟨k, rfl⟩ : ∃ z : Nat, x = (z : Int) := ⟨x.toNat, by omega⟩
    refine z_if_eq hX (off := 7) 13 (by decide +kernel) (by decide) ⟨by decide, by decide⟩ (fun c6 => by exact absurd c6 (by decide)) (fun c6 => ?_)
    refine z_b hX fo_X11 [.iconst 0] 10 (by decide +kernel) rfl ?_
    refine z_goto hX (off := 4) 14 (by decide +kernel) (by decide) ?_
    refine z_cV hX m_X11_fails l_X11_59 p_X11_fails (c_fails0 rfl) rfl rfl rfl rfl rfl rfl (by decide +kernel) ?_
    refine z_if_ne hX (off := 12) 29 (by decide +kernel) (by decide) ⟨by decide, by decide⟩ (fun c17 => by exact absurd c17 (by decide)) (fun c17 => ?_)
    refine z_b hX fo_X11 [.aload_n 0, .iload_n 1, .iconst 4] 23 (by decide +kernel) rfl ?_
    refine z_cV hX m_X11_of l_X11_84 p_X11_of (c_of4 (k := k) (by omega)) rfl rfl rfl rfl rfl rfl (by decide +kernel) ?_
    have s0 := hI.1.1.tr (k := k) (by omega)
    have zn2 : c (61 + k) < 0 → zonT c (c (61 + k)) = -1 := fun h => by rw [show c (61 + k) = -1 by omega]; exact zonT_no hI.1
    refine z_if_ge hX (off := 7) 33 (by decide +kernel) (by decide) ⟨by omega, by omega⟩ (fun c26 => ?_) (fun c26 => ?_)
    · refine z_b hX fo_X11 [.aload_n 0, .aload_n 0, .iload_n 1, .iconst 4] 37 (by decide +kernel) rfl ?_
      refine z_cV hX m_X11_of l_X11_84 p_X11_of (c_of4 (k := k) (by omega)) rfl rfl rfl rfl rfl rfl (by decide +kernel) ?_
      refine z_cV hX m_X11_trainPlace l_X11_130 p_X11_trainPlace (c_X11_trainPlace hI.1.1 ⟨by omega, by omega⟩) rfl rfl rfl rfl rfl rfl (by decide +kernel) ?_
      refine z_b hX fo_X11 [.iconst 1, .iadd] 45 (by decide +kernel) rfl ?_
      exact z_iret hX hR (by decide +kernel) (Pm_que (v := 1 + zonT c (c (61 + k))) (by unfold aUnloads; rw [if_pos h1]; (try simp only [Int.toNat_natCast]); rfl) (by first | omega | (have := zn2 (by omega); omega)) hM)
    · refine z_b hX fo_X11 [.iconst 0] 30 (by decide +kernel) rfl ?_
      refine z_goto hX (off := 15) 45 (by decide +kernel) (by decide) ?_
      exact z_iret hX hR (by decide +kernel) (Pm_que (v := 1 + zonT c (c (61 + k))) (by unfold aUnloads; rw [if_pos h1]; (try simp only [Int.toNat_natCast]); rfl) (by first | omega | (have := zn2 (by omega); omega)) hM)
  · rw [if_neg h1]
    refine z_if_eq hX (off := 7) 13 (by decide +kernel) (by decide) ⟨by decide, by decide⟩ (fun c6 => ?_) (fun c6 => by exact absurd c6 (by decide))
    refine z_b hX fo_X11 [.iconst 1] 14 (by decide +kernel) rfl ?_
    refine z_cV hX m_X11_fails l_X11_59 p_X11_fails (c_fails1 ⟨by decide, by decide⟩) rfl rfl rfl rfl rfl rfl (by decide +kernel) ?_
    refine z_if_ne hX (off := 12) 29 (by decide +kernel) (by decide) ⟨by decide, by decide⟩ (fun c17 => ?_) (fun c17 => by exact absurd c17 (by decide))
    refine z_b hX fo_X11 [.iconst 0] 30 (by decide +kernel) rfl ?_
    refine z_goto hX (off := 15) 45 (by decide +kernel) (by decide) ?_
    exact z_iret hX hR (by decide +kernel) (Pm_fail (e := eIB) (by unfold aUnloads; rw [if_neg h1]; (try simp only [Int.toNat_natCast]); rfl) ne_IB_UO hM cd1_1)
