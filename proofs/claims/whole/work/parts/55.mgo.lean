/-! ===== the model: going on ===== -/
theorem rOpen_s {c : Nat → Int} {k a : Nat} (h : 0 ≤ zopn c k a) : rOpen c k a = some (14, zopn c k a) := by
  unfold rOpen rOpen0 rOpen1 rOpen2
  unfold zopn at h ⊢
  split
  · rfl
  · rename_i h1; rw [if_neg h1] at h
    split
    · rfl
    · rename_i h2; rw [if_neg h2] at h
      split
      · rfl
      · rename_i h3; rw [if_neg h3] at h; omega
theorem rOpen_n {c : Nat → Int} {k a : Nat} (h : zopn c k a < 0) : rOpen c k a = none := by
  have h2 := zopn_m h
  unfold rOpen rOpen0 rOpen1 rOpen2
  unfold zopen at h2
  rw [if_neg (by omega), if_neg (by omega), if_neg (by omega)]; rfl
theorem go_eq {c c1 : Nat → Int} {a k : Nat} (ha : a < 6) (hk : k < 12) (hd : c1 = sShow1 c a k) : va_up (va_up (va_up c1 (73 + k) (c1 (73 + k) + 1)) (103 + a) ((va_up c1 (73 + k) (c1 (73 + k) + 1)) (103 + a) + 1)) 7 ((va_up (va_up c1 (73 + k) (c1 (73 + k) + 1)) (103 + a) ((va_up c1 (73 + k) (c1 (73 + k) + 1)) (103 + a) + 1)) 7 + 1) = sShow2 c a k := by
  unfold sShow2
  rw [← hd]
  funext i
  simp only [ad, va_e]
  grind
set_option maxHeartbeats 1000000 in
theorem c_X11_goOn {E : zE} {x D : Int} {R : aQ} {σ : Nat → Nat → Int} {c : Nat → Int} {l : (Nat → Int64) × (Nat → UInt64)} {w : Bool} (hI : AI D c R) (hM : MR R σ) (hw : σ 32 6 = wi w) (h_x : zi x) : Mb E yX11_goOn (Cond.code yX11_goOn cX11_goOn 3 (Option.some FieldType.int)) 2 [vr 32, vi x] (σ) (c) (l) (aGoOn w c R x) ((cd2 eIB eUO)) := by
  refine Ctr_of (own := RX11) (by decide +kernel) rfl rfl (fun Y hX hR hnx => ?_)
  have g8 := hI.1.1.coats
  have g9 := hI.1.1.acts
  have g10 := hI.1.1.women
  have g11 := hI.1.1.trunks
  have g12 := hI.1.1.loaded
  have g1 := hI.1.1.g1
  have g2 := hI.1.1.g2
  have g3 := hI.1.1.g3
  refine z_b hX fo_X11 [.aload_n 0, .aload_n 0, .iload_n 1] 3 (by decide +kernel) rfl ?_
  refine z_cV hX m_X11_isAct l_X11_78 p_X11_isAct (c_X11_isAct h_x ⟨by omega, by omega⟩) rfl rfl rfl rfl rfl rfl (by decide +kernel) ?_
  by_cases h1 : hA c x
  · rw [if_pos h1]
    obtain ⟨a, rfl⟩ : ∃ z : Nat, x = (z : Int) := ⟨x.toNat, by omega⟩
    refine z_if_eq hX (off := 7) 13 (by decide +kernel) (by decide) ⟨by decide, by decide⟩ (fun c6 => by exact absurd c6 (by decide)) (fun c6 => ?_)
    refine z_b hX fo_X11 [.iconst 0] 10 (by decide +kernel) rfl ?_
    refine z_goto hX (off := 4) 14 (by decide +kernel) (by decide) ?_
    refine z_cV hX m_X11_fails l_X11_59 p_X11_fails (c_fails0 rfl) rfl rfl rfl rfl rfl rfl (by decide +kernel) ?_
    refine z_if_eq hX (off := 5) 22 (by decide +kernel) (by decide) ⟨by decide, by decide⟩ (fun c17 => ?_) (fun c17 => by exact absurd c17 (by decide))
    refine z_b hX fo_X11 [.aload_n 0, .iload_n 1, .iconst 2] 25 (by decide +kernel) rfl ?_
    refine z_cV hX m_X11_ofAct l_X11_88 p_X11_ofAct (c_ofAct2 (k := a) (by omega)) rfl rfl rfl rfl rfl rfl (by decide +kernel) ?_
    have ga := hI.1.1.acoat (k := a) (by omega)
    refine z_b hX fo_X11 [.istore_n 2, .iload_n 2] 30 (by decide +kernel) rfl ?_
    refine z_if_ge hX (off := 12) 42 (by decide +kernel) (by decide) ⟨by omega, by omega⟩ (fun c30 => ?_) (fun c30 => ?_)
    · obtain ⟨k, hk, j1, j2, j3⟩ := hI.1.2.1.2 a (by omega) (by omega) (by omega)
      rw [j1]
      have s0 := hI.1.1.tr (k := k) (by omega)
      have s1 := hI.1.1.rips (k := k) (by omega)
      have s3 := hI.1.1.size (k := k) (by omega)
      have s4 := hI.1.1.asize (k := a) (by omega)
      refine z_b hX fo_X11 [.aload_n 0, .iload_n 2, .iconst 4] 45 (by decide +kernel) rfl ?_
      refine z_cV hX m_X11_of l_X11_84 p_X11_of (c_of4 (k := k) (by omega)) rfl rfl rfl rfl rfl rfl (by decide +kernel) ?_
      refine z_if_lt hX (off := 16) 64 (by decide +kernel) (by decide) ⟨by omega, by omega⟩ (fun c48 => ?_) (fun c48 => ?_)
      · refine z_b hX fo_X11 [.aload_n 0, .iload_n 2, .iload_n 1] 67 (by decide +kernel) rfl ?_
        refine z_cV hX m_X11_opens l_X11_97 p_X11_opens (c_X11_opens hI.1.1 (by omega) (by omega)) rfl rfl rfl rfl rfl rfl (by decide +kernel) ?_
        have hz := @zopn_i c k a
        refine z_if_lt hX (off := 17) 87 (by decide +kernel) (by decide) ⟨by omega, by omega⟩ (fun c70 => ?_) (fun c70 => ?_)
        · refine z_b hX fo_X11 [.aload_n 0] 88 (by decide +kernel) rfl ?_
          refine z_cV hX m_X11_holes l_X11_119 p_X11_holes (c_X11_holes hI.1.1) rfl rfl rfl rfl rfl rfl (by decide +kernel) ?_
          have hh := hI.1.1.tornN 32 (by omega)
          refine z_b hX fo_X11 [.bipush 8] 93 (by decide +kernel) rfl ?_
          refine z_ic_le hX (off := 15) 108 (by decide +kernel) (by decide) ⟨by omega, by omega⟩ ⟨by omega, by omega⟩ (fun c93 => ?_) (fun c93 => ?_)
          · refine z_b hX fo_X11 [.aload_n 0, .aload_n 0, .getfield 7] 113 (by decide +kernel) rfl ?_
            obtain ⟨σ1, hkp, hM1, hc1, hF1⟩ := m_keep (E := E) (l := l) hI hM hw
            refine z_cV0 hX m_X11_keeps l_X11_67 p_X11_keeps hkp rfl rfl rfl rfl rfl rfl (by decide +kernel) ?_
            have hend : ∀ (c1 : Nat → Int), c1 = sShow1 c a k → Z (E, Y) 0 150 [(2, vi (k : Int)), (0, vr 32), (1, vi (a : Int))] [] (zs σ1 33 (gm c1), l) := by
              intro c1 hd
              refine z_b hX fo_X11 [.aload_n 0, .iload_n 2, .iconst 5, .aload_n 0, .iload_n 2, .iconst 5] 156 (by decide +kernel) rfl ?_
              refine z_cV hX m_X11_of l_X11_84 p_X11_of (c_of5 (k := k) (by omega)) rfl rfl rfl rfl rfl rfl (by decide +kernel) ?_
              refine z_b hX fo_X11 [.iconst 1, .iadd] 161 (by decide +kernel) rfl ?_
              refine z_cV0 hX m_X11_lays l_X11_71 p_X11_lays (c_lays5 (k := k) (by omega)) rfl rfl rfl rfl rfl rfl (by decide +kernel) ?_
              refine z_b hX fo_X11 [.aload_n 0, .iload_n 1, .iconst 3, .aload_n 0, .iload_n 1, .iconst 3] 170 (by decide +kernel) rfl ?_
              refine z_cV hX m_X11_ofAct l_X11_88 p_X11_ofAct (c_ofAct3 (k := a) (by omega)) rfl rfl rfl rfl rfl rfl (by decide +kernel) ?_
              refine z_b hX fo_X11 [.iconst 1, .iadd] 175 (by decide +kernel) rfl ?_
              refine z_cV0 hX m_X11_laysAct l_X11_75 p_X11_laysAct (c_laysAct3 (k := a) (by omega)) rfl rfl rfl rfl rfl rfl (by decide +kernel) ?_
              refine z_b hX fo_X11 [.aload_n 0, .getfield 7, .bipush 8, .dup2] 185 (by decide +kernel) rfl ?_
              refine z_ig hX (v := (va_up (va_up (c1) (73 + k) (((c1) (73 + k)) + 1)) (103 + a) (((va_up (c1) (73 + k) (((c1) (73 + k)) + 1)) (103 + a)) + 1)) 7) (8) rfl (by omega) (by omega) (by decide +kernel) ?_
              refine z_b hX fo_X11 [.iconst 1, .iadd] 188 (by decide +kernel) rfl ?_
              refine z_sg hX (8) (ulit (j := 7) (by decide) (by decide) rfl) (by omega) (by omega) (by decide +kernel) ?_
              refine z_b hX fo_X11 [.aload_n 0, .iload_n 2, .iconst 4] 192 (by decide +kernel) rfl ?_
              rw [go_eq (by omega) (by omega) hd]
              refine z_cV hX m_X11_loses l_X11_94 p_X11_loses (c_X11_loses (D := D) (hI.1.1.show2 (by omega) (by omega)) (by omega) ⟨by decide, by decide⟩) rfl rfl rfl rfl rfl rfl (by decide +kernel) ?_
              exact z_iret hX hR (by decide +kernel) (Pm_ok (v := sLoseV (sShow2 c a k) k 4) (c' := sShow c a k) (by unfold aGoOn; rw [if_pos h1]; (try simp only [Int.toNat_natCast]); rw [show (rGo c a : zr) = none from (by unfold rGo rNoCoat rPacked rTorn; rw [show (c (97 + a)).toNat = k by omega]; rw [if_neg (by omega)]; rw [if_neg (by omega)]; rw [rOpen_n (by omega)]; rw [if_neg (by omega)]; rfl)]; rw [show (c (97 + a)).toNat = k by omega]; rfl) (by unfold sLoseV ad; rw [vne (by omega)]) σ1 rfl hM1 hc1 hF1)
            refine z_b hX fo_X11 [.aload_n 0, .iload_n 2, .iconst 0] 119 (by decide +kernel) rfl ?_
            refine z_cV hX m_X11_of l_X11_84 p_X11_of (c_of0 (k := k) (by omega)) rfl rfl rfl rfl rfl rfl (by decide +kernel) ?_
            refine z_b hX fo_X11 [.aload_n 0, .iload_n 1, .iconst 0] 125 (by decide +kernel) rfl ?_
            refine z_cV hX m_X11_ofAct l_X11_88 p_X11_ofAct (c_ofAct0 (k := a) (by omega)) rfl rfl rfl rfl rfl rfl (by decide +kernel) ?_
            refine z_ic_ne hX (off := 22) 150 (by decide +kernel) (by decide) ⟨by omega, by omega⟩ ⟨by omega, by omega⟩ (fun c128 => ?_) (fun c128 => ?_)
            · exact z_lo [0, 1, 2] (hend _ (by unfold sShow1; first | (rw [if_neg (show ¬ c (13 + k) = c (85 + a) by omega)]; done) | (rw [if_pos (show c (13 + k) = c (85 + a) by omega)]; unfold sRip ad; congr 1; simp only [zmn]; split <;> split <;> omega))) rfl
            · refine z_b hX fo_X11 [.aload_n 0, .iload_n 2, .iconst 1, .bipush 9, .aload_n 0, .iload_n 2, .iconst 1] 139 (by decide +kernel) rfl ?_
              refine z_cV hX m_X11_of l_X11_84 p_X11_of (c_of1 (k := k) (by omega)) rfl rfl rfl rfl rfl rfl (by decide +kernel) ?_
              refine z_b hX fo_X11 [.iconst 1, .iadd] 144 (by decide +kernel) rfl ?_
              refine z_cS hX m_X11_less l_X11_91 p_X11_less (c_X11_less ⟨by decide, by decide⟩ ⟨by omega, by omega⟩) rfl rfl rfl rfl (by decide +kernel) ?_
              refine z_cV0 hX m_X11_lays l_X11_71 p_X11_lays (c_lays1 (k := k) (by omega)) rfl rfl rfl rfl rfl rfl (by decide +kernel) ?_
              exact z_lo [0, 1, 2] (hend _ (by unfold sShow1; first | (rw [if_neg (show ¬ c (13 + k) = c (85 + a) by omega)]; done) | (rw [if_pos (show c (13 + k) = c (85 + a) by omega)]; unfold sRip ad; congr 1; simp only [zmn]; split <;> split <;> omega))) rfl
          · refine z_b hX fo_X11 [.aload_n 0, .iconst 2, .bipush 15, .aload_n 0] 101 (by decide +kernel) rfl ?_
            refine z_cV hX m_X11_holes l_X11_119 p_X11_holes (c_X11_holes hI.1.1) rfl rfl rfl rfl rfl rfl (by decide +kernel) ?_
            have hh := hI.1.1.tornN 32 (by omega)
            refine z_cV hX m_X11_refuses l_X11_63 p_X11_refuses c_X11_refuses rfl rfl rfl rfl rfl rfl (by decide +kernel) ?_
            exact z_iret hX hR (by decide +kernel) (Pm_ref (w := 15) (x := (zsum c 149 32)) (by unfold aGoOn; rw [if_pos h1]; (try simp only [Int.toNat_natCast]); rw [show (rGo c a : zr) = some (15, (zsum c 149 32)) from (by unfold rGo rNoCoat rPacked rTorn; rw [show (c (97 + a)).toNat = k by omega]; rw [if_neg (by omega)]; rw [if_neg (by omega)]; rw [rOpen_n (by omega)]; rw [if_pos (by omega)]; rfl)]; rfl) hM (cd2_2 ne_UO_IB))
        · refine z_b hX fo_X11 [.aload_n 0, .iconst 2, .bipush 14, .aload_n 0, .iload_n 2, .iload_n 1] 80 (by decide +kernel) rfl ?_
          refine z_cV hX m_X11_opens l_X11_97 p_X11_opens (c_X11_opens hI.1.1 (by omega) (by omega)) rfl rfl rfl rfl rfl rfl (by decide +kernel) ?_
          have hz := @zopn_i c k a
          refine z_cV hX m_X11_refuses l_X11_63 p_X11_refuses c_X11_refuses rfl rfl rfl rfl rfl rfl (by decide +kernel) ?_
          exact z_iret hX hR (by decide +kernel) (Pm_ref (w := 14) (x := (zopn c k a)) (by unfold aGoOn; rw [if_pos h1]; (try simp only [Int.toNat_natCast]); rw [show (rGo c a : zr) = some (14, (zopn c k a)) from (by unfold rGo rNoCoat rPacked; rw [show (c (97 + a)).toNat = k by omega]; rw [if_neg (by omega)]; rw [if_neg (by omega)]; rw [rOpen_s (by omega)]; rfl)]; rfl) hM (cd2_2 ne_UO_IB))
      · refine z_b hX fo_X11 [.aload_n 0, .iconst 2, .iconst 3, .aload_n 0, .iload_n 2, .iconst 4] 57 (by decide +kernel) rfl ?_
        refine z_cV hX m_X11_of l_X11_84 p_X11_of (c_of4 (k := k) (by omega)) rfl rfl rfl rfl rfl rfl (by decide +kernel) ?_
        refine z_cV hX m_X11_refuses l_X11_63 p_X11_refuses c_X11_refuses rfl rfl rfl rfl rfl rfl (by decide +kernel) ?_
        exact z_iret hX hR (by decide +kernel) (Pm_ref (w := 3) (x := (c (61 + k))) (by unfold aGoOn; rw [if_pos h1]; (try simp only [Int.toNat_natCast]); rw [show (rGo c a : zr) = some (3, (c (61 + k))) from (by unfold rGo rNoCoat rPacked; rw [show (c (97 + a)).toNat = k by omega]; rw [if_neg (by omega)]; rw [if_pos (by omega)]; rfl)]; rfl) hM (cd2_2 ne_UO_IB))
    · refine z_b hX fo_X11 [.aload_n 0, .iconst 2, .bipush 13, .iload_n 1] 38 (by decide +kernel) rfl ?_
      refine z_cV hX m_X11_refuses l_X11_63 p_X11_refuses c_X11_refuses rfl rfl rfl rfl rfl rfl (by decide +kernel) ?_
      exact z_iret hX hR (by decide +kernel) (Pm_ref (w := 13) (x := (a : Int)) (by unfold aGoOn; rw [if_pos h1]; (try simp only [Int.toNat_natCast]); rw [show (rGo c a : zr) = some (13, (a : Int)) from (by unfold rGo rNoCoat; rw [if_pos (by omega)]; rfl)]; rfl) hM (cd2_2 ne_UO_IB))
  · rw [if_neg h1]
    refine z_if_eq hX (off := 7) 13 (by decide +kernel) (by decide) ⟨by decide, by decide⟩ (fun c6 => ?_) (fun c6 => by exact absurd c6 (by decide))
    refine z_b hX fo_X11 [.iconst 1] 14 (by decide +kernel) rfl ?_
    refine z_cV hX m_X11_fails l_X11_59 p_X11_fails (c_fails1 ⟨by decide, by decide⟩) rfl rfl rfl rfl rfl rfl (by decide +kernel) ?_
    refine z_if_eq hX (off := 5) 22 (by decide +kernel) (by decide) ⟨by decide, by decide⟩ (fun c17 => by exact absurd c17 (by decide)) (fun c17 => ?_)
    refine z_b hX fo_X11 [.iconst 0] 21 (by decide +kernel) rfl ?_
    exact z_iret hX hR (by decide +kernel) (Pm_fail (e := eIB) (by unfold aGoOn; rw [if_neg h1]; (try simp only [Int.toNat_natCast]); rfl) ne_IB_UO hM cd2_1)
