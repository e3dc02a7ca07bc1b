/-! ===== the model: coats and acts ===== -/
theorem glow {c : Nat → Int} {i : Nat} (h : i < 7) : gm c i = c i := by
  rw [gm_e (by omega) (by omega)]; congr 1; exact if_pos h
theorem ulow {c : Nat → Int} {i : Nat} {v : Int} (h : i < 7) : va_up (gm c) i v = gm (va_up c i v) := ulit (by omega) (by omega) (if_pos h)
def zopn (c : Nat → Int) (k a : Nat) : Int := if 0 < c (25 + k) then 0 else if 10 < c (37 + k) then 1 else if c (13 + k) < c (85 + a) then 2 else -1
theorem zopn_p {c : Nat → Int} {k a : Nat} (h : 0 ≤ zopn c k a) : zopen c k a := by
  unfold zopn at h; unfold zopen
  split at h
  · omega
  · split at h
    · omega
    · split at h <;> omega
theorem zopn_m {c : Nat → Int} {k a : Nat} (h : zopn c k a < 0) : ¬ zopen c k a := by
  unfold zopn at h; unfold zopen
  split at h
  · omega
  · split at h
    · omega
    · split at h <;> omega
theorem zopn_i {c : Nat → Int} {k a : Nat} : -1 ≤ zopn c k a ∧ zopn c k a ≤ 2 := by unfold zopn; split; omega; split; omega; split <;> omega
set_option maxHeartbeats 1000000 in
theorem c_X11_wear {E : zE} {x y D : Int} {R : aQ} {σ : Nat → Nat → Int} {c : Nat → Int} {l : (Nat → Int64) × (Nat → UInt64)} {w : Bool} (hI : AI D c R) (hM : MR R σ) (hw : σ 32 6 = wi w) (h_x : zi x) (h_y : zi y) : Mb E yX11_wear (Cond.code yX11_wear cX11_wear 5 (Option.some FieldType.int)) 2 [vr 32, vi x, vi y] (σ) (c) (l) (aWear w c R x y) ((cd2 eIB eUO)) := by
  refine Ctr_of (own := RX11) (by decide +kernel) rfl rfl (fun Y hX hR hnx => ?_)
  have g8 := hI.1.1.coats
  have g9 := hI.1.1.acts
  have g10 := hI.1.1.women
  have g11 := hI.1.1.trunks
  have g12 := hI.1.1.loaded
  have g1 := hI.1.1.g1
  have g2 := hI.1.1.g2
  have g3 := hI.1.1.g3
  refine z_b hX fo_X11 [.aload_n 0, .aload_n 0, .iload_n 1] 3 (by decide +kernel) rfl ?_
  refine z_cV hX m_X11_isAct l_X11_78 p_X11_isAct (c_X11_isAct h_x ⟨by omega, by omega⟩) rfl rfl rfl rfl rfl rfl (by decide +kernel) ?_
  by_cases h1 : hA c x
  · rw [if_pos h1]
    obtain ⟨a, rfl⟩ : ∃ z : Nat, x = (z : Int) := ⟨x.toNat, by omega⟩
    refine z_if_eq hX (off := 15) 21 (by decide +kernel) (by decide) ⟨by decide, by decide⟩ (fun c6 => by exact absurd c6 (by decide)) (fun c6 => ?_)
    refine z_b hX fo_X11 [.aload_n 0, .iload_n 2] 11 (by decide +kernel) rfl ?_
    refine z_cV hX m_X11_isCoat l_X11_81 p_X11_isCoat (c_X11_isCoat h_y ⟨by omega, by omega⟩) rfl rfl rfl rfl rfl rfl (by decide +kernel) ?_
    by_cases h2 : hC c y
    · rw [if_pos h2]
      obtain ⟨k, rfl⟩ : ∃ z : Nat, y = (z : Int) := ⟨y.toNat, by omega⟩
      refine z_if_eq hX (off := 7) 21 (by decide +kernel) (by decide) ⟨by decide, by decide⟩ (fun c14 => by exact absurd c14 (by decide)) (fun c14 => ?_)
      refine z_b hX fo_X11 [.iconst 0] 18 (by decide +kernel) rfl ?_
      refine z_goto hX (off := 4) 22 (by decide +kernel) (by decide) ?_
      refine z_cV hX m_X11_fails l_X11_59 p_X11_fails (c_fails0 rfl) rfl rfl rfl rfl rfl rfl (by decide +kernel) ?_
      refine z_if_eq hX (off := 5) 30 (by decide +kernel) (by decide) ⟨by decide, by decide⟩ (fun c25 => ?_) (fun c25 => by exact absurd c25 (by decide))
      refine z_b hX fo_X11 [.aload_n 0, .iload_n 2, .iconst 3] 33 (by decide +kernel) rfl ?_
      refine z_cV hX m_X11_of l_X11_84 p_X11_of (c_of3 (k := k) (by omega)) rfl rfl rfl rfl rfl rfl (by decide +kernel) ?_
      have go := hI.1.1.own (k := k) (by omega)
      refine z_b hX fo_X11 [.istore_n 3, .aload_n 0, .iload_n 1, .iconst 2] 40 (by decide +kernel) rfl ?_
      refine z_cV hX m_X11_ofAct l_X11_88 p_X11_ofAct (c_ofAct2 (k := a) (by omega)) rfl rfl rfl rfl rfl rfl (by decide +kernel) ?_
      have ga := hI.1.1.acoat (k := a) (by omega)
      refine z_b hX fo_X11 [.istore 4, .iload_n 3] 46 (by decide +kernel) rfl ?_
      refine z_if_lt hX (off := 16) 62 (by decide +kernel) (by decide) ⟨by omega, by omega⟩ (fun c46 => ?_) (fun c46 => ?_)
      · refine z_b hX fo_X11 [.aload_n 0, .aload_n 0, .getfield 7] 67 (by decide +kernel) rfl ?_
        obtain ⟨σ1, hkp, hM1, hc1, hF1⟩ := m_keep (E := E) (l := l) hI hM hw
        refine z_cV0 hX m_X11_keeps l_X11_67 p_X11_keeps hkp rfl rfl rfl rfl rfl rfl (by decide +kernel) ?_
        refine z_b hX fo_X11 [.iload 4] 72 (by decide +kernel) rfl ?_
        refine z_if_lt hX (off := 11) 83 (by decide +kernel) (by decide) ⟨by omega, by omega⟩ (fun c72 => ?_) (fun c72 => ?_)
        · refine z_b hX fo_X11 [.aload_n 0, .iload_n 2, .iconst 3, .iload_n 1] 87 (by decide +kernel) rfl ?_
          refine z_cV0 hX m_X11_lays l_X11_71 p_X11_lays (c_lays3 (k := k) (by omega)) rfl rfl rfl rfl rfl rfl (by decide +kernel) ?_
          refine z_b hX fo_X11 [.aload_n 0, .iload_n 1, .iconst 2, .iload_n 2] 94 (by decide +kernel) rfl ?_
          refine z_cV0 hX m_X11_laysAct l_X11_75 p_X11_laysAct (c_laysAct2 (k := a) (by omega)) rfl rfl rfl rfl rfl rfl (by decide +kernel) ?_
          refine z_b hX fo_X11 [.iload 4] 99 (by decide +kernel) rfl ?_
          exact z_iret hX hR (by decide +kernel) (Pm_ok (v := c (97 + a)) (c' := sGive c a k) (by unfold aWear; rw [if_pos h1]; rw [if_pos h2]; (try simp only [Int.toNat_natCast]); rw [show (rWear c (a : Int) k : zr) = none from (by unfold rWear zother; rw [if_neg (by omega)]; (first | done | rfl))]; rfl) (by first | rfl | exact hq | omega) σ1 (congrArg (fun z => (zs σ1 33 (gm z), l)) (by first | (unfold sGive; rw [if_pos (by omega), hq, Int.toNat_natCast]; exact va_comm (by omega)) | (unfold sGive; rw [if_neg (by omega)]; exact va_comm (by omega)))) hM1 hc1 hF1)
        · obtain ⟨q, hq⟩ : ∃ q : Nat, c (97 + a) = (q : Int) := ⟨(c (97 + a)).toNat, by omega⟩
          obtain ⟨j, hj, j1, j2, j3⟩ := hI.1.2.1.2 a (by omega) (by omega) (by omega)
          rw [hq]
          refine z_b hX fo_X11 [.aload_n 0, .iload 4, .iconst 3, .iconst (-1)] 80 (by decide +kernel) rfl ?_
          refine z_cV0 hX m_X11_lays l_X11_71 p_X11_lays (c_lays3 (k := q) (by omega)) rfl rfl rfl rfl rfl rfl (by decide +kernel) ?_
          refine z_b hX fo_X11 [.aload_n 0, .iload_n 2, .iconst 3, .iload_n 1] 87 (by decide +kernel) rfl ?_
          refine z_cV0 hX m_X11_lays l_X11_71 p_X11_lays (c_lays3 (k := k) (by omega)) rfl rfl rfl rfl rfl rfl (by decide +kernel) ?_
          refine z_b hX fo_X11 [.aload_n 0, .iload_n 1, .iconst 2, .iload_n 2] 94 (by decide +kernel) rfl ?_
          refine z_cV0 hX m_X11_laysAct l_X11_75 p_X11_laysAct (c_laysAct2 (k := a) (by omega)) rfl rfl rfl rfl rfl rfl (by decide +kernel) ?_
          refine z_b hX fo_X11 [.iload 4] 99 (by decide +kernel) rfl ?_
          exact z_iret hX hR (by decide +kernel) (Pm_ok (v := c (97 + a)) (c' := sGive c a k) (by unfold aWear; rw [if_pos h1]; rw [if_pos h2]; (try simp only [Int.toNat_natCast]); rw [show (rWear c (a : Int) k : zr) = none from (by unfold rWear zother; rw [if_neg (by omega)]; (first | done | rfl))]; rfl) (by first | rfl | exact hq | omega) σ1 (congrArg (fun z => (zs σ1 33 (gm z), l)) (by first | (unfold sGive; rw [if_pos (by omega), hq, Int.toNat_natCast]; exact va_comm (by omega)) | (unfold sGive; rw [if_neg (by omega)]; exact va_comm (by omega)))) hM1 hc1 hF1)
      · refine z_b hX fo_X11 [.iload_n 3, .iload_n 1] 51 (by decide +kernel) rfl ?_
        refine z_ic_eq hX (off := 11) 62 (by decide +kernel) (by decide) ⟨by omega, by omega⟩ ⟨by omega, by omega⟩ (fun c51 => ?_) (fun c51 => ?_)
        · refine z_b hX fo_X11 [.aload_n 0, .aload_n 0, .getfield 7] 67 (by decide +kernel) rfl ?_
          obtain ⟨σ1, hkp, hM1, hc1, hF1⟩ := m_keep (E := E) (l := l) hI hM hw
          refine z_cV0 hX m_X11_keeps l_X11_67 p_X11_keeps hkp rfl rfl rfl rfl rfl rfl (by decide +kernel) ?_
          refine z_b hX fo_X11 [.iload 4] 72 (by decide +kernel) rfl ?_
          refine z_if_lt hX (off := 11) 83 (by decide +kernel) (by decide) ⟨by omega, by omega⟩ (fun c72 => ?_) (fun c72 => ?_)
          · refine z_b hX fo_X11 [.aload_n 0, .iload_n 2, .iconst 3, .iload_n 1] 87 (by decide +kernel) rfl ?_
            refine z_cV0 hX m_X11_lays l_X11_71 p_X11_lays (c_lays3 (k := k) (by omega)) rfl rfl rfl rfl rfl rfl (by decide +kernel) ?_
            refine z_b hX fo_X11 [.aload_n 0, .iload_n 1, .iconst 2, .iload_n 2] 94 (by decide +kernel) rfl ?_
            refine z_cV0 hX m_X11_laysAct l_X11_75 p_X11_laysAct (c_laysAct2 (k := a) (by omega)) rfl rfl rfl rfl rfl rfl (by decide +kernel) ?_
            refine z_b hX fo_X11 [.iload 4] 99 (by decide +kernel) rfl ?_
            exact z_iret hX hR (by decide +kernel) (Pm_ok (v := c (97 + a)) (c' := sGive c a k) (by unfold aWear; rw [if_pos h1]; rw [if_pos h2]; (try simp only [Int.toNat_natCast]); rw [show (rWear c (a : Int) k : zr) = none from (by unfold rWear zother; rw [if_neg (by omega)]; (first | done | rfl))]; rfl) (by first | rfl | exact hq | omega) σ1 (congrArg (fun z => (zs σ1 33 (gm z), l)) (by first | (unfold sGive; rw [if_pos (by omega), hq, Int.toNat_natCast]; exact va_comm (by omega)) | (unfold sGive; rw [if_neg (by omega)]; exact va_comm (by omega)))) hM1 hc1 hF1)
          · obtain ⟨q, hq⟩ : ∃ q : Nat, c (97 + a) = (q : Int) := ⟨(c (97 + a)).toNat, by omega⟩
            obtain ⟨j, hj, j1, j2, j3⟩ := hI.1.2.1.2 a (by omega) (by omega) (by omega)
            rw [hq]
            refine z_b hX fo_X11 [.aload_n 0, .iload 4, .iconst 3, .iconst (-1)] 80 (by decide +kernel) rfl ?_
            refine z_cV0 hX m_X11_lays l_X11_71 p_X11_lays (c_lays3 (k := q) (by omega)) rfl rfl rfl rfl rfl rfl (by decide +kernel) ?_
            refine z_b hX fo_X11 [.aload_n 0, .iload_n 2, .iconst 3, .iload_n 1] 87 (by decide +kernel) rfl ?_
            refine z_cV0 hX m_X11_lays l_X11_71 p_X11_lays (c_lays3 (k := k) (by omega)) rfl rfl rfl rfl rfl rfl (by decide +kernel) ?_
            refine z_b hX fo_X11 [.aload_n 0, .iload_n 1, .iconst 2, .iload_n 2] 94 (by decide +kernel) rfl ?_
            refine z_cV0 hX m_X11_laysAct l_X11_75 p_X11_laysAct (c_laysAct2 (k := a) (by omega)) rfl rfl rfl rfl rfl rfl (by decide +kernel) ?_
            refine z_b hX fo_X11 [.iload 4] 99 (by decide +kernel) rfl ?_
            exact z_iret hX hR (by decide +kernel) (Pm_ok (v := c (97 + a)) (c' := sGive c a k) (by unfold aWear; rw [if_pos h1]; rw [if_pos h2]; (try simp only [Int.toNat_natCast]); rw [show (rWear c (a : Int) k : zr) = none from (by unfold rWear zother; rw [if_neg (by omega)]; (first | done | rfl))]; rfl) (by first | rfl | exact hq | omega) σ1 (congrArg (fun z => (zs σ1 33 (gm z), l)) (by first | (unfold sGive; rw [if_pos (by omega), hq, Int.toNat_natCast]; exact va_comm (by omega)) | (unfold sGive; rw [if_neg (by omega)]; exact va_comm (by omega)))) hM1 hc1 hF1)
        · refine z_b hX fo_X11 [.aload_n 0, .iconst 2, .iconst 2, .iload_n 3] 58 (by decide +kernel) rfl ?_
          refine z_cV hX m_X11_refuses l_X11_63 p_X11_refuses c_X11_refuses rfl rfl rfl rfl rfl rfl (by decide +kernel) ?_
          exact z_iret hX hR (by decide +kernel) (Pm_ref (w := 2) (x := (c (49 + k))) (by unfold aWear; rw [if_pos h1]; rw [if_pos h2]; (try simp only [Int.toNat_natCast]); rw [show (rWear c (a : Int) k : zr) = some (2, (c (49 + k))) from (by unfold rWear zother;  rw [if_pos (by omega)]; (first | done | rfl | exact congrArg some (Prod.ext rfl (by dsimp only; omega))))]; rfl) hM (cd2_2 ne_UO_IB))
    · rw [if_neg h2]
      refine z_if_eq hX (off := 7) 21 (by decide +kernel) (by decide) ⟨by decide, by decide⟩ (fun c14 => ?_) (fun c14 => by exact absurd c14 (by decide))
      refine z_b hX fo_X11 [.iconst 1] 22 (by decide +kernel) rfl ?_
      refine z_cV hX m_X11_fails l_X11_59 p_X11_fails (c_fails1 ⟨by decide, by decide⟩) rfl rfl rfl rfl rfl rfl (by decide +kernel) ?_
      refine z_if_eq hX (off := 5) 30 (by decide +kernel) (by decide) ⟨by decide, by decide⟩ (fun c25 => by exact absurd c25 (by decide)) (fun c25 => ?_)
      refine z_b hX fo_X11 [.iconst 0] 29 (by decide +kernel) rfl ?_
      exact z_iret hX hR (by decide +kernel) (Pm_fail (e := eIB) (by unfold aWear; rw [if_pos h1]; rw [if_neg h2]; (try simp only [Int.toNat_natCast]); rfl) ne_IB_UO hM cd2_1)
  · rw [if_neg h1]
    refine z_if_eq hX (off := 15) 21 (by decide +kernel) (by decide) ⟨by decide, by decide⟩ (fun c6 => ?_) (fun c6 => by exact absurd c6 (by decide))
    refine z_b hX fo_X11 [.iconst 1] 22 (by decide +kernel) rfl ?_
    refine z_cV hX m_X11_fails l_X11_59 p_X11_fails (c_fails1 ⟨by decide, by decide⟩) rfl rfl rfl rfl rfl rfl (by decide +kernel) ?_
    refine z_if_eq hX (off := 5) 30 (by decide +kernel) (by decide) ⟨by decide, by decide⟩ (fun c25 => by exact absurd c25 (by decide)) (fun c25 => ?_)
    refine z_b hX fo_X11 [.iconst 0] 29 (by decide +kernel) rfl ?_
    exact z_iret hX hR (by decide +kernel) (Pm_fail (e := eIB) (by unfold aWear; rw [if_neg h1]; (try simp only [Int.toNat_natCast]); rfl) ne_IB_UO hM cd2_1)
set_option maxHeartbeats 1000000 in
theorem c_X11_rip {E : zE} {x y D : Int} {R : aQ} {σ : Nat → Nat → Int} {c : Nat → Int} {l : (Nat → Int64) × (Nat → UInt64)} {w : Bool} (hI : AI D c R) (hM : MR R σ) (hw : σ 32 6 = wi w) (h_x : zi x) (h_y : zi y) : Mb E yX11_rip (Cond.code yX11_rip cX11_rip 3 (Option.some FieldType.int)) 2 [vr 32, vi x, vi y] (σ) (c) (l) (aRip w c R x y) ((cd2 eIB eIA)) := by
  refine Ctr_of (own := RX11) (by decide +kernel) rfl rfl (fun Y hX hR hnx => ?_)
  have g8 := hI.1.1.coats
  have g9 := hI.1.1.acts
  have g10 := hI.1.1.women
  have g11 := hI.1.1.trunks
  have g12 := hI.1.1.loaded
  have g1 := hI.1.1.g1
  have g2 := hI.1.1.g2
  have g3 := hI.1.1.g3
  refine z_b hX fo_X11 [.aload_n 0, .aload_n 0, .iload_n 1] 3 (by decide +kernel) rfl ?_
  refine z_cV hX m_X11_isCoat l_X11_81 p_X11_isCoat (c_X11_isCoat h_x ⟨by omega, by omega⟩) rfl rfl rfl rfl rfl rfl (by decide +kernel) ?_
  by_cases h1 : hC c x
  · rw [if_pos h1]
    obtain ⟨k, rfl⟩ : ∃ z : Nat, x = (z : Int) := ⟨x.toNat, by omega⟩
    refine z_if_ne hX (off := 7) 13 (by decide +kernel) (by decide) ⟨by decide, by decide⟩ (fun c6 => ?_) (fun c6 => by exact absurd c6 (by decide))
    refine z_b hX fo_X11 [.iload_n 2, .iconst 1, .bipush 9] 17 (by decide +kernel) rfl ?_
    refine z_cS hX m_X11_in l_X11_55 p_X11_in (c_X11_in h_y ⟨by decide, by decide⟩ ⟨by decide, by decide⟩) rfl rfl rfl rfl (by decide +kernel) ?_
    by_cases h2 : 1 ≤ y ∧ y ≤ 9
    · rw [if_pos h2]
      refine z_if_eq hX (off := 7) 27 (by decide +kernel) (by decide) ⟨by decide, by decide⟩ (fun c20 => by exact absurd c20 (by decide)) (fun c20 => ?_)
      refine z_b hX fo_X11 [.iconst 0] 24 (by decide +kernel) rfl ?_
      refine z_goto hX (off := 4) 28 (by decide +kernel) (by decide) ?_
      refine z_cV hX m_X11_fails l_X11_59 p_X11_fails (c_fails0 rfl) rfl rfl rfl rfl rfl rfl (by decide +kernel) ?_
      refine z_if_eq hX (off := 5) 36 (by decide +kernel) (by decide) ⟨by decide, by decide⟩ (fun c31 => ?_) (fun c31 => by exact absurd c31 (by decide))
      refine z_b hX fo_X11 [.aload_n 0, .aload_n 0, .getfield 7] 41 (by decide +kernel) rfl ?_
      obtain ⟨σ1, hkp, hM1, hc1, hF1⟩ := m_keep (E := E) (l := l) hI hM hw
      refine z_cV0 hX m_X11_keeps l_X11_67 p_X11_keeps hkp rfl rfl rfl rfl rfl rfl (by decide +kernel) ?_
      refine z_b hX fo_X11 [.aload_n 0, .iload_n 1, .iconst 1, .bipush 9, .aload_n 0, .iload_n 1, .iconst 1] 52 (by decide +kernel) rfl ?_
      refine z_cV hX m_X11_of l_X11_84 p_X11_of (c_of1 (k := k) (by omega)) rfl rfl rfl rfl rfl rfl (by decide +kernel) ?_
      have gr := hI.1.1.rips (k := k) (by omega)
      refine z_b hX fo_X11 [.iload_n 2, .iadd] 57 (by decide +kernel) rfl ?_
      refine z_cS hX m_X11_less l_X11_91 p_X11_less (c_X11_less ⟨by decide, by decide⟩ ⟨by omega, by omega⟩) rfl rfl rfl rfl (by decide +kernel) ?_
      refine z_cV0 hX m_X11_lays l_X11_71 p_X11_lays (c_lays1 (k := k) (by omega)) rfl rfl rfl rfl rfl rfl (by decide +kernel) ?_
      refine z_b hX fo_X11 [.aload_n 0, .iload_n 1, .iconst 1] 66 (by decide +kernel) rfl ?_
      refine z_cV hX m_X11_of l_X11_84 p_X11_of (c_of1 (k := k) (by omega)) rfl rfl rfl rfl rfl rfl (by decide +kernel) ?_
      exact z_iret hX hR (by decide +kernel) (Pm_ok (v := c (25 + k) + zmn y (9 - c (25 + k))) (c' := sRip c k y) (by unfold aRip; rw [if_pos h1]; rw [if_pos h2]; (try simp only [Int.toNat_natCast]); rfl) (by rw [va_e, if_pos rfl]; simp only [zmn]; split <;> split <;> omega) σ1 (congrArg (fun z => (zs σ1 33 (gm z), l)) (by unfold sRip ad; congr 1; simp only [zmn]; split <;> split <;> omega)) hM1 hc1 hF1)
    · rw [if_neg h2]
      refine z_if_eq hX (off := 7) 27 (by decide +kernel) (by decide) ⟨by decide, by decide⟩ (fun c20 => ?_) (fun c20 => by exact absurd c20 (by decide))
      refine z_b hX fo_X11 [.iconst 2] 28 (by decide +kernel) rfl ?_
      refine z_cV hX m_X11_fails l_X11_59 p_X11_fails (c_fails1 ⟨by decide, by decide⟩) rfl rfl rfl rfl rfl rfl (by decide +kernel) ?_
      refine z_if_eq hX (off := 5) 36 (by decide +kernel) (by decide) ⟨by decide, by decide⟩ (fun c31 => by exact absurd c31 (by decide)) (fun c31 => ?_)
      refine z_b hX fo_X11 [.iconst 0] 35 (by decide +kernel) rfl ?_
      exact z_iret hX hR (by decide +kernel) (Pm_fail (e := eIA) (by unfold aRip; rw [if_pos h1]; rw [if_neg h2]; (try simp only [Int.toNat_natCast]); rfl) ne_IA_UO hM (cd2_2 ne_IA_IB))
  · rw [if_neg h1]
    refine z_if_ne hX (off := 7) 13 (by decide +kernel) (by decide) ⟨by decide, by decide⟩ (fun c6 => by exact absurd c6 (by decide)) (fun c6 => ?_)
    refine z_b hX fo_X11 [.iconst 1] 10 (by decide +kernel) rfl ?_
    refine z_goto hX (off := 18) 28 (by decide +kernel) (by decide) ?_
    refine z_cV hX m_X11_fails l_X11_59 p_X11_fails (c_fails1 ⟨by decide, by decide⟩) rfl rfl rfl rfl rfl rfl (by decide +kernel) ?_
    refine z_if_eq hX (off := 5) 36 (by decide +kernel) (by decide) ⟨by decide, by decide⟩ (fun c31 => by exact absurd c31 (by decide)) (fun c31 => ?_)
    refine z_b hX fo_X11 [.iconst 0] 35 (by decide +kernel) rfl ?_
    exact z_iret hX hR (by decide +kernel) (Pm_fail (e := eIB) (by unfold aRip; rw [if_neg h1]; (try simp only [Int.toNat_natCast]); rfl) ne_IB_UO hM cd2_1)
set_option maxHeartbeats 1000000 in
theorem c_X11_loses {E : zE} {k : Nat} {n D : Int} {σ : Nat → Nat → Int} {c : Nat → Int} {l : (Nat → Int64) × (Nat → UInt64)} (hg : Rg D c) (hk : k < 12) (hn : 0 ≤ n ∧ n ≤ 60) : Rv E yX11_loses (Cond.code yX11_loses cX11_loses 4 (Option.some FieldType.int)) 1 [vr 32, vi (k : Int), vi n] ((zs σ 33 (gm c), l)) (vi (c (37 + k) + zmn n (60 - c (37 + k)))) ((zs σ 33 (gm (sLose c k n)), l)) := by
  refine Ctr_of (own := RX11) (by decide +kernel) rfl rfl (fun Y hX hR hnx => ?_)
  have gm9 := hg.miss hk
  refine z_b hX fo_X11 [.bipush 60, .aload_n 0, .iload_n 1, .iconst 2] 5 (by decide +kernel) rfl ?_
  refine z_cV hX m_X11_of l_X11_84 p_X11_of (c_of2 (k := k) (by omega)) rfl rfl rfl rfl rfl rfl (by decide +kernel) ?_
  refine z_b hX fo_X11 [.iload_n 2, .iadd] 10 (by decide +kernel) rfl ?_
  refine z_cS hX m_X11_less l_X11_91 p_X11_less (c_X11_less ⟨by decide, by decide⟩ ⟨by omega, by omega⟩) rfl rfl rfl rfl (by decide +kernel) ?_
  have e : (if 60 < c (37 + k) + n then 60 else c (37 + k) + n) = c (37 + k) + zmn n (60 - c (37 + k)) := by simp only [zmn]; split <;> split <;> omega
  rw [e]
  refine z_b hX fo_X11 [.istore_n 3, .aload_n 0, .getfield 7, .iconst 5, .dup2] 20 (by decide +kernel) rfl ?_
  refine z_ig hX (v := c 5) (5) rfl (by omega) (by omega) (by decide +kernel) ?_
  refine z_b hX fo_X11 [.iload_n 3, .aload_n 0, .iload_n 1, .iconst 2] 25 (by decide +kernel) rfl ?_
  refine z_cV hX m_X11_of l_X11_84 p_X11_of (c_of2 (k := k) (by omega)) rfl rfl rfl rfl rfl rfl (by decide +kernel) ?_
  refine z_b hX fo_X11 [.isub, .iadd] 30 (by decide +kernel) rfl ?_
  refine z_sg hX (5) (ulit (j := 5) (by decide) (by decide) rfl) (by omega) (by omega) (by decide +kernel) ?_
  refine z_b hX fo_X11 [.aload_n 0, .iload_n 1, .iconst 2, .iload_n 3] 35 (by decide +kernel) rfl ?_
  refine z_cV0 hX m_X11_lays l_X11_71 p_X11_lays (c_lays2 (k := k) (by omega)) rfl rfl rfl rfl rfl rfl (by decide +kernel) ?_
  refine z_b hX fo_X11 [.iload_n 3] 39 (by decide +kernel) rfl ?_
  exact z_iret hX hR (by decide +kernel) ⟨rfl, congrArg (fun z => (zs σ 33 (gm z), l)) (by unfold sLose ad; rw [show c 5 + (c (37 + k) + zmn n (60 - c (37 + k)) - c (37 + k)) = c 5 + zmn n (60 - c (37 + k)) by omega, vne (show 37 + k ≠ 5 by omega)])⟩
set_option maxHeartbeats 1000000 in
theorem c_X11_lose {E : zE} {x y D : Int} {R : aQ} {σ : Nat → Nat → Int} {c : Nat → Int} {l : (Nat → Int64) × (Nat → UInt64)} {w : Bool} (hI : AI D c R) (hM : MR R σ) (hw : σ 32 6 = wi w) (h_x : zi x) (h_y : zi y) : Mb E yX11_lose (Cond.code yX11_lose cX11_lose 3 (Option.some FieldType.int)) 2 [vr 32, vi x, vi y] (σ) (c) (l) (aLose w c R x y) ((cd2 eIB eIA)) := by
  refine Ctr_of (own := RX11) (by decide +kernel) rfl rfl (fun Y hX hR hnx => ?_)
  have g8 := hI.1.1.coats
  have g9 := hI.1.1.acts
  have g10 := hI.1.1.women
  have g11 := hI.1.1.trunks
  have g12 := hI.1.1.loaded
  have g1 := hI.1.1.g1
  have g2 := hI.1.1.g2
  have g3 := hI.1.1.g3
  refine z_b hX fo_X11 [.aload_n 0, .aload_n 0, .iload_n 1] 3 (by decide +kernel) rfl ?_
  refine z_cV hX m_X11_isCoat l_X11_81 p_X11_isCoat (c_X11_isCoat h_x ⟨by omega, by omega⟩) rfl rfl rfl rfl rfl rfl (by decide +kernel) ?_
  by_cases h1 : hC c x
  · rw [if_pos h1]
    obtain ⟨k, rfl⟩ : ∃ z : Nat, x = (z : Int) := ⟨x.toNat, by omega⟩
    refine z_if_ne hX (off := 7) 13 (by decide +kernel) (by decide) ⟨by decide, by decide⟩ (fun c6 => ?_) (fun c6 => by exact absurd c6 (by decide))
    refine z_b hX fo_X11 [.iload_n 2, .iconst 1, .bipush 60] 17 (by decide +kernel) rfl ?_
    refine z_cS hX m_X11_in l_X11_55 p_X11_in (c_X11_in h_y ⟨by decide, by decide⟩ ⟨by decide, by decide⟩) rfl rfl rfl rfl (by decide +kernel) ?_
    by_cases h2 : 1 ≤ y ∧ y ≤ 60
    · rw [if_pos h2]
      refine z_if_eq hX (off := 7) 27 (by decide +kernel) (by decide) ⟨by decide, by decide⟩ (fun c20 => by exact absurd c20 (by decide)) (fun c20 => ?_)
      refine z_b hX fo_X11 [.iconst 0] 24 (by decide +kernel) rfl ?_
      refine z_goto hX (off := 4) 28 (by decide +kernel) (by decide) ?_
      refine z_cV hX m_X11_fails l_X11_59 p_X11_fails (c_fails0 rfl) rfl rfl rfl rfl rfl rfl (by decide +kernel) ?_
      refine z_if_eq hX (off := 5) 36 (by decide +kernel) (by decide) ⟨by decide, by decide⟩ (fun c31 => ?_) (fun c31 => by exact absurd c31 (by decide))
      refine z_b hX fo_X11 [.aload_n 0, .aload_n 0, .getfield 7] 41 (by decide +kernel) rfl ?_
      obtain ⟨σ1, hkp, hM1, hc1, hF1⟩ := m_keep (E := E) (l := l) hI hM hw
      refine z_cV0 hX m_X11_keeps l_X11_67 p_X11_keeps hkp rfl rfl rfl rfl rfl rfl (by decide +kernel) ?_
      refine z_b hX fo_X11 [.aload_n 0, .iload_n 1, .iload_n 2] 47 (by decide +kernel) rfl ?_
      refine z_cV hX m_X11_loses l_X11_94 p_X11_loses (c_X11_loses hI.1.1 (by omega) ⟨by omega, by omega⟩) rfl rfl rfl rfl rfl rfl (by decide +kernel) ?_
      exact z_iret hX hR (by decide +kernel) (Pm_ok (v := c (37 + k) + zmn y (60 - c (37 + k))) (c' := sLose c k y) (by unfold aLose; rw [if_pos h1]; rw [if_pos h2]; (try simp only [Int.toNat_natCast]); rfl) rfl σ1 (congrArg (fun z => (zs σ1 33 (gm z), l)) rfl) hM1 hc1 hF1)
    · rw [if_neg h2]
      refine z_if_eq hX (off := 7) 27 (by decide +kernel) (by decide) ⟨by decide, by decide⟩ (fun c20 => ?_) (fun c20 => by exact absurd c20 (by decide))
      refine z_b hX fo_X11 [.iconst 2] 28 (by decide +kernel) rfl ?_
      refine z_cV hX m_X11_fails l_X11_59 p_X11_fails (c_fails1 ⟨by decide, by decide⟩) rfl rfl rfl rfl rfl rfl (by decide +kernel) ?_
      refine z_if_eq hX (off := 5) 36 (by decide +kernel) (by decide) ⟨by decide, by decide⟩ (fun c31 => by exact absurd c31 (by decide)) (fun c31 => ?_)
      refine z_b hX fo_X11 [.iconst 0] 35 (by decide +kernel) rfl ?_
      exact z_iret hX hR (by decide +kernel) (Pm_fail (e := eIA) (by unfold aLose; rw [if_pos h1]; rw [if_neg h2]; (try simp only [Int.toNat_natCast]); rfl) ne_IA_UO hM (cd2_2 ne_IA_IB))
  · rw [if_neg h1]
    refine z_if_ne hX (off := 7) 13 (by decide +kernel) (by decide) ⟨by decide, by decide⟩ (fun c6 => by exact absurd c6 (by decide)) (fun c6 => ?_)
    refine z_b hX fo_X11 [.iconst 1] 10 (by decide +kernel) rfl ?_
    refine z_goto hX (off := 18) 28 (by decide +kernel) (by decide) ?_
    refine z_cV hX m_X11_fails l_X11_59 p_X11_fails (c_fails1 ⟨by decide, by decide⟩) rfl rfl rfl rfl rfl rfl (by decide +kernel) ?_
    refine z_if_eq hX (off := 5) 36 (by decide +kernel) (by decide) ⟨by decide, by decide⟩ (fun c31 => by exact absurd c31 (by decide)) (fun c31 => ?_)
    refine z_b hX fo_X11 [.iconst 0] 35 (by decide +kernel) rfl ?_
    exact z_iret hX hR (by decide +kernel) (Pm_fail (e := eIB) (by unfold aLose; rw [if_neg h1]; (try simp only [Int.toNat_natCast]); rfl) ne_IB_UO hM cd2_1)
set_option maxHeartbeats 1000000 in
theorem c_X11_coatOf {E : zE} {x y D : Int} {R : aQ} {σ : Nat → Nat → Int} {c : Nat → Int} {l : (Nat → Int64) × (Nat → UInt64)} {w : Bool} (hI : AI D c R) (hM : MR R σ) (hw : σ 32 6 = wi w) (h_x : zi x) (h_y : zi y) : Mb E yX11_coatOf (Cond.code yX11_coatOf cX11_coatOf 3 (Option.some FieldType.int)) 2 [vr 32, vi x, vi y] (σ) (c) (l) (aCoatOf c R x y) ((cd2 eIB eIA)) := by
  refine Ctr_of (own := RX11) (by decide +kernel) rfl rfl (fun Y hX hR hnx => ?_)
  have g8 := hI.1.1.coats
  have g9 := hI.1.1.acts
  have g10 := hI.1.1.women
  have g11 := hI.1.1.trunks
  have g12 := hI.1.1.loaded
  have g1 := hI.1.1.g1
  have g2 := hI.1.1.g2
  have g3 := hI.1.1.g3
  refine z_b hX fo_X11 [.aload_n 0, .aload_n 0, .iload_n 1] 3 (by decide +kernel) rfl ?_
  refine z_cV hX m_X11_isCoat l_X11_81 p_X11_isCoat (c_X11_isCoat h_x ⟨by omega, by omega⟩) rfl rfl rfl rfl rfl rfl (by decide +kernel) ?_
  by_cases h1 : hC c x
  · rw [if_pos h1]
    obtain ⟨k, rfl⟩ : ∃ z : Nat, x = (z : Int) := ⟨x.toNat, by omega⟩
    refine z_if_ne hX (off := 7) 13 (by decide +kernel) (by decide) ⟨by decide, by decide⟩ (fun c6 => ?_) (fun c6 => by exact absurd c6 (by decide))
    refine z_b hX fo_X11 [.iload_n 2, .iconst 0, .iconst 5] 16 (by decide +kernel) rfl ?_
    refine z_cS hX m_X11_in l_X11_55 p_X11_in (c_X11_in h_y ⟨by decide, by decide⟩ ⟨by decide, by decide⟩) rfl rfl rfl rfl (by decide +kernel) ?_
    by_cases h2 : 0 ≤ y ∧ y ≤ 5
    · rw [if_pos h2]
      refine z_if_eq hX (off := 7) 26 (by decide +kernel) (by decide) ⟨by decide, by decide⟩ (fun c19 => by exact absurd c19 (by decide)) (fun c19 => ?_)
      refine z_b hX fo_X11 [.iconst 0] 23 (by decide +kernel) rfl ?_
      refine z_goto hX (off := 4) 27 (by decide +kernel) (by decide) ?_
      refine z_cV hX m_X11_fails l_X11_59 p_X11_fails (c_fails0 rfl) rfl rfl rfl rfl rfl rfl (by decide +kernel) ?_
      refine z_if_eq hX (off := 7) 37 (by decide +kernel) (by decide) ⟨by decide, by decide⟩ (fun c30 => ?_) (fun c30 => by exact absurd c30 (by decide))
      obtain ⟨q, rfl⟩ : ∃ z : Nat, y = (z : Int) := ⟨y.toNat, by omega⟩
      refine z_b hX fo_X11 [.aload_n 0, .iload_n 1, .iload_n 2] 40 (by decide +kernel) rfl ?_
      refine z_cV hX m_X11_of l_X11_84 p_X11_of (c_of (k := k) (w := q) (by omega) (by omega)) rfl rfl rfl rfl rfl rfl (by decide +kernel) ?_
      exact z_iret hX hR (by decide +kernel) (Pm_que (v := c (13 + 12 * q + k)) (by unfold aCoatOf; rw [if_pos h1]; rw [if_pos h2]; (try simp only [Int.toNat_natCast]); rfl) rfl hM)
    · rw [if_neg h2]
      refine z_if_eq hX (off := 7) 26 (by decide +kernel) (by decide) ⟨by decide, by decide⟩ (fun c19 => ?_) (fun c19 => by exact absurd c19 (by decide))
      refine z_b hX fo_X11 [.iconst 2] 27 (by decide +kernel) rfl ?_
      refine z_cV hX m_X11_fails l_X11_59 p_X11_fails (c_fails1 ⟨by decide, by decide⟩) rfl rfl rfl rfl rfl rfl (by decide +kernel) ?_
      refine z_if_eq hX (off := 7) 37 (by decide +kernel) (by decide) ⟨by decide, by decide⟩ (fun c30 => by exact absurd c30 (by decide)) (fun c30 => ?_)
      refine z_b hX fo_X11 [.iconst 0] 34 (by decide +kernel) rfl ?_
      refine z_goto hX (off := 9) 43 (by decide +kernel) (by decide) ?_
      exact z_iret hX hR (by decide +kernel) (Pm_fail (e := eIA) (by unfold aCoatOf; rw [if_pos h1]; rw [if_neg h2]; (try simp only [Int.toNat_natCast]); rfl) ne_IA_UO hM (cd2_2 ne_IA_IB))
  · rw [if_neg h1]
    refine z_if_ne hX (off := 7) 13 (by decide +kernel) (by decide) ⟨by decide, by decide⟩ (fun c6 => by exact absurd c6 (by decide)) (fun c6 => ?_)
    refine z_b hX fo_X11 [.iconst 1] 10 (by decide +kernel) rfl ?_
    refine z_goto hX (off := 17) 27 (by decide +kernel) (by decide) ?_
    refine z_cV hX m_X11_fails l_X11_59 p_X11_fails (c_fails1 ⟨by decide, by decide⟩) rfl rfl rfl rfl rfl rfl (by decide +kernel) ?_
    refine z_if_eq hX (off := 7) 37 (by decide +kernel) (by decide) ⟨by decide, by decide⟩ (fun c30 => by exact absurd c30 (by decide)) (fun c30 => ?_)
    refine z_b hX fo_X11 [.iconst 0] 34 (by decide +kernel) rfl ?_
    refine z_goto hX (off := 9) 43 (by decide +kernel) (by decide) ?_
    exact z_iret hX hR (by decide +kernel) (Pm_fail (e := eIB) (by unfold aCoatOf; rw [if_neg h1]; (try simp only [Int.toNat_natCast]); rfl) ne_IB_UO hM cd2_1)
set_option maxHeartbeats 1000000 in
theorem c_X11_actOf {E : zE} {x y D : Int} {R : aQ} {σ : Nat → Nat → Int} {c : Nat → Int} {l : (Nat → Int64) × (Nat → UInt64)} {w : Bool} (hI : AI D c R) (hM : MR R σ) (hw : σ 32 6 = wi w) (h_x : zi x) (h_y : zi y) : Mb E yX11_actOf (Cond.code yX11_actOf cX11_actOf 3 (Option.some FieldType.int)) 2 [vr 32, vi x, vi y] (σ) (c) (l) (aActOf c R x y) ((cd2 eIB eIA)) := by
  refine Ctr_of (own := RX11) (by decide +kernel) rfl rfl (fun Y hX hR hnx => ?_)
  have g8 := hI.1.1.coats
  have g9 := hI.1.1.acts
  have g10 := hI.1.1.women
  have g11 := hI.1.1.trunks
  have g12 := hI.1.1.loaded
  have g1 := hI.1.1.g1
  have g2 := hI.1.1.g2
  have g3 := hI.1.1.g3
  refine z_b hX fo_X11 [.aload_n 0, .aload_n 0, .iload_n 1] 3 (by decide +kernel) rfl ?_
  refine z_cV hX m_X11_isAct l_X11_78 p_X11_isAct (c_X11_isAct h_x ⟨by omega, by omega⟩) rfl rfl rfl rfl rfl rfl (by decide +kernel) ?_
  by_cases h1 : hA c x
  · rw [if_pos h1]
    obtain ⟨a, rfl⟩ : ∃ z : Nat, x = (z : Int) := ⟨x.toNat, by omega⟩
    refine z_if_ne hX (off := 7) 13 (by decide +kernel) (by decide) ⟨by decide, by decide⟩ (fun c6 => ?_) (fun c6 => by exact absurd c6 (by decide))
    refine z_b hX fo_X11 [.iload_n 2, .iconst 0, .iconst 3] 16 (by decide +kernel) rfl ?_
    refine z_cS hX m_X11_in l_X11_55 p_X11_in (c_X11_in h_y ⟨by decide, by decide⟩ ⟨by decide, by decide⟩) rfl rfl rfl rfl (by decide +kernel) ?_
    by_cases h2 : 0 ≤ y ∧ y ≤ 3
    · rw [if_pos h2]
      refine z_if_eq hX (off := 7) 26 (by decide +kernel) (by decide) ⟨by decide, by decide⟩ (fun c19 => by exact absurd c19 (by decide)) (fun c19 => ?_)
      refine z_b hX fo_X11 [.iconst 0] 23 (by decide +kernel) rfl ?_
      refine z_goto hX (off := 4) 27 (by decide +kernel) (by decide) ?_
      refine z_cV hX m_X11_fails l_X11_59 p_X11_fails (c_fails0 rfl) rfl rfl rfl rfl rfl rfl (by decide +kernel) ?_
      refine z_if_eq hX (off := 7) 37 (by decide +kernel) (by decide) ⟨by decide, by decide⟩ (fun c30 => ?_) (fun c30 => by exact absurd c30 (by decide))
      obtain ⟨q, rfl⟩ : ∃ z : Nat, y = (z : Int) := ⟨y.toNat, by omega⟩
      refine z_b hX fo_X11 [.aload_n 0, .iload_n 1, .iload_n 2] 40 (by decide +kernel) rfl ?_
      refine z_cV hX m_X11_ofAct l_X11_88 p_X11_ofAct (c_ofAct (k := a) (w := q) (by omega) (by omega)) rfl rfl rfl rfl rfl rfl (by decide +kernel) ?_
      exact z_iret hX hR (by decide +kernel) (Pm_que (v := c (85 + 6 * q + a)) (by unfold aActOf; rw [if_pos h1]; rw [if_pos h2]; (try simp only [Int.toNat_natCast]); rfl) rfl hM)
    · rw [if_neg h2]
      refine z_if_eq hX (off := 7) 26 (by decide +kernel) (by decide) ⟨by decide, by decide⟩ (fun c19 => ?_) (fun c19 => by exact absurd c19 (by decide))
      refine z_b hX fo_X11 [.iconst 2] 27 (by decide +kernel) rfl ?_
      refine z_cV hX m_X11_fails l_X11_59 p_X11_fails (c_fails1 ⟨by decide, by decide⟩) rfl rfl rfl rfl rfl rfl (by decide +kernel) ?_
      refine z_if_eq hX (off := 7) 37 (by decide +kernel) (by decide) ⟨by decide, by decide⟩ (fun c30 => by exact absurd c30 (by decide)) (fun c30 => ?_)
      refine z_b hX fo_X11 [.iconst 0] 34 (by decide +kernel) rfl ?_
      refine z_goto hX (off := 9) 43 (by decide +kernel) (by decide) ?_
      exact z_iret hX hR (by decide +kernel) (Pm_fail (e := eIA) (by unfold aActOf; rw [if_pos h1]; rw [if_neg h2]; (try simp only [Int.toNat_natCast]); rfl) ne_IA_UO hM (cd2_2 ne_IA_IB))
  · rw [if_neg h1]
    refine z_if_ne hX (off := 7) 13 (by decide +kernel) (by decide) ⟨by decide, by decide⟩ (fun c6 => by exact absurd c6 (by decide)) (fun c6 => ?_)
    refine z_b hX fo_X11 [.iconst 1] 10 (by decide +kernel) rfl ?_
    refine z_goto hX (off := 17) 27 (by decide +kernel) (by decide) ?_
    refine z_cV hX m_X11_fails l_X11_59 p_X11_fails (c_fails1 ⟨by decide, by decide⟩) rfl rfl rfl rfl rfl rfl (by decide +kernel) ?_
    refine z_if_eq hX (off := 7) 37 (by decide +kernel) (by decide) ⟨by decide, by decide⟩ (fun c30 => by exact absurd c30 (by decide)) (fun c30 => ?_)
    refine z_b hX fo_X11 [.iconst 0] 34 (by decide +kernel) rfl ?_
    refine z_goto hX (off := 9) 43 (by decide +kernel) (by decide) ?_
    exact z_iret hX hR (by decide +kernel) (Pm_fail (e := eIB) (by unfold aActOf; rw [if_neg h1]; (try simp only [Int.toNat_natCast]); rfl) ne_IB_UO hM cd2_1)
set_option maxHeartbeats 1000000 in
theorem c_X11_seamstressOf {E : zE} {x y D : Int} {R : aQ} {σ : Nat → Nat → Int} {c : Nat → Int} {l : (Nat → Int64) × (Nat → UInt64)} {w : Bool} (hI : AI D c R) (hM : MR R σ) (hw : σ 32 6 = wi w) (h_x : zi x) (h_y : zi y) : Mb E yX11_seamstressOf (Cond.code yX11_seamstressOf cX11_seamstressOf 3 (Option.some FieldType.int)) 2 [vr 32, vi x, vi y] (σ) (c) (l) (aWomanOf c R x y) ((cd2 eIB eIA)) := by
  refine Ctr_of (own := RX11) (by decide +kernel) rfl rfl (fun Y hX hR hnx => ?_)
  have g8 := hI.1.1.coats
  have g9 := hI.1.1.acts
  have g10 := hI.1.1.women
  have g11 := hI.1.1.trunks
  have g12 := hI.1.1.loaded
  have g1 := hI.1.1.g1
  have g2 := hI.1.1.g2
  have g3 := hI.1.1.g3
  refine z_b hX fo_X11 [.aload_n 0, .aload_n 0, .iload_n 1] 3 (by decide +kernel) rfl ?_
  refine z_cV hX m_X11_isWoman l_X11_103 p_X11_isWoman (c_X11_isWoman h_x ⟨by omega, by omega⟩) rfl rfl rfl rfl rfl rfl (by decide +kernel) ?_
  by_cases h1 : hW c x
  · rw [if_pos h1]
    obtain ⟨a, rfl⟩ : ∃ z : Nat, x = (z : Int) := ⟨x.toNat, by omega⟩
    refine z_if_ne hX (off := 7) 13 (by decide +kernel) (by decide) ⟨by decide, by decide⟩ (fun c6 => ?_) (fun c6 => by exact absurd c6 (by decide))
    refine z_b hX fo_X11 [.iload_n 2, .iconst 0, .iconst 2] 16 (by decide +kernel) rfl ?_
    refine z_cS hX m_X11_in l_X11_55 p_X11_in (c_X11_in h_y ⟨by decide, by decide⟩ ⟨by decide, by decide⟩) rfl rfl rfl rfl (by decide +kernel) ?_
    by_cases h2 : 0 ≤ y ∧ y ≤ 2
    · rw [if_pos h2]
      refine z_if_eq hX (off := 7) 26 (by decide +kernel) (by decide) ⟨by decide, by decide⟩ (fun c19 => by exact absurd c19 (by decide)) (fun c19 => ?_)
      refine z_b hX fo_X11 [.iconst 0] 23 (by decide +kernel) rfl ?_
      refine z_goto hX (off := 4) 27 (by decide +kernel) (by decide) ?_
      refine z_cV hX m_X11_fails l_X11_59 p_X11_fails (c_fails0 rfl) rfl rfl rfl rfl rfl rfl (by decide +kernel) ?_
      refine z_if_eq hX (off := 7) 37 (by decide +kernel) (by decide) ⟨by decide, by decide⟩ (fun c30 => ?_) (fun c30 => by exact absurd c30 (by decide))
      obtain ⟨q, rfl⟩ : ∃ z : Nat, y = (z : Int) := ⟨y.toNat, by omega⟩
      refine z_b hX fo_X11 [.aload_n 0, .iload_n 1, .iload_n 2] 40 (by decide +kernel) rfl ?_
      refine z_cV hX m_X11_ofWoman l_X11_106 p_X11_ofWoman (c_ofWoman (k := a) (w := q) (by omega) (by omega)) rfl rfl rfl rfl rfl rfl (by decide +kernel) ?_
      exact z_iret hX hR (by decide +kernel) (Pm_que (v := c (109 + 4 * q + a)) (by unfold aWomanOf; rw [if_pos h1]; rw [if_pos h2]; (try simp only [Int.toNat_natCast]); rfl) rfl hM)
    · rw [if_neg h2]
      refine z_if_eq hX (off := 7) 26 (by decide +kernel) (by decide) ⟨by decide, by decide⟩ (fun c19 => ?_) (fun c19 => by exact absurd c19 (by decide))
      refine z_b hX fo_X11 [.iconst 2] 27 (by decide +kernel) rfl ?_
      refine z_cV hX m_X11_fails l_X11_59 p_X11_fails (c_fails1 ⟨by decide, by decide⟩) rfl rfl rfl rfl rfl rfl (by decide +kernel) ?_
      refine z_if_eq hX (off := 7) 37 (by decide +kernel) (by decide) ⟨by decide, by decide⟩ (fun c30 => by exact absurd c30 (by decide)) (fun c30 => ?_)
      refine z_b hX fo_X11 [.iconst 0] 34 (by decide +kernel) rfl ?_
      refine z_goto hX (off := 9) 43 (by decide +kernel) (by decide) ?_
      exact z_iret hX hR (by decide +kernel) (Pm_fail (e := eIA) (by unfold aWomanOf; rw [if_pos h1]; rw [if_neg h2]; (try simp only [Int.toNat_natCast]); rfl) ne_IA_UO hM (cd2_2 ne_IA_IB))
  · rw [if_neg h1]
    refine z_if_ne hX (off := 7) 13 (by decide +kernel) (by decide) ⟨by decide, by decide⟩ (fun c6 => by exact absurd c6 (by decide)) (fun c6 => ?_)
    refine z_b hX fo_X11 [.iconst 1] 10 (by decide +kernel) rfl ?_
    refine z_goto hX (off := 17) 27 (by decide +kernel) (by decide) ?_
    refine z_cV hX m_X11_fails l_X11_59 p_X11_fails (c_fails1 ⟨by decide, by decide⟩) rfl rfl rfl rfl rfl rfl (by decide +kernel) ?_
    refine z_if_eq hX (off := 7) 37 (by decide +kernel) (by decide) ⟨by decide, by decide⟩ (fun c30 => by exact absurd c30 (by decide)) (fun c30 => ?_)
    refine z_b hX fo_X11 [.iconst 0] 34 (by decide +kernel) rfl ?_
    refine z_goto hX (off := 9) 43 (by decide +kernel) (by decide) ?_
    exact z_iret hX hR (by decide +kernel) (Pm_fail (e := eIB) (by unfold aWomanOf; rw [if_neg h1]; (try simp only [Int.toNat_natCast]); rfl) ne_IB_UO hM cd2_1)
set_option maxHeartbeats 1000000 in
theorem c_X11_opens {E : zE} {k a : Nat} {D : Int} {σ : Nat → Nat → Int} {c : Nat → Int} {l : (Nat → Int64) × (Nat → UInt64)} (hg : Rg D c) (hk : k < 12) (ha : a < 6) : Rv E yX11_opens (Cond.code yX11_opens cX11_opens 3 (Option.some FieldType.int)) 1 [vr 32, vi (k : Int), vi (a : Int)] ((zs σ 33 (gm c), l)) (vi (zopn c k a)) ((zs σ 33 (gm c), l)) := by
  refine Ctr_of (own := RX11) (by decide +kernel) rfl rfl (fun Y hX hR hnx => ?_)
  have q1 := hg.rips hk
  have q2 := hg.miss hk
  have q3 := hg.size hk
  have q4 := hg.asize ha
  refine z_b hX fo_X11 [.aload_n 0, .iload_n 1, .iconst 1] 3 (by decide +kernel) rfl ?_
  refine z_cV hX m_X11_of l_X11_84 p_X11_of (c_of1 (k := k) (by omega)) rfl rfl rfl rfl rfl rfl (by decide +kernel) ?_
  refine z_if_le hX (off := 7) 13 (by decide +kernel) (by decide) ⟨by omega, by omega⟩ (fun c6 => ?_) (fun c6 => ?_)
  · refine z_b hX fo_X11 [.aload_n 0, .iload_n 1, .iconst 2] 16 (by decide +kernel) rfl ?_
    refine z_cV hX m_X11_of l_X11_84 p_X11_of (c_of2 (k := k) (by omega)) rfl rfl rfl rfl rfl rfl (by decide +kernel) ?_
    refine z_b hX fo_X11 [.bipush 10] 21 (by decide +kernel) rfl ?_
    refine z_ic_le hX (off := 7) 28 (by decide +kernel) (by decide) ⟨by omega, by omega⟩ ⟨by omega, by omega⟩ (fun c21 => ?_) (fun c21 => ?_)
    · refine z_b hX fo_X11 [.aload_n 0, .iload_n 1, .iconst 0] 31 (by decide +kernel) rfl ?_
      refine z_cV hX m_X11_of l_X11_84 p_X11_of (c_of0 (k := k) (by omega)) rfl rfl rfl rfl rfl rfl (by decide +kernel) ?_
      refine z_b hX fo_X11 [.aload_n 0, .iload_n 2, .iconst 0] 37 (by decide +kernel) rfl ?_
      refine z_cV hX m_X11_ofAct l_X11_88 p_X11_ofAct (c_ofAct0 (k := a) (by omega)) rfl rfl rfl rfl rfl rfl (by decide +kernel) ?_
      refine z_ic_ge hX (off := 7) 47 (by decide +kernel) (by decide) ⟨by omega, by omega⟩ ⟨by omega, by omega⟩ (fun c40 => ?_) (fun c40 => ?_)
      · refine z_b hX fo_X11 [.iconst (-1)] 48 (by decide +kernel) rfl ?_
        exact z_iret hX hR (by decide +kernel) ⟨congrArg (fun z => Sum.inl (some (vi z))) (by unfold zopn; first | rw [if_pos (by omega)] | rw [if_neg (by omega), if_pos (by omega)] | rw [if_neg (by omega), if_neg (by omega), if_pos (by omega)] | rw [if_neg (by omega), if_neg (by omega), if_neg (by omega)]), rfl⟩
      · refine z_b hX fo_X11 [.iconst 2] 44 (by decide +kernel) rfl ?_
        refine z_goto hX (off := 4) 48 (by decide +kernel) (by decide) ?_
        exact z_iret hX hR (by decide +kernel) ⟨congrArg (fun z => Sum.inl (some (vi z))) (by unfold zopn; first | rw [if_pos (by omega)] | rw [if_neg (by omega), if_pos (by omega)] | rw [if_neg (by omega), if_neg (by omega), if_pos (by omega)] | rw [if_neg (by omega), if_neg (by omega), if_neg (by omega)]), rfl⟩
    · refine z_b hX fo_X11 [.iconst 1] 25 (by decide +kernel) rfl ?_
      refine z_goto hX (off := 23) 48 (by decide +kernel) (by decide) ?_
      exact z_iret hX hR (by decide +kernel) ⟨congrArg (fun z => Sum.inl (some (vi z))) (by unfold zopn; first | rw [if_pos (by omega)] | rw [if_neg (by omega), if_pos (by omega)] | rw [if_neg (by omega), if_neg (by omega), if_pos (by omega)] | rw [if_neg (by omega), if_neg (by omega), if_neg (by omega)]), rfl⟩
  · refine z_b hX fo_X11 [.iconst 0] 10 (by decide +kernel) rfl ?_
    refine z_goto hX (off := 38) 48 (by decide +kernel) (by decide) ?_
    exact z_iret hX hR (by decide +kernel) ⟨congrArg (fun z => Sum.inl (some (vi z))) (by unfold zopn; first | rw [if_pos (by omega)] | rw [if_neg (by omega), if_pos (by omega)] | rw [if_neg (by omega), if_neg (by omega), if_pos (by omega)] | rw [if_neg (by omega), if_neg (by omega), if_neg (by omega)]), rfl⟩
set_option maxHeartbeats 1000000 in
theorem c_X11_open {E : zE} {x y D : Int} {R : aQ} {σ : Nat → Nat → Int} {c : Nat → Int} {l : (Nat → Int64) × (Nat → UInt64)} {w : Bool} (hI : AI D c R) (hM : MR R σ) (hw : σ 32 6 = wi w) (h_x : zi x) (h_y : zi y) : Mb E yX11_open (Cond.code yX11_open cX11_open 3 (Option.some FieldType.boolean)) 2 [vr 32, vi x, vi y] (σ) (c) (l) (aOpen c R x y) ((cd1 eIB)) := by
  refine Ctr_of (own := RX11) (by decide +kernel) rfl rfl (fun Y hX hR hnx => ?_)
  have g8 := hI.1.1.coats
  have g9 := hI.1.1.acts
  have g10 := hI.1.1.women
  have g11 := hI.1.1.trunks
  have g12 := hI.1.1.loaded
  have g1 := hI.1.1.g1
  have g2 := hI.1.1.g2
  have g3 := hI.1.1.g3
  refine z_b hX fo_X11 [.aload_n 0, .aload_n 0, .iload_n 1] 3 (by decide +kernel) rfl ?_
  refine z_cV hX m_X11_isCoat l_X11_81 p_X11_isCoat (c_X11_isCoat h_x ⟨by omega, by omega⟩) rfl rfl rfl rfl rfl rfl (by decide +kernel) ?_
  by_cases h1 : hC c x
  · rw [if_pos h1]
    obtain ⟨k, rfl⟩ : ∃ z : Nat, x = (z : Int) := ⟨x.toNat, by omega⟩
    refine z_if_eq hX (off := 15) 21 (by decide +kernel) (by decide) ⟨by decide, by decide⟩ (fun c6 => by exact absurd c6 (by decide)) (fun c6 => ?_)
    refine z_b hX fo_X11 [.aload_n 0, .iload_n 2] 11 (by decide +kernel) rfl ?_
    refine z_cV hX m_X11_isAct l_X11_78 p_X11_isAct (c_X11_isAct h_y ⟨by omega, by omega⟩) rfl rfl rfl rfl rfl rfl (by decide +kernel) ?_
    by_cases h2 : hA c y
    · rw [if_pos h2]
      obtain ⟨a, rfl⟩ : ∃ z : Nat, y = (z : Int) := ⟨y.toNat, by omega⟩
      refine z_if_eq hX (off := 7) 21 (by decide +kernel) (by decide) ⟨by decide, by decide⟩ (fun c14 => by exact absurd c14 (by decide)) (fun c14 => ?_)
      refine z_b hX fo_X11 [.iconst 0] 18 (by decide +kernel) rfl ?_
      refine z_goto hX (off := 4) 22 (by decide +kernel) (by decide) ?_
      refine z_cV hX m_X11_fails l_X11_59 p_X11_fails (c_fails0 rfl) rfl rfl rfl rfl rfl rfl (by decide +kernel) ?_
      refine z_if_ne hX (off := 16) 41 (by decide +kernel) (by decide) ⟨by decide, by decide⟩ (fun c25 => by exact absurd c25 (by decide)) (fun c25 => ?_)
      refine z_b hX fo_X11 [.aload_n 0, .iload_n 1, .iload_n 2] 31 (by decide +kernel) rfl ?_
      refine z_cV hX m_X11_opens l_X11_97 p_X11_opens (c_X11_opens hI.1.1 (by omega) (by omega)) rfl rfl rfl rfl rfl rfl (by decide +kernel) ?_
      have hz := @zopn_i c k a
      refine z_if_lt hX (off := 7) 41 (by decide +kernel) (by decide) ⟨by omega, by omega⟩ (fun c34 => ?_) (fun c34 => ?_)
      · refine z_b hX fo_X11 [.iconst 0] 42 (by decide +kernel) rfl ?_
        exact z_zret hX hR (by decide +kernel) (by decide +kernel) (Pm_que (v := (if zopen c k a then 1 else 0)) (by unfold aOpen; rw [if_pos h1]; rw [if_pos h2]; (try simp only [Int.toNat_natCast]); rfl) (by first | rw [if_pos (zopn_p (by omega))] | rw [if_neg (zopn_m (by omega))]) hM)
      · refine z_b hX fo_X11 [.iconst 1] 38 (by decide +kernel) rfl ?_
        refine z_goto hX (off := 4) 42 (by decide +kernel) (by decide) ?_
        exact z_zret hX hR (by decide +kernel) (by decide +kernel) (Pm_que (v := (if zopen c k a then 1 else 0)) (by unfold aOpen; rw [if_pos h1]; rw [if_pos h2]; (try simp only [Int.toNat_natCast]); rfl) (by first | rw [if_pos (zopn_p (by omega))] | rw [if_neg (zopn_m (by omega))]) hM)
    · rw [if_neg h2]
      refine z_if_eq hX (off := 7) 21 (by decide +kernel) (by decide) ⟨by decide, by decide⟩ (fun c14 => ?_) (fun c14 => by exact absurd c14 (by decide))
      refine z_b hX fo_X11 [.iconst 1] 22 (by decide +kernel) rfl ?_
      refine z_cV hX m_X11_fails l_X11_59 p_X11_fails (c_fails1 ⟨by decide, by decide⟩) rfl rfl rfl rfl rfl rfl (by decide +kernel) ?_
      refine z_if_ne hX (off := 16) 41 (by decide +kernel) (by decide) ⟨by decide, by decide⟩ (fun c25 => ?_) (fun c25 => by exact absurd c25 (by decide))
      refine z_b hX fo_X11 [.iconst 0] 42 (by decide +kernel) rfl ?_
      exact z_zret hX hR (by decide +kernel) (by decide +kernel) (Pm_fail (e := eIB) (by unfold aOpen; rw [if_pos h1]; rw [if_neg h2]; (try simp only [Int.toNat_natCast]); rfl) ne_IB_UO hM cd1_1)
  · rw [if_neg h1]
    refine z_if_eq hX (off := 15) 21 (by decide +kernel) (by decide) ⟨by decide, by decide⟩ (fun c6 => ?_) (fun c6 => by exact absurd c6 (by decide))
    refine z_b hX fo_X11 [.iconst 1] 22 (by decide +kernel) rfl ?_
    refine z_cV hX m_X11_fails l_X11_59 p_X11_fails (c_fails1 ⟨by decide, by decide⟩) rfl rfl rfl rfl rfl rfl (by decide +kernel) ?_
    refine z_if_ne hX (off := 16) 41 (by decide +kernel) (by decide) ⟨by decide, by decide⟩ (fun c25 => ?_) (fun c25 => by exact absurd c25 (by decide))
    refine z_b hX fo_X11 [.iconst 0] 42 (by decide +kernel) rfl ?_
    exact z_zret hX hR (by decide +kernel) (by decide +kernel) (Pm_fail (e := eIB) (by unfold aOpen; rw [if_neg h1]; (try simp only [Int.toNat_natCast]); rfl) ne_IB_UO hM cd1_1)
