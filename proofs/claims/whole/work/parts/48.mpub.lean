/-! ===== the model: its public methods ===== -/
set_option maxHeartbeats 1000000 in
theorem c_X11_coat {E : zE} {x D : Int} {R : aQ} {σ : Nat → Nat → Int} {c : Nat → Int} {l : (Nat → Int64) × (Nat → UInt64)} {w : Bool} (hI : AI D c R) (hM : MR R σ) (hw : σ 32 6 = wi w) (h_x : zi x) : Mb E yX11_coat (Cond.code yX11_coat cX11_coat 4 (Option.some FieldType.int)) 2 [vr 32, vi x] (σ) (c) (l) (aCoat w c R x) ((cd2 eIA eUO)) := by
  refine Ctr_of (own := RX11) (by decide +kernel) rfl rfl (fun Y hX hR hnx => ?_)
  have g8 := hI.1.1.coats
  have g9 := hI.1.1.acts
  have g10 := hI.1.1.women
  have g11 := hI.1.1.trunks
  have g12 := hI.1.1.loaded
  have g1 := hI.1.1.g1
  have g2 := hI.1.1.g2
  have g3 := hI.1.1.g3
  refine z_b hX fo_X11 [.aload_n 0, .iload_n 1, .bipush 30, .bipush 60] 6 (by decide +kernel) rfl ?_
  refine z_cS hX m_X11_in l_X11_55 p_X11_in (c_X11_in h_x ⟨by decide, by decide⟩ ⟨by decide, by decide⟩) rfl rfl rfl rfl (by decide +kernel) ?_
  by_cases h1 : 30 ≤ x ∧ x ≤ 60
  · rw [if_pos h1]
    refine z_if_eq hX (off := 7) 16 (by decide +kernel) (by decide) ⟨by decide, by decide⟩ (fun c9 => by exact absurd c9 (by decide)) (fun c9 => ?_)
    refine z_b hX fo_X11 [.iconst 0] 13 (by decide +kernel) rfl ?_
    refine z_goto hX (off := 4) 17 (by decide +kernel) (by decide) ?_
    refine z_cV hX m_X11_fails l_X11_59 p_X11_fails (c_fails0 rfl) rfl rfl rfl rfl rfl rfl (by decide +kernel) ?_
    refine z_if_eq hX (off := 5) 25 (by decide +kernel) (by decide) ⟨by decide, by decide⟩ (fun c20 => ?_) (fun c20 => by exact absurd c20 (by decide))
    refine z_b hX fo_X11 [.aload_n 0, .getfield 7, .bipush 9] 31 (by decide +kernel) rfl ?_
    refine z_ig hX (v := c 8) (9) rfl (by omega) (by omega) (by decide +kernel) ?_
    refine z_b hX fo_X11 [.bipush 12] 34 (by decide +kernel) rfl ?_
    refine z_ic_ne hX (off := 12) 46 (by decide +kernel) (by decide) ⟨by omega, by omega⟩ ⟨by omega, by omega⟩ (fun c34 => ?_) (fun c34 => ?_)
    · refine z_b hX fo_X11 [.aload_n 0, .aload_n 0, .getfield 7] 51 (by decide +kernel) rfl ?_
      obtain ⟨σ1, hkp, hM1, hc1, hF1⟩ := m_keep (E := E) (l := l) hI hM hw
      refine z_cV0 hX m_X11_keeps l_X11_67 p_X11_keeps hkp rfl rfl rfl rfl rfl rfl (by decide +kernel) ?_
      refine z_b hX fo_X11 [.aload_n 0, .getfield 7, .bipush 9] 60 (by decide +kernel) rfl ?_
      refine z_ig hX (v := c 8) (9) rfl (by omega) (by omega) (by decide +kernel) ?_
      have hk : c 8 = ((c 8).toNat : Int) := by omega
      rw [hk]
      refine z_b hX fo_X11 [.istore_n 2, .aload_n 0, .getfield 7, .bipush 9, .dup2] 69 (by decide +kernel) rfl ?_
      refine z_ig hX (v := c 8) (9) rfl (by omega) (by omega) (by decide +kernel) ?_
      refine z_b hX fo_X11 [.iconst 1, .iadd] 72 (by decide +kernel) rfl ?_
      refine z_sg hX (9) (ulit (j := 8) (by decide) (by decide) rfl) (by omega) (by omega) (by decide +kernel) ?_
      refine z_b hX fo_X11 [.iconst 0, .istore_n 3, .iload_n 3, .bipush 6] 78 (by decide +kernel) rfl ?_
      refine z_ic_ge hX (off := 16) 94 (by decide +kernel) (by decide) ⟨by decide, by decide⟩ ⟨by decide, by decide⟩ (fun c78 => by exact absurd c78 (by decide)) (fun c78 => ?_)
      refine z_b hX fo_X11 [.aload_n 0, .iload_n 2, .iload_n 3, .iconst 0] 85 (by decide +kernel) rfl ?_
      refine z_cV0 hX m_X11_lays l_X11_71 p_X11_lays (c_lays0 (k := (c 8).toNat) (by omega)) rfl rfl rfl rfl rfl rfl (by decide +kernel) ?_
      refine z_b hX fo_X11 [.iinc 3 1] 91 (by decide +kernel) rfl ?_
      refine z_goto hX (off := (-16)) 75 (by decide +kernel) (by decide) ?_
      refine z_b hX fo_X11 [.iload_n 3, .bipush 6] 78 (by decide +kernel) rfl ?_
      refine z_ic_ge hX (off := 16) 94 (by decide +kernel) (by decide) ⟨by decide, by decide⟩ ⟨by decide, by decide⟩ (fun c78 => by exact absurd c78 (by decide)) (fun c78 => ?_)
      refine z_b hX fo_X11 [.aload_n 0, .iload_n 2, .iload_n 3, .iconst 0] 85 (by decide +kernel) rfl ?_
      refine z_cV0 hX m_X11_lays l_X11_71 p_X11_lays (c_lays1 (k := (c 8).toNat) (by omega)) rfl rfl rfl rfl rfl rfl (by decide +kernel) ?_
      refine z_b hX fo_X11 [.iinc 3 1] 91 (by decide +kernel) rfl ?_
      refine z_goto hX (off := (-16)) 75 (by decide +kernel) (by decide) ?_
      refine z_b hX fo_X11 [.iload_n 3, .bipush 6] 78 (by decide +kernel) rfl ?_
      refine z_ic_ge hX (off := 16) 94 (by decide +kernel) (by decide) ⟨by decide, by decide⟩ ⟨by decide, by decide⟩ (fun c78 => by exact absurd c78 (by decide)) (fun c78 => ?_)
      refine z_b hX fo_X11 [.aload_n 0, .iload_n 2, .iload_n 3, .iconst 0] 85 (by decide +kernel) rfl ?_
      refine z_cV0 hX m_X11_lays l_X11_71 p_X11_lays (c_lays2 (k := (c 8).toNat) (by omega)) rfl rfl rfl rfl rfl rfl (by decide +kernel) ?_
      refine z_b hX fo_X11 [.iinc 3 1] 91 (by decide +kernel) rfl ?_
      refine z_goto hX (off := (-16)) 75 (by decide +kernel) (by decide) ?_
      refine z_b hX fo_X11 [.iload_n 3, .bipush 6] 78 (by decide +kernel) rfl ?_
      refine z_ic_ge hX (off := 16) 94 (by decide +kernel) (by decide) ⟨by decide, by decide⟩ ⟨by decide, by decide⟩ (fun c78 => by exact absurd c78 (by decide)) (fun c78 => ?_)
      refine z_b hX fo_X11 [.aload_n 0, .iload_n 2, .iload_n 3, .iconst 0] 85 (by decide +kernel) rfl ?_
      refine z_cV0 hX m_X11_lays l_X11_71 p_X11_lays (c_lays3 (k := (c 8).toNat) (by omega)) rfl rfl rfl rfl rfl rfl (by decide +kernel) ?_
      refine z_b hX fo_X11 [.iinc 3 1] 91 (by decide +kernel) rfl ?_
      refine z_goto hX (off := (-16)) 75 (by decide +kernel) (by decide) ?_
      refine z_b hX fo_X11 [.iload_n 3, .bipush 6] 78 (by decide +kernel) rfl ?_
      refine z_ic_ge hX (off := 16) 94 (by decide +kernel) (by decide) ⟨by decide, by decide⟩ ⟨by decide, by decide⟩ (fun c78 => by exact absurd c78 (by decide)) (fun c78 => ?_)
      refine z_b hX fo_X11 [.aload_n 0, .iload_n 2, .iload_n 3, .iconst 0] 85 (by decide +kernel) rfl ?_
      refine z_cV0 hX m_X11_lays l_X11_71 p_X11_lays (c_lays4 (k := (c 8).toNat) (by omega)) rfl rfl rfl rfl rfl rfl (by decide +kernel) ?_
      refine z_b hX fo_X11 [.iinc 3 1] 91 (by decide +kernel) rfl ?_
      refine z_goto hX (off := (-16)) 75 (by decide +kernel) (by decide) ?_
      refine z_b hX fo_X11 [.iload_n 3, .bipush 6] 78 (by decide +kernel) rfl ?_
      refine z_ic_ge hX (off := 16) 94 (by decide +kernel) (by decide) ⟨by decide, by decide⟩ ⟨by decide, by decide⟩ (fun c78 => by exact absurd c78 (by decide)) (fun c78 => ?_)
      refine z_b hX fo_X11 [.aload_n 0, .iload_n 2, .iload_n 3, .iconst 0] 85 (by decide +kernel) rfl ?_
      refine z_cV0 hX m_X11_lays l_X11_71 p_X11_lays (c_lays5 (k := (c 8).toNat) (by omega)) rfl rfl rfl rfl rfl rfl (by decide +kernel) ?_
      refine z_b hX fo_X11 [.iinc 3 1] 91 (by decide +kernel) rfl ?_
      refine z_goto hX (off := (-16)) 75 (by decide +kernel) (by decide) ?_
      refine z_b hX fo_X11 [.iload_n 3, .bipush 6] 78 (by decide +kernel) rfl ?_
      refine z_ic_ge hX (off := 16) 94 (by decide +kernel) (by decide) ⟨by decide, by decide⟩ ⟨by decide, by decide⟩ (fun c78 => ?_) (fun c78 => by exact absurd c78 (by decide))
      refine z_b hX fo_X11 [.aload_n 0, .iload_n 2, .iconst 0, .iload_n 1] 98 (by decide +kernel) rfl ?_
      refine z_cV0 hX m_X11_lays l_X11_71 p_X11_lays (c_lays0 (k := (c 8).toNat) (by omega)) rfl rfl rfl rfl rfl rfl (by decide +kernel) ?_
      refine z_b hX fo_X11 [.aload_n 0, .iload_n 2, .iconst 3, .iconst (-1)] 105 (by decide +kernel) rfl ?_
      refine z_cV0 hX m_X11_lays l_X11_71 p_X11_lays (c_lays3 (k := (c 8).toNat) (by omega)) rfl rfl rfl rfl rfl rfl (by decide +kernel) ?_
      refine z_b hX fo_X11 [.aload_n 0, .iload_n 2, .iconst 4, .iconst (-1)] 112 (by decide +kernel) rfl ?_
      refine z_cV0 hX m_X11_lays l_X11_71 p_X11_lays (c_lays4 (k := (c 8).toNat) (by omega)) rfl rfl rfl rfl rfl rfl (by decide +kernel) ?_
      refine z_b hX fo_X11 [.iload_n 2] 116 (by decide +kernel) rfl ?_
      exact z_iret hX hR (by decide +kernel) (Pm_ok (v := c 8) (c' := sCoat c x (c 8).toNat) (by unfold aCoat; rw [if_pos h1]; (try simp only [Int.toNat_natCast]); rw [show (rMore (c 8) 12 : zr) = none from (by unfold rMore; rw [if_neg (by omega)]; (first | done | rfl))]; rfl) (by omega) σ1 (congrArg (fun z => (zs σ1 33 (gm z), l)) (by funext j; simp only [sCoat, ad, va_e]; grind)) hM1 hc1 hF1)
    · refine z_b hX fo_X11 [.aload_n 0, .iconst 2, .iconst 1, .bipush 12] 42 (by decide +kernel) rfl ?_
      refine z_cV hX m_X11_refuses l_X11_63 p_X11_refuses c_X11_refuses rfl rfl rfl rfl rfl rfl (by decide +kernel) ?_
      exact z_iret hX hR (by decide +kernel) (Pm_ref (w := 1) (x := 12) (by unfold aCoat; rw [if_pos h1]; (try simp only [Int.toNat_natCast]); rw [show (rMore (c 8) 12 : zr) = some (1, 12) from (by unfold rMore;  rw [if_pos (by omega)]; (first | done | rfl | exact congrArg some (Prod.ext rfl (by dsimp only; omega))))]; rfl) hM (cd2_2 ne_UO_IA))
  · rw [if_neg h1]
    refine z_if_eq hX (off := 7) 16 (by decide +kernel) (by decide) ⟨by decide, by decide⟩ (fun c9 => ?_) (fun c9 => by exact absurd c9 (by decide))
    refine z_b hX fo_X11 [.iconst 1] 17 (by decide +kernel) rfl ?_
    refine z_cV hX m_X11_fails l_X11_59 p_X11_fails (c_fails1 ⟨by decide, by decide⟩) rfl rfl rfl rfl rfl rfl (by decide +kernel) ?_
    refine z_if_eq hX (off := 5) 25 (by decide +kernel) (by decide) ⟨by decide, by decide⟩ (fun c20 => by exact absurd c20 (by decide)) (fun c20 => ?_)
    refine z_b hX fo_X11 [.iconst 0] 24 (by decide +kernel) rfl ?_
    exact z_iret hX hR (by decide +kernel) (Pm_fail (e := eIA) (by unfold aCoat; rw [if_neg h1]; (try simp only [Int.toNat_natCast]); rfl) ne_IA_UO hM cd2_1)
set_option maxHeartbeats 1000000 in
theorem c_X11_act {E : zE} {x y D : Int} {R : aQ} {σ : Nat → Nat → Int} {c : Nat → Int} {l : (Nat → Int64) × (Nat → UInt64)} {w : Bool} (hI : AI D c R) (hM : MR R σ) (hw : σ 32 6 = wi w) (h_x : zi x) (h_y : zi y) : Mb E yX11_act (Cond.code yX11_act cX11_act 4 (Option.some FieldType.int)) 2 [vr 32, vi x, vi y] (σ) (c) (l) (aAct w c R x y) ((cd2 eIA eUO)) := by
  refine Ctr_of (own := RX11) (by decide +kernel) rfl rfl (fun Y hX hR hnx => ?_)
  have g8 := hI.1.1.coats
  have g9 := hI.1.1.acts
  have g10 := hI.1.1.women
  have g11 := hI.1.1.trunks
  have g12 := hI.1.1.loaded
  have g1 := hI.1.1.g1
  have g2 := hI.1.1.g2
  have g3 := hI.1.1.g3
  refine z_b hX fo_X11 [.aload_n 0, .iload_n 1, .bipush 30, .bipush 60] 6 (by decide +kernel) rfl ?_
  refine z_cS hX m_X11_in l_X11_55 p_X11_in (c_X11_in h_x ⟨by decide, by decide⟩ ⟨by decide, by decide⟩) rfl rfl rfl rfl (by decide +kernel) ?_
  by_cases h1 : 30 ≤ x ∧ x ≤ 60
  · rw [if_pos h1]
    refine z_if_eq hX (off := 16) 25 (by decide +kernel) (by decide) ⟨by decide, by decide⟩ (fun c9 => by exact absurd c9 (by decide)) (fun c9 => ?_)
    refine z_b hX fo_X11 [.iload_n 2, .iconst 0, .iconst 3] 15 (by decide +kernel) rfl ?_
    refine z_cS hX m_X11_in l_X11_55 p_X11_in (c_X11_in h_y ⟨by decide, by decide⟩ ⟨by decide, by decide⟩) rfl rfl rfl rfl (by decide +kernel) ?_
    by_cases h2 : 0 ≤ y ∧ y ≤ 3
    · rw [if_pos h2]
      refine z_if_eq hX (off := 7) 25 (by decide +kernel) (by decide) ⟨by decide, by decide⟩ (fun c18 => by exact absurd c18 (by decide)) (fun c18 => ?_)
      refine z_b hX fo_X11 [.iconst 0] 22 (by decide +kernel) rfl ?_
      refine z_goto hX (off := 4) 26 (by decide +kernel) (by decide) ?_
      refine z_cV hX m_X11_fails l_X11_59 p_X11_fails (c_fails0 rfl) rfl rfl rfl rfl rfl rfl (by decide +kernel) ?_
      refine z_if_eq hX (off := 5) 34 (by decide +kernel) (by decide) ⟨by decide, by decide⟩ (fun c29 => ?_) (fun c29 => by exact absurd c29 (by decide))
      refine z_b hX fo_X11 [.aload_n 0, .getfield 7, .bipush 82] 40 (by decide +kernel) rfl ?_
      refine z_ig hX (v := c 9) (82) rfl (by omega) (by omega) (by decide +kernel) ?_
      refine z_b hX fo_X11 [.bipush 6] 43 (by decide +kernel) rfl ?_
      refine z_ic_ne hX (off := 12) 55 (by decide +kernel) (by decide) ⟨by omega, by omega⟩ ⟨by omega, by omega⟩ (fun c43 => ?_) (fun c43 => ?_)
      · refine z_b hX fo_X11 [.aload_n 0, .aload_n 0, .getfield 7] 60 (by decide +kernel) rfl ?_
        obtain ⟨σ1, hkp, hM1, hc1, hF1⟩ := m_keep (E := E) (l := l) hI hM hw
        refine z_cV0 hX m_X11_keeps l_X11_67 p_X11_keeps hkp rfl rfl rfl rfl rfl rfl (by decide +kernel) ?_
        refine z_b hX fo_X11 [.aload_n 0, .getfield 7, .bipush 82] 69 (by decide +kernel) rfl ?_
        refine z_ig hX (v := c 9) (82) rfl (by omega) (by omega) (by decide +kernel) ?_
        have hk : c 9 = ((c 9).toNat : Int) := by omega
        rw [hk]
        refine z_b hX fo_X11 [.istore_n 3, .aload_n 0, .getfield 7, .bipush 82, .dup2] 78 (by decide +kernel) rfl ?_
        refine z_ig hX (v := c 9) (82) rfl (by omega) (by omega) (by decide +kernel) ?_
        refine z_b hX fo_X11 [.iconst 1, .iadd] 81 (by decide +kernel) rfl ?_
        refine z_sg hX (82) (ulit (j := 9) (by decide) (by decide) rfl) (by omega) (by omega) (by decide +kernel) ?_
        refine z_b hX fo_X11 [.aload_n 0, .iload_n 3, .iconst 0, .iload_n 1] 86 (by decide +kernel) rfl ?_
        refine z_cV0 hX m_X11_laysAct l_X11_75 p_X11_laysAct (c_laysAct0 (k := (c 9).toNat) (by omega)) rfl rfl rfl rfl rfl rfl (by decide +kernel) ?_
        refine z_b hX fo_X11 [.aload_n 0, .iload_n 3, .iconst 1, .iload_n 2] 93 (by decide +kernel) rfl ?_
        refine z_cV0 hX m_X11_laysAct l_X11_75 p_X11_laysAct (c_laysAct1 (k := (c 9).toNat) (by omega)) rfl rfl rfl rfl rfl rfl (by decide +kernel) ?_
        refine z_b hX fo_X11 [.aload_n 0, .iload_n 3, .iconst 2, .iconst (-1)] 100 (by decide +kernel) rfl ?_
        refine z_cV0 hX m_X11_laysAct l_X11_75 p_X11_laysAct (c_laysAct2 (k := (c 9).toNat) (by omega)) rfl rfl rfl rfl rfl rfl (by decide +kernel) ?_
        refine z_b hX fo_X11 [.aload_n 0, .iload_n 3, .iconst 3, .iconst 0] 107 (by decide +kernel) rfl ?_
        refine z_cV0 hX m_X11_laysAct l_X11_75 p_X11_laysAct (c_laysAct3 (k := (c 9).toNat) (by omega)) rfl rfl rfl rfl rfl rfl (by decide +kernel) ?_
        refine z_b hX fo_X11 [.iload_n 3] 111 (by decide +kernel) rfl ?_
        exact z_iret hX hR (by decide +kernel) (Pm_ok (v := c 9) (c' := sAct c x y (c 9).toNat) (by unfold aAct; rw [if_pos h1]; rw [if_pos h2]; (try simp only [Int.toNat_natCast]); rw [show (rMore (c 9) 6 : zr) = none from (by unfold rMore; rw [if_neg (by omega)]; (first | done | rfl))]; rfl) (by omega) σ1 (congrArg (fun z => (zs σ1 33 (gm z), l)) (by funext j; simp only [sAct, ad, va_e]; grind)) hM1 hc1 hF1)
      · refine z_b hX fo_X11 [.aload_n 0, .iconst 2, .iconst 1, .bipush 6] 51 (by decide +kernel) rfl ?_
        refine z_cV hX m_X11_refuses l_X11_63 p_X11_refuses c_X11_refuses rfl rfl rfl rfl rfl rfl (by decide +kernel) ?_
        exact z_iret hX hR (by decide +kernel) (Pm_ref (w := 1) (x := 6) (by unfold aAct; rw [if_pos h1]; rw [if_pos h2]; (try simp only [Int.toNat_natCast]); rw [show (rMore (c 9) 6 : zr) = some (1, 6) from (by unfold rMore;  rw [if_pos (by omega)]; (first | done | rfl | exact congrArg some (Prod.ext rfl (by dsimp only; omega))))]; rfl) hM (cd2_2 ne_UO_IA))
    · rw [if_neg h2]
      refine z_if_eq hX (off := 7) 25 (by decide +kernel) (by decide) ⟨by decide, by decide⟩ (fun c18 => ?_) (fun c18 => by exact absurd c18 (by decide))
      refine z_b hX fo_X11 [.iconst 1] 26 (by decide +kernel) rfl ?_
      refine z_cV hX m_X11_fails l_X11_59 p_X11_fails (c_fails1 ⟨by decide, by decide⟩) rfl rfl rfl rfl rfl rfl (by decide +kernel) ?_
      refine z_if_eq hX (off := 5) 34 (by decide +kernel) (by decide) ⟨by decide, by decide⟩ (fun c29 => by exact absurd c29 (by decide)) (fun c29 => ?_)
      refine z_b hX fo_X11 [.iconst 0] 33 (by decide +kernel) rfl ?_
      exact z_iret hX hR (by decide +kernel) (Pm_fail (e := eIA) (by unfold aAct; rw [if_pos h1]; rw [if_neg h2]; (try simp only [Int.toNat_natCast]); rfl) ne_IA_UO hM cd2_1)
  · rw [if_neg h1]
    refine z_if_eq hX (off := 16) 25 (by decide +kernel) (by decide) ⟨by decide, by decide⟩ (fun c9 => ?_) (fun c9 => by exact absurd c9 (by decide))
    refine z_b hX fo_X11 [.iconst 1] 26 (by decide +kernel) rfl ?_
    refine z_cV hX m_X11_fails l_X11_59 p_X11_fails (c_fails1 ⟨by decide, by decide⟩) rfl rfl rfl rfl rfl rfl (by decide +kernel) ?_
    refine z_if_eq hX (off := 5) 34 (by decide +kernel) (by decide) ⟨by decide, by decide⟩ (fun c29 => by exact absurd c29 (by decide)) (fun c29 => ?_)
    refine z_b hX fo_X11 [.iconst 0] 33 (by decide +kernel) rfl ?_
    exact z_iret hX hR (by decide +kernel) (Pm_fail (e := eIA) (by unfold aAct; rw [if_neg h1]; (try simp only [Int.toNat_natCast]); rfl) ne_IA_UO hM cd2_1)
