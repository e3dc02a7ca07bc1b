/-! ===== the model: accounts, well, undo, snapshot ===== -/
set_option maxHeartbeats 1000000 in
theorem c_X11_account {E : zE} {x D : Int} {R : aQ} {σ : Nat → Nat → Int} {c : Nat → Int} {l : (Nat → Int64) × (Nat → UInt64)} {w : Bool} (hI : AI D c R) (hM : MR R σ) (hw : σ 32 6 = wi w) (h_x : zi x) : Mb E yX11_account (Cond.code yX11_account cX11_account 2 (Option.some FieldType.int)) 2 [vr 32, vi x] (σ) (c) (l) (aAccount c R x) ((cd1 eIA)) := by
  refine Ctr_of (own := RX11) (by decide +kernel) rfl rfl (fun Y hX hR hnx => ?_)
  have g8 := hI.1.1.coats
  have g9 := hI.1.1.acts
  have g10 := hI.1.1.women
  have g11 := hI.1.1.trunks
  have g12 := hI.1.1.loaded
  have g1 := hI.1.1.g1
  have g2 := hI.1.1.g2
  have g3 := hI.1.1.g3
  refine z_b hX fo_X11 [.aload_n 0, .iload_n 1, .iconst 0, .bipush 18] 5 (by decide +kernel) rfl ?_
  refine z_cS hX m_X11_in l_X11_55 p_X11_in (c_X11_in h_x ⟨by decide, by decide⟩ ⟨by decide, by decide⟩) rfl rfl rfl rfl (by decide +kernel) ?_
  by_cases h1 : 0 ≤ x ∧ x ≤ 18
  · rw [if_pos h1]
    refine z_if_eq hX (off := 7) 15 (by decide +kernel) (by decide) ⟨by decide, by decide⟩ (fun c8 => by exact absurd c8 (by decide)) (fun c8 => ?_)
    refine z_b hX fo_X11 [.iconst 0] 12 (by decide +kernel) rfl ?_
    refine z_goto hX (off := 4) 16 (by decide +kernel) (by decide) ?_
    refine z_cV hX m_X11_fails l_X11_59 p_X11_fails (c_fails0 rfl) rfl rfl rfl rfl rfl rfl (by decide +kernel) ?_
    refine z_if_eq hX (off := 5) 24 (by decide +kernel) (by decide) ⟨by decide, by decide⟩ (fun c19 => ?_) (fun c19 => by exact absurd c19 (by decide))
    refine z_b hX fo_X11 [.iload_n 1] 25 (by decide +kernel) rfl ?_
    rcases (show x = 0 ∨ x = 1 ∨ x = 2 ∨ x = 3 ∨ x = 4 ∨ x = 5 ∨ x = 6 ∨ x = 7 ∨ x = 8 ∨ x = 9 ∨ x = 10 ∨ x = 11 ∨ x = 12 ∨ x = 13 ∨ x = 14 ∨ x = 15 ∨ x = 16 ∨ x = 17 ∨ x = 18 by omega) with hs | hs | hs | hs | hs | hs | hs | hs | hs | hs | hs | hs | hs | hs | hs | hs | hs | hs | hs
    · refine z_tIn hX (dflt := 204) (l0 := 0) (h0 := 17) (offs := #[87, 94, 102, 110, 118, 126, 135, 140, 140, 140, 152, 158, 164, 171, 178, 186, 191, 199]) (len := 87) (off := 87) 112 (by decide +kernel) h_x (by omega) (by omega) (by rw [hs]; rfl) (by decide) ?_
      refine z_b hX fo_X11 [.aload_n 0, .getfield 7, .iconst 0] 117 (by decide +kernel) rfl ?_
      refine z_ig hX (v := c 0) (0) rfl (by omega) (by omega) (by decide +kernel) ?_
      exact z_iret hX hR (by decide +kernel) (Pm_que (v := zacc c x) (by unfold aAccount; rw [if_neg (by omega)]; rw [if_neg (by omega)]; rw [if_pos (by omega)]; rfl) (by rw [hs, zacc_0]) hM)
    · refine z_tIn hX (dflt := 204) (l0 := 0) (h0 := 17) (offs := #[87, 94, 102, 110, 118, 126, 135, 140, 140, 140, 152, 158, 164, 171, 178, 186, 191, 199]) (len := 87) (off := 94) 119 (by decide +kernel) h_x (by omega) (by omega) (by rw [hs]; rfl) (by decide) ?_
      refine z_b hX fo_X11 [.aload_n 0, .getfield 7, .bipush 9] 125 (by decide +kernel) rfl ?_
      refine z_ig hX (v := c 8) (9) rfl (by omega) (by omega) (by decide +kernel) ?_
      exact z_iret hX hR (by decide +kernel) (Pm_que (v := zacc c x) (by unfold aAccount; rw [if_neg (by omega)]; rw [if_neg (by omega)]; rw [if_pos (by omega)]; rfl) (by rw [hs, zacc_1]) hM)
    · refine z_tIn hX (dflt := 204) (l0 := 0) (h0 := 17) (offs := #[87, 94, 102, 110, 118, 126, 135, 140, 140, 140, 152, 158, 164, 171, 178, 186, 191, 199]) (len := 87) (off := 102) 127 (by decide +kernel) h_x (by omega) (by omega) (by rw [hs]; rfl) (by decide) ?_
      refine z_b hX fo_X11 [.aload_n 0, .getfield 7, .bipush 82] 133 (by decide +kernel) rfl ?_
      refine z_ig hX (v := c 9) (82) rfl (by omega) (by omega) (by decide +kernel) ?_
      exact z_iret hX hR (by decide +kernel) (Pm_que (v := zacc c x) (by unfold aAccount; rw [if_neg (by omega)]; rw [if_neg (by omega)]; rw [if_pos (by omega)]; rfl) (by rw [hs, zacc_2]) hM)
    · refine z_tIn hX (dflt := 204) (l0 := 0) (h0 := 17) (offs := #[87, 94, 102, 110, 118, 126, 135, 140, 140, 140, 152, 158, 164, 171, 178, 186, 191, 199]) (len := 87) (off := 110) 135 (by decide +kernel) h_x (by omega) (by omega) (by rw [hs]; rfl) (by decide) ?_
      refine z_b hX fo_X11 [.aload_n 0, .getfield 7, .bipush 107] 141 (by decide +kernel) rfl ?_
      refine z_ig hX (v := c 10) (107) rfl (by omega) (by omega) (by decide +kernel) ?_
      exact z_iret hX hR (by decide +kernel) (Pm_que (v := zacc c x) (by unfold aAccount; rw [if_neg (by omega)]; rw [if_neg (by omega)]; rw [if_pos (by omega)]; rfl) (by rw [hs, zacc_3]) hM)
    · refine z_tIn hX (dflt := 204) (l0 := 0) (h0 := 17) (offs := #[87, 94, 102, 110, 118, 126, 135, 140, 140, 140, 152, 158, 164, 171, 178, 186, 191, 199]) (len := 87) (off := 118) 143 (by decide +kernel) h_x (by omega) (by omega) (by rw [hs]; rfl) (by decide) ?_
      refine z_b hX fo_X11 [.aload_n 0, .getfield 7, .bipush 120] 149 (by decide +kernel) rfl ?_
      refine z_ig hX (v := c 11) (120) rfl (by omega) (by omega) (by decide +kernel) ?_
      exact z_iret hX hR (by decide +kernel) (Pm_que (v := zacc c x) (by unfold aAccount; rw [if_neg (by omega)]; rw [if_neg (by omega)]; rw [if_pos (by omega)]; rfl) (by rw [hs, zacc_4]) hM)
    · refine z_tIn hX (dflt := 204) (l0 := 0) (h0 := 17) (offs := #[87, 94, 102, 110, 118, 126, 135, 140, 140, 140, 152, 158, 164, 171, 178, 186, 191, 199]) (len := 87) (off := 126) 151 (by decide +kernel) h_x (by omega) (by omega) (by rw [hs]; rfl) (by decide) ?_
      refine z_b hX fo_X11 [.aload_n 0, .getfield 7, .sipush 145] 158 (by decide +kernel) rfl ?_
      refine z_ig hX (v := c 12) (145) rfl (by omega) (by omega) (by decide +kernel) ?_
      exact z_iret hX hR (by decide +kernel) (Pm_que (v := zacc c x) (by unfold aAccount; rw [if_neg (by omega)]; rw [if_neg (by omega)]; rw [if_pos (by omega)]; rfl) (by rw [hs, zacc_5]) hM)
    · refine z_tIn hX (dflt := 204) (l0 := 0) (h0 := 17) (offs := #[87, 94, 102, 110, 118, 126, 135, 140, 140, 140, 152, 158, 164, 171, 178, 186, 191, 199]) (len := 87) (off := 135) 160 (by decide +kernel) h_x (by omega) (by omega) (by rw [hs]; rfl) (by decide) ?_
      refine z_b hX fo_X11 [.aload_n 0] 161 (by decide +kernel) rfl ?_
      refine z_cV hX m_X11_inTrunks l_X11_189 p_X11_inTrunks (c_X11_inTrunks (n := (c 8).toNat) hI.1.1 (by omega) (by omega)) rfl rfl rfl rfl rfl rfl (by decide +kernel) ?_
      exact z_iret hX hR (by decide +kernel) (Pm_que (v := zacc c x) (by unfold aAccount; rw [if_neg (by omega)]; rw [if_neg (by omega)]; rw [if_pos (by omega)]; rfl) (by rw [hs, zacc_6]; exact hI.1.2.2.1.2.2.2) hM)
    · refine z_tIn hX (dflt := 204) (l0 := 0) (h0 := 17) (offs := #[87, 94, 102, 110, 118, 126, 135, 140, 140, 140, 152, 158, 164, 171, 178, 186, 191, 199]) (len := 87) (off := 140) 165 (by decide +kernel) h_x (by omega) (by omega) (by rw [hs]; rfl) (by decide) ?_
      refine z_b hX fo_X11 [.aload_n 0, .getfield 7, .iconst 1, .iload_n 1, .iadd, .bipush 7, .isub] 175 (by decide +kernel) rfl ?_
      refine z_ig hX (v := c 1) (1) (glow (by decide)) (by omega) (by omega) (by decide +kernel) ?_
      exact z_iret hX hR (by decide +kernel) (Pm_que (v := zacc c x) (by unfold aAccount; rw [if_neg (by omega)]; rw [if_neg (by omega)]; rw [if_pos (by omega)]; rfl) (by rw [hs, zacc_7]) hM)
    · refine z_tIn hX (dflt := 204) (l0 := 0) (h0 := 17) (offs := #[87, 94, 102, 110, 118, 126, 135, 140, 140, 140, 152, 158, 164, 171, 178, 186, 191, 199]) (len := 87) (off := 140) 165 (by decide +kernel) h_x (by omega) (by omega) (by rw [hs]; rfl) (by decide) ?_
      refine z_b hX fo_X11 [.aload_n 0, .getfield 7, .iconst 1, .iload_n 1, .iadd, .bipush 7, .isub] 175 (by decide +kernel) rfl ?_
      refine z_ig hX (v := c 2) (2) (glow (by decide)) (by omega) (by omega) (by decide +kernel) ?_
      exact z_iret hX hR (by decide +kernel) (Pm_que (v := zacc c x) (by unfold aAccount; rw [if_neg (by omega)]; rw [if_neg (by omega)]; rw [if_pos (by omega)]; rfl) (by rw [hs, zacc_8]) hM)
    · refine z_tIn hX (dflt := 204) (l0 := 0) (h0 := 17) (offs := #[87, 94, 102, 110, 118, 126, 135, 140, 140, 140, 152, 158, 164, 171, 178, 186, 191, 199]) (len := 87) (off := 140) 165 (by decide +kernel) h_x (by omega) (by omega) (by rw [hs]; rfl) (by decide) ?_
      refine z_b hX fo_X11 [.aload_n 0, .getfield 7, .iconst 1, .iload_n 1, .iadd, .bipush 7, .isub] 175 (by decide +kernel) rfl ?_
      refine z_ig hX (v := c 3) (3) (glow (by decide)) (by omega) (by omega) (by decide +kernel) ?_
      exact z_iret hX hR (by decide +kernel) (Pm_que (v := zacc c x) (by unfold aAccount; rw [if_neg (by omega)]; rw [if_neg (by omega)]; rw [if_pos (by omega)]; rfl) (by rw [hs, zacc_9]) hM)
    · refine z_tIn hX (dflt := 204) (l0 := 0) (h0 := 17) (offs := #[87, 94, 102, 110, 118, 126, 135, 140, 140, 140, 152, 158, 164, 171, 178, 186, 191, 199]) (len := 87) (off := 152) 177 (by decide +kernel) h_x (by omega) (by omega) (by rw [hs]; rfl) (by decide) ?_
      refine z_b hX fo_X11 [.aload_n 0, .iconst 1] 179 (by decide +kernel) rfl ?_
      refine z_cV hX m_X11_sumOf l_X11_192 p_X11_sumOf (c_X11_sumOf (w := 1) (n := (c 8).toNat) (by omega) (by omega) (by decide)) rfl rfl rfl rfl rfl rfl (by decide +kernel) ?_
      exact z_iret hX hR (by decide +kernel) (Pm_que (v := zacc c x) (by unfold aAccount; rw [if_neg (by omega)]; rw [if_neg (by omega)]; rw [if_pos (by omega)]; rfl) (by rw [hs, zacc_10]) hM)
    · refine z_tIn hX (dflt := 204) (l0 := 0) (h0 := 17) (offs := #[87, 94, 102, 110, 118, 126, 135, 140, 140, 140, 152, 158, 164, 171, 178, 186, 191, 199]) (len := 87) (off := 158) 183 (by decide +kernel) h_x (by omega) (by omega) (by rw [hs]; rfl) (by decide) ?_
      refine z_b hX fo_X11 [.aload_n 0, .iconst 2] 185 (by decide +kernel) rfl ?_
      refine z_cV hX m_X11_sumOf l_X11_192 p_X11_sumOf (c_X11_sumOf (w := 2) (n := (c 8).toNat) (by omega) (by omega) (by decide)) rfl rfl rfl rfl rfl rfl (by decide +kernel) ?_
      exact z_iret hX hR (by decide +kernel) (Pm_que (v := zacc c x) (by unfold aAccount; rw [if_neg (by omega)]; rw [if_neg (by omega)]; rw [if_pos (by omega)]; rfl) (by rw [hs, zacc_11]) hM)
    · refine z_tIn hX (dflt := 204) (l0 := 0) (h0 := 17) (offs := #[87, 94, 102, 110, 118, 126, 135, 140, 140, 140, 152, 158, 164, 171, 178, 186, 191, 199]) (len := 87) (off := 164) 189 (by decide +kernel) h_x (by omega) (by omega) (by rw [hs]; rfl) (by decide) ?_
      refine z_b hX fo_X11 [.aload_n 0, .getfield 7, .iconst 4] 194 (by decide +kernel) rfl ?_
      refine z_ig hX (v := c 4) (4) rfl (by omega) (by omega) (by decide +kernel) ?_
      exact z_iret hX hR (by decide +kernel) (Pm_que (v := zacc c x) (by unfold aAccount; rw [if_neg (by omega)]; rw [if_neg (by omega)]; rw [if_pos (by omega)]; rfl) (by rw [hs, zacc_12]) hM)
    · refine z_tIn hX (dflt := 204) (l0 := 0) (h0 := 17) (offs := #[87, 94, 102, 110, 118, 126, 135, 140, 140, 140, 152, 158, 164, 171, 178, 186, 191, 199]) (len := 87) (off := 171) 196 (by decide +kernel) h_x (by omega) (by omega) (by rw [hs]; rfl) (by decide) ?_
      refine z_b hX fo_X11 [.aload_n 0, .getfield 7, .iconst 5] 201 (by decide +kernel) rfl ?_
      refine z_ig hX (v := c 5) (5) rfl (by omega) (by omega) (by decide +kernel) ?_
      exact z_iret hX hR (by decide +kernel) (Pm_que (v := zacc c x) (by unfold aAccount; rw [if_neg (by omega)]; rw [if_neg (by omega)]; rw [if_pos (by omega)]; rfl) (by rw [hs, zacc_13]) hM)
    · refine z_tIn hX (dflt := 204) (l0 := 0) (h0 := 17) (offs := #[87, 94, 102, 110, 118, 126, 135, 140, 140, 140, 152, 158, 164, 171, 178, 186, 191, 199]) (len := 87) (off := 178) 203 (by decide +kernel) h_x (by omega) (by omega) (by rw [hs]; rfl) (by decide) ?_
      refine z_b hX fo_X11 [.aload_n 0, .getfield 7, .bipush 6] 209 (by decide +kernel) rfl ?_
      refine z_ig hX (v := c 6) (6) rfl (by omega) (by omega) (by decide +kernel) ?_
      exact z_iret hX hR (by decide +kernel) (Pm_que (v := zacc c x) (by unfold aAccount; rw [if_neg (by omega)]; rw [if_neg (by omega)]; rw [if_pos (by omega)]; rfl) (by rw [hs, zacc_14]) hM)
    · refine z_tIn hX (dflt := 204) (l0 := 0) (h0 := 17) (offs := #[87, 94, 102, 110, 118, 126, 135, 140, 140, 140, 152, 158, 164, 171, 178, 186, 191, 199]) (len := 87) (off := 186) 211 (by decide +kernel) h_x (by omega) (by omega) (by rw [hs]; rfl) (by decide) ?_
      refine z_b hX fo_X11 [.aload_n 0] 212 (by decide +kernel) rfl ?_
      refine z_cV hX m_X11_holes l_X11_119 p_X11_holes (c_X11_holes hI.1.1) rfl rfl rfl rfl rfl rfl (by decide +kernel) ?_
      exact z_iret hX hR (by decide +kernel) (Pm_que (v := zacc c x) (by unfold aAccount; rw [if_neg (by omega)]; rw [if_neg (by omega)]; rw [if_pos (by omega)]; rfl) (by rw [hs, zacc_15]) hM)
    · refine z_tIn hX (dflt := 204) (l0 := 0) (h0 := 17) (offs := #[87, 94, 102, 110, 118, 126, 135, 140, 140, 140, 152, 158, 164, 171, 178, 186, 191, 199]) (len := 87) (off := 191) 216 (by decide +kernel) h_x (by omega) (by omega) (by rw [hs]; rfl) (by decide) ?_
      refine z_b hX fo_X11 [.aload_n 0, .getfield 7, .bipush 8] 222 (by decide +kernel) rfl ?_
      refine z_ig hX (v := c 7) (8) rfl (by omega) (by omega) (by decide +kernel) ?_
      exact z_iret hX hR (by decide +kernel) (Pm_que (v := zacc c x) (by unfold aAccount; rw [if_neg (by omega)]; rw [if_neg (by omega)]; rw [if_pos (by omega)]; rfl) (by rw [hs, zacc_16]) hM)
    · refine z_tIn hX (dflt := 204) (l0 := 0) (h0 := 17) (offs := #[87, 94, 102, 110, 118, 126, 135, 140, 140, 140, 152, 158, 164, 171, 178, 186, 191, 199]) (len := 87) (off := 199) 224 (by decide +kernel) h_x (by omega) (by omega) (by rw [hs]; rfl) (by decide) ?_
      refine z_b hX fo_X11 [.aload_n 0, .getfield 139] 228 (by decide +kernel) rfl ?_
      try dsimp only
      rw [show (zs (zco σ 0) 33 (gm c)) 32 12 = (R.2.2.2.1.2 : Int) by rw [zs_ne (by decide), zco_o _ _ (by decide)]; exact hM.2.2.2.1.1]
      exact z_iret hX hR (by decide +kernel) (Pm_que (v := (R.2.2.2.1.2 : Int)) (by unfold aAccount; rw [if_pos hs]; rfl) rfl hM)
    · refine z_tOut hX (dflt := 204) (l0 := 0) (h0 := 17) (offs := #[87, 94, 102, 110, 118, 126, 135, 140, 140, 140, 152, 158, 164, 171, 178, 186, 191, 199]) (len := 87) 229 (by decide +kernel) h_x (by omega) (by decide) ?_
      refine z_b hX fo_X11 [.aload_n 0, .getfield 48] 233 (by decide +kernel) rfl ?_
      try dsimp only
      rw [show (zs (zco σ 0) 33 (gm c)) 32 5 = (R.1.length : Int) by rw [zs_ne (by decide), zco_o _ _ (by decide)]; exact hM.1.1]
      exact z_iret hX hR (by decide +kernel) (Pm_que (v := (R.1.length : Int)) (by unfold aAccount; rw [if_neg (by omega)]; rw [if_pos hs]; rfl) rfl hM)
  · rw [if_neg h1]
    refine z_if_eq hX (off := 7) 15 (by decide +kernel) (by decide) ⟨by decide, by decide⟩ (fun c8 => ?_) (fun c8 => by exact absurd c8 (by decide))
    refine z_b hX fo_X11 [.iconst 1] 16 (by decide +kernel) rfl ?_
    refine z_cV hX m_X11_fails l_X11_59 p_X11_fails (c_fails1 ⟨by decide, by decide⟩) rfl rfl rfl rfl rfl rfl (by decide +kernel) ?_
    refine z_if_eq hX (off := 5) 24 (by decide +kernel) (by decide) ⟨by decide, by decide⟩ (fun c19 => by exact absurd c19 (by decide)) (fun c19 => ?_)
    refine z_b hX fo_X11 [.iconst 0] 23 (by decide +kernel) rfl ?_
    exact z_iret hX hR (by decide +kernel) (Pm_fail (e := eIA) (by unfold aAccount; rw [if_neg (by omega)]; rw [if_neg (by omega)]; rw [if_neg (by omega)]; (try simp only [Int.toNat_natCast]); rfl) ne_IA_UO hM cd1_1)
set_option maxHeartbeats 1000000 in
theorem c_X11_isWell {E : zE} {D : Int} {R : aQ} {σ : Nat → Nat → Int} {c : Nat → Int} {l : (Nat → Int64) × (Nat → UInt64)} (hI : AI D c R) (hM : MR R σ) {cd : String → Int} : Mb E yX11_isWell (Cond.code yX11_isWell cX11_isWell 4 (Option.some FieldType.boolean)) 2 [vr 32] (σ) (c) (l) (aWell c R) (cd) := by
  refine Ctr_of (own := RX11) (by decide +kernel) rfl rfl (fun Y hX hR hnx => ?_)
  have g8 := hI.1.1.coats
  have g9 := hI.1.1.acts
  have g10 := hI.1.1.women
  have g11 := hI.1.1.trunks
  have g12 := hI.1.1.loaded
  have g1 := hI.1.1.g1
  have g2 := hI.1.1.g2
  have g3 := hI.1.1.g3
  have hsc : c 6 = c 1 + c 4 ∧ c 5 = zsum c 37 (c 8).toNat + c 4 := hI.1.2.2.2.2.1
  refine z_b hX fo_X11 [.aload_n 0, .iconst 0, .putfield 32, .aload_n 0, .getfield 7, .bipush 6] 11 (by decide +kernel) rfl ?_
  rw [zco_eq]
  refine z_ig hX (v := c 6) (6) rfl (by omega) (by omega) (by decide +kernel) ?_
  refine z_b hX fo_X11 [.aload_n 0, .getfield 7, .iconst 1] 17 (by decide +kernel) rfl ?_
  refine z_ig hX (v := c 1) (1) rfl (by omega) (by omega) (by decide +kernel) ?_
  refine z_b hX fo_X11 [.aload_n 0, .getfield 7, .iconst 4] 23 (by decide +kernel) rfl ?_
  refine z_ig hX (v := c 4) (4) rfl (by omega) (by omega) (by decide +kernel) ?_
  refine z_b hX fo_X11 [.iadd] 25 (by decide +kernel) rfl ?_
  refine z_ic_neE hX (off := 28) (tgt := 53) (by decide +kernel) (by decide) hsc.1 ?_
  refine z_b hX fo_X11 [.aload_n 0, .getfield 7, .iconst 5] 33 (by decide +kernel) rfl ?_
  refine z_ig hX (v := c 5) (5) rfl (by omega) (by omega) (by decide +kernel) ?_
  refine z_b hX fo_X11 [.aload_n 0, .iconst 2] 36 (by decide +kernel) rfl ?_
  refine z_cV hX m_X11_sumOf l_X11_192 p_X11_sumOf (c_X11_sumOf (w := 2) (n := (c 8).toNat) (by omega) (by omega) (by decide)) rfl rfl rfl rfl rfl rfl (by decide +kernel) ?_
  refine z_b hX fo_X11 [.aload_n 0, .getfield 7, .iconst 4] 44 (by decide +kernel) rfl ?_
  refine z_ig hX (v := c 4) (4) rfl (by omega) (by omega) (by decide +kernel) ?_
  refine z_b hX fo_X11 [.iadd] 46 (by decide +kernel) rfl ?_
  refine z_ic_neE hX (off := 7) (tgt := 53) (by decide +kernel) (by decide) hsc.2 ?_
  refine z_b hX fo_X11 [.iconst 1] 50 (by decide +kernel) rfl ?_
  refine z_goto hX (off := 4) 54 (by decide +kernel) (by decide) ?_
  refine z_b hX fo_X11 [.istore_n 1, .iconst 0, .istore_n 2] 57 (by decide +kernel) rfl ?_
  obtain ⟨na, hna⟩ : ∃ n : Nat, c 9 = (n : Int) := ⟨(c 9).toNat, by omega⟩
  have loop : ∀ (m : Nat) (i : Nat) (x : Int), x = (i : Int) → i + m = na → Z (E, Y) 0 57 [(2, vi x), (1, vi 1), (0, vr 32)] [] (zs (zco σ 0) 33 (gm c), l) := by
    intro m
    induction m with
    | zero =>
      intro i x hx hm
      subst hx
      refine z_b hX fo_X11 [.iload_n 2, .aload_n 0, .getfield 7, .bipush 82] 64 (by decide +kernel) rfl ?_
      refine z_ig hX (v := c 9) (82) rfl (by omega) (by omega) (by decide +kernel) ?_
      rw [hna]
      refine z_ic_ge hX (off := 41) 106 (by decide +kernel) (by decide) ⟨by omega, by omega⟩ ⟨by omega, by omega⟩ (fun c65 => ?_) (fun c65 => by exfalso; omega)
      refine z_b hX fo_X11 [.iconst 0, .istore_n 2] 108 (by decide +kernel) rfl ?_
      obtain ⟨nt, hnt⟩ : ∃ n : Nat, c 11 = (n : Int) := ⟨(c 11).toNat, by omega⟩
      have loop : ∀ (m : Nat) (i : Nat) (x : Int), x = (i : Int) → i + m = nt → Z (E, Y) 0 108 [(2, vi x), (1, vi 1), (0, vr 32)] [] (zs (zco σ 0) 33 (gm c), l) := by
        intro m
        induction m with
        | zero =>
          intro i x hx hm
          subst hx
          refine z_b hX fo_X11 [.iload_n 2, .aload_n 0, .getfield 7, .bipush 120] 115 (by decide +kernel) rfl ?_
          refine z_ig hX (v := c 11) (120) rfl (by omega) (by omega) (by decide +kernel) ?_
          rw [hnt]
          refine z_ic_ge hX (off := 59) 175 (by decide +kernel) (by decide) ⟨by omega, by omega⟩ ⟨by omega, by omega⟩ (fun c116 => ?_) (fun c116 => by exfalso; omega)
          refine z_b hX fo_X11 [.iload_n 1] 176 (by decide +kernel) rfl ?_
          exact z_zret hX hR (by decide +kernel) (by decide +kernel) (Pm_que (v := 1) rfl rfl hM)
        | succ m ih =>
          intro i x hx hm
          subst hx
          have hit : (i : Int) < c 11 := by omega
          refine z_b hX fo_X11 [.iload_n 2, .aload_n 0, .getfield 7, .bipush 120] 115 (by decide +kernel) rfl ?_
          refine z_ig hX (v := c 11) (120) rfl (by omega) (by omega) (by decide +kernel) ?_
          rw [hnt]
          refine z_ic_ge hX (off := 59) 175 (by decide +kernel) (by decide) ⟨by omega, by omega⟩ ⟨by omega, by omega⟩ (fun c116 => by exfalso; omega) (fun c116 => ?_)
          refine z_b hX fo_X11 [.iconst 0, .istore_n 3] 121 (by decide +kernel) rfl ?_
          obtain ⟨q, hq⟩ : ∃ q : Nat, c (121 + i) = (q : Int) := ⟨(c (121 + i)).toNat, by have := hI.1.1.intr (k := i) (by omega); omega⟩
          have gq := hI.1.1.intr (k := i) (by omega)
          have hout : Z (E, Y) 0 169 [(2, vi (i : Int)), (1, vi 1), (0, vr 32)] [] (zs (zco σ 0) 33 (gm c), l) := by
            refine z_b hX fo_X11 [.iinc 2 1] 172 (by decide +kernel) rfl ?_
            refine z_goto hX (off := (-64)) 108 (by decide +kernel) (by decide) ?_
            exact z_lo [0, 1, 2] (ih (i + 1) _ (by omega) (by omega)) rfl
          have loop2 : ∀ (m2 : Nat) (j : Nat) (y : Int), y = (j : Int) → j + m2 = q → Z (E, Y) 0 121 [(3, vi y), (2, vi (i : Int)), (1, vi 1), (0, vr 32)] [] (zs (zco σ 0) 33 (gm c), l) := by
            intro m2
            induction m2 with
            | zero =>
              intro j y hy hm2
              subst hy
              refine z_b hX fo_X11 [.iload_n 3, .aload_n 0, .iload_n 2] 124 (by decide +kernel) rfl ?_
              refine z_cV hX m_X11_packedIn l_X11_133 p_X11_packedIn (c_X11_packedIn (t := i) (by omega)) rfl rfl rfl rfl rfl rfl (by decide +kernel) ?_
              refine z_ic_ge hX (off := 42) 169 (by decide +kernel) (by decide) ⟨by omega, by omega⟩ ⟨by omega, by omega⟩ (fun c127 => ?_) (fun c127 => by exfalso; omega)
              exact z_lo [1, 2, 3] hout rfl
            | succ m2 ih =>
              intro j y hy hm2
              subst hy
              refine z_b hX fo_X11 [.iload_n 3, .aload_n 0, .iload_n 2] 124 (by decide +kernel) rfl ?_
              refine z_cV hX m_X11_packedIn l_X11_133 p_X11_packedIn (c_X11_packedIn (t := i) (by omega)) rfl rfl rfl rfl rfl rfl (by decide +kernel) ?_
              refine z_ic_ge hX (off := 42) 169 (by decide +kernel) (by decide) ⟨by omega, by omega⟩ ⟨by omega, by omega⟩ (fun c127 => by exfalso; omega) (fun c127 => ?_)
              obtain ⟨k, hk, k1, k2, k3⟩ := hI.1.2.2.1.2.1 i j (by omega) (by omega) (by omega) (by omega)
              refine z_b hX fo_X11 [.iload_n 1, .aload_n 0, .aload_n 0, .getfield 7, .bipush 121, .bipush 6, .iload_n 2, .imul, .iadd, .iconst 1, .iadd, .iload_n 3, .iadd] 147 (by decide +kernel) rfl ?_
              refine z_ig hX (v := (k : Int)) (121 + 6 * i + 1 + j) ((gpl (by omega) (by omega)).trans k1) (by omega) (by omega) (by decide +kernel) ?_
              refine z_b hX fo_X11 [.iconst 4] 149 (by decide +kernel) rfl ?_
              refine z_cV hX m_X11_of l_X11_84 p_X11_of (c_of4 (k := k) hk) rfl rfl rfl rfl rfl rfl (by decide +kernel) ?_
              rw [k3]
              refine z_b hX fo_X11 [.iload_n 2] 153 (by decide +kernel) rfl ?_
              refine z_ic_ne hX (off := 7) 160 (by decide +kernel) (by decide) ⟨by omega, by omega⟩ ⟨by omega, by omega⟩ (fun c153 => by exact absurd rfl c153) (fun c153 => ?_)
              refine z_b hX fo_X11 [.iconst 1] 157 (by decide +kernel) rfl ?_
              refine z_goto hX (off := 4) 161 (by decide +kernel) (by decide) ?_
              refine z_iand hX (by decide +kernel) ?_
              rw [show ((Int32.ofInt 1 &&& Int32.ofInt 1).toInt) = 1 from by decide]
              refine z_b hX fo_X11 [.istore_n 1, .iinc 3 1] 166 (by decide +kernel) rfl ?_
              refine z_goto hX (off := (-45)) 121 (by decide +kernel) (by decide) ?_
              exact z_lo [0, 2, 1, 3] (ih (j + 1) _ (by omega) (by omega)) rfl
          exact z_lo [0, 1, 2, 3] (loop2 q 0 _ rfl (by omega)) rfl
      exact z_lo [0, 1, 2] (loop nt 0 _ rfl (by omega)) rfl
    | succ m ih =>
      intro i x hx hm
      subst hx
      refine z_b hX fo_X11 [.iload_n 2, .aload_n 0, .getfield 7, .bipush 82] 64 (by decide +kernel) rfl ?_
      refine z_ig hX (v := c 9) (82) rfl (by omega) (by omega) (by decide +kernel) ?_
      rw [hna]
      refine z_ic_ge hX (off := 41) 106 (by decide +kernel) (by decide) ⟨by omega, by omega⟩ ⟨by omega, by omega⟩ (fun c65 => by exfalso; omega) (fun c65 => ?_)
      refine z_b hX fo_X11 [.iload_n 1, .aload_n 0, .iload_n 2, .iconst 2] 72 (by decide +kernel) rfl ?_
      refine z_cV hX m_X11_ofAct l_X11_88 p_X11_ofAct (c_ofAct2 (k := i) (by omega)) rfl rfl rfl rfl rfl rfl (by decide +kernel) ?_
      have ga := hI.1.1.acoat (k := i) (by omega)
      refine z_if_lt hX (off := 18) 93 (by decide +kernel) (by decide) ⟨by omega, by omega⟩ (fun c75 => ?_) (fun c75 => ?_)
      · refine z_b hX fo_X11 [.iconst 1] 94 (by decide +kernel) rfl ?_
        refine z_goto hX (off := 4) 98 (by decide +kernel) (by decide) ?_
        refine z_iand hX (by decide +kernel) ?_
        rw [show ((Int32.ofInt 1 &&& Int32.ofInt 1).toInt) = 1 from by decide]
        refine z_b hX fo_X11 [.istore_n 1, .iinc 2 1] 103 (by decide +kernel) rfl ?_
        refine z_goto hX (off := (-46)) 57 (by decide +kernel) (by decide) ?_
        exact z_lo [0, 1, 2] (ih (i + 1) _ (by omega) (by omega)) rfl
      · obtain ⟨k, hk, k1, k2, k3⟩ := hI.1.2.1.2 i (by omega) (by omega) (by omega)
        refine z_b hX fo_X11 [.aload_n 0, .aload_n 0, .iload_n 2, .iconst 2] 82 (by decide +kernel) rfl ?_
        refine z_cV hX m_X11_ofAct l_X11_88 p_X11_ofAct (c_ofAct2 (k := i) (by omega)) rfl rfl rfl rfl rfl rfl (by decide +kernel) ?_
        rw [k1]
        refine z_b hX fo_X11 [.iconst 3] 86 (by decide +kernel) rfl ?_
        refine z_cV hX m_X11_of l_X11_84 p_X11_of (c_of3 (k := k) hk) rfl rfl rfl rfl rfl rfl (by decide +kernel) ?_
        rw [k3]
        refine z_b hX fo_X11 [.iload_n 2] 90 (by decide +kernel) rfl ?_
        refine z_ic_ne hX (off := 7) 97 (by decide +kernel) (by decide) ⟨by omega, by omega⟩ ⟨by omega, by omega⟩ (fun c90 => by exact absurd rfl c90) (fun c90 => ?_)
        refine z_b hX fo_X11 [.iconst 1] 94 (by decide +kernel) rfl ?_
        refine z_goto hX (off := 4) 98 (by decide +kernel) (by decide) ?_
        refine z_iand hX (by decide +kernel) ?_
        rw [show ((Int32.ofInt 1 &&& Int32.ofInt 1).toInt) = 1 from by decide]
        refine z_b hX fo_X11 [.istore_n 1, .iinc 2 1] 103 (by decide +kernel) rfl ?_
        refine z_goto hX (off := (-46)) 57 (by decide +kernel) (by decide) ?_
        exact z_lo [0, 1, 2] (ih (i + 1) _ (by omega) (by omega)) rfl
  exact z_lo [0, 1, 2] (loop na 0 _ rfl (by omega)) rfl
