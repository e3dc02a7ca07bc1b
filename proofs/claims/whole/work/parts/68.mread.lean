/-! ===== the model reads ===== -/
set_option maxHeartbeats 4000000 in
theorem c_X11_carries {E : zE} {k f s D : Int} {i : Nat} {R : aQ} {σ : Nat → Nat → Int} {c : Nat → Int} {l : (Nat → Int64) × (Nat → UInt64)} (hI : AI D c R) (hD : D ≤ 1000000) (hM : MR R σ) (hw : σ 32 6 = wi true) (hT : tOk (σ 38) i (k, f, s)) (hk : okind k) (hf : 0 ≤ f ∧ f ≤ 99) (hs2 : 0 ≤ s ∧ s ≤ 99) (hi : i ≤ 30) : Ctr E yX11_carries (Cond.code yX11_carries cX11_carries 2 (Option.some FieldType.int)) 3 0 [vr 32, vi ((3 * i : Nat) : Int)] (zs σ 33 (gm c), l) (KC (aOp k f s c R) σ l) := by
  refine Ctr_of (own := RX11) (by decide +kernel) rfl rfl (fun Y hX hR hnx => ?_)
  refine z_b hX fo_X11 [.aload_n 0, .getfield 29, .iload_n 1] 5 (by decide +kernel) rfl ?_
  refine z_iald hX (3 * i) rfl (by omega) (by decide) (by omega) (by decide +kernel) ?_
  try dsimp only
  rw [show (zs σ 33 (gm c)) 38 (3 * i) = k by rw [zs_ne (by decide)]; exact hT.1]
  rcases hk with hs | hs | hs | hs | hs | hs | hs
  · subst hs
    rw [aOp_115] at hR
    refine z_tIn hX (dflt := 184) (l0 := 103) (h0 := 119) (offs := #[158, 184, 184, 184, 124, 145, 184, 184, 184, 171, 184, 184, 82, 184, 184, 184, 103]) (len := 82) (off := 82) 88 (by decide +kernel) ⟨by omega, by omega⟩ (by omega) (by omega) (by rfl) (by decide) ?_
    refine z_b hX fo_X11 [.aload_n 0, .aload_n 0, .getfield 29, .iload_n 1, .iconst 1, .iadd] 96 (by decide +kernel) rfl ?_
    refine z_iald hX (3 * i + 1) rfl (by omega) (by decide) (by omega) (by decide +kernel) ?_
    try dsimp only
    rw [show (zs σ 33 (gm c)) 38 (3 * i + 1) = f by rw [zs_ne (by decide)]; exact hT.2.1 (by dsimp only; omega)]
    refine z_b hX fo_X11 [.aload_n 0, .getfield 29, .iload_n 1, .iconst 2, .iadd] 104 (by decide +kernel) rfl ?_
    refine z_iald hX (3 * i + 2) rfl (by omega) (by decide) (by omega) (by decide +kernel) ?_
    try dsimp only
    rw [show (zs σ 33 (gm c)) 38 (3 * i + 2) = s by rw [zs_ne (by decide)]; exact hT.2.2 (by dsimp only; omega)]
    refine z_cVK hX m_X11_sew l_X11_162 p_X11_sew (c_X11_sew (w := true) hI hM hw ⟨by omega, by omega⟩ ⟨by omega, by omega⟩) rfl rfl rfl rfl rfl rfl (by decide +kernel) (fun o s9 q => by obtain ⟨v, σ9, e9, -⟩ := q; exact ⟨_, e9⟩) (fun v st9 q9 => ?_)
    obtain ⟨v0, σ9, e9, hs9, hrest⟩ := q9.kc (fun e h => cdx2 ne_UO_IB (aSew_x h))
    cases e9
    exact z_iret hX hR (by decide +kernel) ⟨v0, σ9, rfl, hs9, hrest⟩
  · subst hs
    rw [aOp_119] at hR
    refine z_tIn hX (dflt := 184) (l0 := 103) (h0 := 119) (offs := #[158, 184, 184, 184, 124, 145, 184, 184, 184, 171, 184, 184, 82, 184, 184, 184, 103]) (len := 82) (off := 103) 109 (by decide +kernel) ⟨by omega, by omega⟩ (by omega) (by omega) (by rfl) (by decide) ?_
    refine z_b hX fo_X11 [.aload_n 0, .aload_n 0, .getfield 29, .iload_n 1, .iconst 1, .iadd] 117 (by decide +kernel) rfl ?_
    refine z_iald hX (3 * i + 1) rfl (by omega) (by decide) (by omega) (by decide +kernel) ?_
    try dsimp only
    rw [show (zs σ 33 (gm c)) 38 (3 * i + 1) = f by rw [zs_ne (by decide)]; exact hT.2.1 (by dsimp only; omega)]
    refine z_b hX fo_X11 [.aload_n 0, .getfield 29, .iload_n 1, .iconst 2, .iadd] 125 (by decide +kernel) rfl ?_
    refine z_iald hX (3 * i + 2) rfl (by omega) (by decide) (by omega) (by decide +kernel) ?_
    try dsimp only
    rw [show (zs σ 33 (gm c)) 38 (3 * i + 2) = s by rw [zs_ne (by decide)]; exact hT.2.2 (by dsimp only; omega)]
    refine z_cVK hX m_X11_wear l_X11_165 p_X11_wear (c_X11_wear (w := true) hI hM hw ⟨by omega, by omega⟩ ⟨by omega, by omega⟩) rfl rfl rfl rfl rfl rfl (by decide +kernel) (fun o s9 q => by obtain ⟨v, σ9, e9, -⟩ := q; exact ⟨_, e9⟩) (fun v st9 q9 => ?_)
    obtain ⟨v0, σ9, e9, hs9, hrest⟩ := q9.kc (fun e h => cdx2 ne_UO_IB (aWear_x h))
    cases e9
    exact z_iret hX hR (by decide +kernel) ⟨v0, σ9, rfl, hs9, hrest⟩
  · subst hs
    rw [aOp_107] at hR
    refine z_tIn hX (dflt := 184) (l0 := 103) (h0 := 119) (offs := #[158, 184, 184, 184, 124, 145, 184, 184, 184, 171, 184, 184, 82, 184, 184, 184, 103]) (len := 82) (off := 124) 130 (by decide +kernel) ⟨by omega, by omega⟩ (by omega) (by omega) (by rfl) (by decide) ?_
    refine z_b hX fo_X11 [.aload_n 0, .aload_n 0, .getfield 29, .iload_n 1, .iconst 1, .iadd] 138 (by decide +kernel) rfl ?_
    refine z_iald hX (3 * i + 1) rfl (by omega) (by decide) (by omega) (by decide +kernel) ?_
    try dsimp only
    rw [show (zs σ 33 (gm c)) 38 (3 * i + 1) = f by rw [zs_ne (by decide)]; exact hT.2.1 (by dsimp only; omega)]
    refine z_b hX fo_X11 [.aload_n 0, .getfield 29, .iload_n 1, .iconst 2, .iadd] 146 (by decide +kernel) rfl ?_
    refine z_iald hX (3 * i + 2) rfl (by omega) (by decide) (by omega) (by decide +kernel) ?_
    try dsimp only
    rw [show (zs σ 33 (gm c)) 38 (3 * i + 2) = s by rw [zs_ne (by decide)]; exact hT.2.2 (by dsimp only; omega)]
    refine z_cVK hX m_X11_pack l_X11_168 p_X11_pack (c_X11_pack (w := true) hI hM hw ⟨by omega, by omega⟩ ⟨by omega, by omega⟩) rfl rfl rfl rfl rfl rfl (by decide +kernel) (fun o s9 q => by obtain ⟨v, σ9, e9, -⟩ := q; exact ⟨_, e9⟩) (fun v st9 q9 => ?_)
    obtain ⟨v0, σ9, e9, hs9, hrest⟩ := q9.kc (fun e h => cdx2 ne_UO_IB (aPack_x h))
    cases e9
    exact z_iret hX hR (by decide +kernel) ⟨v0, σ9, rfl, hs9, hrest⟩
  · subst hs
    rw [aOp_108] at hR
    refine z_tIn hX (dflt := 184) (l0 := 103) (h0 := 119) (offs := #[158, 184, 184, 184, 124, 145, 184, 184, 184, 171, 184, 184, 82, 184, 184, 184, 103]) (len := 82) (off := 145) 151 (by decide +kernel) ⟨by omega, by omega⟩ (by omega) (by omega) (by rfl) (by decide) ?_
    refine z_b hX fo_X11 [.aload_n 0, .aload_n 0, .getfield 29, .iload_n 1, .iconst 1, .iadd] 159 (by decide +kernel) rfl ?_
    refine z_iald hX (3 * i + 1) rfl (by omega) (by decide) (by omega) (by decide +kernel) ?_
    try dsimp only
    rw [show (zs σ 33 (gm c)) 38 (3 * i + 1) = f by rw [zs_ne (by decide)]; exact hT.2.1 (by dsimp only; omega)]
    refine z_cVK hX m_X11_load l_X11_171 p_X11_load (c_X11_load (w := true) hI hM hw ⟨by omega, by omega⟩) rfl rfl rfl rfl rfl rfl (by decide +kernel) (fun o s9 q => by obtain ⟨v, σ9, e9, -⟩ := q; exact ⟨_, e9⟩) (fun v st9 q9 => ?_)
    obtain ⟨v0, σ9, e9, hs9, hrest⟩ := q9.kc (fun e h => cdx2 ne_UO_IB (aLoad_x h))
    cases e9
    exact z_iret hX hR (by decide +kernel) ⟨v0, σ9, rfl, hs9, hrest⟩
  · subst hs
    rw [aOp_117] at hR
    refine z_tIn hX (dflt := 184) (l0 := 103) (h0 := 119) (offs := #[158, 184, 184, 184, 124, 145, 184, 184, 184, 171, 184, 184, 82, 184, 184, 184, 103]) (len := 82) (off := 184) 190 (by decide +kernel) ⟨by omega, by omega⟩ (by omega) (by omega) (by rfl) (by decide) ?_
    refine z_b hX fo_X11 [.aload_n 0] 191 (by decide +kernel) rfl ?_
    refine z_cVK hX m_X11_unload l_X11_180 p_X11_unload (c_X11_unload (w := true) hI hM hw ) rfl rfl rfl rfl rfl rfl (by decide +kernel) (fun o s9 q => by obtain ⟨v, σ9, e9, -⟩ := q; exact ⟨_, e9⟩) (fun v st9 q9 => ?_)
    obtain ⟨v0, σ9, e9, hs9, hrest⟩ := q9.kc (fun e h => cdx1 (aUnload_x h))
    cases e9
    exact z_iret hX hR (by decide +kernel) ⟨v0, σ9, rfl, hs9, hrest⟩
  · subst hs
    rw [aOp_103] at hR
    refine z_tIn hX (dflt := 184) (l0 := 103) (h0 := 119) (offs := #[158, 184, 184, 184, 124, 145, 184, 184, 184, 171, 184, 184, 82, 184, 184, 184, 103]) (len := 82) (off := 158) 164 (by decide +kernel) ⟨by omega, by omega⟩ (by omega) (by omega) (by rfl) (by decide) ?_
    refine z_b hX fo_X11 [.aload_n 0, .aload_n 0, .getfield 29, .iload_n 1, .iconst 1, .iadd] 172 (by decide +kernel) rfl ?_
    refine z_iald hX (3 * i + 1) rfl (by omega) (by decide) (by omega) (by decide +kernel) ?_
    try dsimp only
    rw [show (zs σ 33 (gm c)) 38 (3 * i + 1) = f by rw [zs_ne (by decide)]; exact hT.2.1 (by dsimp only; omega)]
    refine z_cVK hX m_X11_goOn l_X11_174 p_X11_goOn (c_X11_goOn (w := true) hI hM hw ⟨by omega, by omega⟩) rfl rfl rfl rfl rfl rfl (by decide +kernel) (fun o s9 q => by obtain ⟨v, σ9, e9, -⟩ := q; exact ⟨_, e9⟩) (fun v st9 q9 => ?_)
    obtain ⟨v0, σ9, e9, hs9, hrest⟩ := q9.kc (fun e h => cdx2 ne_UO_IB (aGoOn_x h))
    cases e9
    exact z_iret hX hR (by decide +kernel) ⟨v0, σ9, rfl, hs9, hrest⟩
  · subst hs
    rw [aOp_112] at hR
    refine z_tIn hX (dflt := 184) (l0 := 103) (h0 := 119) (offs := #[158, 184, 184, 184, 124, 145, 184, 184, 184, 171, 184, 184, 82, 184, 184, 184, 103]) (len := 82) (off := 171) 177 (by decide +kernel) ⟨by omega, by omega⟩ (by omega) (by omega) (by rfl) (by decide) ?_
    refine z_b hX fo_X11 [.aload_n 0, .aload_n 0, .getfield 29, .iload_n 1, .iconst 1, .iadd] 185 (by decide +kernel) rfl ?_
    refine z_iald hX (3 * i + 1) rfl (by omega) (by decide) (by omega) (by decide +kernel) ?_
    try dsimp only
    rw [show (zs σ 33 (gm c)) 38 (3 * i + 1) = f by rw [zs_ne (by decide)]; exact hT.2.1 (by dsimp only; omega)]
    refine z_cVK hX m_X11_pass l_X11_177 p_X11_pass (c_X11_pass (w := true) hI hM hw ⟨by omega, by omega⟩ hD) rfl rfl rfl rfl rfl rfl (by decide +kernel) (fun o s9 q => by obtain ⟨v, σ9, e9, -⟩ := q; exact ⟨_, e9⟩) (fun v st9 q9 => ?_)
    obtain ⟨v0, σ9, e9, hs9, hrest⟩ := q9.kc (fun e h => cdx1 (aPass_x h))
    cases e9
    exact z_iret hX hR (by decide +kernel) ⟨v0, σ9, rfl, hs9, hrest⟩
theorem cpy_gg {X : Nat → Int} {c c1 : Nat → Int} (h : ∀ j, j < 150 → X j = gm c j) : cpy X 0 (gm c1) 0 150 = gm c := cpy_gm (fun j hj => by rw [Nat.zero_add]; exact h j hj)
set_option maxHeartbeats 4000000 in
theorem c_X11_read {E : zE} {D : Int} {R : aQ} {σ : Nat → Nat → Int} {c : Nat → Int} {l : (Nat → Int64) × (Nat → UInt64)} (hI : AI D c R) (hD : D + 1800 ≤ 1000000) (hM : MR R σ) (h60 : σ 32 6 = 0) : Ctr E yX11_read (Cond.code yX11_read cX11_read 4 (Option.some FieldType.int)) 4 0 [vr 32] (zs σ 33 (gm c), l) (PW (aRead c R) (cd2 eIA eUO) σ l) := by
  refine Ctr_of (own := RX11) (by decide +kernel) rfl rfl (fun Y hX hR hnx => ?_)
  refine z_b hX fo_X11 [.aload_n 0] 1 (by decide +kernel) rfl ?_
  have hn : R.2.2.2.1.2 ≤ 60 := hI.2.2.2.2.1
  refine z_cVK hX m_X11_isText l_X11_183 p_X11_isText (c_X11_isText (t := R.2.2.2.1.1) (n := R.2.2.2.1.2) (τ := zs σ 33 (gm c)) (l := l) (by rw [zs_ne (by decide)]; exact hM.2.2.2.1.1) (by rw [zs_ne (by decide)]; exact hM.2.2.2.1.2) hn hI.2.2.2.2.2.1) rfl rfl rfl rfl rfl rfl (by decide +kernel) (fun o s q => ⟨_, q.1⟩) (fun v st9 q9 => ?_)
  obtain ⟨e9, f2, q2, rfl, hall9⟩ := q9
  cases e9
  rw [tS_33]
  have hM1 : MR R (tS (tm σ q2) f2 (rdP R).2.1) := hM.cg (fun i hi => by rw [tS_32 (by omega), tm_32 (by omega)]) (fun k hk => by rw [tS_n (by omega) (by omega), tm_n (by omega)])
  by_cases hp : (rdP R).1 = true
  · obtain ⟨hql, hall⟩ := hall9 hp
    rw [show ib1 (ipr R.2.2.2.1.1 R.2.2.2.1.2 61 0).1 = 1 by rw [show (ipr R.2.2.2.1.1 R.2.2.2.1.2 61 0).1 = true from hp]; rfl]
    refine z_b hX fo_X11 [.istore_n 1] 5 (by decide +kernel) rfl ?_
    refine z_b hX fo_X11 [.aload_n 0, .iload_n 1] 7 (by decide +kernel) rfl ?_
    refine z_if_eq hX (off := 7) 14 (by decide +kernel) (by decide) ⟨by decide, by decide⟩ (fun c7 => by exact absurd c7 (by decide)) (fun c7 => ?_)
    refine z_b hX fo_X11 [.iconst (-1)] 11 (by decide +kernel) rfl ?_
    refine z_goto hX (off := 7) 18 (by decide +kernel) (by decide) ?_
    refine z_b hX fo_X11 [.putfield 25, .aload_n 0, .iconst 0, .putfield 139] 26 (by decide +kernel) rfl ?_
    rw [zer_eq]
    have hM2 : MR (rdR R (-1)) (zer (tS (tm σ q2) f2 (rdP R).2.1) (-1)) := hM1.er (-1)
    refine z_b hX fo_X11 [.aload_n 0, .iload_n 1] 28 (by decide +kernel) rfl ?_
    refine z_if_eq hX (off := 7) 35 (by decide +kernel) (by decide) ⟨by decide, by decide⟩ (fun c28 => by exact absurd c28 (by decide)) (fun c28 => ?_)
    refine z_b hX fo_X11 [.iconst 0] 32 (by decide +kernel) rfl ?_
    refine z_goto hX (off := 4) 36 (by decide +kernel) (by decide) ?_
    refine z_cV hX m_X11_fails l_X11_59 p_X11_fails (c_fails0 rfl) rfl rfl rfl rfl rfl rfl (by decide +kernel) ?_
    refine z_if_eq hX (off := 5) 44 (by decide +kernel) (by decide) ⟨by decide, by decide⟩ (fun c39 => ?_) (fun c39 => by exact absurd c39 (by decide))
    refine z_b hX fo_X11 [.aload_n 0, .getfield 7, .iconst 0, .aload_n 0, .getfield 19, .iconst 0] 54 (by decide +kernel) rfl ?_
    refine z_cS0 hX m_X11_copies l_X11_51 p_X11_copies (c_cp33_36 (a := 0) (b := 0) (by decide) (by decide)) rfl rfl rfl rfl (by decide +kernel) ?_
    obtain ⟨X, hX0, hX9⟩ : ∃ X, X = cpy (gm c) 0 ((zs (zco (zer (tS (tm σ q2) f2 (rdP R).2.1) (-1)) 0) 33 (gm c)) 36) 0 150 ∧ ∀ j, j < 150 → X j = gm c j := ⟨_, rfl, fun j hj => by unfold cpy; rw [if_pos (by omega)]; congr 1; omega⟩
    rw [zs_eq, ← hX0, zs_comm (show 33 ≠ 36 by decide)]
    have hM5 : MR (rdR R (-1)) (zwi (zco (zer (tS (tm σ q2) f2 (rdP R).2.1) (-1)) 0) X) := (hM2.co 0).cg (fun i hi => zwi_o (by omega) (by omega)) (fun k hk => zwi_n (by omega) (by omega))
    have hln := rdL_n hn
    refine z_b hX fo_X11 [.aload_n 0, .iconst 1] 59 (by decide +kernel) rfl ?_
    refine z_putz hX (oc := 5) (f := 6) rfl ws_X11 tyX11_ok nmX11 (by decide) f_X11_45 rfl rfl rfl (by decide) rfl rfl (by decide +kernel) ?_
    refine z_b hX fo_X11 [.aload_n 0, .iconst 0] 64 (by decide +kernel) rfl ?_
    refine z_putz hX (oc := 5) (f := 8) rfl ws_X11 tyX11_ok nmX11 (by decide) f_X11_35 rfl rfl rfl (by decide) rfl rfl (by decide +kernel) ?_
    rw [zwi_eq]
    refine z_b hX fo_X11 [.iconst 0, .istore_n 2, .iconst 0, .istore_n 3] 71 (by decide +kernel) rfl ?_
    have hfail : ∀ (x g : Int) (τ : Nat → Nat → Int) (c1 : Nat → Int) (R9 : aQ) (e : String), MR R9 τ → τ 36 = X → (1 ≤ τ 32 7 ∧ τ 32 7 ≤ 9) → τ 32 8 = (if e = eUO then 1 else 0) → (∀ k, k < 32 → τ k = σ k) → aRead c R = (.inr e, c, R9) → (e = eUO ∨ e = eIA) → Z (E, Y) 0 100 [(2, vi x), (3, vi g), (0, vr 32), (1, vi 1)] [] (zs τ 33 (gm c1), l) := by
      intro x g τ c1 R9 e hM0 t36 t7 t8 tF ho hee
      have hM9 : MR R9 (zwo τ) := hM0.cg (fun i hi => zwo_o (by omega)) (fun k hk => zwo_n (by omega))
      refine z_b hX fo_X11 [.aload_n 0, .iconst 0] 102 (by decide +kernel) rfl ?_
      refine z_putz hX (oc := 5) (f := 6) rfl ws_X11 tyX11_ok nmX11 (by decide) f_X11_45 rfl rfl rfl (by decide) rfl rfl (by decide +kernel) ?_
      rw [zwo_eq]
      refine z_b hX fo_X11 [.aload_n 0, .getfield 32] 109 (by decide +kernel) rfl ?_
      try dsimp only
      rw [show (zs (zwo τ) 33 (gm c1)) 32 7 = τ 32 7 by rw [zs_ne (by decide)]; exact zwo_o (by decide)]
      refine z_if_le hX (off := 42) 151 (by decide +kernel) (by decide) ⟨by omega, by omega⟩ (fun c109 => by exfalso; omega) (fun c109 => ?_)
      refine z_b hX fo_X11 [.aload_n 0, .getfield 19, .iconst 0, .aload_n 0, .getfield 7, .iconst 0] 122 (by decide +kernel) rfl ?_
      refine z_cS0 hX m_X11_copies l_X11_51 p_X11_copies (c_cp36_33 (a := 0) (b := 0) (by decide) (by decide)) rfl rfl rfl rfl (by decide +kernel) ?_
      rw [show zs (zs (zwo τ) 33 (gm c1)) 33 (cpy ((zs (zwo τ) 33 (gm c1)) 36) 0 ((zs (zwo τ) 33 (gm c1)) 33) 0 150) = zs (zwo τ) 33 (gm c) by rw [zs_zs, zs_eq, zs_ne (show 36 ≠ 33 by decide), zwo_n (by decide), t36, cpy_gg hX9]]
      refine z_b hX fo_X11 [.aload_n 0, .aload_n 0, .getfield 35] 130 (by decide +kernel) rfl ?_
      try dsimp only
      rw [show (zs (zwo τ) 33 (gm c)) 32 8 = (if e = eUO then 1 else 0) by rw [zs_ne (by decide), zwo_o (by decide)]; exact t8]
      rcases hee with he | he
      · rw [if_pos he]
        refine z_if_eq hX (off := 7) 137 (by decide +kernel) (by decide) ⟨by decide, by decide⟩ (fun c130 => by exact absurd c130 (by decide)) (fun c130 => ?_)
        refine z_b hX fo_X11 [.iconst 2] 134 (by decide +kernel) rfl ?_
        refine z_goto hX (off := 4) 138 (by decide +kernel) (by decide) ?_
        refine z_b hX fo_X11 [.putfield 32] 141 (by decide +kernel) rfl ?_
        rw [zco_eq]
        refine z_b hX fo_X11 [.iload_n 3] 142 (by decide +kernel) rfl ?_
        refine z_ifU hX (off := 7) 149 (by decide +kernel) (by decide) ?_ ?_
        · refine z_b hX fo_X11 [.iconst 0] 150 (by decide +kernel) rfl ?_
          exact z_iret hX hR (by decide +kernel) (Pw_ex (e := e) ho (zco (zwo τ) 2) rfl (hM9.co 2) ((zco_7 _ _).trans (by rw [he]; exact (cd2_2 ne_UO_IA).symm)) (fun k hk => by rw [zco_n _ _ (by omega), zwo_n (by omega)]; exact tF k hk) (by rw [zco_o _ _ (by decide), zwo_6]; exact h60.symm))
        · refine z_b hX fo_X11 [.iload_n 3] 146 (by decide +kernel) rfl ?_
          refine z_goto hX (off := 4) 150 (by decide +kernel) (by decide) ?_
          exact z_iret hX hR (by decide +kernel) (Pw_ex (e := e) ho (zco (zwo τ) 2) rfl (hM9.co 2) ((zco_7 _ _).trans (by rw [he]; exact (cd2_2 ne_UO_IA).symm)) (fun k hk => by rw [zco_n _ _ (by omega), zwo_n (by omega)]; exact tF k hk) (by rw [zco_o _ _ (by decide), zwo_6]; exact h60.symm))
      · rw [if_neg (by rw [he]; exact ne_IA_UO)]
        refine z_if_eq hX (off := 7) 137 (by decide +kernel) (by decide) ⟨by decide, by decide⟩ (fun c130 => ?_) (fun c130 => by exact absurd c130 (by decide))
        refine z_b hX fo_X11 [.iconst 1, .putfield 32] 141 (by decide +kernel) rfl ?_
        rw [zco_eq]
        refine z_b hX fo_X11 [.iload_n 3] 142 (by decide +kernel) rfl ?_
        refine z_ifU hX (off := 7) 149 (by decide +kernel) (by decide) ?_ ?_
        · refine z_b hX fo_X11 [.iconst 0] 150 (by decide +kernel) rfl ?_
          exact z_iret hX hR (by decide +kernel) (Pw_ex (e := e) ho (zco (zwo τ) 1) rfl (hM9.co 1) ((zco_7 _ _).trans (by rw [he]; exact cd2_1.symm)) (fun k hk => by rw [zco_n _ _ (by omega), zwo_n (by omega)]; exact tF k hk) (by rw [zco_o _ _ (by decide), zwo_6]; exact h60.symm))
        · refine z_b hX fo_X11 [.iload_n 3] 146 (by decide +kernel) rfl ?_
          refine z_goto hX (off := 4) 150 (by decide +kernel) (by decide) ?_
          exact z_iret hX hR (by decide +kernel) (Pw_ex (e := e) ho (zco (zwo τ) 1) rfl (hM9.co 1) ((zco_7 _ _).trans (by rw [he]; exact cd2_1.symm)) (fun k hk => by rw [zco_n _ _ (by omega), zwo_n (by omega)]; exact tF k hk) (by rw [zco_o _ _ (by decide), zwo_6]; exact h60.symm))
    have loop : ∀ (m : Nat) (i : Nat) (x g : Int) (τ : Nat → Nat → Int) (c1 : Nat → Int), x = (i : Int) → i + m = (rdL R).length → MR (rdR R (-1)) τ → τ 36 = X → τ 38 = f2 → τ 32 16 = ((rdL R).length : Int) → τ 32 6 = wi true → τ 32 7 = 0 → τ 32 8 = 0 → (∀ k, k < 32 → τ k = σ k) → AI (D + 60 * (i : Int)) c1 (rdR R (-1)) → crO (oK (rdL R)) (oF (rdL R)) (oS (rdL R)) m i c1 = rdO c R → Z (E, Y) 0 71 [(2, vi x), (3, vi g), (0, vr 32), (1, vi 1)] [] (zs τ 33 (gm c1), l) := by
      intro m
      induction m with
      | zero =>
        intro i x g τ c1 hx hm hM0 t36 t38 t16 t6 t7 t8 tF hI1 hr
        subst hx
        have hM9 : MR (rdR R (-1)) (zwo τ) := hM0.cg (fun i hi => zwo_o (by omega)) (fun k hk => zwo_n (by omega))
        refine z_b hX fo_X11 [.iload_n 2, .aload_n 0, .getfield 148] 76 (by decide +kernel) rfl ?_
        try dsimp only
        rw [show (zs τ 33 (gm c1)) 32 16 = ((rdL R).length : Int) by rw [zs_ne (by decide)]; exact t16]
        refine z_ic_ge hX (off := 24) 100 (by decide +kernel) (by decide) ⟨by omega, by omega⟩ ⟨by omega, by omega⟩ (fun c76 => ?_) (fun c76 => by exfalso; omega)
        refine z_b hX fo_X11 [.aload_n 0, .iconst 0] 102 (by decide +kernel) rfl ?_
        refine z_putz hX (oc := 5) (f := 6) rfl ws_X11 tyX11_ok nmX11 (by decide) f_X11_45 rfl rfl rfl (by decide) rfl rfl (by decide +kernel) ?_
        rw [zwo_eq]
        refine z_b hX fo_X11 [.aload_n 0, .getfield 32] 109 (by decide +kernel) rfl ?_
        try dsimp only
        rw [show (zs (zwo τ) 33 (gm c1)) 32 7 = 0 by rw [zs_ne (by decide), zwo_o (by decide)]; exact t7]
        refine z_if_le hX (off := 42) 151 (by decide +kernel) (by decide) ⟨by decide, by decide⟩ (fun c109 => ?_) (fun c109 => by exact absurd c109 (by decide))
        refine z_b hX fo_X11 [.aload_n 0, .aload_n 0, .getfield 19] 156 (by decide +kernel) rfl ?_
        refine z_cV0 hX m_X11_keeps l_X11_67 p_X11_keeps (c_keeps36 (n := R.1.length) (by rw [zs_ne (by decide)]; exact zwo_6) (by rw [zs_ne (by decide), zwo_o (by decide)]; exact hM0.1.1) hI.2.2.1) rfl rfl rfl rfl rfl rfl (by decide +kernel) ?_
        rw [kp2_33]
        refine z_b hX fo_X11 [.aload_n 0, .getfield 148] 163 (by decide +kernel) rfl ?_
        try dsimp only
        rw [show (zs (zs (zs (zwo τ) 34 (cpy ((zwo τ) 36) 0 (kpS R.1.length ((zwo τ) 34)) (150 * kpm R.1.length) 150)) 32 (va_up ((zwo τ) 32) 5 ((kpm R.1.length : Int) + 1))) 33 (gm c1)) 32 16 = ((rdL R).length : Int) by rw [zs_ne (by decide), zs_eq, vne (by decide), zwo_o (by decide)]; exact t16]
        exact z_iret hX hR (by decide +kernel) (Pw_ok (v := ((rdL R).length : Int)) (c' := (rdO c R).2.2) (aRead_d hp (by rw [← hr]; rfl) (by rw [← hr]; rfl)) rfl (zs (zs (zwo τ) 34 (cpy ((zwo τ) 36) 0 (kpS R.1.length ((zwo τ) 34)) (150 * kpm R.1.length) 150)) 32 (va_up ((zwo τ) 32) 5 ((kpm R.1.length : Int) + 1))) (by rw [← hr]; rfl) (hM9.keep hI.2.2.1 (fun j hj => by rw [zwo_n (by decide), t36]; exact hX9 j hj)) (by rw [zs_eq, vne (by decide), zwo_o (by decide)]; exact t7) (fun k hk => by rw [zs_ne (by omega), zs_ne (by omega), zwo_n (by omega)]; exact tF k hk) (by rw [zs_eq, vne (by decide), zwo_6]; exact h60.symm))
      | succ m ih =>
        intro i x g τ c1 hx hm hM0 t36 t38 t16 t6 t7 t8 tF hI1 hr
        subst hx
        have hin : i < (rdL R).length := by omega
        obtain ⟨ho1, ho2, ho3⟩ := oAt hin (rdL_v R)
        have hT := hall i _ (List.getElem?_eq_getElem hin)
        have eo : (rdL R)[i] = (oK (rdL R) i, oF (rdL R) i, oS (rdL R) i) := by unfold oK oF oS; rw [List.getD_eq_getElem?_getD, List.getElem?_eq_getElem hin]; rfl
        rw [eo] at hT
        refine z_b hX fo_X11 [.iload_n 2, .aload_n 0, .getfield 148] 76 (by decide +kernel) rfl ?_
        try dsimp only
        rw [show (zs τ 33 (gm c1)) 32 16 = ((rdL R).length : Int) by rw [zs_ne (by decide)]; exact t16]
        refine z_ic_ge hX (off := 24) 100 (by decide +kernel) (by decide) ⟨by omega, by omega⟩ ⟨by omega, by omega⟩ (fun c76 => by exfalso; omega) (fun c76 => ?_)
        refine z_b hX fo_X11 [.aload_n 0, .getfield 32] 83 (by decide +kernel) rfl ?_
        try dsimp only
        rw [show (zs τ 33 (gm c1)) 32 7 = 0 by rw [zs_ne (by decide)]; exact t7]
        refine z_if_ne hX (off := 17) 100 (by decide +kernel) (by decide) ⟨by decide, by decide⟩ (fun c83 => by exact absurd rfl c83) (fun c83 => ?_)
        refine z_b hX fo_X11 [.aload_n 0, .iconst 3, .iload_n 2, .imul] 90 (by decide +kernel) rfl ?_
        rw [show (3 : Int) * (i : Int) = ((3 * i : Nat) : Int) by omega]
        refine z_cVK hX m_X11_carries l_X11_186 p_X11_carries (c_X11_carries (k := oK (rdL R) i) (f := oF (rdL R) i) (s := oS (rdL R) i) (i := i) hI1 (by omega) hM0 t6 (by rw [t38]; exact hT) ho1 ho2 ho3 (by omega)) rfl rfl rfl rfl rfl rfl (by decide +kernel) (fun o s9 q => by obtain ⟨v, σ9, e9, -⟩ := q; exact ⟨_, e9⟩) (fun v st9 q9 => ?_)
        obtain ⟨v0, σ9, e9, hs9, hM9, hrest⟩ := q9
        cases e9
        by_cases hnm : oNm c1 (oK (rdL R) i) (oF (rdL R) i) (oS (rdL R) i) = true
        · cases hrf : oRf c1 (oK (rdL R) i) (oF (rdL R) i) (oS (rdL R) i) with
          | none =>
            obtain ⟨va, ea⟩ := aOp_g (R := rdR R (-1)) ho1 hnm hrf
            rw [ea] at hs9 hM9 hrest
            dsimp only at hs9 hM9 hrest
            subst hs9
            obtain ⟨s7, hFo⟩ := hrest
            obtain ⟨f1, f6, f14, f16, f8⟩ := hFo
            have f36 : σ9 36 = τ 36 := f1 36 (by decide) (by decide) (by decide)
            have f38 : σ9 38 = τ 38 := f1 38 (by decide) (by decide) (by decide)
            refine z_b hX fo_X11 [.istore_n 3, .iinc 2 1] 97 (by decide +kernel) rfl ?_
            refine z_goto hX (off := (-26)) 71 (by decide +kernel) (by decide) ?_
            have e5 : D + 60 * ((i + 1 : Nat) : Int) = D + 60 * (i : Int) + 60 := by omega
            refine z_lo [0, 1, 2, 3] (ih (i + 1) _ _ σ9 _ (by omega) (by omega) hM9 (by rw [f36]; exact t36) (by rw [f38]; exact t38) (by rw [f16]; exact t16) (by rw [f6]; exact t6) s7 (by rw [f8]; exact t8) (fun k hk => by rw [f1 k (by omega) (by omega) (by omega)]; exact tF k hk) (by rw [e5]; exact hI1.order ho1 hnm hrf) (by rw [← hr, crO_g hnm hrf])) rfl
          | some y =>
            have ea := aOp_r (R := rdR R (-1)) ho1 hnm hrf
            rw [ea] at hs9 hM9 hrest
            dsimp only at hs9 hM9 hrest
            subst hs9
            obtain ⟨s7, hFo⟩ := hrest
            obtain ⟨f1, f6, f14, f16, f8⟩ := hFo
            have f36 : σ9 36 = τ 36 := f1 36 (by decide) (by decide) (by decide)
            have f38 : σ9 38 = τ 38 := f1 38 (by decide) (by decide) (by decide)
            have s8 : σ9 32 8 = (if eUO = eUO then 1 else 0) := by rw [f8, if_pos rfl, if_pos rfl]
            have hoo : aRead c R = (.inr eUO, c, rfR y (rdR R (-1))) := aRead_u hp (by rw [← hr, crO_r hnm hrf])
            have hee : eUO = eUO ∨ eUO = eIA := Or.inl rfl
            refine z_b hX fo_X11 [.istore_n 3, .iinc 2 1] 97 (by decide +kernel) rfl ?_
            refine z_goto hX (off := (-26)) 71 (by decide +kernel) (by decide) ?_
            refine z_b hX fo_X11 [.iload_n 2, .aload_n 0, .getfield 148] 76 (by decide +kernel) rfl ?_
            try dsimp only
            rw [show (zs σ9 33 (gm c1)) 32 16 = ((rdL R).length : Int) by rw [zs_ne (by decide), f16]; exact t16]
            refine z_ic_ge hX (off := 24) 100 (by decide +kernel) (by decide) ⟨by omega, by omega⟩ ⟨by omega, by omega⟩ (fun c76 => ?_) (fun c76 => ?_)
            · exact z_lo [0, 1, 2, 3] (hfail _ _ σ9 c1 _ _ hM9 (by rw [f36]; exact t36) s7 s8 (fun k hk => by rw [f1 k (by omega) (by omega) (by omega)]; exact tF k hk) hoo hee) rfl
            · refine z_b hX fo_X11 [.aload_n 0, .getfield 32] 83 (by decide +kernel) rfl ?_
              try dsimp only
              rw [show (zs σ9 33 (gm c1)) 32 7 = σ9 32 7 from by rw [zs_ne (by decide)]]
              refine z_if_ne hX (off := 17) 100 (by decide +kernel) (by decide) ⟨by omega, by omega⟩ (fun c83 => ?_) (fun c83 => by exfalso; omega)
              exact z_lo [0, 1, 2, 3] (hfail _ _ σ9 c1 _ _ hM9 (by rw [f36]; exact t36) s7 s8 (fun k hk => by rw [f1 k (by omega) (by omega) (by omega)]; exact tF k hk) hoo hee) rfl
        · obtain ⟨e9, ea, hne⟩ := aOp_w (R := rdR R (-1)) ho1 hnm
          rw [ea] at hs9 hM9 hrest
          dsimp only at hs9 hM9 hrest
          subst hs9
          obtain ⟨s7, hFo⟩ := hrest
          obtain ⟨f1, f6, f14, f16, f8⟩ := hFo
          have f36 : σ9 36 = τ 36 := f1 36 (by decide) (by decide) (by decide)
          have f38 : σ9 38 = τ 38 := f1 38 (by decide) (by decide) (by decide)
          have s8 : σ9 32 8 = (if eIA = eUO then 1 else 0) := by rw [f8, if_neg hne, if_neg ne_IA_UO]; exact t8
          have hoo : aRead c R = (.inr eIA, c, rdR R (-1)) := aRead_w hp (by rw [← hr, crO_w hnm]) (by rw [← hr, crO_w hnm])
          have hee : eIA = eUO ∨ eIA = eIA := Or.inr rfl
          refine z_b hX fo_X11 [.istore_n 3, .iinc 2 1] 97 (by decide +kernel) rfl ?_
          refine z_goto hX (off := (-26)) 71 (by decide +kernel) (by decide) ?_
          refine z_b hX fo_X11 [.iload_n 2, .aload_n 0, .getfield 148] 76 (by decide +kernel) rfl ?_
          try dsimp only
          rw [show (zs σ9 33 (gm c1)) 32 16 = ((rdL R).length : Int) by rw [zs_ne (by decide), f16]; exact t16]
          refine z_ic_ge hX (off := 24) 100 (by decide +kernel) (by decide) ⟨by omega, by omega⟩ ⟨by omega, by omega⟩ (fun c76 => ?_) (fun c76 => ?_)
          · exact z_lo [0, 1, 2, 3] (hfail _ _ σ9 c1 _ _ hM9 (by rw [f36]; exact t36) s7 s8 (fun k hk => by rw [f1 k (by omega) (by omega) (by omega)]; exact tF k hk) hoo hee) rfl
          · refine z_b hX fo_X11 [.aload_n 0, .getfield 32] 83 (by decide +kernel) rfl ?_
            try dsimp only
            rw [show (zs σ9 33 (gm c1)) 32 7 = σ9 32 7 from by rw [zs_ne (by decide)]]
            refine z_if_ne hX (off := 17) 100 (by decide +kernel) (by decide) ⟨by omega, by omega⟩ (fun c83 => ?_) (fun c83 => by exfalso; omega)
            exact z_lo [0, 1, 2, 3] (hfail _ _ σ9 c1 _ _ hM9 (by rw [f36]; exact t36) s7 s8 (fun k hk => by rw [f1 k (by omega) (by omega) (by omega)]; exact tF k hk) hoo hee) rfl
    exact z_lo [1, 0, 3, 2] (loop (rdL R).length 0 0 0 _ c rfl (by omega) hM5 zwi_36 (by rw [zwi_n (by decide) (by decide), zco_n _ _ (by decide), zer_n (by decide)]; exact tS_38) (by rw [zwi_o (by decide) (by decide), zco_o _ _ (by decide), zer_o (by decide) (by decide), tS_32 (by decide), tm_16, hql]) (by rw [zwi_6]; rfl) (by rw [zwi_o (by decide) (by decide)]; exact zco_7 _ 0) zwi_8 (fun k hk => by rw [zwi_n (by omega) (by omega), zco_n _ _ (by omega), zer_n (by omega), tS_n (by omega) (by omega), tm_n (by omega)]) ((hI.rd ⟨by decide, by decide⟩).mono (by omega)) rfl) rfl
  · rw [show ib1 (ipr R.2.2.2.1.1 R.2.2.2.1.2 61 0).1 = 0 by rw [show (ipr R.2.2.2.1.1 R.2.2.2.1.2 61 0).1 = false from Bool.eq_false_iff.mpr hp]; rfl]
    refine z_b hX fo_X11 [.istore_n 1] 5 (by decide +kernel) rfl ?_
    refine z_b hX fo_X11 [.aload_n 0, .iload_n 1] 7 (by decide +kernel) rfl ?_
    refine z_if_eq hX (off := 7) 14 (by decide +kernel) (by decide) ⟨by decide, by decide⟩ (fun c7 => ?_) (fun c7 => by exact absurd c7 (by decide))
    refine z_b hX fo_X11 [.aload_n 0, .getfield 142] 18 (by decide +kernel) rfl ?_
    try dsimp only
    rw [show (zs (tS (tm σ q2) f2 (rdP R).2.1) 33 (gm c)) 32 14 = ((rdP R).2.1 : Int) by rw [zs_ne (by decide)]; exact tS_at]
    refine z_b hX fo_X11 [.putfield 25, .aload_n 0, .iconst 0, .putfield 139] 26 (by decide +kernel) rfl ?_
    rw [zer_eq]
    refine z_b hX fo_X11 [.aload_n 0, .iload_n 1] 28 (by decide +kernel) rfl ?_
    refine z_if_eq hX (off := 7) 35 (by decide +kernel) (by decide) ⟨by decide, by decide⟩ (fun c28 => ?_) (fun c28 => by exact absurd c28 (by decide))
    refine z_b hX fo_X11 [.iconst 1] 36 (by decide +kernel) rfl ?_
    refine z_cV hX m_X11_fails l_X11_59 p_X11_fails (c_fails1 ⟨by decide, by decide⟩) rfl rfl rfl rfl rfl rfl (by decide +kernel) ?_
    refine z_if_eq hX (off := 5) 44 (by decide +kernel) (by decide) ⟨by decide, by decide⟩ (fun c39 => by exact absurd c39 (by decide)) (fun c39 => ?_)
    refine z_b hX fo_X11 [.iconst 0] 43 (by decide +kernel) rfl ?_
    exact z_iret hX hR (by decide +kernel) (Pw_ex (e := eIA) (aRead_e hp) (zco (zer (tS (tm σ q2) f2 (rdP R).2.1) ((rdP R).2.1 : Int)) 1) rfl ((hM1.er _).co 1) ((zco_7 _ 1).trans cd2_1.symm) (fun k hk => by rw [zco_n _ _ (by omega), zer_n (by omega), tS_n (by omega) (by omega), tm_n (by omega)]) (by rw [zco_o _ _ (by decide), zer_o (by decide) (by decide), tS_32 (by decide), tm_32 (by decide)]))
