/-! ===== the model: undo, snapshot, append, the means ===== -/
theorem zup37 {σ : Nat → Nat → Int} {g : Nat → Int} {i : Nat} {v : Int} : zup (zs σ 33 g) 37 i v = zs (zs σ 37 (va_up (σ 37) i v)) 33 g := by
  rw [zup_zs, zs_ne (show 37 ≠ 33 by decide), zs_comm (show 33 ≠ 37 by decide)]
set_option maxHeartbeats 1000000 in
theorem c_X11_undo {E : zE} {D : Int} {R : aQ} {σ : Nat → Nat → Int} {c : Nat → Int} {l : (Nat → Int64) × (Nat → UInt64)} (hI : AI D c R) (hM : MR R σ) : Wb E yX11_undo (Cond.code yX11_undo cX11_undo 1 (Option.some FieldType.int)) 1 [vr 32] (σ) (c) (l) (aUndo c R) ((cd1 eIS)) := by
  refine Ctr_of (own := RX11) (by decide +kernel) rfl rfl (fun Y hX hR hnx => ?_)
  refine z_b hX fo_X11 [.aload_n 0, .aload_n 0, .getfield 48] 5 (by decide +kernel) rfl ?_
  try dsimp only
  rw [show (zs σ 33 (gm c)) 32 5 = (R.1.length : Int) by rw [zs_ne (by decide)]; exact hM.1.1]
  have hl8 := hI.2.2.1
  cases hR1 : R.1 with
  | nil =>
    rw [show (([] : List (Nat → Int)).length : Int) = 0 from rfl]
    refine z_if_ne hX (off := 7) 12 (by decide +kernel) (by decide) ⟨by decide, by decide⟩ (fun c5 => by exact absurd rfl c5) (fun c5 => ?_)
    refine z_b hX fo_X11 [.iconst 1] 9 (by decide +kernel) rfl ?_
    refine z_goto hX (off := 4) 13 (by decide +kernel) (by decide) ?_
    refine z_cV hX m_X11_fails l_X11_59 p_X11_fails (c_fails1 ⟨by decide, by decide⟩) rfl rfl rfl rfl rfl rfl (by decide +kernel) ?_
    refine z_if_eq hX (off := 5) 21 (by decide +kernel) (by decide) ⟨by decide, by decide⟩ (fun c16 => by exact absurd c16 (by decide)) (fun c16 => ?_)
    refine z_b hX fo_X11 [.iconst 0] 20 (by decide +kernel) rfl ?_
    exact z_iret hX hR (by decide +kernel) (Pw_ex (e := eIS) (aUndo_n hR1) (zco σ 1) rfl (hM.co 1) ((zco_7 σ 1).trans cd1_1.symm) (fun k hk => zco_n σ 1 (by omega)) (zco_o σ 1 (by decide)))
  | cons r H =>
    rw [hR1] at hl8
    have hl9 : H.length + 1 ≤ 8 := hl8
    rw [show ((r :: H).length : Int) = ((H.length + 1 : Nat) : Int) from rfl]
    refine z_if_ne hX (off := 7) 12 (by decide +kernel) (by decide) ⟨by omega, by omega⟩ (fun c5 => ?_) (fun c5 => by exfalso; omega)
    refine z_b hX fo_X11 [.iconst 0] 13 (by decide +kernel) rfl ?_
    refine z_cV hX m_X11_fails l_X11_59 p_X11_fails (c_fails0 rfl) rfl rfl rfl rfl rfl rfl (by decide +kernel) ?_
    refine z_if_eq hX (off := 5) 21 (by decide +kernel) (by decide) ⟨by decide, by decide⟩ (fun c16 => ?_) (fun c16 => by exact absurd c16 (by decide))
    refine z_b hX fo_X11 [.aload_n 0, .dup, .getfield 48, .iconst 1, .isub, .putfield 48] 31 (by decide +kernel) rfl ?_
    try dsimp only
    rw [show (zs (zco σ 0) 33 (gm c)) 32 5 - 1 = (H.length : Int) by rw [zs_ne (by decide), zco_o _ _ (by decide), hM.1.1, hR1, List.length_cons]; omega, zup32]
    obtain ⟨hM2, hrow⟩ := (hM.co 0).undo hR1
    have h25 : (zs (zco σ 0) 32 (va_up ((zco σ 0) 32) 5 (H.length : Int))) 32 5 = (H.length : Int) := by rw [zs_eq, va_e, if_pos rfl]
    have h27 : (zs (zco σ 0) 32 (va_up ((zco σ 0) 32) 5 (H.length : Int))) 32 7 = 0 := by rw [zs_eq, vne (by decide)]; exact zco_7 σ 0
    have h26 : (zs (zco σ 0) 32 (va_up ((zco σ 0) 32) 5 (H.length : Int))) 32 6 = σ 32 6 := by rw [zs_eq, vne (by decide)]; exact zco_o σ 0 (by decide)
    have h234 : ∀ j, j < 150 → (zs (zco σ 0) 32 (va_up ((zco σ 0) 32) 5 (H.length : Int))) 34 (150 * H.length + j) = gm r j := fun j hj => by rw [zs_ne (by decide)]; exact hrow j hj
    have hF2 : ∀ k, k < 32 → (zs (zco σ 0) 32 (va_up ((zco σ 0) 32) 5 (H.length : Int))) k = σ k := fun k hk => by rw [zs_ne (by omega)]; exact zco_n σ 0 (by omega)
    generalize (zs (zco σ 0) 32 (va_up ((zco σ 0) 32) 5 (H.length : Int))) = σ2 at *
    refine z_b hX fo_X11 [.aload_n 0, .getfield 13, .sipush 150, .aload_n 0, .getfield 48, .imul, .aload_n 0, .getfield 7, .iconst 0] 48 (by decide +kernel) rfl ?_
    try dsimp only
    rw [show (150 : Int) * (zs σ2 33 (gm c)) 32 5 = ((150 * H.length : Nat) : Int) by rw [zs_ne (by decide), h25]; omega]
    refine z_cS0 hX m_X11_copies l_X11_51 p_X11_copies (c_cp34_33 (a := 150 * H.length) (b := 0) (by omega) (by decide)) rfl rfl rfl rfl (by decide +kernel) ?_
    rw [show zs (zs σ2 33 (gm c)) 33 (cpy ((zs σ2 33 (gm c)) 34) (150 * H.length) ((zs σ2 33 (gm c)) 33) 0 150) = zs σ2 33 (gm r) by rw [zs_zs, zs_eq, zs_ne (show 34 ≠ 33 by decide), cpy_gm h234]]
    refine z_b hX fo_X11 [.aload_n 0, .getfield 48] 55 (by decide +kernel) rfl ?_
    try dsimp only
    rw [show (zs σ2 33 (gm r)) 32 5 = (H.length : Int) by rw [zs_ne (by decide)]; exact h25]
    exact z_iret hX hR (by decide +kernel) (Pw_ok (aUndo_c hR1) rfl σ2 rfl hM2 h27 hF2 h26)
set_option maxHeartbeats 1000000 in
theorem c_X11_save {E : zE} {D : Int} {R : aQ} {σ : Nat → Nat → Int} {c : Nat → Int} {l : (Nat → Int64) × (Nat → UInt64)} (hI : AI D c R) (hM : MR R σ) {cd : String → Int} : Wb E yX11_save (Cond.code yX11_save cX11_save 1 (Option.some FieldType.int)) 1 [vr 32] (σ) (c) (l) (aSave c R) (cd) := by
  refine Ctr_of (own := RX11) (by decide +kernel) rfl rfl (fun Y hX hR hnx => ?_)
  refine z_b hX fo_X11 [.aload_n 0, .iconst 0, .putfield 32, .aload_n 0, .iconst 1] 7 (by decide +kernel) rfl ?_
  refine z_putz hX (oc := 5) (f := 4) rfl ws_X11 tyX11_ok nmX11 (by decide) f_X11_196 rfl rfl rfl (by decide) rfl rfl (by decide +kernel) ?_
  rw [zco_eq, zup32]
  refine z_b hX fo_X11 [.aload_n 0, .getfield 7, .iconst 0, .aload_n 0, .getfield 16, .iconst 0] 20 (by decide +kernel) rfl ?_
  refine z_cS0 hX m_X11_copies l_X11_51 p_X11_copies (c_cp33_35 (a := 0) (b := 0) (by decide) (by decide)) rfl rfl rfl rfl (by decide +kernel) ?_
  rw [show zs (zs (zs (zco σ 0) 32 (va_up ((zco σ 0) 32) 4 1)) 33 (gm c)) 35 (cpy ((zs (zs (zco σ 0) 32 (va_up ((zco σ 0) 32) 4 1)) 33 (gm c)) 33) 0 ((zs (zs (zco σ 0) 32 (va_up ((zco σ 0) 32) 4 1)) 33 (gm c)) 35) 0 150) = zs (zs (zs (zco σ 0) 32 (va_up ((zco σ 0) 32) 4 1)) 35 (cpy (gm c) 0 ((zs (zco σ 0) 32 (va_up ((zco σ 0) 32) 4 1)) 35) 0 150)) 33 (gm c) by rw [zs_eq, zs_ne (show 35 ≠ 33 by decide), zs_comm (show 33 ≠ 35 by decide)]]
  refine z_b hX fo_X11 [.aload_n 0, .getfield 7, .bipush 9] 29 (by decide +kernel) rfl ?_
  refine z_ig hX (v := c 8) (9) rfl (by omega) (by omega) (by decide +kernel) ?_
  exact z_iret hX hR (by decide +kernel) (Pw_ok rfl rfl (zs (zs (zco σ 0) 32 (va_up ((zco σ 0) 32) 4 1)) 35 (cpy (gm c) 0 ((zs (zco σ 0) 32 (va_up ((zco σ 0) 32) 4 1)) 35) 0 150)) rfl ((hM.co 0).save c (cpy (gm c) 0 ((zs (zco σ 0) 32 (va_up ((zco σ 0) 32) 4 1)) 35) 0 150) (fun j hj => by unfold cpy; rw [if_pos (by omega)]; congr 1; omega)) (by rw [zs_ne (by decide), zs_eq, vne (by decide)]; exact zco_7 σ 0) (fun k hk => by rw [zs_ne (by omega), zs_ne (by omega)]; exact zco_n σ 0 (by omega)) (by rw [zs_ne (by decide), zs_eq, vne (by decide)]; exact zco_o σ 0 (by decide)))
set_option maxHeartbeats 1000000 in
theorem c_X11_restore {E : zE} {D : Int} {R : aQ} {σ : Nat → Nat → Int} {c : Nat → Int} {l : (Nat → Int64) × (Nat → UInt64)} (hI : AI D c R) (hM : MR R σ) : Wb E yX11_restore (Cond.code yX11_restore cX11_restore 1 (Option.some FieldType.int)) 1 [vr 32] (σ) (c) (l) (aRestore c R) ((cd1 eIS)) := by
  refine Ctr_of (own := RX11) (by decide +kernel) rfl rfl (fun Y hX hR hnx => ?_)
  refine z_b hX fo_X11 [.aload_n 0, .aload_n 0, .getfield 196] 5 (by decide +kernel) rfl ?_
  try dsimp only
  have h5 := hM.2.1
  cases hv : R.2.1 with
  | none =>
    rw [hv] at h5
    rw [show (zs σ 33 (gm c)) 32 4 = 0 by rw [zs_ne (by decide)]; exact h5]
    refine z_if_eq hX (off := 7) 12 (by decide +kernel) (by decide) ⟨by decide, by decide⟩ (fun c5 => ?_) (fun c5 => by exact absurd c5 (by decide))
    refine z_b hX fo_X11 [.iconst 1] 13 (by decide +kernel) rfl ?_
    refine z_cV hX m_X11_fails l_X11_59 p_X11_fails (c_fails1 ⟨by decide, by decide⟩) rfl rfl rfl rfl rfl rfl (by decide +kernel) ?_
    refine z_if_eq hX (off := 5) 21 (by decide +kernel) (by decide) ⟨by decide, by decide⟩ (fun c16 => by exact absurd c16 (by decide)) (fun c16 => ?_)
    refine z_b hX fo_X11 [.iconst 0] 20 (by decide +kernel) rfl ?_
    exact z_iret hX hR (by decide +kernel) (Pw_ex (e := eIS) (aRestore_n hv) (zco σ 1) rfl (hM.co 1) ((zco_7 σ 1).trans cd1_1.symm) (fun k hk => zco_n σ 1 (by omega)) (zco_o σ 1 (by decide)))
  | some v =>
    rw [hv] at h5
    obtain ⟨h1, h2⟩ := h5
    rw [show (zs σ 33 (gm c)) 32 4 = 1 by rw [zs_ne (by decide)]; exact h1]
    refine z_if_eq hX (off := 7) 12 (by decide +kernel) (by decide) ⟨by decide, by decide⟩ (fun c5 => by exact absurd c5 (by decide)) (fun c5 => ?_)
    refine z_b hX fo_X11 [.iconst 0] 9 (by decide +kernel) rfl ?_
    refine z_goto hX (off := 4) 13 (by decide +kernel) (by decide) ?_
    refine z_cV hX m_X11_fails l_X11_59 p_X11_fails (c_fails0 rfl) rfl rfl rfl rfl rfl rfl (by decide +kernel) ?_
    refine z_if_eq hX (off := 5) 21 (by decide +kernel) (by decide) ⟨by decide, by decide⟩ (fun c16 => ?_) (fun c16 => by exact absurd c16 (by decide))
    refine z_b hX fo_X11 [.aload_n 0, .getfield 16, .iconst 0, .aload_n 0, .getfield 7, .iconst 0] 31 (by decide +kernel) rfl ?_
    refine z_cS0 hX m_X11_copies l_X11_51 p_X11_copies (c_cp35_33 (a := 0) (b := 0) (by decide) (by decide)) rfl rfl rfl rfl (by decide +kernel) ?_
    rw [show zs (zs (zco σ 0) 33 (gm c)) 33 (cpy ((zs (zco σ 0) 33 (gm c)) 35) 0 ((zs (zco σ 0) 33 (gm c)) 33) 0 150) = zs (zco σ 0) 33 (gm v) by rw [zs_zs, zs_eq, zs_ne (show 35 ≠ 33 by decide), zco_n _ _ (by decide), cpy_gm (fun j hj => by rw [Nat.zero_add]; exact h2 j hj)]]
    refine z_b hX fo_X11 [.aload_n 0, .iconst 0, .putfield 48] 39 (by decide +kernel) rfl ?_
    rw [zup32]
    refine z_b hX fo_X11 [.aload_n 0, .getfield 7, .bipush 9] 45 (by decide +kernel) rfl ?_
    refine z_ig hX (v := v 8) (9) rfl (by omega) (by omega) (by decide +kernel) ?_
    exact z_iret hX hR (by decide +kernel) (Pw_ok (aRestore_s hv) rfl (zs (zco σ 0) 32 (va_up ((zco σ 0) 32) 5 0)) rfl (hM.co 0).forget (by rw [zs_eq, vne (by decide)]; exact zco_7 σ 0) (fun k hk => by rw [zs_ne (by omega)]; exact zco_n σ 0 (by omega)) (by rw [zs_eq, vne (by decide)]; exact zco_o σ 0 (by decide)))
set_option maxHeartbeats 1000000 in
theorem c_X11_append {E : zE} {x D : Int} {R : aQ} {σ : Nat → Nat → Int} {c : Nat → Int} {l : (Nat → Int64) × (Nat → UInt64)} (hI : AI D c R) (hM : MR R σ) : Wb E yX11_append (Cond.code yX11_append cX11_append 2 (Option.some FieldType.int)) 1 [vr 32, vi x] (σ) (c) (l) (aAppend c R x) ((cd1 eIS)) := by
  refine Ctr_of (own := RX11) (by decide +kernel) rfl rfl (fun Y hX hR hnx => ?_)
  refine z_b hX fo_X11 [.aload_n 0, .aload_n 0, .getfield 139] 5 (by decide +kernel) rfl ?_
  try dsimp only
  have hn : R.2.2.2.1.2 ≤ 60 := hI.2.2.2.2.1
  rw [show (zs σ 33 (gm c)) 32 12 = (R.2.2.2.1.2 : Int) by rw [zs_ne (by decide)]; exact hM.2.2.2.1.1]
  refine z_b hX fo_X11 [.bipush 60] 7 (by decide +kernel) rfl ?_
  refine z_ic_ne hX (off := 7) 14 (by decide +kernel) (by decide) ⟨by omega, by omega⟩ ⟨by omega, by omega⟩ (fun c7 => ?_) (fun c7 => ?_)
  · refine z_b hX fo_X11 [.iconst 0] 15 (by decide +kernel) rfl ?_
    refine z_cV hX m_X11_fails l_X11_59 p_X11_fails (c_fails0 rfl) rfl rfl rfl rfl rfl rfl (by decide +kernel) ?_
    refine z_if_eq hX (off := 5) 23 (by decide +kernel) (by decide) ⟨by decide, by decide⟩ (fun c18 => ?_) (fun c18 => by exact absurd c18 (by decide))
    refine z_b hX fo_X11 [.aload_n 0, .getfield 22, .aload_n 0, .getfield 139] 31 (by decide +kernel) rfl ?_
    try dsimp only
    rw [show (zs (zco σ 0) 33 (gm c)) 32 12 = (R.2.2.2.1.2 : Int) by rw [zs_ne (by decide), zco_o _ _ (by decide)]; exact hM.2.2.2.1.1]
    refine z_b hX fo_X11 [.iload_n 1] 32 (by decide +kernel) rfl ?_
    refine z_iast hX (R.2.2.2.1.2) rfl (by omega) (by decide) (by omega) (by decide +kernel) ?_
    rw [zup37]
    refine z_b hX fo_X11 [.aload_n 0, .dup, .getfield 139, .iconst 1, .iadd, .putfield 139] 43 (by decide +kernel) rfl ?_
    try dsimp only
    rw [show (zs (zs (zco σ 0) 37 (va_up ((zco σ 0) 37) R.2.2.2.1.2 x)) 33 (gm c)) 32 12 = (R.2.2.2.1.2 : Int) by rw [zs_ne (by decide), zs_ne (by decide), zco_o _ _ (by decide)]; exact hM.2.2.2.1.1, zup32, show (zs (zco σ 0) 37 (va_up ((zco σ 0) 37) R.2.2.2.1.2 x)) 32 = (zco σ 0) 32 from zs_ne (by decide) _]
    refine z_b hX fo_X11 [.aload_n 0, .getfield 139] 47 (by decide +kernel) rfl ?_
    try dsimp only
    rw [show (zs (zs (zs (zco σ 0) 37 (va_up ((zco σ 0) 37) R.2.2.2.1.2 x)) 32 (va_up ((zco σ 0) 32) 12 ((R.2.2.2.1.2 : Int) + 1))) 33 (gm c)) 32 12 = (R.2.2.2.1.2 : Int) + 1 by rw [zs_ne (by decide), zs_eq, va_e, if_pos rfl]]
    exact z_iret hX hR (by decide +kernel) (Pw_ok (by unfold aAppend; rw [if_neg (by omega)]; rfl) rfl (zs (zs (zco σ 0) 37 (va_up ((zco σ 0) 37) R.2.2.2.1.2 x)) 32 (va_up ((zco σ 0) 32) 12 ((R.2.2.2.1.2 : Int) + 1))) rfl ((hM.co 0).app x) (by rw [zs_eq, vne (by decide)]; exact zco_7 σ 0) (fun k hk => by rw [zs_ne (by omega), zs_ne (by omega)]; exact zco_n σ 0 (by omega)) (by rw [zs_eq, vne (by decide)]; exact zco_o σ 0 (by decide)))
  · refine z_b hX fo_X11 [.iconst 1] 11 (by decide +kernel) rfl ?_
    refine z_goto hX (off := 4) 15 (by decide +kernel) (by decide) ?_
    refine z_cV hX m_X11_fails l_X11_59 p_X11_fails (c_fails1 ⟨by decide, by decide⟩) rfl rfl rfl rfl rfl rfl (by decide +kernel) ?_
    refine z_if_eq hX (off := 5) 23 (by decide +kernel) (by decide) ⟨by decide, by decide⟩ (fun c18 => by exact absurd c18 (by decide)) (fun c18 => ?_)
    refine z_b hX fo_X11 [.iconst 0] 22 (by decide +kernel) rfl ?_
    exact z_iret hX hR (by decide +kernel) (Pw_ex (e := eIS) (by unfold aAppend; rw [if_pos (by omega)]; rfl) (zco σ 1) rfl (hM.co 1) ((zco_7 σ 1).trans cd1_1.symm) (fun k hk => zco_n σ 1 (by omega)) (zco_o σ 1 (by decide)))
set_option maxHeartbeats 1000000 in
theorem c_X11_mean1 {E : zE} {D : Int} {σ : Nat → Nat → Int} {c : Nat → Int} {l : (Nat → Int64) × (Nat → UInt64)} (hg : Rg D c) (h0 : c 10 ≠ 0) : Rv E yX11_meanThumb (Cond.code yX11_meanThumb cX11_meanThumb 3 (Option.some FieldType.double)) 1 [vr 32] ((zs σ 33 (gm c), l)) (vd (zmean c)) ((zs (zco σ 0) 33 (gm c), l)) := by
  refine Ctr_of (own := RX11) (by decide +kernel) rfl rfl (fun Y hX hR hnx => ?_)
  have gw := hg.women
  obtain ⟨n, hn⟩ : ∃ n : Nat, c 10 = (n : Int) := ⟨(c 10).toNat, by omega⟩
  refine z_b hX fo_X11 [.iconst 0, .istore_n 1, .iconst 0, .istore_n 2] 4 (by decide +kernel) rfl ?_
  have hend : ∀ x : Int, Z (E, Y) 0 30 [(2, vi x), (1, vi (zsum c 113 n)), (0, vr 32)] [] (zs σ 33 (gm c), l) := by
    intro x
    refine z_b hX fo_X11 [.aload_n 0, .aload_n 0, .getfield 7, .bipush 107] 37 (by decide +kernel) rfl ?_
    refine z_ig hX (v := c 10) (107) rfl (by omega) (by omega) (by decide +kernel) ?_
    rw [hn]
    refine z_if_ne hX (off := 7) 45 (by decide +kernel) (by decide) ⟨by omega, by omega⟩ (fun c38 => ?_) (fun c38 => by exfalso; omega)
    refine z_b hX fo_X11 [.iconst 0] 46 (by decide +kernel) rfl ?_
    refine z_cV hX m_X11_fails l_X11_59 p_X11_fails (c_fails0 rfl) rfl rfl rfl rfl rfl rfl (by decide +kernel) ?_
    refine z_if_eq hX (off := 7) 56 (by decide +kernel) (by decide) ⟨by decide, by decide⟩ (fun c49 => ?_) (fun c49 => by exact absurd c49 (by decide))
    refine z_b hX fo_X11 [.iload_n 1] 57 (by decide +kernel) rfl ?_
    refine z_i2d hX (by decide +kernel) ?_
    refine z_b hX fo_X11 [.aload_n 0, .getfield 7, .bipush 107] 64 (by decide +kernel) rfl ?_
    refine z_ig hX (v := c 10) (107) rfl (by omega) (by omega) (by decide +kernel) ?_
    rw [hn]
    refine z_i2d hX (by decide +kernel) ?_
    refine z_ddiv hX (by decide +kernel) (by have e := zmean_n hg h0; unfold zmean at e; rw [hn] at e; exact e) ?_
    exact z_dret hX hR (by decide +kernel) ⟨by unfold zmean; rw [hn]; rfl, rfl⟩
  have loop : ∀ (m : Nat) (i : Nat) (x s : Int), x = (i : Int) → s = zsum c 113 i → i + m = n → Z (E, Y) 0 4 [(2, vi x), (1, vi s), (0, vr 32)] [] (zs σ 33 (gm c), l) := by
    intro m
    induction m with
    | zero =>
      intro i x s hx hs hm
      subst hx
      rw [show i = n by omega] at hs
      subst hs
      refine z_b hX fo_X11 [.iload_n 2, .aload_n 0, .getfield 7, .bipush 107] 11 (by decide +kernel) rfl ?_
      refine z_ig hX (v := c 10) (107) rfl (by omega) (by omega) (by decide +kernel) ?_
      rw [hn]
      refine z_ic_ge hX (off := 18) 30 (by decide +kernel) (by decide) ⟨by omega, by omega⟩ ⟨by omega, by omega⟩ (fun c12 => ?_) (fun c12 => by exfalso; omega)
      exact z_lo [0, 1, 2] (hend _) rfl
    | succ m ih =>
      intro i x s hx hs hm
      subst hx
      refine z_b hX fo_X11 [.iload_n 2, .aload_n 0, .getfield 7, .bipush 107] 11 (by decide +kernel) rfl ?_
      refine z_ig hX (v := c 10) (107) rfl (by omega) (by omega) (by decide +kernel) ?_
      rw [hn]
      refine z_ic_ge hX (off := 18) 30 (by decide +kernel) (by decide) ⟨by omega, by omega⟩ ⟨by omega, by omega⟩ (fun c12 => by exfalso; omega) (fun c12 => ?_)
      refine z_b hX fo_X11 [.iload_n 1, .aload_n 0, .iload_n 2, .iconst 1] 19 (by decide +kernel) rfl ?_
      refine z_cV hX m_X11_ofWoman l_X11_106 p_X11_ofWoman (c_ofWoman1 (k := i) (by omega)) rfl rfl rfl rfl rfl rfl (by decide +kernel) ?_
      refine z_b hX fo_X11 [.iadd, .istore_n 1, .iinc 2 1] 27 (by decide +kernel) rfl ?_
      refine z_goto hX (off := (-23)) 4 (by decide +kernel) (by decide) ?_
      exact z_lo [0, 1, 2] (ih (i + 1) _ _ (by omega) (by rw [hs]; rfl) (by omega)) rfl
  exact z_lo [0, 1, 2] (loop n 0 0 0 rfl rfl (by omega)) rfl
set_option maxHeartbeats 1000000 in
theorem c_X11_mean0 {E : zE} {D : Int} {σ : Nat → Nat → Int} {c : Nat → Int} {l : (Nat → Int64) × (Nat → UInt64)} (hg : Rg D c) (h0 : c 10 = 0) : Rv E yX11_meanThumb (Cond.code yX11_meanThumb cX11_meanThumb 3 (Option.some FieldType.double)) 1 [vr 32] ((zs σ 33 (gm c), l)) (vd FP.dconst0) ((zs (zco σ 1) 33 (gm c), l)) := by
  refine Ctr_of (own := RX11) (by decide +kernel) rfl rfl (fun Y hX hR hnx => ?_)
  have gw := hg.women
  obtain ⟨n, hn⟩ : ∃ n : Nat, c 10 = (n : Int) := ⟨(c 10).toNat, by omega⟩
  refine z_b hX fo_X11 [.iconst 0, .istore_n 1, .iconst 0, .istore_n 2] 4 (by decide +kernel) rfl ?_
  have hend : ∀ x : Int, Z (E, Y) 0 30 [(2, vi x), (1, vi (zsum c 113 n)), (0, vr 32)] [] (zs σ 33 (gm c), l) := by
    intro x
    refine z_b hX fo_X11 [.aload_n 0, .aload_n 0, .getfield 7, .bipush 107] 37 (by decide +kernel) rfl ?_
    refine z_ig hX (v := c 10) (107) rfl (by omega) (by omega) (by decide +kernel) ?_
    rw [hn]
    refine z_if_ne hX (off := 7) 45 (by decide +kernel) (by decide) ⟨by omega, by omega⟩ (fun c38 => by exfalso; omega) (fun c38 => ?_)
    refine z_b hX fo_X11 [.iconst 1] 42 (by decide +kernel) rfl ?_
    refine z_goto hX (off := 4) 46 (by decide +kernel) (by decide) ?_
    refine z_cV hX m_X11_fails l_X11_59 p_X11_fails (c_fails1 ⟨by decide, by decide⟩) rfl rfl rfl rfl rfl rfl (by decide +kernel) ?_
    refine z_if_eq hX (off := 7) 56 (by decide +kernel) (by decide) ⟨by decide, by decide⟩ (fun c49 => by exact absurd c49 (by decide)) (fun c49 => ?_)
    refine z_dconst0 hX (by decide +kernel) ?_
    refine z_goto hX (off := 14) 67 (by decide +kernel) (by decide) ?_
    exact z_dret hX hR (by decide +kernel) ⟨rfl, rfl⟩
  have loop : ∀ (m : Nat) (i : Nat) (x s : Int), x = (i : Int) → s = zsum c 113 i → i + m = n → Z (E, Y) 0 4 [(2, vi x), (1, vi s), (0, vr 32)] [] (zs σ 33 (gm c), l) := by
    intro m
    induction m with
    | zero =>
      intro i x s hx hs hm
      subst hx
      rw [show i = n by omega] at hs
      subst hs
      refine z_b hX fo_X11 [.iload_n 2, .aload_n 0, .getfield 7, .bipush 107] 11 (by decide +kernel) rfl ?_
      refine z_ig hX (v := c 10) (107) rfl (by omega) (by omega) (by decide +kernel) ?_
      rw [hn]
      refine z_ic_ge hX (off := 18) 30 (by decide +kernel) (by decide) ⟨by omega, by omega⟩ ⟨by omega, by omega⟩ (fun c12 => ?_) (fun c12 => by exfalso; omega)
      exact z_lo [0, 1, 2] (hend _) rfl
    | succ m ih =>
      intro i x s hx hs hm
      subst hx
      refine z_b hX fo_X11 [.iload_n 2, .aload_n 0, .getfield 7, .bipush 107] 11 (by decide +kernel) rfl ?_
      refine z_ig hX (v := c 10) (107) rfl (by omega) (by omega) (by decide +kernel) ?_
      rw [hn]
      refine z_ic_ge hX (off := 18) 30 (by decide +kernel) (by decide) ⟨by omega, by omega⟩ ⟨by omega, by omega⟩ (fun c12 => by exfalso; omega) (fun c12 => ?_)
      refine z_b hX fo_X11 [.iload_n 1, .aload_n 0, .iload_n 2, .iconst 1] 19 (by decide +kernel) rfl ?_
      refine z_cV hX m_X11_ofWoman l_X11_106 p_X11_ofWoman (c_ofWoman1 (k := i) (by omega)) rfl rfl rfl rfl rfl rfl (by decide +kernel) ?_
      refine z_b hX fo_X11 [.iadd, .istore_n 1, .iinc 2 1] 27 (by decide +kernel) rfl ?_
      refine z_goto hX (off := (-23)) 4 (by decide +kernel) (by decide) ?_
      exact z_lo [0, 1, 2] (ih (i + 1) _ _ (by omega) (by rw [hs]; rfl) (by omega)) rfl
  exact z_lo [0, 1, 2] (loop n 0 0 0 rfl rfl (by omega)) rfl
set_option maxHeartbeats 1000000 in
theorem c_X11_tornShare {E : zE} {D : Int} {σ : Nat → Nat → Int} {c : Nat → Int} {l : (Nat → Int64) × (Nat → UInt64)} (hg : Rg D c) : Rv E yX11_tornShare (Cond.code yX11_tornShare cX11_tornShare 1 (Option.some FieldType.float)) 2 [vr 32] ((zs σ 33 (gm c), l)) (vf (zshare c)) ((zs (zco σ 0) 33 (gm c), l)) := by
  refine Ctr_of (own := RX11) (by decide +kernel) rfl rfl (fun Y hX hR hnx => ?_)
  refine z_b hX fo_X11 [.aload_n 0, .iconst 0, .putfield 32, .aload_n 0] 6 (by decide +kernel) rfl ?_
  rw [zco_eq]
  refine z_cV hX m_X11_holes l_X11_119 p_X11_holes (c_X11_holes hg) rfl rfl rfl rfl rfl rfl (by decide +kernel) ?_
  refine z_i2f hX (by decide +kernel) ?_
  refine z_ldcf hX kf_11 (by decide +kernel) ?_
  refine z_fdiv hX (by decide +kernel) (zshare_n hg).1 ?_
  exact z_fret hX hR (by decide +kernel) ⟨rfl, rfl⟩
