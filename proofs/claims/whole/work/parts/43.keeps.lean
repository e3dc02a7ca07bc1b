/-! ===== the model keeps a row ===== -/
def shf (f : Nat → Int) (i : Nat) : Nat → Int := fun j => if j < i then f (j + 150) else f j
theorem shf_0 (f : Nat → Int) : shf f 0 = f := by funext j; exact if_neg (by omega)
theorem shf_s (f : Nat → Int) (i : Nat) : va_up (shf f i) i (f (i + 150)) = shf f (i + 1) := by
  funext j
  rw [va_e]; unfold shf
  by_cases h : j = i
  · subst h; rw [if_pos rfl, if_pos (by omega)]
  · rw [if_neg h]
    by_cases h2 : j < i
    · rw [if_pos h2, if_pos (by omega)]
    · rw [if_neg h2, if_neg (by omega)]
def kpS (n : Nat) (f : Nat → Int) : Nat → Int := if n = 8 then shf f 1050 else f
def kpm (n : Nat) : Nat := if n = 8 then 7 else n
def kp2 (r n : Nat) (τ : Nat → Nat → Int) : Nat → Nat → Int := zs (zs τ 34 (cpy (τ r) 0 (kpS n (τ 34)) (150 * kpm n) 150)) 32 (va_up (τ 32) 5 ((kpm n : Int) + 1))
theorem kp_a {τ : Nat → Nat → Int} {g : Nat → Int} {v : Int} : zup (zs τ 34 g) 32 5 v = zs (zs τ 34 g) 32 (va_up (τ 32) 5 v) := by rw [zup_zs, zs_ne (show 32 ≠ 34 by decide)]
theorem va_va {f : Nat → Int} {i : Nat} {a b : Int} : va_up (va_up f i a) i b = va_up f i b := by
  funext j; simp only [va_up]; split <;> rfl
theorem kp_b {τ : Nat → Nat → Int} {g1 g2 : Nat → Int} {a v : Int} : zup (zs (zup (zs τ 34 g1) 32 5 a) 34 g2) 32 5 v = zs (zs τ 34 g2) 32 (va_up (τ 32) 5 v) := by
  rw [zup_zs, zup_zs, zs_ne (show 32 ≠ 34 by decide), zs_ne (show 32 ≠ 34 by decide), zs_eq, va_va, zs_comm (show 32 ≠ 34 by decide), zs_zs, zs_zs]
set_option maxHeartbeats 1000000 in
theorem c_keeps_w {E : zE} {r : Nat} {st : zT} (h6 : st.1 32 6 = 1) : Rn E yX11_keeps (Cond.code yX11_keeps cX11_keeps 3 (Option.none : Option FieldType)) 1 [vr 32, vr r] (st) (st) := by
  refine Ctr_of (own := RX11) (by decide +kernel) rfl rfl (fun Y hX hR hnx => ?_)
  refine z_b hX fo_X11 [.aload_n 0, .getfield 45] 4 (by decide +kernel) rfl ?_
  rw [h6]
  refine z_if_eq hX (off := 4) 8 (by decide +kernel) (by decide) ⟨by decide, by decide⟩ (fun c4 => by exact absurd c4 (by decide)) (fun c4 => ?_)
  exact z_vret hX hR (by decide +kernel) ⟨rfl, rfl⟩
set_option maxHeartbeats 1000000 in
theorem c_keeps33 {E : zE} {n : Nat} {τ : Nat → Nat → Int} {l : (Nat → Int64) × (Nat → UInt64)} (h6 : τ 32 6 = 0) (h5 : τ 32 5 = (n : Int)) (hn : n ≤ 8) : Rn E yX11_keeps (Cond.code yX11_keeps cX11_keeps 3 (Option.none : Option FieldType)) 1 [vr 32, vr 33] ((τ, l)) ((kp2 33 n τ, l)) := by
  refine Ctr_of (own := RX11) (by decide +kernel) rfl rfl (fun Y hX hR hnx => ?_)
  refine z_b hX fo_X11 [.aload_n 0, .getfield 45] 4 (by decide +kernel) rfl ?_
  try dsimp only
  rw [h6]
  refine z_if_eq hX (off := 4) 8 (by decide +kernel) (by decide) ⟨by decide, by decide⟩ (fun c4 => ?_) (fun c4 => by exact absurd rfl c4)
  refine z_b hX fo_X11 [.aload_n 0, .getfield 48] 12 (by decide +kernel) rfl ?_
  try dsimp only
  rw [h5]
  by_cases h8 : n = 8
  · refine z_b hX fo_X11 [.bipush 8] 14 (by decide +kernel) rfl ?_
    refine z_ic_ne hX (off := 44) 58 (by decide +kernel) (by decide) ⟨by omega, by omega⟩ ⟨by omega, by omega⟩ (fun c14 => by exfalso; omega) (fun c14 => ?_)
    refine z_b hX fo_X11 [.iconst 0, .istore_n 2] 19 (by decide +kernel) rfl ?_
    have hend : ∀ (x : Int), Z (E, Y) 0 48 [(2, vi x), (0, vr 32), (1, vr 33)] [] (zs τ 34 (shf (τ 34) 1050), l) := by
      intro x
      refine z_b hX fo_X11 [.aload_n 0, .dup, .getfield 48, .iconst 1, .isub, .putfield 48] 58 (by decide +kernel) rfl ?_
      try dsimp only
      rw [show zup (zs τ 34 (shf (τ 34) 1050)) 32 5 ((zs τ 34 (shf (τ 34) 1050)) 32 5 - 1) = (zup (zs τ 34 (shf (τ 34) 1050)) 32 5 7) by rw [zs_ne (show 32 ≠ 34 by decide), h5, h8]; rfl]
      refine z_b hX fo_X11 [.aload_n 1, .iconst 0, .aload_n 0, .getfield 13, .sipush 150, .aload_n 0, .getfield 48, .imul] 72 (by decide +kernel) rfl ?_
      try dsimp only
      rw [show (150 : Int) * (zup (zs τ 34 (shf (τ 34) 1050)) 32 5 7) 32 5 = ((150 * kpm n : Nat) : Int) by rw [zup_eq, va_e, if_pos rfl, h8]; rfl]
      refine z_cS0 hX m_X11_copies l_X11_51 p_X11_copies (c_cp33_34 (a := 0) (b := 150 * kpm n) (by decide) (by unfold kpm; split <;> omega)) rfl rfl rfl rfl (by decide +kernel) ?_
      rw [show (zup (zs τ 34 (shf (τ 34) 1050)) 32 5 7) 33 = τ 33 by rw [zup_ne (by decide), zs_ne (by decide)], show (zup (zs τ 34 (shf (τ 34) 1050)) 32 5 7) 34 = shf (τ 34) 1050 by rw [zup_ne (by decide), zs_eq]]
      have e5 : (zs (zup (zs τ 34 (shf (τ 34) 1050)) 32 5 7) 34 (cpy (τ 33) 0 (shf (τ 34) 1050) (150 * kpm n) 150)) 32 5 = 7 := by rw [zs_ne (by decide), zup_eq, va_e, if_pos rfl]
      refine z_b hX fo_X11 [.aload_n 0, .dup, .getfield 48, .iconst 1, .iadd, .putfield 48] 85 (by decide +kernel) rfl ?_
      exact z_vret hX hR (by decide +kernel) ⟨rfl, by dsimp only; rw [e5, kp_b]; unfold kp2 kpS; rw [if_pos h8, show (kpm n : Int) = 7 by unfold kpm; rw [if_pos h8]; rfl]⟩
    have loop : ∀ (m : Nat) (i : Nat) (x : Int), x = (i : Int) → i + m = 1050 → Z (E, Y) 0 19 [(2, vi x), (0, vr 32), (1, vr 33)] [] (zs τ 34 (shf (τ 34) i), l) := by
      intro m
      induction m with
      | zero =>
        intro i x hx hm
        subst hx
        refine z_b hX fo_X11 [.iload_n 2, .sipush 1050] 23 (by decide +kernel) rfl ?_
        refine z_ic_ge hX (off := 25) 48 (by decide +kernel) (by decide) ⟨by omega, by omega⟩ ⟨by omega, by omega⟩ (fun c23 => ?_) (fun c23 => by exfalso; omega)
        rw [show i = 1050 by omega]
        exact z_lo [0, 1, 2] (hend _) rfl
      | succ m ih =>
        intro i x hx hm
        subst hx
        refine z_b hX fo_X11 [.iload_n 2, .sipush 1050] 23 (by decide +kernel) rfl ?_
        refine z_ic_ge hX (off := 25) 48 (by decide +kernel) (by decide) ⟨by omega, by omega⟩ ⟨by omega, by omega⟩ (fun c23 => by exfalso; omega) (fun c23 => ?_)
        refine z_b hX fo_X11 [.aload_n 0, .getfield 13, .iload_n 2, .aload_n 0, .getfield 13, .iload_n 2, .sipush 150, .iadd] 40 (by decide +kernel) rfl ?_
        refine z_iald hX (i + 150) rfl (by omega) (by decide) (by omega) (by decide +kernel) ?_
        rw [show (zs τ 34 (shf (τ 34) i), l).1 34 (i + 150) = τ 34 (i + 150) by dsimp only; rw [zs_eq]; exact if_neg (by omega)]
        refine z_iast hX (i) rfl (by omega) (by decide) (by omega) (by decide +kernel) ?_
        rw [zup_zs, zs_zs, zs_eq, shf_s]
        refine z_b hX fo_X11 [.iinc 2 1] 45 (by decide +kernel) rfl ?_
        refine z_goto hX (off := (-26)) 19 (by decide +kernel) (by decide) ?_
        exact z_lo [0, 1, 2] (ih (i + 1) _ (by omega) (by omega)) rfl
    have h0 := loop 1050 0 0 rfl (by omega)
    rw [shf_0, zs_id] at h0
    exact z_lo [0, 1, 2] h0 rfl
  · refine z_b hX fo_X11 [.bipush 8] 14 (by decide +kernel) rfl ?_
    refine z_ic_ne hX (off := 44) 58 (by decide +kernel) (by decide) ⟨by omega, by omega⟩ ⟨by omega, by omega⟩ (fun c14 => ?_) (fun c14 => by exfalso; omega)
    refine z_b hX fo_X11 [.aload_n 1, .iconst 0, .aload_n 0, .getfield 13, .sipush 150, .aload_n 0, .getfield 48, .imul] 72 (by decide +kernel) rfl ?_
    try dsimp only
    rw [h5, show (150 : Int) * (n : Int) = ((150 * kpm n : Nat) : Int) by unfold kpm; rw [if_neg h8]; omega]
    refine z_cS0 hX m_X11_copies l_X11_51 p_X11_copies (c_cp33_34 (a := 0) (b := 150 * kpm n) (by decide) (by unfold kpm; split <;> omega)) rfl rfl rfl rfl (by decide +kernel) ?_
    have e5 : (zs τ 34 (cpy (τ 33) 0 (τ 34) (150 * kpm n) 150)) 32 5 = (n : Int) := by rw [zs_ne (by decide)]; exact h5
    refine z_b hX fo_X11 [.aload_n 0, .dup, .getfield 48, .iconst 1, .iadd, .putfield 48] 85 (by decide +kernel) rfl ?_
    exact z_vret hX hR (by decide +kernel) ⟨rfl, by dsimp only; rw [e5, kp_a]; unfold kp2 kpS; rw [if_neg h8, show (kpm n : Int) = (n : Int) by unfold kpm; rw [if_neg h8]]⟩
set_option maxHeartbeats 1000000 in
theorem c_keeps36 {E : zE} {n : Nat} {τ : Nat → Nat → Int} {l : (Nat → Int64) × (Nat → UInt64)} (h6 : τ 32 6 = 0) (h5 : τ 32 5 = (n : Int)) (hn : n ≤ 8) : Rn E yX11_keeps (Cond.code yX11_keeps cX11_keeps 3 (Option.none : Option FieldType)) 1 [vr 32, vr 36] ((τ, l)) ((kp2 36 n τ, l)) := by
  refine Ctr_of (own := RX11) (by decide +kernel) rfl rfl (fun Y hX hR hnx => ?_)
  refine z_b hX fo_X11 [.aload_n 0, .getfield 45] 4 (by decide +kernel) rfl ?_
  try dsimp only
  rw [h6]
  refine z_if_eq hX (off := 4) 8 (by decide +kernel) (by decide) ⟨by decide, by decide⟩ (fun c4 => ?_) (fun c4 => by exact absurd rfl c4)
  refine z_b hX fo_X11 [.aload_n 0, .getfield 48] 12 (by decide +kernel) rfl ?_
  try dsimp only
  rw [h5]
  by_cases h8 : n = 8
  · refine z_b hX fo_X11 [.bipush 8] 14 (by decide +kernel) rfl ?_
    refine z_ic_ne hX (off := 44) 58 (by decide +kernel) (by decide) ⟨by omega, by omega⟩ ⟨by omega, by omega⟩ (fun c14 => by exfalso; omega) (fun c14 => ?_)
    refine z_b hX fo_X11 [.iconst 0, .istore_n 2] 19 (by decide +kernel) rfl ?_
    have hend : ∀ (x : Int), Z (E, Y) 0 48 [(2, vi x), (0, vr 32), (1, vr 36)] [] (zs τ 34 (shf (τ 34) 1050), l) := by
      intro x
      refine z_b hX fo_X11 [.aload_n 0, .dup, .getfield 48, .iconst 1, .isub, .putfield 48] 58 (by decide +kernel) rfl ?_
      try dsimp only
      rw [show zup (zs τ 34 (shf (τ 34) 1050)) 32 5 ((zs τ 34 (shf (τ 34) 1050)) 32 5 - 1) = (zup (zs τ 34 (shf (τ 34) 1050)) 32 5 7) by rw [zs_ne (show 32 ≠ 34 by decide), h5, h8]; rfl]
      refine z_b hX fo_X11 [.aload_n 1, .iconst 0, .aload_n 0, .getfield 13, .sipush 150, .aload_n 0, .getfield 48, .imul] 72 (by decide +kernel) rfl ?_
      try dsimp only
      rw [show (150 : Int) * (zup (zs τ 34 (shf (τ 34) 1050)) 32 5 7) 32 5 = ((150 * kpm n : Nat) : Int) by rw [zup_eq, va_e, if_pos rfl, h8]; rfl]
      refine z_cS0 hX m_X11_copies l_X11_51 p_X11_copies (c_cp36_34 (a := 0) (b := 150 * kpm n) (by decide) (by unfold kpm; split <;> omega)) rfl rfl rfl rfl (by decide +kernel) ?_
      rw [show (zup (zs τ 34 (shf (τ 34) 1050)) 32 5 7) 36 = τ 36 by rw [zup_ne (by decide), zs_ne (by decide)], show (zup (zs τ 34 (shf (τ 34) 1050)) 32 5 7) 34 = shf (τ 34) 1050 by rw [zup_ne (by decide), zs_eq]]
      have e5 : (zs (zup (zs τ 34 (shf (τ 34) 1050)) 32 5 7) 34 (cpy (τ 36) 0 (shf (τ 34) 1050) (150 * kpm n) 150)) 32 5 = 7 := by rw [zs_ne (by decide), zup_eq, va_e, if_pos rfl]
      refine z_b hX fo_X11 [.aload_n 0, .dup, .getfield 48, .iconst 1, .iadd, .putfield 48] 85 (by decide +kernel) rfl ?_
      exact z_vret hX hR (by decide +kernel) ⟨rfl, by dsimp only; rw [e5, kp_b]; unfold kp2 kpS; rw [if_pos h8, show (kpm n : Int) = 7 by unfold kpm; rw [if_pos h8]; rfl]⟩
    have loop : ∀ (m : Nat) (i : Nat) (x : Int), x = (i : Int) → i + m = 1050 → Z (E, Y) 0 19 [(2, vi x), (0, vr 32), (1, vr 36)] [] (zs τ 34 (shf (τ 34) i), l) := by
      intro m
      induction m with
      | zero =>
        intro i x hx hm
        subst hx
        refine z_b hX fo_X11 [.iload_n 2, .sipush 1050] 23 (by decide +kernel) rfl ?_
        refine z_ic_ge hX (off := 25) 48 (by decide +kernel) (by decide) ⟨by omega, by omega⟩ ⟨by omega, by omega⟩ (fun c23 => ?_) (fun c23 => by exfalso; omega)
        rw [show i = 1050 by omega]
        exact z_lo [0, 1, 2] (hend _) rfl
      | succ m ih =>
        intro i x hx hm
        subst hx
        refine z_b hX fo_X11 [.iload_n 2, .sipush 1050] 23 (by decide +kernel) rfl ?_
        refine z_ic_ge hX (off := 25) 48 (by decide +kernel) (by decide) ⟨by omega, by omega⟩ ⟨by omega, by omega⟩ (fun c23 => by exfalso; omega) (fun c23 => ?_)
        refine z_b hX fo_X11 [.aload_n 0, .getfield 13, .iload_n 2, .aload_n 0, .getfield 13, .iload_n 2, .sipush 150, .iadd] 40 (by decide +kernel) rfl ?_
        refine z_iald hX (i + 150) rfl (by omega) (by decide) (by omega) (by decide +kernel) ?_
        rw [show (zs τ 34 (shf (τ 34) i), l).1 34 (i + 150) = τ 34 (i + 150) by dsimp only; rw [zs_eq]; exact if_neg (by omega)]
        refine z_iast hX (i) rfl (by omega) (by decide) (by omega) (by decide +kernel) ?_
        rw [zup_zs, zs_zs, zs_eq, shf_s]
        refine z_b hX fo_X11 [.iinc 2 1] 45 (by decide +kernel) rfl ?_
        refine z_goto hX (off := (-26)) 19 (by decide +kernel) (by decide) ?_
        exact z_lo [0, 1, 2] (ih (i + 1) _ (by omega) (by omega)) rfl
    have h0 := loop 1050 0 0 rfl (by omega)
    rw [shf_0, zs_id] at h0
    exact z_lo [0, 1, 2] h0 rfl
  · refine z_b hX fo_X11 [.bipush 8] 14 (by decide +kernel) rfl ?_
    refine z_ic_ne hX (off := 44) 58 (by decide +kernel) (by decide) ⟨by omega, by omega⟩ ⟨by omega, by omega⟩ (fun c14 => ?_) (fun c14 => by exfalso; omega)
    refine z_b hX fo_X11 [.aload_n 1, .iconst 0, .aload_n 0, .getfield 13, .sipush 150, .aload_n 0, .getfield 48, .imul] 72 (by decide +kernel) rfl ?_
    try dsimp only
    rw [h5, show (150 : Int) * (n : Int) = ((150 * kpm n : Nat) : Int) by unfold kpm; rw [if_neg h8]; omega]
    refine z_cS0 hX m_X11_copies l_X11_51 p_X11_copies (c_cp36_34 (a := 0) (b := 150 * kpm n) (by decide) (by unfold kpm; split <;> omega)) rfl rfl rfl rfl (by decide +kernel) ?_
    have e5 : (zs τ 34 (cpy (τ 36) 0 (τ 34) (150 * kpm n) 150)) 32 5 = (n : Int) := by rw [zs_ne (by decide)]; exact h5
    refine z_b hX fo_X11 [.aload_n 0, .dup, .getfield 48, .iconst 1, .iadd, .putfield 48] 85 (by decide +kernel) rfl ?_
    exact z_vret hX hR (by decide +kernel) ⟨rfl, by dsimp only; rw [e5, kp_a]; unfold kp2 kpS; rw [if_neg h8, show (kpm n : Int) = (n : Int) by unfold kpm; rw [if_neg h8]]⟩
