/-! ===== the model's hours, tent and train ===== -/
/-- sewing: hours, thumb, hours sewn, thread -/
def mSews (c : Nat → Int) (w : Nat) (h t : Int) : Nat → Int := ad (sSpend c w h) 2 (-t)
theorem mSews_eq {c : Nat → Int} {w : Nat} {h t : Int} (hw : w < 4) : va_up (va_up (va_up (va_up c (109 + w) (c (109 + w) - h)) (113 + w) (if 9 < (va_up c (109 + w) (c (109 + w) - h)) (113 + w) + 1 then 9 else (va_up c (109 + w) (c (109 + w) - h)) (113 + w) + 1)) (117 + w) ((va_up (va_up c (109 + w) (c (109 + w) - h)) (113 + w) (if 9 < (va_up c (109 + w) (c (109 + w) - h)) (113 + w) + 1 then 9 else (va_up c (109 + w) (c (109 + w) - h)) (113 + w) + 1)) (117 + w) + h)) 2 ((va_up (va_up (va_up c (109 + w) (c (109 + w) - h)) (113 + w) (if 9 < (va_up c (109 + w) (c (109 + w) - h)) (113 + w) + 1 then 9 else (va_up c (109 + w) (c (109 + w) - h)) (113 + w) + 1)) (117 + w) ((va_up (va_up c (109 + w) (c (109 + w) - h)) (113 + w) (if 9 < (va_up c (109 + w) (c (109 + w) - h)) (113 + w) + 1 then 9 else (va_up c (109 + w) (c (109 + w) - h)) (113 + w) + 1)) (117 + w) + h)) 2 - t) = mSews c w h t := by
  unfold mSews sSpend ad
  funext j
  simp only [va_e]
  grind
set_option maxHeartbeats 1000000 in
theorem c_X11_sews {E : zE} {w : Nat} {h t D : Int} {σ : Nat → Nat → Int} {c : Nat → Int} {l : (Nat → Int64) × (Nat → UInt64)} (hg : Rg D c) (hw : w < 4) : Rn E yX11_sews (Cond.code yX11_sews cX11_sews 5 (Option.none : Option FieldType)) 1 [vr 32, vi (w : Int), vi h, vi t] ((zs σ 33 (gm c), l)) ((zs σ 33 (gm (mSews c w h t)), l)) := by
  refine Ctr_of (own := RX11) (by decide +kernel) rfl rfl (fun Y hX hR hnx => ?_)
  have hs := hg.sore hw
  refine z_b hX fo_X11 [.bipush 108, .iconst 3, .iload_n 1, .imul, .iadd, .istore 4] 8 (by decide +kernel) rfl ?_
  refine z_b hX fo_X11 [.aload_n 0, .getfield 7, .iload 4, .dup2] 15 (by decide +kernel) rfl ?_
  refine z_ig hX (v := c (109 + w)) (108 + 3 * w + 0) (gwo hw (by decide)) (by omega) (by omega) (by decide +kernel) ?_
  refine z_b hX fo_X11 [.iload_n 2, .isub] 18 (by decide +kernel) rfl ?_
  refine z_sg hX (108 + 3 * w + 0) (uwo hw (by decide)) (by omega) (by omega) (by decide +kernel) ?_
  refine z_b hX fo_X11 [.aload_n 0, .getfield 7, .iload 4, .iconst 1, .iadd, .bipush 9, .aload_n 0, .getfield 7, .iload 4, .iconst 1, .iadd] 37 (by decide +kernel) rfl ?_
  refine z_ig hX (v := (va_up c (109 + w) (c (109 + w) - h)) (113 + w)) (108 + 3 * w + 1) (gwo hw (by decide)) (by omega) (by omega) (by decide +kernel) ?_
  have e1 : (va_up c (109 + w) (c (109 + w) - h)) (113 + w) = c (113 + w) := vne (by omega)
  refine z_b hX fo_X11 [.iconst 1, .iadd] 40 (by decide +kernel) rfl ?_
  refine z_cS hX m_X11_less l_X11_91 p_X11_less (c_X11_less ⟨by decide, by decide⟩ ⟨by omega, by omega⟩) rfl rfl rfl rfl (by decide +kernel) ?_
  refine z_sg hX (108 + 3 * w + 1) (uwo hw (by decide)) (by omega) (by omega) (by decide +kernel) ?_
  refine z_b hX fo_X11 [.aload_n 0, .getfield 7, .iload 4, .iconst 2, .iadd, .dup2] 53 (by decide +kernel) rfl ?_
  refine z_ig hX (v := (va_up (va_up c (109 + w) (c (109 + w) - h)) (113 + w) (if 9 < (va_up c (109 + w) (c (109 + w) - h)) (113 + w) + 1 then 9 else (va_up c (109 + w) (c (109 + w) - h)) (113 + w) + 1)) (117 + w)) (108 + 3 * w + 2) (gwo hw (by decide)) (by omega) (by omega) (by decide +kernel) ?_
  refine z_b hX fo_X11 [.iload_n 2, .iadd] 56 (by decide +kernel) rfl ?_
  refine z_sg hX (108 + 3 * w + 2) (uwo hw (by decide)) (by omega) (by omega) (by decide +kernel) ?_
  refine z_b hX fo_X11 [.aload_n 0, .getfield 7, .iconst 2, .dup2] 63 (by decide +kernel) rfl ?_
  refine z_ig hX (v := (va_up (va_up (va_up c (109 + w) (c (109 + w) - h)) (113 + w) (if 9 < (va_up c (109 + w) (c (109 + w) - h)) (113 + w) + 1 then 9 else (va_up c (109 + w) (c (109 + w) - h)) (113 + w) + 1)) (117 + w) ((va_up (va_up c (109 + w) (c (109 + w) - h)) (113 + w) (if 9 < (va_up c (109 + w) (c (109 + w) - h)) (113 + w) + 1 then 9 else (va_up c (109 + w) (c (109 + w) - h)) (113 + w) + 1)) (117 + w) + h)) 2) (2) rfl (by omega) (by omega) (by decide +kernel) ?_
  refine z_b hX fo_X11 [.iload_n 3, .isub] 66 (by decide +kernel) rfl ?_
  refine z_sg hX (2) (ulit (j := 2) (by decide) (by decide) rfl) (by omega) (by omega) (by decide +kernel) ?_
  exact z_vret hX hR (by decide +kernel) ⟨rfl, by rw [mSews_eq hw]⟩
