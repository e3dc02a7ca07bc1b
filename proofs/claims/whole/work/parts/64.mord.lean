/-! ===== the model: one order ===== -/
section IORD
variable {t : Nat → Int} {n p : Nat} {k : Int} {f r : Int × Nat} {v : Int}
theorem iord_o (h : iknd (inx t n p) = 0) : iord t n p = (none, p) := if_pos h
theorem iord_7 (h : inx t n p = 117) : iord t n p = (some (117, 0, 0), p + 1) := by
  unfold iord
  rw [h, if_neg (by decide), if_pos rfl]
theorem iord_1 (h : inx t n p = k) (hk : iknd k ≠ 0) (h7 : k ≠ 117) : iord t n p = ior1 t n k (inum t n (ifd k) (p + 1) (-1)) := by
  unfold iord
  rw [h, if_neg hk, if_neg h7]
theorem ior1_a (h : f.1 = -1) : ior1 t n k f = (none, f.2) := if_pos h
theorem ior1_b (h : f.1 ≠ -1) (hl : ilnk k = 0) : ior1 t n k f = (some (k, f.1, 0), f.2) := (if_neg h).trans (if_pos hl)
theorem ior1_c (h : f.1 ≠ -1) (hl : ilnk k ≠ 0) (h2 : inx t n f.2 ≠ ilnk k) : ior1 t n k f = (none, f.2) := (if_neg h).trans ((if_neg hl).trans (if_neg h2))
theorem ior1_d (h : f.1 ≠ -1) (hl : ilnk k ≠ 0) (h2 : inx t n f.2 = ilnk k) : ior1 t n k f = ior2 k f.1 (inum t n (isd k) (f.2 + 1) (-1)) := (if_neg h).trans ((if_neg hl).trans (if_pos h2))
theorem ior2_a (h : r.1 = -1) : ior2 k v r = (none, r.2) := if_pos h
theorem ior2_b (h : r.1 ≠ -1) : ior2 k v r = (some (k, v, r.1), r.2) := if_neg h
end IORD
theorem nuf_o {f : Nat → Int} {pl j : Nat} {r : Int × Nat} (h : j ≠ pl) : nuf f pl r j = f j := by
  unfold nuf; split
  · rfl
  · exact vne h
theorem nuf_p {f : Nat → Int} {pl : Nat} {r : Int × Nat} (h : r.1 ≠ -1) : nuf f pl r pl = r.1 := by
  unfold nuf; rw [if_neg h, va_e, if_pos rfl]
/-- an order as it was told -/
def tOk (f : Nat → Int) (q : Nat) (o : Int × Int × Int) : Prop := f (3 * q) = o.1 ∧ (o.1 ≠ 117 → f (3 * q + 1) = o.2.1) ∧ (o.1 = 115 ∨ o.1 = 119 ∨ o.1 = 107 → f (3 * q + 2) = o.2.2)
def KO (t : Nat → Int) (n p q : Nat) (f : Nat → Int) (τ : Nat → Nat → Int) (l : (Nat → Int64) × (Nat → UInt64)) : zK := fun o s => o = .inl (some (vi (io1 (iord t n p).1))) ∧ ∃ f', s = (tS τ f' (iord t n p).2, l) ∧ (∀ j, j < 3 * q → f' j = f j) ∧ ∀ x, (iord t n p).1 = some x → tOk f' q x
theorem KO_n {t : Nat → Int} {n p q p2 : Nat} {f f' : Nat → Int} {τ : Nat → Nat → Int} {l : (Nat → Int64) × (Nat → UInt64)} (h : iord t n p = (none, p2)) (hf : ∀ j, j < 3 * q → f' j = f j) : KO t n p q f τ l (.inl (some (vi 0))) (tS τ f' p2, l) := by
  refine ⟨by rw [h]; rfl, f', by rw [h], hf, fun x hx => ?_⟩
  rw [h] at hx; cases hx
theorem KO_s {t : Nat → Int} {n p q p2 : Nat} {x : Int × Int × Int} {f f' : Nat → Int} {τ : Nat → Nat → Int} {l : (Nat → Int64) × (Nat → UInt64)} (h : iord t n p = (some x, p2)) (hf : ∀ j, j < 3 * q → f' j = f j) (hx : tOk f' q x) : KO t n p q f τ l (.inl (some (vi 1))) (tS τ f' p2, l) := by
  refine ⟨by rw [h]; rfl, f', by rw [h], hf, fun y hy => ?_⟩
  rw [h] at hy; cases hy; exact hx
theorem iknd_o {t : Nat → Int} {n p : Nat} (h : ¬ (imx t n p = 115 ∨ imx t n p = 119 ∨ imx t n p = 107 ∨ imx t n p = 108 ∨ imx t n p = 103 ∨ imx t n p = 112 ∨ imx t n p = 117)) : iknd (inx t n p) = 0 := by
  rw [imx_d (by decide), imx_d (by decide), imx_d (by decide), imx_d (by decide), imx_d (by decide), imx_d (by decide), imx_d (by decide)] at h
  unfold iknd
  exact if_neg (by omega)
set_option maxHeartbeats 4000000 in
theorem c_X11_orderHere {E : zE} {t f : Nat → Int} {p n q : Nat} {τ : Nat → Nat → Int} {l : (Nat → Int64) × (Nat → UInt64)} (h12 : τ 32 12 = (n : Int)) (h37 : τ 37 = t) (hn : n ≤ 60) (hp : p ≤ 70) (ht : iT t n) (h16 : τ 32 16 = (q : Int)) (hq : q ≤ 31) : Ctr E yX11_orderHere (Cond.code yX11_orderHere cX11_orderHere 2 (Option.some FieldType.boolean)) 2 0 [vr 32] (tS τ f p, l) (KO t n p q f τ l) := by
  refine Ctr_of (own := RX11) (by decide +kernel) rfl rfl (fun Y hX hR hnx => ?_)
  refine z_b hX fo_X11 [.iconst 3, .aload_n 0, .getfield 148] 5 (by decide +kernel) rfl ?_
  try dsimp only
  rw [tS_32 (show 16 ≠ 14 by decide), h16]
  refine z_b hX fo_X11 [.imul] 6 (by decide +kernel) rfl ?_
  rw [show (3 : Int) * (q : Int) = ((3 * q : Nat) : Int) by omega]
  refine z_b hX fo_X11 [.istore_n 1, .aload_n 0, .getfield 29, .iload_n 1, .aload_n 0] 13 (by decide +kernel) rfl ?_
  refine z_cV hX m_X11_here l_X11_145 p_X11_here (c_X11_here h12 h37 hn (by omega) ht) rfl rfl rfl rfl rfl rfl (by decide +kernel) ?_
  refine z_iast hX (3 * q) rfl (by omega) (by decide) (by omega) (by decide +kernel) ?_
  rw [zup_zs, tS_told, tS_38]
  rcases (show imx t n p = 115 ∨ imx t n p = 119 ∨ imx t n p = 107 ∨ imx t n p = 108 ∨ imx t n p = 103 ∨ imx t n p = 112 ∨ imx t n p = 117 ∨ ¬ (imx t n p = 115 ∨ imx t n p = 119 ∨ imx t n p = 107 ∨ imx t n p = 108 ∨ imx t n p = 103 ∨ imx t n p = 112 ∨ imx t n p = 117) by omega) with hk | hk | hk | hk | hk | hk | hk | hk
  · refine z_b hX fo_X11 [.aload_n 0, .bipush 115] 20 (by decide +kernel) rfl ?_
    refine z_cV hX m_X11_skips l_X11_151 p_X11_skips (c_skip1 (p := p) (f := (va_up f (3 * q) (imx t n p))) h12 h37 hn (by omega) ht ⟨by decide, by decide⟩ hk) rfl rfl rfl rfl rfl rfl (by decide +kernel) ?_
    refine z_if_eq hX (off := 40) 63 (by decide +kernel) (by decide) ⟨by decide, by decide⟩ (fun c23 => by exact absurd c23 (by decide)) (fun c23 => ?_)
    refine z_b hX fo_X11 [.aload_n 0, .iload_n 1, .iconst 1, .iadd, .iconst 1] 31 (by decide +kernel) rfl ?_
    rw [show ((3 * q : Nat) : Int) + 1 = ((3 * q + 1 : Nat) : Int) by omega]
    have q1 := inum_q (t := t) (n := n) 1 (p + 1) (-1)
    refine z_cV hX m_X11_number l_X11_154 p_X11_number (c_X11_number (p := p + 1) (f := (va_up f (3 * q) (imx t n p))) (q := 3 * q + 1) (k := 1) h12 h37 hn (by omega) ht (by omega) ⟨by decide, by decide⟩) rfl rfl rfl rfl rfl rfl (by decide +kernel) ?_
    by_cases hr1 : (inum t n 1 (p + 1) (-1)).1 = -1
    · rw [if_pos hr1]
      refine z_if_eq hX (off := 27) 61 (by decide +kernel) (by decide) ⟨by decide, by decide⟩ (fun c34 => ?_) (fun c34 => by exact absurd c34 (by decide))
      refine z_b hX fo_X11 [.iconst 0] 62 (by decide +kernel) rfl ?_
      exact z_zret hX hR (by decide +kernel) (by decide +kernel) (KO_n ((iord_1 ((imx_d (by decide)).mp hk) (by decide) (by decide)).trans (ior1_a hr1)) (fun j hj => by rw [nuf_o (by omega), vne (by omega)]))
    · rw [if_neg hr1]
      refine z_if_eq hX (off := 27) 61 (by decide +kernel) (by decide) ⟨by decide, by decide⟩ (fun c34 => by exact absurd c34 (by decide)) (fun c34 => ?_)
      refine z_b hX fo_X11 [.aload_n 0, .bipush 64] 40 (by decide +kernel) rfl ?_
      by_cases hs : imx t n (inum t n 1 (p + 1) (-1)).2 = 64
      · refine z_cV hX m_X11_skips l_X11_151 p_X11_skips (c_skip1 (p := (inum t n 1 (p + 1) (-1)).2) (f := (nuf (va_up f (3 * q) (imx t n p)) (3 * q + 1) (inum t n 1 (p + 1) (-1)))) h12 h37 hn (by omega) ht ⟨by decide, by decide⟩ hs) rfl rfl rfl rfl rfl rfl (by decide +kernel) ?_
        refine z_if_eq hX (off := 18) 61 (by decide +kernel) (by decide) ⟨by decide, by decide⟩ (fun c43 => by exact absurd c43 (by decide)) (fun c43 => ?_)
        refine z_b hX fo_X11 [.aload_n 0, .iload_n 1, .iconst 2, .iadd, .iconst 2] 51 (by decide +kernel) rfl ?_
        rw [show ((3 * q : Nat) : Int) + 2 = ((3 * q + 2 : Nat) : Int) by omega]
        refine z_cV hX m_X11_number l_X11_154 p_X11_number (c_X11_number (p := (inum t n 1 (p + 1) (-1)).2 + 1) (f := (nuf (va_up f (3 * q) (imx t n p)) (3 * q + 1) (inum t n 1 (p + 1) (-1)))) (q := 3 * q + 2) (k := 2) h12 h37 hn (by omega) ht (by omega) ⟨by decide, by decide⟩) rfl rfl rfl rfl rfl rfl (by decide +kernel) ?_
        by_cases hr2 : (inum t n 2 ((inum t n 1 (p + 1) (-1)).2 + 1) (-1)).1 = -1
        · rw [if_pos hr2]
          refine z_if_eq hX (off := 7) 61 (by decide +kernel) (by decide) ⟨by decide, by decide⟩ (fun c54 => ?_) (fun c54 => by exact absurd c54 (by decide))
          refine z_b hX fo_X11 [.iconst 0] 62 (by decide +kernel) rfl ?_
          exact z_zret hX hR (by decide +kernel) (by decide +kernel) (KO_n ((iord_1 ((imx_d (by decide)).mp hk) (by decide) (by decide)).trans ((ior1_d hr1 (by decide) ((imx_d (by decide)).mp hs)).trans (ior2_a hr2))) (fun j hj => by rw [nuf_o (by omega), nuf_o (by omega), vne (by omega)]))
        · rw [if_neg hr2]
          refine z_if_eq hX (off := 7) 61 (by decide +kernel) (by decide) ⟨by decide, by decide⟩ (fun c54 => by exact absurd c54 (by decide)) (fun c54 => ?_)
          refine z_b hX fo_X11 [.iconst 1] 58 (by decide +kernel) rfl ?_
          refine z_goto hX (off := 4) 62 (by decide +kernel) (by decide) ?_
          exact z_zret hX hR (by decide +kernel) (by decide +kernel) (KO_s ((iord_1 ((imx_d (by decide)).mp hk) (by decide) (by decide)).trans ((ior1_d hr1 (by decide) ((imx_d (by decide)).mp hs)).trans (ior2_b hr2))) (fun j hj => by rw [nuf_o (by omega), nuf_o (by omega), vne (by omega)]) ⟨by rw [nuf_o (by omega), nuf_o (by omega), va_e, if_pos rfl]; exact hk, fun _ => by rw [nuf_o (by omega)]; exact nuf_p hr1, fun _ => nuf_p hr2⟩)
      · refine z_cV hX m_X11_skips l_X11_151 p_X11_skips (c_skip0 (p := (inum t n 1 (p + 1) (-1)).2) (f := (nuf (va_up f (3 * q) (imx t n p)) (3 * q + 1) (inum t n 1 (p + 1) (-1)))) h12 h37 hn (by omega) ht ⟨by decide, by decide⟩ hs) rfl rfl rfl rfl rfl rfl (by decide +kernel) ?_
        refine z_if_eq hX (off := 18) 61 (by decide +kernel) (by decide) ⟨by decide, by decide⟩ (fun c43 => ?_) (fun c43 => by exact absurd c43 (by decide))
        refine z_b hX fo_X11 [.iconst 0] 62 (by decide +kernel) rfl ?_
        exact z_zret hX hR (by decide +kernel) (by decide +kernel) (KO_n ((iord_1 ((imx_d (by decide)).mp hk) (by decide) (by decide)).trans (ior1_c hr1 (by decide) (fun z => hs ((imx_d (by decide)).mpr z)))) (fun j hj => by rw [nuf_o (by omega), vne (by omega)]))
  · refine z_b hX fo_X11 [.aload_n 0, .bipush 115] 20 (by decide +kernel) rfl ?_
    refine z_cV hX m_X11_skips l_X11_151 p_X11_skips (c_skip0 (p := p) (f := (va_up f (3 * q) (imx t n p))) h12 h37 hn (by omega) ht ⟨by decide, by decide⟩ (by rw [hk]; decide)) rfl rfl rfl rfl rfl rfl (by decide +kernel) ?_
    refine z_if_eq hX (off := 40) 63 (by decide +kernel) (by decide) ⟨by decide, by decide⟩ (fun c23 => ?_) (fun c23 => by exact absurd c23 (by decide))
    refine z_b hX fo_X11 [.aload_n 0, .bipush 119] 66 (by decide +kernel) rfl ?_
    refine z_cV hX m_X11_skips l_X11_151 p_X11_skips (c_skip1 (p := p) (f := (va_up f (3 * q) (imx t n p))) h12 h37 hn (by omega) ht ⟨by decide, by decide⟩ hk) rfl rfl rfl rfl rfl rfl (by decide +kernel) ?_
    refine z_if_eq hX (off := 40) 109 (by decide +kernel) (by decide) ⟨by decide, by decide⟩ (fun c69 => by exact absurd c69 (by decide)) (fun c69 => ?_)
    refine z_b hX fo_X11 [.aload_n 0, .iload_n 1, .iconst 1, .iadd, .iconst 1] 77 (by decide +kernel) rfl ?_
    rw [show ((3 * q : Nat) : Int) + 1 = ((3 * q + 1 : Nat) : Int) by omega]
    have q1 := inum_q (t := t) (n := n) 1 (p + 1) (-1)
    refine z_cV hX m_X11_number l_X11_154 p_X11_number (c_X11_number (p := p + 1) (f := (va_up f (3 * q) (imx t n p))) (q := 3 * q + 1) (k := 1) h12 h37 hn (by omega) ht (by omega) ⟨by decide, by decide⟩) rfl rfl rfl rfl rfl rfl (by decide +kernel) ?_
    by_cases hr1 : (inum t n 1 (p + 1) (-1)).1 = -1
    · rw [if_pos hr1]
      refine z_if_eq hX (off := 27) 107 (by decide +kernel) (by decide) ⟨by decide, by decide⟩ (fun c80 => ?_) (fun c80 => by exact absurd c80 (by decide))
      refine z_b hX fo_X11 [.iconst 0] 108 (by decide +kernel) rfl ?_
      exact z_zret hX hR (by decide +kernel) (by decide +kernel) (KO_n ((iord_1 ((imx_d (by decide)).mp hk) (by decide) (by decide)).trans (ior1_a hr1)) (fun j hj => by rw [nuf_o (by omega), vne (by omega)]))
    · rw [if_neg hr1]
      refine z_if_eq hX (off := 27) 107 (by decide +kernel) (by decide) ⟨by decide, by decide⟩ (fun c80 => by exact absurd c80 (by decide)) (fun c80 => ?_)
      refine z_b hX fo_X11 [.aload_n 0, .bipush 58] 86 (by decide +kernel) rfl ?_
      by_cases hs : imx t n (inum t n 1 (p + 1) (-1)).2 = 58
      · refine z_cV hX m_X11_skips l_X11_151 p_X11_skips (c_skip1 (p := (inum t n 1 (p + 1) (-1)).2) (f := (nuf (va_up f (3 * q) (imx t n p)) (3 * q + 1) (inum t n 1 (p + 1) (-1)))) h12 h37 hn (by omega) ht ⟨by decide, by decide⟩ hs) rfl rfl rfl rfl rfl rfl (by decide +kernel) ?_
        refine z_if_eq hX (off := 18) 107 (by decide +kernel) (by decide) ⟨by decide, by decide⟩ (fun c89 => by exact absurd c89 (by decide)) (fun c89 => ?_)
        refine z_b hX fo_X11 [.aload_n 0, .iload_n 1, .iconst 2, .iadd, .iconst 2] 97 (by decide +kernel) rfl ?_
        rw [show ((3 * q : Nat) : Int) + 2 = ((3 * q + 2 : Nat) : Int) by omega]
        refine z_cV hX m_X11_number l_X11_154 p_X11_number (c_X11_number (p := (inum t n 1 (p + 1) (-1)).2 + 1) (f := (nuf (va_up f (3 * q) (imx t n p)) (3 * q + 1) (inum t n 1 (p + 1) (-1)))) (q := 3 * q + 2) (k := 2) h12 h37 hn (by omega) ht (by omega) ⟨by decide, by decide⟩) rfl rfl rfl rfl rfl rfl (by decide +kernel) ?_
        by_cases hr2 : (inum t n 2 ((inum t n 1 (p + 1) (-1)).2 + 1) (-1)).1 = -1
        · rw [if_pos hr2]
          refine z_if_eq hX (off := 7) 107 (by decide +kernel) (by decide) ⟨by decide, by decide⟩ (fun c100 => ?_) (fun c100 => by exact absurd c100 (by decide))
          refine z_b hX fo_X11 [.iconst 0] 108 (by decide +kernel) rfl ?_
          exact z_zret hX hR (by decide +kernel) (by decide +kernel) (KO_n ((iord_1 ((imx_d (by decide)).mp hk) (by decide) (by decide)).trans ((ior1_d hr1 (by decide) ((imx_d (by decide)).mp hs)).trans (ior2_a hr2))) (fun j hj => by rw [nuf_o (by omega), nuf_o (by omega), vne (by omega)]))
        · rw [if_neg hr2]
          refine z_if_eq hX (off := 7) 107 (by decide +kernel) (by decide) ⟨by decide, by decide⟩ (fun c100 => by exact absurd c100 (by decide)) (fun c100 => ?_)
          refine z_b hX fo_X11 [.iconst 1] 104 (by decide +kernel) rfl ?_
          refine z_goto hX (off := 4) 108 (by decide +kernel) (by decide) ?_
          exact z_zret hX hR (by decide +kernel) (by decide +kernel) (KO_s ((iord_1 ((imx_d (by decide)).mp hk) (by decide) (by decide)).trans ((ior1_d hr1 (by decide) ((imx_d (by decide)).mp hs)).trans (ior2_b hr2))) (fun j hj => by rw [nuf_o (by omega), nuf_o (by omega), vne (by omega)]) ⟨by rw [nuf_o (by omega), nuf_o (by omega), va_e, if_pos rfl]; exact hk, fun _ => by rw [nuf_o (by omega)]; exact nuf_p hr1, fun _ => nuf_p hr2⟩)
      · refine z_cV hX m_X11_skips l_X11_151 p_X11_skips (c_skip0 (p := (inum t n 1 (p + 1) (-1)).2) (f := (nuf (va_up f (3 * q) (imx t n p)) (3 * q + 1) (inum t n 1 (p + 1) (-1)))) h12 h37 hn (by omega) ht ⟨by decide, by decide⟩ hs) rfl rfl rfl rfl rfl rfl (by decide +kernel) ?_
        refine z_if_eq hX (off := 18) 107 (by decide +kernel) (by decide) ⟨by decide, by decide⟩ (fun c89 => ?_) (fun c89 => by exact absurd c89 (by decide))
        refine z_b hX fo_X11 [.iconst 0] 108 (by decide +kernel) rfl ?_
        exact z_zret hX hR (by decide +kernel) (by decide +kernel) (KO_n ((iord_1 ((imx_d (by decide)).mp hk) (by decide) (by decide)).trans (ior1_c hr1 (by decide) (fun z => hs ((imx_d (by decide)).mpr z)))) (fun j hj => by rw [nuf_o (by omega), vne (by omega)]))
  · refine z_b hX fo_X11 [.aload_n 0, .bipush 115] 20 (by decide +kernel) rfl ?_
    refine z_cV hX m_X11_skips l_X11_151 p_X11_skips (c_skip0 (p := p) (f := (va_up f (3 * q) (imx t n p))) h12 h37 hn (by omega) ht ⟨by decide, by decide⟩ (by rw [hk]; decide)) rfl rfl rfl rfl rfl rfl (by decide +kernel) ?_
    refine z_if_eq hX (off := 40) 63 (by decide +kernel) (by decide) ⟨by decide, by decide⟩ (fun c23 => ?_) (fun c23 => by exact absurd c23 (by decide))
    refine z_b hX fo_X11 [.aload_n 0, .bipush 119] 66 (by decide +kernel) rfl ?_
    refine z_cV hX m_X11_skips l_X11_151 p_X11_skips (c_skip0 (p := p) (f := (va_up f (3 * q) (imx t n p))) h12 h37 hn (by omega) ht ⟨by decide, by decide⟩ (by rw [hk]; decide)) rfl rfl rfl rfl rfl rfl (by decide +kernel) ?_
    refine z_if_eq hX (off := 40) 109 (by decide +kernel) (by decide) ⟨by decide, by decide⟩ (fun c69 => ?_) (fun c69 => by exact absurd c69 (by decide))
    refine z_b hX fo_X11 [.aload_n 0, .bipush 107] 112 (by decide +kernel) rfl ?_
    refine z_cV hX m_X11_skips l_X11_151 p_X11_skips (c_skip1 (p := p) (f := (va_up f (3 * q) (imx t n p))) h12 h37 hn (by omega) ht ⟨by decide, by decide⟩ hk) rfl rfl rfl rfl rfl rfl (by decide +kernel) ?_
    refine z_if_eq hX (off := 40) 155 (by decide +kernel) (by decide) ⟨by decide, by decide⟩ (fun c115 => by exact absurd c115 (by decide)) (fun c115 => ?_)
    refine z_b hX fo_X11 [.aload_n 0, .iload_n 1, .iconst 1, .iadd, .iconst 2] 123 (by decide +kernel) rfl ?_
    rw [show ((3 * q : Nat) : Int) + 1 = ((3 * q + 1 : Nat) : Int) by omega]
    have q1 := inum_q (t := t) (n := n) 2 (p + 1) (-1)
    refine z_cV hX m_X11_number l_X11_154 p_X11_number (c_X11_number (p := p + 1) (f := (va_up f (3 * q) (imx t n p))) (q := 3 * q + 1) (k := 2) h12 h37 hn (by omega) ht (by omega) ⟨by decide, by decide⟩) rfl rfl rfl rfl rfl rfl (by decide +kernel) ?_
    by_cases hr1 : (inum t n 2 (p + 1) (-1)).1 = -1
    · rw [if_pos hr1]
      refine z_if_eq hX (off := 27) 153 (by decide +kernel) (by decide) ⟨by decide, by decide⟩ (fun c126 => ?_) (fun c126 => by exact absurd c126 (by decide))
      refine z_b hX fo_X11 [.iconst 0] 154 (by decide +kernel) rfl ?_
      exact z_zret hX hR (by decide +kernel) (by decide +kernel) (KO_n ((iord_1 ((imx_d (by decide)).mp hk) (by decide) (by decide)).trans (ior1_a hr1)) (fun j hj => by rw [nuf_o (by omega), vne (by omega)]))
    · rw [if_neg hr1]
      refine z_if_eq hX (off := 27) 153 (by decide +kernel) (by decide) ⟨by decide, by decide⟩ (fun c126 => by exact absurd c126 (by decide)) (fun c126 => ?_)
      refine z_b hX fo_X11 [.aload_n 0, .bipush 62] 132 (by decide +kernel) rfl ?_
      by_cases hs : imx t n (inum t n 2 (p + 1) (-1)).2 = 62
      · refine z_cV hX m_X11_skips l_X11_151 p_X11_skips (c_skip1 (p := (inum t n 2 (p + 1) (-1)).2) (f := (nuf (va_up f (3 * q) (imx t n p)) (3 * q + 1) (inum t n 2 (p + 1) (-1)))) h12 h37 hn (by omega) ht ⟨by decide, by decide⟩ hs) rfl rfl rfl rfl rfl rfl (by decide +kernel) ?_
        refine z_if_eq hX (off := 18) 153 (by decide +kernel) (by decide) ⟨by decide, by decide⟩ (fun c135 => by exact absurd c135 (by decide)) (fun c135 => ?_)
        refine z_b hX fo_X11 [.aload_n 0, .iload_n 1, .iconst 2, .iadd, .iconst 1] 143 (by decide +kernel) rfl ?_
        rw [show ((3 * q : Nat) : Int) + 2 = ((3 * q + 2 : Nat) : Int) by omega]
        refine z_cV hX m_X11_number l_X11_154 p_X11_number (c_X11_number (p := (inum t n 2 (p + 1) (-1)).2 + 1) (f := (nuf (va_up f (3 * q) (imx t n p)) (3 * q + 1) (inum t n 2 (p + 1) (-1)))) (q := 3 * q + 2) (k := 1) h12 h37 hn (by omega) ht (by omega) ⟨by decide, by decide⟩) rfl rfl rfl rfl rfl rfl (by decide +kernel) ?_
        by_cases hr2 : (inum t n 1 ((inum t n 2 (p + 1) (-1)).2 + 1) (-1)).1 = -1
        · rw [if_pos hr2]
          refine z_if_eq hX (off := 7) 153 (by decide +kernel) (by decide) ⟨by decide, by decide⟩ (fun c146 => ?_) (fun c146 => by exact absurd c146 (by decide))
          refine z_b hX fo_X11 [.iconst 0] 154 (by decide +kernel) rfl ?_
          exact z_zret hX hR (by decide +kernel) (by decide +kernel) (KO_n ((iord_1 ((imx_d (by decide)).mp hk) (by decide) (by decide)).trans ((ior1_d hr1 (by decide) ((imx_d (by decide)).mp hs)).trans (ior2_a hr2))) (fun j hj => by rw [nuf_o (by omega), nuf_o (by omega), vne (by omega)]))
        · rw [if_neg hr2]
          refine z_if_eq hX (off := 7) 153 (by decide +kernel) (by decide) ⟨by decide, by decide⟩ (fun c146 => by exact absurd c146 (by decide)) (fun c146 => ?_)
          refine z_b hX fo_X11 [.iconst 1] 150 (by decide +kernel) rfl ?_
          refine z_goto hX (off := 4) 154 (by decide +kernel) (by decide) ?_
          exact z_zret hX hR (by decide +kernel) (by decide +kernel) (KO_s ((iord_1 ((imx_d (by decide)).mp hk) (by decide) (by decide)).trans ((ior1_d hr1 (by decide) ((imx_d (by decide)).mp hs)).trans (ior2_b hr2))) (fun j hj => by rw [nuf_o (by omega), nuf_o (by omega), vne (by omega)]) ⟨by rw [nuf_o (by omega), nuf_o (by omega), va_e, if_pos rfl]; exact hk, fun _ => by rw [nuf_o (by omega)]; exact nuf_p hr1, fun _ => nuf_p hr2⟩)
      · refine z_cV hX m_X11_skips l_X11_151 p_X11_skips (c_skip0 (p := (inum t n 2 (p + 1) (-1)).2) (f := (nuf (va_up f (3 * q) (imx t n p)) (3 * q + 1) (inum t n 2 (p + 1) (-1)))) h12 h37 hn (by omega) ht ⟨by decide, by decide⟩ hs) rfl rfl rfl rfl rfl rfl (by decide +kernel) ?_
        refine z_if_eq hX (off := 18) 153 (by decide +kernel) (by decide) ⟨by decide, by decide⟩ (fun c135 => ?_) (fun c135 => by exact absurd c135 (by decide))
        refine z_b hX fo_X11 [.iconst 0] 154 (by decide +kernel) rfl ?_
        exact z_zret hX hR (by decide +kernel) (by decide +kernel) (KO_n ((iord_1 ((imx_d (by decide)).mp hk) (by decide) (by decide)).trans (ior1_c hr1 (by decide) (fun z => hs ((imx_d (by decide)).mpr z)))) (fun j hj => by rw [nuf_o (by omega), vne (by omega)]))
  · refine z_b hX fo_X11 [.aload_n 0, .bipush 115] 20 (by decide +kernel) rfl ?_
    refine z_cV hX m_X11_skips l_X11_151 p_X11_skips (c_skip0 (p := p) (f := (va_up f (3 * q) (imx t n p))) h12 h37 hn (by omega) ht ⟨by decide, by decide⟩ (by rw [hk]; decide)) rfl rfl rfl rfl rfl rfl (by decide +kernel) ?_
    refine z_if_eq hX (off := 40) 63 (by decide +kernel) (by decide) ⟨by decide, by decide⟩ (fun c23 => ?_) (fun c23 => by exact absurd c23 (by decide))
    refine z_b hX fo_X11 [.aload_n 0, .bipush 119] 66 (by decide +kernel) rfl ?_
    refine z_cV hX m_X11_skips l_X11_151 p_X11_skips (c_skip0 (p := p) (f := (va_up f (3 * q) (imx t n p))) h12 h37 hn (by omega) ht ⟨by decide, by decide⟩ (by rw [hk]; decide)) rfl rfl rfl rfl rfl rfl (by decide +kernel) ?_
    refine z_if_eq hX (off := 40) 109 (by decide +kernel) (by decide) ⟨by decide, by decide⟩ (fun c69 => ?_) (fun c69 => by exact absurd c69 (by decide))
    refine z_b hX fo_X11 [.aload_n 0, .bipush 107] 112 (by decide +kernel) rfl ?_
    refine z_cV hX m_X11_skips l_X11_151 p_X11_skips (c_skip0 (p := p) (f := (va_up f (3 * q) (imx t n p))) h12 h37 hn (by omega) ht ⟨by decide, by decide⟩ (by rw [hk]; decide)) rfl rfl rfl rfl rfl rfl (by decide +kernel) ?_
    refine z_if_eq hX (off := 40) 155 (by decide +kernel) (by decide) ⟨by decide, by decide⟩ (fun c115 => ?_) (fun c115 => by exact absurd c115 (by decide))
    refine z_b hX fo_X11 [.aload_n 0, .bipush 108] 158 (by decide +kernel) rfl ?_
    refine z_cV hX m_X11_skips l_X11_151 p_X11_skips (c_skip1 (p := p) (f := (va_up f (3 * q) (imx t n p))) h12 h37 hn (by omega) ht ⟨by decide, by decide⟩ hk) rfl rfl rfl rfl rfl rfl (by decide +kernel) ?_
    refine z_if_ne hX (off := 12) 173 (by decide +kernel) (by decide) ⟨by decide, by decide⟩ (fun c161 => ?_) (fun c161 => by exact absurd c161 (by decide))
    refine z_b hX fo_X11 [.aload_n 0, .iload_n 1, .iconst 1, .iadd, .iconst 1] 178 (by decide +kernel) rfl ?_
    rw [show ((3 * q : Nat) : Int) + 1 = ((3 * q + 1 : Nat) : Int) by omega]
    have q1 := inum_q (t := t) (n := n) 1 (p + 1) (-1)
    refine z_cV hX m_X11_number l_X11_154 p_X11_number (c_X11_number (p := p + 1) (f := (va_up f (3 * q) (imx t n p))) (q := 3 * q + 1) (k := 1) h12 h37 hn (by omega) ht (by omega) ⟨by decide, by decide⟩) rfl rfl rfl rfl rfl rfl (by decide +kernel) ?_
    by_cases hr1 : (inum t n 1 (p + 1) (-1)).1 = -1
    · rw [if_pos hr1]
      exact z_zret hX hR (by decide +kernel) (by decide +kernel) (KO_n ((iord_1 ((imx_d (by decide)).mp hk) (by decide) (by decide)).trans (ior1_a hr1)) (fun j hj => by rw [nuf_o (by omega), vne (by omega)]))
    · rw [if_neg hr1]
      exact z_zret hX hR (by decide +kernel) (by decide +kernel) (KO_s ((iord_1 ((imx_d (by decide)).mp hk) (by decide) (by decide)).trans (ior1_b hr1 rfl)) (fun j hj => by rw [nuf_o (by omega), vne (by omega)]) ⟨by rw [nuf_o (by omega), va_e, if_pos rfl]; exact hk, fun _ => nuf_p hr1, fun z => by exfalso; dsimp only at z; omega⟩)
  · refine z_b hX fo_X11 [.aload_n 0, .bipush 115] 20 (by decide +kernel) rfl ?_
    refine z_cV hX m_X11_skips l_X11_151 p_X11_skips (c_skip0 (p := p) (f := (va_up f (3 * q) (imx t n p))) h12 h37 hn (by omega) ht ⟨by decide, by decide⟩ (by rw [hk]; decide)) rfl rfl rfl rfl rfl rfl (by decide +kernel) ?_
    refine z_if_eq hX (off := 40) 63 (by decide +kernel) (by decide) ⟨by decide, by decide⟩ (fun c23 => ?_) (fun c23 => by exact absurd c23 (by decide))
    refine z_b hX fo_X11 [.aload_n 0, .bipush 119] 66 (by decide +kernel) rfl ?_
    refine z_cV hX m_X11_skips l_X11_151 p_X11_skips (c_skip0 (p := p) (f := (va_up f (3 * q) (imx t n p))) h12 h37 hn (by omega) ht ⟨by decide, by decide⟩ (by rw [hk]; decide)) rfl rfl rfl rfl rfl rfl (by decide +kernel) ?_
    refine z_if_eq hX (off := 40) 109 (by decide +kernel) (by decide) ⟨by decide, by decide⟩ (fun c69 => ?_) (fun c69 => by exact absurd c69 (by decide))
    refine z_b hX fo_X11 [.aload_n 0, .bipush 107] 112 (by decide +kernel) rfl ?_
    refine z_cV hX m_X11_skips l_X11_151 p_X11_skips (c_skip0 (p := p) (f := (va_up f (3 * q) (imx t n p))) h12 h37 hn (by omega) ht ⟨by decide, by decide⟩ (by rw [hk]; decide)) rfl rfl rfl rfl rfl rfl (by decide +kernel) ?_
    refine z_if_eq hX (off := 40) 155 (by decide +kernel) (by decide) ⟨by decide, by decide⟩ (fun c115 => ?_) (fun c115 => by exact absurd c115 (by decide))
    refine z_b hX fo_X11 [.aload_n 0, .bipush 108] 158 (by decide +kernel) rfl ?_
    refine z_cV hX m_X11_skips l_X11_151 p_X11_skips (c_skip0 (p := p) (f := (va_up f (3 * q) (imx t n p))) h12 h37 hn (by omega) ht ⟨by decide, by decide⟩ (by rw [hk]; decide)) rfl rfl rfl rfl rfl rfl (by decide +kernel) ?_
    refine z_if_ne hX (off := 12) 173 (by decide +kernel) (by decide) ⟨by decide, by decide⟩ (fun c161 => by exact absurd c161 (by decide)) (fun c161 => ?_)
    refine z_b hX fo_X11 [.aload_n 0, .bipush 103] 167 (by decide +kernel) rfl ?_
    refine z_cV hX m_X11_skips l_X11_151 p_X11_skips (c_skip1 (p := p) (f := (va_up f (3 * q) (imx t n p))) h12 h37 hn (by omega) ht ⟨by decide, by decide⟩ hk) rfl rfl rfl rfl rfl rfl (by decide +kernel) ?_
    refine z_if_eq hX (off := 12) 182 (by decide +kernel) (by decide) ⟨by decide, by decide⟩ (fun c170 => by exact absurd c170 (by decide)) (fun c170 => ?_)
    refine z_b hX fo_X11 [.aload_n 0, .iload_n 1, .iconst 1, .iadd, .iconst 1] 178 (by decide +kernel) rfl ?_
    rw [show ((3 * q : Nat) : Int) + 1 = ((3 * q + 1 : Nat) : Int) by omega]
    have q1 := inum_q (t := t) (n := n) 1 (p + 1) (-1)
    refine z_cV hX m_X11_number l_X11_154 p_X11_number (c_X11_number (p := p + 1) (f := (va_up f (3 * q) (imx t n p))) (q := 3 * q + 1) (k := 1) h12 h37 hn (by omega) ht (by omega) ⟨by decide, by decide⟩) rfl rfl rfl rfl rfl rfl (by decide +kernel) ?_
    by_cases hr1 : (inum t n 1 (p + 1) (-1)).1 = -1
    · rw [if_pos hr1]
      exact z_zret hX hR (by decide +kernel) (by decide +kernel) (KO_n ((iord_1 ((imx_d (by decide)).mp hk) (by decide) (by decide)).trans (ior1_a hr1)) (fun j hj => by rw [nuf_o (by omega), vne (by omega)]))
    · rw [if_neg hr1]
      exact z_zret hX hR (by decide +kernel) (by decide +kernel) (KO_s ((iord_1 ((imx_d (by decide)).mp hk) (by decide) (by decide)).trans (ior1_b hr1 rfl)) (fun j hj => by rw [nuf_o (by omega), vne (by omega)]) ⟨by rw [nuf_o (by omega), va_e, if_pos rfl]; exact hk, fun _ => nuf_p hr1, fun z => by exfalso; dsimp only at z; omega⟩)
  · refine z_b hX fo_X11 [.aload_n 0, .bipush 115] 20 (by decide +kernel) rfl ?_
    refine z_cV hX m_X11_skips l_X11_151 p_X11_skips (c_skip0 (p := p) (f := (va_up f (3 * q) (imx t n p))) h12 h37 hn (by omega) ht ⟨by decide, by decide⟩ (by rw [hk]; decide)) rfl rfl rfl rfl rfl rfl (by decide +kernel) ?_
    refine z_if_eq hX (off := 40) 63 (by decide +kernel) (by decide) ⟨by decide, by decide⟩ (fun c23 => ?_) (fun c23 => by exact absurd c23 (by decide))
    refine z_b hX fo_X11 [.aload_n 0, .bipush 119] 66 (by decide +kernel) rfl ?_
    refine z_cV hX m_X11_skips l_X11_151 p_X11_skips (c_skip0 (p := p) (f := (va_up f (3 * q) (imx t n p))) h12 h37 hn (by omega) ht ⟨by decide, by decide⟩ (by rw [hk]; decide)) rfl rfl rfl rfl rfl rfl (by decide +kernel) ?_
    refine z_if_eq hX (off := 40) 109 (by decide +kernel) (by decide) ⟨by decide, by decide⟩ (fun c69 => ?_) (fun c69 => by exact absurd c69 (by decide))
    refine z_b hX fo_X11 [.aload_n 0, .bipush 107] 112 (by decide +kernel) rfl ?_
    refine z_cV hX m_X11_skips l_X11_151 p_X11_skips (c_skip0 (p := p) (f := (va_up f (3 * q) (imx t n p))) h12 h37 hn (by omega) ht ⟨by decide, by decide⟩ (by rw [hk]; decide)) rfl rfl rfl rfl rfl rfl (by decide +kernel) ?_
    refine z_if_eq hX (off := 40) 155 (by decide +kernel) (by decide) ⟨by decide, by decide⟩ (fun c115 => ?_) (fun c115 => by exact absurd c115 (by decide))
    refine z_b hX fo_X11 [.aload_n 0, .bipush 108] 158 (by decide +kernel) rfl ?_
    refine z_cV hX m_X11_skips l_X11_151 p_X11_skips (c_skip0 (p := p) (f := (va_up f (3 * q) (imx t n p))) h12 h37 hn (by omega) ht ⟨by decide, by decide⟩ (by rw [hk]; decide)) rfl rfl rfl rfl rfl rfl (by decide +kernel) ?_
    refine z_if_ne hX (off := 12) 173 (by decide +kernel) (by decide) ⟨by decide, by decide⟩ (fun c161 => by exact absurd c161 (by decide)) (fun c161 => ?_)
    refine z_b hX fo_X11 [.aload_n 0, .bipush 103] 167 (by decide +kernel) rfl ?_
    refine z_cV hX m_X11_skips l_X11_151 p_X11_skips (c_skip0 (p := p) (f := (va_up f (3 * q) (imx t n p))) h12 h37 hn (by omega) ht ⟨by decide, by decide⟩ (by rw [hk]; decide)) rfl rfl rfl rfl rfl rfl (by decide +kernel) ?_
    refine z_if_eq hX (off := 12) 182 (by decide +kernel) (by decide) ⟨by decide, by decide⟩ (fun c170 => ?_) (fun c170 => by exact absurd c170 (by decide))
    refine z_b hX fo_X11 [.aload_n 0, .bipush 112] 185 (by decide +kernel) rfl ?_
    refine z_cV hX m_X11_skips l_X11_151 p_X11_skips (c_skip1 (p := p) (f := (va_up f (3 * q) (imx t n p))) h12 h37 hn (by omega) ht ⟨by decide, by decide⟩ hk) rfl rfl rfl rfl rfl rfl (by decide +kernel) ?_
    refine z_if_eq hX (off := 12) 200 (by decide +kernel) (by decide) ⟨by decide, by decide⟩ (fun c188 => by exact absurd c188 (by decide)) (fun c188 => ?_)
    refine z_b hX fo_X11 [.aload_n 0, .iload_n 1, .iconst 1, .iadd, .iconst 2] 196 (by decide +kernel) rfl ?_
    rw [show ((3 * q : Nat) : Int) + 1 = ((3 * q + 1 : Nat) : Int) by omega]
    have q1 := inum_q (t := t) (n := n) 2 (p + 1) (-1)
    refine z_cV hX m_X11_number l_X11_154 p_X11_number (c_X11_number (p := p + 1) (f := (va_up f (3 * q) (imx t n p))) (q := 3 * q + 1) (k := 2) h12 h37 hn (by omega) ht (by omega) ⟨by decide, by decide⟩) rfl rfl rfl rfl rfl rfl (by decide +kernel) ?_
    by_cases hr1 : (inum t n 2 (p + 1) (-1)).1 = -1
    · rw [if_pos hr1]
      exact z_zret hX hR (by decide +kernel) (by decide +kernel) (KO_n ((iord_1 ((imx_d (by decide)).mp hk) (by decide) (by decide)).trans (ior1_a hr1)) (fun j hj => by rw [nuf_o (by omega), vne (by omega)]))
    · rw [if_neg hr1]
      exact z_zret hX hR (by decide +kernel) (by decide +kernel) (KO_s ((iord_1 ((imx_d (by decide)).mp hk) (by decide) (by decide)).trans (ior1_b hr1 rfl)) (fun j hj => by rw [nuf_o (by omega), vne (by omega)]) ⟨by rw [nuf_o (by omega), va_e, if_pos rfl]; exact hk, fun _ => nuf_p hr1, fun z => by exfalso; dsimp only at z; omega⟩)
  · refine z_b hX fo_X11 [.aload_n 0, .bipush 115] 20 (by decide +kernel) rfl ?_
    refine z_cV hX m_X11_skips l_X11_151 p_X11_skips (c_skip0 (p := p) (f := (va_up f (3 * q) (imx t n p))) h12 h37 hn (by omega) ht ⟨by decide, by decide⟩ (by rw [hk]; decide)) rfl rfl rfl rfl rfl rfl (by decide +kernel) ?_
    refine z_if_eq hX (off := 40) 63 (by decide +kernel) (by decide) ⟨by decide, by decide⟩ (fun c23 => ?_) (fun c23 => by exact absurd c23 (by decide))
    refine z_b hX fo_X11 [.aload_n 0, .bipush 119] 66 (by decide +kernel) rfl ?_
    refine z_cV hX m_X11_skips l_X11_151 p_X11_skips (c_skip0 (p := p) (f := (va_up f (3 * q) (imx t n p))) h12 h37 hn (by omega) ht ⟨by decide, by decide⟩ (by rw [hk]; decide)) rfl rfl rfl rfl rfl rfl (by decide +kernel) ?_
    refine z_if_eq hX (off := 40) 109 (by decide +kernel) (by decide) ⟨by decide, by decide⟩ (fun c69 => ?_) (fun c69 => by exact absurd c69 (by decide))
    refine z_b hX fo_X11 [.aload_n 0, .bipush 107] 112 (by decide +kernel) rfl ?_
    refine z_cV hX m_X11_skips l_X11_151 p_X11_skips (c_skip0 (p := p) (f := (va_up f (3 * q) (imx t n p))) h12 h37 hn (by omega) ht ⟨by decide, by decide⟩ (by rw [hk]; decide)) rfl rfl rfl rfl rfl rfl (by decide +kernel) ?_
    refine z_if_eq hX (off := 40) 155 (by decide +kernel) (by decide) ⟨by decide, by decide⟩ (fun c115 => ?_) (fun c115 => by exact absurd c115 (by decide))
    refine z_b hX fo_X11 [.aload_n 0, .bipush 108] 158 (by decide +kernel) rfl ?_
    refine z_cV hX m_X11_skips l_X11_151 p_X11_skips (c_skip0 (p := p) (f := (va_up f (3 * q) (imx t n p))) h12 h37 hn (by omega) ht ⟨by decide, by decide⟩ (by rw [hk]; decide)) rfl rfl rfl rfl rfl rfl (by decide +kernel) ?_
    refine z_if_ne hX (off := 12) 173 (by decide +kernel) (by decide) ⟨by decide, by decide⟩ (fun c161 => by exact absurd c161 (by decide)) (fun c161 => ?_)
    refine z_b hX fo_X11 [.aload_n 0, .bipush 103] 167 (by decide +kernel) rfl ?_
    refine z_cV hX m_X11_skips l_X11_151 p_X11_skips (c_skip0 (p := p) (f := (va_up f (3 * q) (imx t n p))) h12 h37 hn (by omega) ht ⟨by decide, by decide⟩ (by rw [hk]; decide)) rfl rfl rfl rfl rfl rfl (by decide +kernel) ?_
    refine z_if_eq hX (off := 12) 182 (by decide +kernel) (by decide) ⟨by decide, by decide⟩ (fun c170 => ?_) (fun c170 => by exact absurd c170 (by decide))
    refine z_b hX fo_X11 [.aload_n 0, .bipush 112] 185 (by decide +kernel) rfl ?_
    refine z_cV hX m_X11_skips l_X11_151 p_X11_skips (c_skip0 (p := p) (f := (va_up f (3 * q) (imx t n p))) h12 h37 hn (by omega) ht ⟨by decide, by decide⟩ (by rw [hk]; decide)) rfl rfl rfl rfl rfl rfl (by decide +kernel) ?_
    refine z_if_eq hX (off := 12) 200 (by decide +kernel) (by decide) ⟨by decide, by decide⟩ (fun c188 => ?_) (fun c188 => by exact absurd c188 (by decide))
    refine z_b hX fo_X11 [.aload_n 0, .bipush 117] 203 (by decide +kernel) rfl ?_
    refine z_cV hX m_X11_skips l_X11_151 p_X11_skips (c_skip1 (p := p) (f := (va_up f (3 * q) (imx t n p))) h12 h37 hn (by omega) ht ⟨by decide, by decide⟩ hk) rfl rfl rfl rfl rfl rfl (by decide +kernel) ?_
    exact z_zret hX hR (by decide +kernel) (by decide +kernel) (KO_s (iord_7 ((imx_d (by decide)).mp hk)) (fun j hj => vne (by omega)) ⟨by rw [va_e, if_pos rfl]; exact hk, fun z => absurd rfl z, fun z => by exfalso; dsimp only at z; omega⟩)
  · have ko : iknd (inx t n p) = 0 := iknd_o hk
    refine z_b hX fo_X11 [.aload_n 0, .bipush 115] 20 (by decide +kernel) rfl ?_
    refine z_cV hX m_X11_skips l_X11_151 p_X11_skips (c_skip0 (p := p) (f := (va_up f (3 * q) (imx t n p))) h12 h37 hn (by omega) ht ⟨by decide, by decide⟩ (by omega)) rfl rfl rfl rfl rfl rfl (by decide +kernel) ?_
    refine z_if_eq hX (off := 40) 63 (by decide +kernel) (by decide) ⟨by decide, by decide⟩ (fun c23 => ?_) (fun c23 => by exact absurd c23 (by decide))
    refine z_b hX fo_X11 [.aload_n 0, .bipush 119] 66 (by decide +kernel) rfl ?_
    refine z_cV hX m_X11_skips l_X11_151 p_X11_skips (c_skip0 (p := p) (f := (va_up f (3 * q) (imx t n p))) h12 h37 hn (by omega) ht ⟨by decide, by decide⟩ (by omega)) rfl rfl rfl rfl rfl rfl (by decide +kernel) ?_
    refine z_if_eq hX (off := 40) 109 (by decide +kernel) (by decide) ⟨by decide, by decide⟩ (fun c69 => ?_) (fun c69 => by exact absurd c69 (by decide))
    refine z_b hX fo_X11 [.aload_n 0, .bipush 107] 112 (by decide +kernel) rfl ?_
    refine z_cV hX m_X11_skips l_X11_151 p_X11_skips (c_skip0 (p := p) (f := (va_up f (3 * q) (imx t n p))) h12 h37 hn (by omega) ht ⟨by decide, by decide⟩ (by omega)) rfl rfl rfl rfl rfl rfl (by decide +kernel) ?_
    refine z_if_eq hX (off := 40) 155 (by decide +kernel) (by decide) ⟨by decide, by decide⟩ (fun c115 => ?_) (fun c115 => by exact absurd c115 (by decide))
    refine z_b hX fo_X11 [.aload_n 0, .bipush 108] 158 (by decide +kernel) rfl ?_
    refine z_cV hX m_X11_skips l_X11_151 p_X11_skips (c_skip0 (p := p) (f := (va_up f (3 * q) (imx t n p))) h12 h37 hn (by omega) ht ⟨by decide, by decide⟩ (by omega)) rfl rfl rfl rfl rfl rfl (by decide +kernel) ?_
    refine z_if_ne hX (off := 12) 173 (by decide +kernel) (by decide) ⟨by decide, by decide⟩ (fun c161 => by exact absurd c161 (by decide)) (fun c161 => ?_)
    refine z_b hX fo_X11 [.aload_n 0, .bipush 103] 167 (by decide +kernel) rfl ?_
    refine z_cV hX m_X11_skips l_X11_151 p_X11_skips (c_skip0 (p := p) (f := (va_up f (3 * q) (imx t n p))) h12 h37 hn (by omega) ht ⟨by decide, by decide⟩ (by omega)) rfl rfl rfl rfl rfl rfl (by decide +kernel) ?_
    refine z_if_eq hX (off := 12) 182 (by decide +kernel) (by decide) ⟨by decide, by decide⟩ (fun c170 => ?_) (fun c170 => by exact absurd c170 (by decide))
    refine z_b hX fo_X11 [.aload_n 0, .bipush 112] 185 (by decide +kernel) rfl ?_
    refine z_cV hX m_X11_skips l_X11_151 p_X11_skips (c_skip0 (p := p) (f := (va_up f (3 * q) (imx t n p))) h12 h37 hn (by omega) ht ⟨by decide, by decide⟩ (by omega)) rfl rfl rfl rfl rfl rfl (by decide +kernel) ?_
    refine z_if_eq hX (off := 12) 200 (by decide +kernel) (by decide) ⟨by decide, by decide⟩ (fun c188 => ?_) (fun c188 => by exact absurd c188 (by decide))
    refine z_b hX fo_X11 [.aload_n 0, .bipush 117] 203 (by decide +kernel) rfl ?_
    refine z_cV hX m_X11_skips l_X11_151 p_X11_skips (c_skip0 (p := p) (f := (va_up f (3 * q) (imx t n p))) h12 h37 hn (by omega) ht ⟨by decide, by decide⟩ (by omega)) rfl rfl rfl rfl rfl rfl (by decide +kernel) ?_
    exact z_zret hX hR (by decide +kernel) (by decide +kernel) (KO_n (iord_o ko) (fun j hj => vne (by omega)))
