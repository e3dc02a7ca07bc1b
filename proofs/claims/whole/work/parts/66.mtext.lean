/-! ===== the model: a text ===== -/
def KT (t : Nat → Int) (n : Nat) (τ : Nat → Nat → Int) (l : (Nat → Int64) × (Nat → UInt64)) : zK := fun o s => o = .inl (some (vi (ib1 (ipr t n 61 0).1))) ∧ ∃ (f' : Nat → Int) (q' : Nat), s = (tS (tm τ q') f' (ipr t n 61 0).2.1, l) ∧ ((ipr t n 61 0).1 = true → q' = (ipr t n 61 0).2.2.length ∧ ∀ i x, (ipr t n 61 0).2.2[i]? = some x → tOk f' i x)
theorem tOk_cg {f g : Nat → Int} {q i : Nat} {x : Int × Int × Int} (h : tOk f i x) (hi : i < q) (hg : ∀ j, j < 3 * q → g j = f j) : tOk g i x := by
  unfold tOk at *
  rw [hg _ (by omega), hg _ (by omega), hg _ (by omega)]
  exact h
set_option maxHeartbeats 4000000 in
theorem c_X11_isText {E : zE} {t : Nat → Int} {n : Nat} {τ : Nat → Nat → Int} {l : (Nat → Int64) × (Nat → UInt64)} (h12 : τ 32 12 = (n : Int)) (h37 : τ 37 = t) (hn : n ≤ 60) (ht : iT t n) : Ctr E yX11_isText (Cond.code yX11_isText cX11_isText 1 (Option.some FieldType.boolean)) 3 0 [vr 32] (τ, l) (KT t n τ l) := by
  refine Ctr_of (own := RX11) (by decide +kernel) rfl rfl (fun Y hX hR hnx => ?_)
  refine z_b hX fo_X11 [.aload_n 0, .iconst 0, .putfield 142, .aload_n 0, .iconst 0, .putfield 148] 10 (by decide +kernel) rfl ?_
  try dsimp only
  rw [show zup (zup τ 32 14 0) 32 16 0 = tS (tm τ 0) (τ 38) 0 by unfold tS tm; rw [zup_zs, zup_zs, zs_zs, zs_eq, zs_comm (show 32 ≠ 38 by decide), zs_zs, zs_id, zs_eq, va_comm (show 14 ≠ 16 by decide)]; rfl]
  have loop : ∀ (m : Nat) (q p : Nat) (f : Nat → Int) (L0 : List (Int × Int × Int)), q + m = 61 → 2 * q ≤ p → p ≤ 60 → (L0.length = q) → ((ipr t n m p).1 = (ipr t n 61 0).1) → ((ipr t n m p).2.1 = (ipr t n 61 0).2.1) → (L0 ++ (ipr t n m p).2.2 = (ipr t n 61 0).2.2) → (∀ i x, L0[i]? = some x → tOk f i x) → Z (E, Y) 0 10 [(0, vr 32)] [] (tS (tm τ q) f p, l) := by
    intro m
    induction m with
    | zero =>
      intro q p f L0 hm h2 hp i0 i1 i2 i3 i4
      exfalso; omega
    | succ m ih =>
      intro q p f L0 hm h2 hp i0 i1 i2 i3 i4
      refine z_b hX fo_X11 [.aload_n 0] 11 (by decide +kernel) rfl ?_
      refine z_cVK hX m_X11_orderHere l_X11_158 p_X11_orderHere (c_X11_orderHere (t := t) (f := f) (p := p) (n := n) (q := q) (τ := tm τ q) (l := l) ((tm_32 (by decide)).trans h12) ((tm_n (by decide)).trans h37) hn (by omega) ht tm_16 (by omega)) rfl rfl rfl rfl rfl rfl (by decide +kernel) (fun o s q => ⟨_, q.1⟩) (fun v st9 q9 => ?_)
      obtain ⟨e1, f2, rfl, q3, q4⟩ := q9
      cases ho : iord t n p with
      | mk oo p2 =>
        rw [ho] at e1 q4
        dsimp only at e1 q4
        try rw [ho]
        dsimp only
        cases oo with
        | none =>
          cases e1
          refine z_if_ne hX (off := 5) 19 (by decide +kernel) (by decide) ⟨by decide, by decide⟩ (fun c14 => by exact absurd c14 (by decide)) (fun c14 => ?_)
          refine z_b hX fo_X11 [.iconst 0] 18 (by decide +kernel) rfl ?_
          exact z_zret hX hR (by decide +kernel) (by decide +kernel) ⟨by rw [← i1, ipr_none ho]; rfl, f2, q, by rw [← i2, ipr_none ho], fun z => by rw [← i1, ipr_none ho] at z; cases z⟩
        | some x =>
          cases e1
          dsimp only [io1]
          have hq2 := iord_q ho
          have hm2 := iord_m ho
          have hall : ∀ i y, (L0 ++ [x])[i]? = some y → tOk f2 i y := fun i y hy => by
            by_cases hi : i < q
            · rw [List.getElem?_append_left (by omega)] at hy; exact tOk_cg (i4 i y hy) hi q3
            · rw [List.getElem?_append_right (by omega), i0] at hy
              have hi2 : i = q := by
                have := (List.getElem?_eq_some_iff.mp hy).1
                simp at this; omega
              subst hi2
              have hy2 : x = y := by simpa using hy
              rw [← hy2]; exact q4 x rfl
          refine z_if_ne hX (off := 5) 19 (by decide +kernel) (by decide) ⟨by decide, by decide⟩ (fun c14 => ?_) (fun c14 => by exact absurd c14 (by decide))
          refine z_b hX fo_X11 [.aload_n 0, .dup, .getfield 148, .iconst 1, .iadd, .putfield 148] 29 (by decide +kernel) rfl ?_
          try dsimp only
          rw [show (tS (tm τ q) f2 p2) 32 16 + 1 = ((q + 1 : Nat) : Int) by rw [tS_32 (by decide), tm_16]; omega, tm_up]
          refine z_b hX fo_X11 [.aload_n 0, .bipush 59] 32 (by decide +kernel) rfl ?_
          by_cases hs : imx t n p2 = 59
          · refine z_cV hX m_X11_skips l_X11_151 p_X11_skips (c_skip1 (p := p2) (f := f2) (τ := tm τ (q + 1)) (w := 59) (h12 := (tm_32 (by decide)).trans h12) (h37 := (tm_n (by decide)).trans h37) hn (by omega) ht ⟨by decide, by decide⟩ hs) rfl rfl rfl rfl rfl rfl (by decide +kernel) ?_
            refine z_if_ne hX (off := (-25)) 10 (by decide +kernel) (by decide) ⟨by decide, by decide⟩ (fun c35 => ?_) (fun c35 => by exact absurd c35 (by decide))
            have hin : inx t n p2 = 59 := (imx_d (by decide)).mp hs
            have hlt := inx_m (by decide) hin
            have e := ipr_go (m := m) ho (by omega) hin
            refine ih (q + 1) (p2 + 1) f2 (L0 ++ [x]) (by omega) (by omega) (by omega) (by rw [List.length_append, i0]; rfl) (by rw [← i1, e]) (by rw [← i2, e]) (by rw [← i3, e, List.append_assoc]; rfl) (fun i y hy => ?_)
            by_cases hi : i < q
            · rw [List.getElem?_append_left (by omega)] at hy; exact tOk_cg (i4 i y hy) hi q3
            · rw [List.getElem?_append_right (by omega), i0] at hy
              have hi2 : i = q := by
                have := (List.getElem?_eq_some_iff.mp hy).1
                simp at this; omega
              subst hi2
              have hy2 : x = y := by simpa using hy
              rw [← hy2]; exact q4 x rfl
          · refine z_cV hX m_X11_skips l_X11_151 p_X11_skips (c_skip0 (p := p2) (f := f2) (τ := tm τ (q + 1)) (w := 59) (h12 := (tm_32 (by decide)).trans h12) (h37 := (tm_n (by decide)).trans h37) hn (by omega) ht ⟨by decide, by decide⟩ hs) rfl rfl rfl rfl rfl rfl (by decide +kernel) ?_
            refine z_if_ne hX (off := (-25)) 10 (by decide +kernel) (by decide) ⟨by decide, by decide⟩ (fun c35 => by exact absurd c35 (by decide)) (fun c35 => ?_)
            refine z_b hX fo_X11 [.aload_n 0, .getfield 142] 42 (by decide +kernel) rfl ?_
            try dsimp only
            rw [tS_at]
            refine z_b hX fo_X11 [.aload_n 0, .getfield 139] 46 (by decide +kernel) rfl ?_
            try dsimp only
            rw [tS_32 (show 12 ≠ 14 by decide), tm_32 (show 12 ≠ 16 by decide), h12]
            refine z_ic_ne hX (off := 7) 53 (by decide +kernel) (by decide) ⟨by omega, by omega⟩ ⟨by omega, by omega⟩ (fun c46 => ?_) (fun c46 => ?_)
            · refine z_b hX fo_X11 [.iconst 0] 54 (by decide +kernel) rfl ?_
              exact z_zret hX hR (by decide +kernel) (by decide +kernel) ⟨by rw [← i1, ipr_stop ho (by omega) (fun z => hs ((imx_d (by decide)).mpr z))]; rfl, f2, q + 1, by rw [← i2, ipr_stop ho (by omega) (fun z => hs ((imx_d (by decide)).mpr z))], fun z => by rw [← i1, ipr_stop ho (by omega) (fun z => hs ((imx_d (by decide)).mpr z))] at z; cases z⟩
            · refine z_b hX fo_X11 [.iconst 1] 50 (by decide +kernel) rfl ?_
              refine z_goto hX (off := 4) 54 (by decide +kernel) (by decide) ?_
              exact z_zret hX hR (by decide +kernel) (by decide +kernel) ⟨by rw [← i1, ipr_end ho (by omega)]; rfl, f2, q + 1, by rw [← i2, ipr_end ho (by omega)], fun z => ⟨by rw [← i3, List.length_append, i0, ipr_end ho (by omega)]; rfl, fun i y hy => by rw [← i3, ipr_end ho (by omega)] at hy; exact hall i y hy⟩⟩
  exact loop 61 0 0 (τ 38) [] rfl (by omega) (by omega) rfl rfl rfl rfl (fun i x h => by cases h)
