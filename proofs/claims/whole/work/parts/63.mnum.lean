/-! ===== the model: signs and numbers ===== -/
theorem inum_ge {t : Nat → Int} {n : Nat} : ∀ (k p : Nat) (v : Int), 0 ≤ v → 0 ≤ (inum t n k p v).1
  | 0, p, v, h => h
  | k + 1, p, v, h => by
    unfold inum
    split
    · exact inum_ge k (p + 1) _ (by split <;> omega)
    · exact h
theorem num0 {t : Nat → Int} {n k p : Nat} (hk : 1 ≤ k) (h : ¬ (48 ≤ inx t n p ∧ inx t n p ≤ 57)) : inum t n k p (-1) = (-1, p) := by
  obtain ⟨j, rfl⟩ : ∃ j, k = j + 1 := ⟨k - 1, by omega⟩
  exact if_neg h
theorem num1 {t : Nat → Int} {n k p : Nat} (hk : 1 ≤ k) (h : 48 ≤ inx t n p ∧ inx t n p ≤ 57) : (inum t n k p (-1)).1 ≠ -1 := by
  obtain ⟨j, rfl⟩ : ∃ j, k = j + 1 := ⟨k - 1, by omega⟩
  have e : inum t n (j + 1) p (-1) = inum t n j (p + 1) (0 + (inx t n p - 48)) := if_pos h
  rw [e]
  have := inum_ge (t := t) (n := n) j (p + 1) (0 + (inx t n p - 48)) (by omega)
  omega
set_option maxHeartbeats 1000000 in
theorem c_X11_here {E : zE} {t f : Nat → Int} {p n : Nat} {τ : Nat → Nat → Int} {l : (Nat → Int64) × (Nat → UInt64)} (h12 : τ 32 12 = (n : Int)) (h37 : τ 37 = t) (hn : n ≤ 60) (hp : p ≤ 100) (ht : iT t n) : Rv E yX11_here (Cond.code yX11_here cX11_here 1 (Option.some FieldType.int)) 0 [vr 32] ((tS τ f p, l)) (vi (imx t n p)) ((tS τ f p, l)) := by
  refine Ctr_of (own := RX11) (by decide +kernel) rfl rfl (fun Y hX hR hnx => ?_)
  refine z_b hX fo_X11 [.aload_n 0, .getfield 142] 4 (by decide +kernel) rfl ?_
  try dsimp only
  rw [tS_at]
  refine z_b hX fo_X11 [.aload_n 0, .getfield 139] 8 (by decide +kernel) rfl ?_
  try dsimp only
  rw [tS_32 (show 12 ≠ 14 by decide), h12]
  refine z_ic_ge hX (off := 15) 23 (by decide +kernel) (by decide) ⟨by omega, by omega⟩ ⟨by omega, by omega⟩ (fun c8 => ?_) (fun c8 => ?_)
  · refine z_b hX fo_X11 [.iconst (-1)] 24 (by decide +kernel) rfl ?_
    exact z_iret hX hR (by decide +kernel) ⟨congrArg (fun z => Sum.inl (some (vi z))) (by unfold imx; first | rw [if_pos (by omega)] | rw [if_neg (by omega)]), rfl⟩
  · refine z_b hX fo_X11 [.aload_n 0, .getfield 22, .aload_n 0, .getfield 142] 19 (by decide +kernel) rfl ?_
    try dsimp only
    rw [tS_at]
    refine z_iald hX (p) rfl (by omega) (by decide) (by omega) (by decide +kernel) ?_
    try dsimp only
    rw [show (tS τ f p) 37 p = t p by rw [tS_n (by decide) (by decide), h37]]
    refine z_goto hX (off := 4) 24 (by decide +kernel) (by decide) ?_
    exact z_iret hX hR (by decide +kernel) ⟨congrArg (fun z => Sum.inl (some (vi z))) (by unfold imx; first | rw [if_pos (by omega)] | rw [if_neg (by omega)]), rfl⟩
set_option maxHeartbeats 1000000 in
theorem c_skip1 {E : zE} {t f : Nat → Int} {p n : Nat} {τ : Nat → Nat → Int} {l : (Nat → Int64) × (Nat → UInt64)} (h12 : τ 32 12 = (n : Int)) (h37 : τ 37 = t) (hn : n ≤ 60) (hp : p ≤ 100) (ht : iT t n) {w : Int} (hw : 1 ≤ w ∧ w ≤ 65535) (hx : imx t n p = w) : Rv E yX11_skips (Cond.code yX11_skips cX11_skips 2 (Option.some FieldType.boolean)) 1 [vr 32, vi w] ((tS τ f p, l)) (vi 1) ((tS τ f (p + 1), l)) := by
  refine Ctr_of (own := RX11) (by decide +kernel) rfl rfl (fun Y hX hR hnx => ?_)
  refine z_b hX fo_X11 [.aload_n 0] 1 (by decide +kernel) rfl ?_
  refine z_cV hX m_X11_here l_X11_145 p_X11_here (c_X11_here h12 h37 hn (by omega) ht) rfl rfl rfl rfl rfl rfl (by decide +kernel) ?_
  refine z_b hX fo_X11 [.iload_n 1] 5 (by decide +kernel) rfl ?_
  refine z_ic_eq hX (off := 5) 10 (by decide +kernel) (by decide) (by have := imx_i (p := p) ht; exact ⟨by omega, by omega⟩) ⟨by omega, by omega⟩ (fun c5 => ?_) (fun c5 => by exfalso; omega)
  refine z_b hX fo_X11 [.aload_n 0, .dup, .getfield 142, .iconst 1, .iadd] 17 (by decide +kernel) rfl ?_
  refine z_b hX fo_X11 [.putfield 142, .iconst 1] 21 (by decide +kernel) rfl ?_
  exact z_zret hX hR (by decide +kernel) (by decide +kernel) ⟨rfl, by (try dsimp only); rw [tS_at, zup_zs, show (p : Int) + 1 = ((p + 1 : Nat) : Int) by omega, tS_go]⟩
set_option maxHeartbeats 1000000 in
theorem c_skip0 {E : zE} {t f : Nat → Int} {p n : Nat} {τ : Nat → Nat → Int} {l : (Nat → Int64) × (Nat → UInt64)} (h12 : τ 32 12 = (n : Int)) (h37 : τ 37 = t) (hn : n ≤ 60) (hp : p ≤ 100) (ht : iT t n) {w : Int} (hw : 1 ≤ w ∧ w ≤ 65535) (hx : imx t n p ≠ w) : Rv E yX11_skips (Cond.code yX11_skips cX11_skips 2 (Option.some FieldType.boolean)) 1 [vr 32, vi w] ((tS τ f p, l)) (vi 0) ((tS τ f p, l)) := by
  refine Ctr_of (own := RX11) (by decide +kernel) rfl rfl (fun Y hX hR hnx => ?_)
  refine z_b hX fo_X11 [.aload_n 0] 1 (by decide +kernel) rfl ?_
  refine z_cV hX m_X11_here l_X11_145 p_X11_here (c_X11_here h12 h37 hn (by omega) ht) rfl rfl rfl rfl rfl rfl (by decide +kernel) ?_
  refine z_b hX fo_X11 [.iload_n 1] 5 (by decide +kernel) rfl ?_
  refine z_ic_eq hX (off := 5) 10 (by decide +kernel) (by decide) (by have := imx_i (p := p) ht; exact ⟨by omega, by omega⟩) ⟨by omega, by omega⟩ (fun c5 => by exfalso; omega) (fun c5 => ?_)
  refine z_b hX fo_X11 [.iconst 0] 9 (by decide +kernel) rfl ?_
  exact z_zret hX hR (by decide +kernel) (by decide +kernel) ⟨rfl, rfl⟩
theorem inum_s {t : Nat → Int} {n k p : Nat} {v : Int} (h : 48 ≤ inx t n p ∧ inx t n p ≤ 57) : inum t n (k + 1) p v = inum t n k (p + 1) ((if v = -1 then 0 else v * 10) + (inx t n p - 48)) := if_pos h
theorem inum_e {t : Nat → Int} {n k p : Nat} {v : Int} (h : ¬ (48 ≤ inx t n p ∧ inx t n p ≤ 57)) : inum t n (k + 1) p v = (v, p) := if_neg h
set_option maxHeartbeats 1000000 in
theorem c_X11_number {E : zE} {t f : Nat → Int} {p n : Nat} {τ : Nat → Nat → Int} {l : (Nat → Int64) × (Nat → UInt64)} (h12 : τ 32 12 = (n : Int)) (h37 : τ 37 = t) (hn : n ≤ 60) (hp : p ≤ 90) (ht : iT t n) {q k : Nat} (hq : q < 96) (hk : 1 ≤ k ∧ k ≤ 2) : Rv E yX11_number (Cond.code yX11_number cX11_number 4 (Option.some FieldType.boolean)) 1 [vr 32, vi (q : Int), vi (k : Int)] ((tS τ f p, l)) (vi (if (inum t n k p (-1)).1 = -1 then 0 else 1)) ((tS τ (nuf f q (inum t n k p (-1))) (inum t n k p (-1)).2, l)) := by
  refine Ctr_of (own := RX11) (by decide +kernel) rfl rfl (fun Y hX hR hnx => ?_)
  refine z_b hX fo_X11 [.aload_n 0] 1 (by decide +kernel) rfl ?_
  refine z_cV hX m_X11_here l_X11_145 p_X11_here (c_X11_here h12 h37 hn (by omega) ht) rfl rfl rfl rfl rfl rfl (by decide +kernel) ?_
  refine z_b hX fo_X11 [.bipush 48, .bipush 57] 8 (by decide +kernel) rfl ?_
  refine z_cS hX m_X11_in l_X11_55 p_X11_in (c_X11_in (by have := imx_i (p := p) ht; exact ⟨by omega, by omega⟩) ⟨by decide, by decide⟩ ⟨by decide, by decide⟩) rfl rfl rfl rfl (by decide +kernel) ?_
  have g0 := imx_i (p := p) ht
  by_cases hd0 : 48 ≤ imx t n p ∧ imx t n p ≤ 57
  · rw [if_pos hd0]
    refine z_if_ne hX (off := 5) 16 (by decide +kernel) (by decide) ⟨by decide, by decide⟩ (fun c11 => ?_) (fun c11 => by exact absurd c11 (by decide))
    refine z_b hX fo_X11 [.aload_n 0, .getfield 29, .iload_n 1, .iconst 0] 22 (by decide +kernel) rfl ?_
    refine z_iast hX (q) rfl (by omega) (by decide) (by omega) (by decide +kernel) ?_
    rw [zup_zs, tS_told, tS_38]
    have hr1 : (inum t n k p (-1)).1 ≠ -1 := num1 hk.1 (imx_g.mp hd0)
    refine z_b hX fo_X11 [.iconst 0, .istore_n 3] 25 (by decide +kernel) rfl ?_
    have loop : ∀ (m : Nat) (i : Nat) (x v : Int) (pi : Nat), x = (i : Int) → i + m = k → ((i = 0 → v = 0) ∧ (i ≤ 1 → v ≤ 9) ∧ 0 ≤ v ∧ v ≤ 99) → pi = p + i → inum t n m pi (if i = 0 then -1 else v) = (inum t n k p (-1)) → Z (E, Y) 0 25 [(3, vi x), (0, vr 32), (1, vi (q : Int)), (2, vi (k : Int))] [] (tS τ (va_up f q v) pi, l) := by
      intro m
      induction m with
      | zero =>
        intro i x v pi hx hm hv hpi hr
        subst hx
        have e9 : (inum t n k p (-1)) = (v, pi) := by rw [← hr]; exact Prod.ext (if_neg (by omega)) rfl
        refine z_b hX fo_X11 [.iload_n 3, .iload_n 2] 27 (by decide +kernel) rfl ?_
        refine z_ic_ge hX (off := 56) 83 (by decide +kernel) (by decide) ⟨by omega, by omega⟩ ⟨by omega, by omega⟩ (fun c27 => ?_) (fun c27 => by exfalso; omega)
        refine z_b hX fo_X11 [.iconst 1] 84 (by decide +kernel) rfl ?_
        exact z_zret hX hR (by decide +kernel) (by decide +kernel) ⟨by rw [if_neg hr1], by rw [e9]; unfold nuf; rw [if_neg (by dsimp only; omega)]⟩
      | succ m ih =>
        intro i x v pi hx hm hv hpi hr
        subst hx
        refine z_b hX fo_X11 [.iload_n 3, .iload_n 2] 27 (by decide +kernel) rfl ?_
        refine z_ic_ge hX (off := 56) 83 (by decide +kernel) (by decide) ⟨by omega, by omega⟩ ⟨by omega, by omega⟩ (fun c27 => by exfalso; omega) (fun c27 => ?_)
        refine z_b hX fo_X11 [.aload_n 0] 31 (by decide +kernel) rfl ?_
        refine z_cV hX m_X11_here l_X11_145 p_X11_here (c_X11_here (p := pi) (f := va_up f q v) h12 h37 hn (by omega) ht) rfl rfl rfl rfl rfl rfl (by decide +kernel) ?_
        refine z_b hX fo_X11 [.bipush 48, .bipush 57] 38 (by decide +kernel) rfl ?_
        refine z_cS hX m_X11_in l_X11_55 p_X11_in (c_X11_in (by have := imx_i (p := pi) ht; exact ⟨by omega, by omega⟩) ⟨by decide, by decide⟩ ⟨by decide, by decide⟩) rfl rfl rfl rfl (by decide +kernel) ?_
        have gi := imx_i (p := pi) ht
        by_cases hd : 48 ≤ imx t n pi ∧ imx t n pi ≤ 57
        · rw [if_pos hd]
          refine z_if_eq hX (off := 42) 83 (by decide +kernel) (by decide) ⟨by decide, by decide⟩ (fun c41 => by exact absurd c41 (by decide)) (fun c41 => ?_)
          refine z_b hX fo_X11 [.aload_n 0, .getfield 29, .iload_n 1, .bipush 10, .aload_n 0, .getfield 29, .iload_n 1] 56 (by decide +kernel) rfl ?_
          refine z_iald hX (q) rfl (by omega) (by decide) (by omega) (by decide +kernel) ?_
          try dsimp only
          rw [show (tS τ (va_up f q v) pi) 38 q = v by rw [tS_38, va_e, if_pos rfl]]
          refine z_b hX fo_X11 [.imul, .aload_n 0] 59 (by decide +kernel) rfl ?_
          refine z_cV hX m_X11_here l_X11_145 p_X11_here (c_X11_here (p := pi) (f := va_up f q v) h12 h37 hn (by omega) ht) rfl rfl rfl rfl rfl rfl (by decide +kernel) ?_
          refine z_b hX fo_X11 [.iadd, .bipush 48, .isub] 66 (by decide +kernel) rfl ?_
          refine z_iast hX (q) rfl (by omega) (by decide) (by omega) (by decide +kernel) ?_
          rw [zup_zs, tS_told, tS_38, va_va]
          refine z_b hX fo_X11 [.aload_n 0, .dup, .getfield 142, .iconst 1, .iadd, .putfield 142] 77 (by decide +kernel) rfl ?_
          try dsimp only
          rw [tS_at, zup_zs, show (pi : Int) + 1 = ((pi + 1 : Nat) : Int) by omega, tS_go]
          refine z_b hX fo_X11 [.iinc 3 1] 80 (by decide +kernel) rfl ?_
          refine z_goto hX (off := (-55)) 25 (by decide +kernel) (by decide) ?_
          exact z_lo [0, 1, 2, 3] (ih (i + 1) _ _ (pi + 1) (by omega) (by omega) (by omega) (by omega) (by rw [← hr, inum_s (imx_g.mp hd), imx_gx hd.1]; congr 1; split <;> omega)) rfl
        · rw [if_neg hd]
          refine z_if_eq hX (off := 42) 83 (by decide +kernel) (by decide) ⟨by decide, by decide⟩ (fun c41 => ?_) (fun c41 => by exact absurd c41 (by decide))
          have e8 : (inum t n k p (-1)) = ((if i = 0 then -1 else v), pi) := by rw [← hr]; exact inum_e (fun z => hd (imx_g.mpr z))
          have i0 : i ≠ 0 := fun z => hr1 (by rw [e8, if_pos z])
          rw [if_neg i0] at e8
          have e9 := e8
          refine z_b hX fo_X11 [.iconst 1] 84 (by decide +kernel) rfl ?_
          exact z_zret hX hR (by decide +kernel) (by decide +kernel) ⟨by rw [if_neg hr1], by rw [e9]; unfold nuf; rw [if_neg (by dsimp only; omega)]⟩
    exact z_lo [0, 1, 2, 3] (loop k 0 _ 0 p rfl (by omega) ⟨fun _ => rfl, fun _ => by omega, by omega, by omega⟩ rfl rfl) rfl
  · rw [if_neg hd0]
    refine z_if_ne hX (off := 5) 16 (by decide +kernel) (by decide) ⟨by decide, by decide⟩ (fun c11 => by exact absurd c11 (by decide)) (fun c11 => ?_)
    refine z_b hX fo_X11 [.iconst 0] 15 (by decide +kernel) rfl ?_
    exact z_zret hX hR (by decide +kernel) (by decide +kernel) ⟨by rw [num0 hk.1 (fun z => hd0 (imx_g.mpr z)), if_pos rfl], by rw [num0 hk.1 (fun z => hd0 (imx_g.mpr z))]; unfold nuf; rw [if_pos rfl]⟩
