/-! ===== the model: seamstresses, the tent ===== -/
theorem va_id {c : Nat → Int} {i : Nat} : va_up c i (c i) = c := by
  funext j; rw [va_e]; split
  · rename_i h; rw [h]
  · rfl
theorem bring0 {c : Nat → Int} {m v : Int} (e : v = c (1 + 0) + m) : va_up (va_up c 6 (c 6 + (v - c 1))) (1 + 0) v = sStore c 0 m := by
  have e2 : v = c 1 + m := e
  unfold sStore ad
  rw [if_pos rfl, vne (show 1 + 0 ≠ 6 by decide), ← e, show v - c 1 = m by omega]
theorem bring1 {c : Nat → Int} {q : Nat} {m v : Int} (h0 : q ≠ 0) (h3 : q < 3) (e : v = c (1 + q) + m) : va_up (va_up c 6 (c 6 + 0)) (1 + q) v = sStore c q m := by
  unfold sStore ad
  rw [if_neg h0, Int.add_zero, va_id, ← e]
theorem Rg.torn_pos {D : Int} {c : Nat → Int} (h : Rg D c) {p : Nat} (hp : c (149 + p) ≠ 0) : ∀ n : Nat, n ≤ 32 → p < n → 0 < zsum c 149 n
  | 0, _, h2 => absurd h2 (by omega)
  | n + 1, h1, h2 => by
    have g := h.tornN n (by omega)
    have g2 := h.torn (show n < 32 by omega)
    show 0 < zsum c 149 n + c (149 + n)
    by_cases e : p = n
    · subst e; omega
    · have := Rg.torn_pos h hp n (by omega) (by omega); omega
theorem zfst_s {D : Int} {c : Nat → Int} (h : Rg D c) : zfst (fun p => c (149 + p)) 0 32 < 0 ∧ zsum c 149 32 = 0 ∨ (0 ≤ zfst (fun p => c (149 + p)) 0 32 ∧ zfst (fun p => c (149 + p)) 0 32 < 32) ∧ zsum c 149 32 ≠ 0 := by
  rcases zfst_b (fun p => c (149 + p)) 32 0 with ⟨h1, h2⟩ | ⟨p, h1, h2, h3, h4, h5⟩
  · exact Or.inl ⟨by rw [h1]; decide, zsum_0 32 (fun p hp => h2 p (by omega) (by omega))⟩
  · have := h.torn_pos (p := p) h3 32 (by omega) (by omega)
    exact Or.inr ⟨by rw [h5]; omega, by omega⟩
set_option maxHeartbeats 1000000 in
theorem c_X11_seamstress {E : zE} {D : Int} {R : aQ} {σ : Nat → Nat → Int} {c : Nat → Int} {l : (Nat → Int64) × (Nat → UInt64)} {w : Bool} (hI : AI D c R) (hM : MR R σ) (hw : σ 32 6 = wi w)  : Mb E yX11_seamstress (Cond.code yX11_seamstress cX11_seamstress 2 (Option.some FieldType.int)) 2 [vr 32] (σ) (c) (l) (aWoman w c R ) ((cd1 eUO)) := by
  refine Ctr_of (own := RX11) (by decide +kernel) rfl rfl (fun Y hX hR hnx => ?_)
  have g8 := hI.1.1.coats
  have g9 := hI.1.1.acts
  have g10 := hI.1.1.women
  have g11 := hI.1.1.trunks
  have g12 := hI.1.1.loaded
  have g1 := hI.1.1.g1
  have g2 := hI.1.1.g2
  have g3 := hI.1.1.g3
  refine z_b hX fo_X11 [.aload_n 0, .iconst 0, .putfield 32, .aload_n 0, .getfield 7, .bipush 107] 11 (by decide +kernel) rfl ?_
  rw [zco_eq]
  refine z_ig hX (v := c 10) (107) rfl (by omega) (by omega) (by decide +kernel) ?_
  refine z_b hX fo_X11 [.iconst 4] 13 (by decide +kernel) rfl ?_
  refine z_ic_ne hX (off := 11) 24 (by decide +kernel) (by decide) ⟨by omega, by omega⟩ ⟨by omega, by omega⟩ (fun c13 => ?_) (fun c13 => ?_)
  · refine z_b hX fo_X11 [.aload_n 0, .aload_n 0, .getfield 7] 29 (by decide +kernel) rfl ?_
    obtain ⟨σ1, hkp, hM1, hc1, hF1⟩ := m_keep (E := E) (l := l) hI hM hw
    refine z_cV0 hX m_X11_keeps l_X11_67 p_X11_keeps hkp rfl rfl rfl rfl rfl rfl (by decide +kernel) ?_
    refine z_b hX fo_X11 [.bipush 108, .iconst 3, .aload_n 0, .getfield 7, .bipush 107] 41 (by decide +kernel) rfl ?_
    refine z_ig hX (v := c 10) (107) rfl (by omega) (by omega) (by decide +kernel) ?_
    have hk : c 10 = ((c 10).toNat : Int) := by omega
    refine z_b hX fo_X11 [.imul, .iadd, .istore_n 1, .aload_n 0, .getfield 7, .iload_n 1, .bipush 8] 52 (by decide +kernel) rfl ?_
    refine z_sg hX (108 + 3 * (c 10).toNat + 0) (uwo (by omega) (by decide)) (by omega) (by omega) (by decide +kernel) ?_
    refine z_b hX fo_X11 [.aload_n 0, .getfield 7, .iload_n 1, .iconst 1, .iadd, .iconst 0] 61 (by decide +kernel) rfl ?_
    refine z_sg hX (108 + 3 * (c 10).toNat + 1) (uwo (by omega) (by decide)) (by omega) (by omega) (by decide +kernel) ?_
    refine z_b hX fo_X11 [.aload_n 0, .getfield 7, .iload_n 1, .iconst 2, .iadd, .iconst 0] 70 (by decide +kernel) rfl ?_
    refine z_sg hX (108 + 3 * (c 10).toNat + 2) (uwo (by omega) (by decide)) (by omega) (by omega) (by decide +kernel) ?_
    refine z_b hX fo_X11 [.aload_n 0, .getfield 7, .bipush 107, .dup2] 78 (by decide +kernel) rfl ?_
    refine z_ig hX (v := (va_up (va_up (va_up c (109 + 4 * 0 + (c 10).toNat) 8) (109 + 4 * 1 + (c 10).toNat) 0) (109 + 4 * 2 + (c 10).toNat) 0) 10) (107) rfl (by omega) (by omega) (by decide +kernel) ?_
    rw [show (va_up (va_up (va_up c (109 + 4 * 0 + (c 10).toNat) 8) (109 + 4 * 1 + (c 10).toNat) 0) (109 + 4 * 2 + (c 10).toNat) 0) 10 = c 10 by rw [vne (by omega), vne (by omega), vne (by omega)]]
    refine z_b hX fo_X11 [.iconst 1, .iadd] 81 (by decide +kernel) rfl ?_
    refine z_sg hX (107) (ulit (j := 10) (by decide) (by decide) rfl) (by omega) (by omega) (by decide +kernel) ?_
    refine z_b hX fo_X11 [.aload_n 0, .getfield 7, .bipush 107] 88 (by decide +kernel) rfl ?_
    refine z_ig hX (v := c 10 + 1) (107) (by rw [gm_e (by decide) (by decide), show gx 107 = 10 from rfl, va_e, if_pos rfl]) (by omega) (by omega) (by decide +kernel) ?_
    refine z_b hX fo_X11 [.iconst 1, .isub] 91 (by decide +kernel) rfl ?_
    exact z_iret hX hR (by decide +kernel) (Pm_ok (v := c 10) (c' := sWoman c (c 10).toNat) (by unfold aWoman;  (try simp only [Int.toNat_natCast]); rw [show (rMore (c 10) 4 : zr) = none from (by unfold rMore; rw [if_neg (by omega)]; (first | done | rfl))]; rfl) (by first | omega | (dsimp only [va_up]; omega) | (rw [va_e, if_pos rfl]; omega)) σ1 (congrArg (fun z => (zs σ1 33 (gm z), l)) (by funext j; simp only [sWoman, ad, va_e]; grind)) hM1 hc1 hF1)
  · refine z_b hX fo_X11 [.aload_n 0, .iconst 1, .iconst 1, .iconst 4] 20 (by decide +kernel) rfl ?_
    refine z_cV hX m_X11_refuses l_X11_63 p_X11_refuses c_X11_refuses rfl rfl rfl rfl rfl rfl (by decide +kernel) ?_
    exact z_iret hX hR (by decide +kernel) (Pm_ref (w := 1) (x := 4) (by unfold aWoman;  (try simp only [Int.toNat_natCast]); rw [show (rMore (c 10) 4 : zr) = some (1, 4) from (by unfold rMore;  rw [if_pos (by omega)]; (first | done | rfl | exact congrArg some (Prod.ext rfl (by dsimp only; omega))))]; rfl) hM cd1_1)
set_option maxHeartbeats 1000000 in
theorem c_X11_bring {E : zE} {x y D : Int} {R : aQ} {σ : Nat → Nat → Int} {c : Nat → Int} {l : (Nat → Int64) × (Nat → UInt64)} {w : Bool} (hI : AI D c R) (hM : MR R σ) (hw : σ 32 6 = wi w) (h_x : zi x) (h_y : zi y) : Mb E yX11_bring (Cond.code yX11_bring cX11_bring 4 (Option.some FieldType.int)) 2 [vr 32, vi x, vi y] (σ) (c) (l) (aBring w c R x y) ((cd1 eIA)) := by
  refine Ctr_of (own := RX11) (by decide +kernel) rfl rfl (fun Y hX hR hnx => ?_)
  have g8 := hI.1.1.coats
  have g9 := hI.1.1.acts
  have g10 := hI.1.1.women
  have g11 := hI.1.1.trunks
  have g12 := hI.1.1.loaded
  have g1 := hI.1.1.g1
  have g2 := hI.1.1.g2
  have g3 := hI.1.1.g3
  refine z_b hX fo_X11 [.aload_n 0, .iload_n 1, .iconst 0, .iconst 2] 4 (by decide +kernel) rfl ?_
  refine z_cS hX m_X11_in l_X11_55 p_X11_in (c_X11_in h_x ⟨by decide, by decide⟩ ⟨by decide, by decide⟩) rfl rfl rfl rfl (by decide +kernel) ?_
  by_cases h1 : 0 ≤ x ∧ x ≤ 2
  · rw [if_pos h1]
    refine z_if_eq hX (off := 17) 24 (by decide +kernel) (by decide) ⟨by decide, by decide⟩ (fun c7 => by exact absurd c7 (by decide)) (fun c7 => ?_)
    refine z_b hX fo_X11 [.iload_n 2, .iconst 1, .bipush 99] 14 (by decide +kernel) rfl ?_
    refine z_cS hX m_X11_in l_X11_55 p_X11_in (c_X11_in h_y ⟨by decide, by decide⟩ ⟨by decide, by decide⟩) rfl rfl rfl rfl (by decide +kernel) ?_
    by_cases h2 : 1 ≤ y ∧ y ≤ 99
    · rw [if_pos h2]
      refine z_if_eq hX (off := 7) 24 (by decide +kernel) (by decide) ⟨by decide, by decide⟩ (fun c17 => by exact absurd c17 (by decide)) (fun c17 => ?_)
      refine z_b hX fo_X11 [.iconst 0] 21 (by decide +kernel) rfl ?_
      refine z_goto hX (off := 4) 25 (by decide +kernel) (by decide) ?_
      refine z_cV hX m_X11_fails l_X11_59 p_X11_fails (c_fails0 rfl) rfl rfl rfl rfl rfl rfl (by decide +kernel) ?_
      refine z_if_eq hX (off := 5) 33 (by decide +kernel) (by decide) ⟨by decide, by decide⟩ (fun c28 => ?_) (fun c28 => by exact absurd c28 (by decide))
      refine z_b hX fo_X11 [.aload_n 0, .aload_n 0, .getfield 7] 38 (by decide +kernel) rfl ?_
      obtain ⟨σ1, hkp, hM1, hc1, hF1⟩ := m_keep (E := E) (l := l) hI hM hw
      refine z_cV0 hX m_X11_keeps l_X11_67 p_X11_keeps hkp rfl rfl rfl rfl rfl rfl (by decide +kernel) ?_
      obtain ⟨q, rfl⟩ : ∃ z : Nat, x = (z : Int) := ⟨x.toNat, by omega⟩
      have gq := hI.1.1.good (k := q) (by omega)
      refine z_b hX fo_X11 [.sipush 999, .aload_n 0, .getfield 7, .iconst 1, .iload_n 1, .iadd] 51 (by decide +kernel) rfl ?_
      refine z_ig hX (v := c (1 + q)) (1 + q) (glow (by omega)) (by omega) (by omega) (by decide +kernel) ?_
      refine z_b hX fo_X11 [.iload_n 2, .iadd] 54 (by decide +kernel) rfl ?_
      refine z_cS hX m_X11_less l_X11_91 p_X11_less (c_X11_less ⟨by decide, by decide⟩ ⟨by omega, by omega⟩) rfl rfl rfl rfl (by decide +kernel) ?_
      obtain ⟨v, ev, bv⟩ : ∃ v : Int, v = (if 999 < c (1 + q) + y then 999 else c (1 + q) + y) ∧ 0 ≤ v ∧ v ≤ 999 := ⟨_, rfl, by split <;> omega, by split <;> omega⟩
      rw [← ev]
      refine z_b hX fo_X11 [.istore_n 3, .aload_n 0, .getfield 7, .bipush 6, .dup2] 65 (by decide +kernel) rfl ?_
      refine z_ig hX (v := c 6) (6) rfl (by omega) (by omega) (by decide +kernel) ?_
      refine z_b hX fo_X11 [.iload_n 1] 67 (by decide +kernel) rfl ?_
      refine z_if_ne hX (off := 14) 81 (by decide +kernel) (by decide) ⟨by omega, by omega⟩ (fun c67 => ?_) (fun c67 => ?_)
      · refine z_b hX fo_X11 [.iconst 0, .iadd] 83 (by decide +kernel) rfl ?_
        refine z_sg hX (6) (ulit (j := 6) (by decide) (by decide) rfl) (by omega) (by omega) (by decide +kernel) ?_
        refine z_b hX fo_X11 [.aload_n 0, .getfield 7, .iconst 1, .iload_n 1, .iadd, .iload_n 3] 92 (by decide +kernel) rfl ?_
        refine z_sg hX (1 + q) (ulow (by omega)) (by omega) (by omega) (by decide +kernel) ?_
        refine z_b hX fo_X11 [.iload_n 3] 94 (by decide +kernel) rfl ?_
        exact z_iret hX hR (by decide +kernel) (Pm_ok (v := c (1 + q) + zmn y (999 - c (1 + q))) (c' := sStore c q (zmn y (999 - c (1 + q)))) (by unfold aBring; rw [if_pos h1]; rw [if_pos h2]; (try simp only [Int.toNat_natCast]); rfl) (by rw [ev]; simp only [zmn]; split <;> split <;> omega) σ1 (congrArg (fun z => (zs σ1 33 (gm z), l)) (by have e9 : v = c (1 + q) + zmn y (999 - c (1 + q)) := (by rw [ev]; simp only [zmn]; split <;> split <;> omega); first | (have q0 : q = 0 := (by omega); subst q0; exact bring0 e9) | exact bring1 (by omega) (by omega) e9)) hM1 hc1 hF1)
      · refine z_b hX fo_X11 [.iload_n 3, .aload_n 0, .getfield 7, .iconst 1] 76 (by decide +kernel) rfl ?_
        refine z_ig hX (v := c 1) (1) rfl (by omega) (by omega) (by decide +kernel) ?_
        refine z_b hX fo_X11 [.isub] 78 (by decide +kernel) rfl ?_
        refine z_goto hX (off := 4) 82 (by decide +kernel) (by decide) ?_
        refine z_b hX fo_X11 [.iadd] 83 (by decide +kernel) rfl ?_
        refine z_sg hX (6) (ulit (j := 6) (by decide) (by decide) rfl) (by omega) (by omega) (by decide +kernel) ?_
        refine z_b hX fo_X11 [.aload_n 0, .getfield 7, .iconst 1, .iload_n 1, .iadd, .iload_n 3] 92 (by decide +kernel) rfl ?_
        refine z_sg hX (1 + q) (ulow (by omega)) (by omega) (by omega) (by decide +kernel) ?_
        refine z_b hX fo_X11 [.iload_n 3] 94 (by decide +kernel) rfl ?_
        exact z_iret hX hR (by decide +kernel) (Pm_ok (v := c (1 + q) + zmn y (999 - c (1 + q))) (c' := sStore c q (zmn y (999 - c (1 + q)))) (by unfold aBring; rw [if_pos h1]; rw [if_pos h2]; (try simp only [Int.toNat_natCast]); rfl) (by rw [ev]; simp only [zmn]; split <;> split <;> omega) σ1 (congrArg (fun z => (zs σ1 33 (gm z), l)) (by have e9 : v = c (1 + q) + zmn y (999 - c (1 + q)) := (by rw [ev]; simp only [zmn]; split <;> split <;> omega); first | (have q0 : q = 0 := (by omega); subst q0; exact bring0 e9) | exact bring1 (by omega) (by omega) e9)) hM1 hc1 hF1)
    · rw [if_neg h2]
      refine z_if_eq hX (off := 7) 24 (by decide +kernel) (by decide) ⟨by decide, by decide⟩ (fun c17 => ?_) (fun c17 => by exact absurd c17 (by decide))
      refine z_b hX fo_X11 [.iconst 1] 25 (by decide +kernel) rfl ?_
      refine z_cV hX m_X11_fails l_X11_59 p_X11_fails (c_fails1 ⟨by decide, by decide⟩) rfl rfl rfl rfl rfl rfl (by decide +kernel) ?_
      refine z_if_eq hX (off := 5) 33 (by decide +kernel) (by decide) ⟨by decide, by decide⟩ (fun c28 => by exact absurd c28 (by decide)) (fun c28 => ?_)
      refine z_b hX fo_X11 [.iconst 0] 32 (by decide +kernel) rfl ?_
      exact z_iret hX hR (by decide +kernel) (Pm_fail (e := eIA) (by unfold aBring; rw [if_pos h1]; rw [if_neg h2]; (try simp only [Int.toNat_natCast]); rfl) ne_IA_UO hM cd1_1)
  · rw [if_neg h1]
    refine z_if_eq hX (off := 17) 24 (by decide +kernel) (by decide) ⟨by decide, by decide⟩ (fun c7 => ?_) (fun c7 => by exact absurd c7 (by decide))
    refine z_b hX fo_X11 [.iconst 1] 25 (by decide +kernel) rfl ?_
    refine z_cV hX m_X11_fails l_X11_59 p_X11_fails (c_fails1 ⟨by decide, by decide⟩) rfl rfl rfl rfl rfl rfl (by decide +kernel) ?_
    refine z_if_eq hX (off := 5) 33 (by decide +kernel) (by decide) ⟨by decide, by decide⟩ (fun c28 => by exact absurd c28 (by decide)) (fun c28 => ?_)
    refine z_b hX fo_X11 [.iconst 0] 32 (by decide +kernel) rfl ?_
    exact z_iret hX hR (by decide +kernel) (Pm_fail (e := eIA) (by unfold aBring; rw [if_neg h1]; (try simp only [Int.toNat_natCast]); rfl) ne_IA_UO hM cd1_1)
set_option maxHeartbeats 1000000 in
theorem c_X11_sew {E : zE} {x y D : Int} {R : aQ} {σ : Nat → Nat → Int} {c : Nat → Int} {l : (Nat → Int64) × (Nat → UInt64)} {w : Bool} (hI : AI D c R) (hM : MR R σ) (hw : σ 32 6 = wi w) (h_x : zi x) (h_y : zi y) : Mb E yX11_sew (Cond.code yX11_sew cX11_sew 3 (Option.some FieldType.int)) 2 [vr 32, vi x, vi y] (σ) (c) (l) (aSew w c R x y) ((cd2 eIB eUO)) := by
  refine Ctr_of (own := RX11) (by decide +kernel) rfl rfl (fun Y hX hR hnx => ?_)
  have g8 := hI.1.1.coats
  have g9 := hI.1.1.acts
  have g10 := hI.1.1.women
  have g11 := hI.1.1.trunks
  have g12 := hI.1.1.loaded
  have g1 := hI.1.1.g1
  have g2 := hI.1.1.g2
  have g3 := hI.1.1.g3
  refine z_b hX fo_X11 [.aload_n 0, .aload_n 0, .iload_n 1] 3 (by decide +kernel) rfl ?_
  refine z_cV hX m_X11_isWoman l_X11_103 p_X11_isWoman (c_X11_isWoman h_x ⟨by omega, by omega⟩) rfl rfl rfl rfl rfl rfl (by decide +kernel) ?_
  by_cases h1 : hW c x
  · rw [if_pos h1]
    obtain ⟨a, rfl⟩ : ∃ z : Nat, x = (z : Int) := ⟨x.toNat, by omega⟩
    refine z_if_eq hX (off := 15) 21 (by decide +kernel) (by decide) ⟨by decide, by decide⟩ (fun c6 => by exact absurd c6 (by decide)) (fun c6 => ?_)
    refine z_b hX fo_X11 [.aload_n 0, .iload_n 2] 11 (by decide +kernel) rfl ?_
    refine z_cV hX m_X11_isCoat l_X11_81 p_X11_isCoat (c_X11_isCoat h_y ⟨by omega, by omega⟩) rfl rfl rfl rfl rfl rfl (by decide +kernel) ?_
    by_cases h2 : hC c y
    · rw [if_pos h2]
      obtain ⟨k, rfl⟩ : ∃ z : Nat, y = (z : Int) := ⟨y.toNat, by omega⟩
      refine z_if_eq hX (off := 7) 21 (by decide +kernel) (by decide) ⟨by decide, by decide⟩ (fun c14 => by exact absurd c14 (by decide)) (fun c14 => ?_)
      refine z_b hX fo_X11 [.iconst 0] 18 (by decide +kernel) rfl ?_
      refine z_goto hX (off := 4) 22 (by decide +kernel) (by decide) ?_
      refine z_cV hX m_X11_fails l_X11_59 p_X11_fails (c_fails0 rfl) rfl rfl rfl rfl rfl rfl (by decide +kernel) ?_
      refine z_if_eq hX (off := 5) 30 (by decide +kernel) (by decide) ⟨by decide, by decide⟩ (fun c25 => ?_) (fun c25 => by exact absurd c25 (by decide))
      refine z_b hX fo_X11 [.aload_n 0, .iload_n 2, .iconst 4] 33 (by decide +kernel) rfl ?_
      refine z_cV hX m_X11_of l_X11_84 p_X11_of (c_of4 (k := k) (by omega)) rfl rfl rfl rfl rfl rfl (by decide +kernel) ?_
      have s0 := hI.1.1.tr (k := k) (by omega)
      have s5 := hI.1.1.sore (k := a) (by omega)
      have s1 := hI.1.1.rips (k := k) (by omega)
      have s2 := hI.1.1.miss (k := k) (by omega)
      have s3 := hI.1.1.size (k := k) (by omega)
      have s4 := hI.1.1.hours (k := a) (by omega)
      refine z_if_lt hX (off := 16) 52 (by decide +kernel) (by decide) ⟨by omega, by omega⟩ (fun c36 => ?_) (fun c36 => ?_)
      · refine z_b hX fo_X11 [.aload_n 0, .iload_n 1, .iconst 1] 55 (by decide +kernel) rfl ?_
        refine z_cV hX m_X11_ofWoman l_X11_106 p_X11_ofWoman (c_ofWoman1 (k := a) (by omega)) rfl rfl rfl rfl rfl rfl (by decide +kernel) ?_
        refine z_b hX fo_X11 [.bipush 6] 60 (by decide +kernel) rfl ?_
        refine z_ic_lt hX (off := 21) 81 (by decide +kernel) (by decide) ⟨by omega, by omega⟩ ⟨by omega, by omega⟩ (fun c60 => ?_) (fun c60 => ?_)
        · refine z_b hX fo_X11 [.aload_n 0, .iload_n 2, .iconst 1] 84 (by decide +kernel) rfl ?_
          refine z_cV hX m_X11_of l_X11_84 p_X11_of (c_of1 (k := k) (by omega)) rfl rfl rfl rfl rfl rfl (by decide +kernel) ?_
          refine z_if_ne hX (off := 12) 99 (by decide +kernel) (by decide) ⟨by omega, by omega⟩ (fun c87 => ?_) (fun c87 => ?_)
          · refine z_b hX fo_X11 [.aload_n 0, .iload_n 1, .iconst 2, .iconst 1, .iconst 1] 104 (by decide +kernel) rfl ?_
            rcases (show (1 ≤ c (109 + a) ∧ 1 ≤ c 2) ∨ c (109 + a) < 1 ∨ (1 ≤ c (109 + a) ∧ c 2 < 1) by omega) with ⟨q1, q2⟩ | q1 | ⟨q1, q2⟩
            · refine z_cV hX m_X11_lacks l_X11_109 p_X11_lacks (c_lacks_n (hI.1.1) (w := a) (h := 1) (t := 1) (by omega) ⟨by decide, by decide⟩ ⟨by decide, by decide⟩ q1 q2) rfl rfl rfl rfl rfl rfl (by decide +kernel) ?_
              refine z_if_eq hX (off := 5) 112 (by decide +kernel) (by decide) ⟨by decide, by decide⟩ (fun c107 => ?_) (fun c107 => by exact absurd c107 (by decide))
              refine z_b hX fo_X11 [.aload_n 0, .aload_n 0, .getfield 7] 117 (by decide +kernel) rfl ?_
              obtain ⟨σ1, hkp, hM1, hc1, hF1⟩ := m_keep (E := E) (l := l) hI hM hw
              refine z_cV0 hX m_X11_keeps l_X11_67 p_X11_keeps hkp rfl rfl rfl rfl rfl rfl (by decide +kernel) ?_
              refine z_b hX fo_X11 [.aload_n 0, .iload_n 1, .iconst 1, .iconst 1] 124 (by decide +kernel) rfl ?_
              refine z_cV0 hX m_X11_sews l_X11_113 p_X11_sews (c_X11_sews hI.1.1 (by omega)) rfl rfl rfl rfl rfl rfl (by decide +kernel) ?_
              refine z_b hX fo_X11 [.aload_n 0, .iload_n 2, .iconst 1, .aload_n 0, .iload_n 2, .iconst 1] 133 (by decide +kernel) rfl ?_
              refine z_cV hX m_X11_of l_X11_84 p_X11_of (c_of1 (k := k) (by omega)) rfl rfl rfl rfl rfl rfl (by decide +kernel) ?_
              refine z_b hX fo_X11 [.iconst 1, .isub] 138 (by decide +kernel) rfl ?_
              refine z_cV0 hX m_X11_lays l_X11_71 p_X11_lays (c_lays1 (k := k) (by omega)) rfl rfl rfl rfl rfl rfl (by decide +kernel) ?_
              refine z_b hX fo_X11 [.aload_n 0, .iload_n 2, .iconst 1] 144 (by decide +kernel) rfl ?_
              refine z_cV hX m_X11_of l_X11_84 p_X11_of (c_of1 (k := k) (by omega)) rfl rfl rfl rfl rfl rfl (by decide +kernel) ?_
              exact z_iret hX hR (by decide +kernel) (Pm_ok (v := c (25 + k) - 1) (c' := sMend c a k) (by unfold aSew; rw [if_pos h1]; rw [if_pos h2]; (try simp only [Int.toNat_natCast]); rw [show (rMend c a k : zr) = none from (by unfold rMend rPacked rSore rNoRip rHours rThread; rw [if_neg (by omega)]; rw [if_neg (by omega)]; rw [if_neg (by omega)]; rw [if_neg (by omega)]; rw [if_neg (by omega)]; (first | done | rfl))]; rfl) (by rw [va_e, if_pos rfl]; unfold mSews ad; rw [vne (by omega), sSpend_o (by omega) (by omega) (by omega)]) σ1 (congrArg (fun z => (zs σ1 33 (gm z), l)) rfl) hM1 hc1 hF1)
            · refine z_cV hX m_X11_lacks l_X11_109 p_X11_lacks (c_lacks_h (hI.1.1) (w := a) (h := 1) (t := 1) (by omega) ⟨by decide, by decide⟩ ⟨by decide, by decide⟩ q1) rfl rfl rfl rfl rfl rfl (by decide +kernel) ?_
              refine z_if_eq hX (off := 5) 112 (by decide +kernel) (by decide) ⟨by decide, by decide⟩ (fun c107 => by exact absurd c107 (by decide)) (fun c107 => ?_)
              refine z_b hX fo_X11 [.iconst 0] 111 (by decide +kernel) rfl ?_
              exact z_iret hX hR (by decide +kernel) (Pm_ref (w := 5) (x := (1 - c (109 + a))) (by unfold aSew; rw [if_pos h1]; rw [if_pos h2]; (try simp only [Int.toNat_natCast]); rw [show (rMend c a k : zr) = some (5, (1 - c (109 + a))) from (by unfold rMend rPacked rSore rNoRip rHours rThread; rw [if_neg (by omega)]; rw [if_neg (by omega)]; rw [if_neg (by omega)]; rw [if_pos (by omega)]; (first | done | rfl | exact congrArg some (Prod.ext rfl (by dsimp only; omega))))]; rfl) hM (cd2_2 ne_UO_IB))
            · refine z_cV hX m_X11_lacks l_X11_109 p_X11_lacks (c_lacks_t (hI.1.1) (w := a) (h := 1) (t := 1) (by omega) ⟨by decide, by decide⟩ ⟨by decide, by decide⟩ q1 q2) rfl rfl rfl rfl rfl rfl (by decide +kernel) ?_
              refine z_if_eq hX (off := 5) 112 (by decide +kernel) (by decide) ⟨by decide, by decide⟩ (fun c107 => by exact absurd c107 (by decide)) (fun c107 => ?_)
              refine z_b hX fo_X11 [.iconst 0] 111 (by decide +kernel) rfl ?_
              exact z_iret hX hR (by decide +kernel) (Pm_ref (w := 7) (x := (1 - c 2)) (by unfold aSew; rw [if_pos h1]; rw [if_pos h2]; (try simp only [Int.toNat_natCast]); rw [show (rMend c a k : zr) = some (7, (1 - c 2)) from (by unfold rMend rPacked rSore rNoRip rHours rThread; rw [if_neg (by omega)]; rw [if_neg (by omega)]; rw [if_neg (by omega)]; rw [if_neg (by omega)]; rw [if_pos (by omega)]; (first | done | rfl | exact congrArg some (Prod.ext rfl (by dsimp only; omega))))]; rfl) hM (cd2_2 ne_UO_IB))
          · refine z_b hX fo_X11 [.aload_n 0, .iconst 2, .bipush 6, .iload_n 2] 95 (by decide +kernel) rfl ?_
            refine z_cV hX m_X11_refuses l_X11_63 p_X11_refuses c_X11_refuses rfl rfl rfl rfl rfl rfl (by decide +kernel) ?_
            exact z_iret hX hR (by decide +kernel) (Pm_ref (w := 6) (x := (k : Int)) (by unfold aSew; rw [if_pos h1]; rw [if_pos h2]; (try simp only [Int.toNat_natCast]); rw [show (rMend c a k : zr) = some (6, (k : Int)) from (by unfold rMend rPacked rSore rNoRip rHours rThread; rw [if_neg (by omega)]; rw [if_neg (by omega)]; rw [if_pos (by omega)]; (first | done | rfl | exact congrArg some (Prod.ext rfl (by dsimp only; omega))))]; rfl) hM (cd2_2 ne_UO_IB))
        · refine z_b hX fo_X11 [.aload_n 0, .iconst 2, .iconst 4, .aload_n 0, .iload_n 1, .iconst 1] 69 (by decide +kernel) rfl ?_
          refine z_cV hX m_X11_ofWoman l_X11_106 p_X11_ofWoman (c_ofWoman1 (k := a) (by omega)) rfl rfl rfl rfl rfl rfl (by decide +kernel) ?_
          refine z_b hX fo_X11 [.bipush 6, .isub, .iconst 1, .iadd] 77 (by decide +kernel) rfl ?_
          refine z_cV hX m_X11_refuses l_X11_63 p_X11_refuses c_X11_refuses rfl rfl rfl rfl rfl rfl (by decide +kernel) ?_
          exact z_iret hX hR (by decide +kernel) (Pm_ref (w := 4) (x := (((c (113 + a)) - 6) + 1)) (by unfold aSew; rw [if_pos h1]; rw [if_pos h2]; (try simp only [Int.toNat_natCast]); rw [show (rMend c a k : zr) = some (4, (((c (113 + a)) - 6) + 1)) from (by unfold rMend rPacked rSore rNoRip rHours rThread; rw [if_neg (by omega)]; rw [if_pos (by omega)]; (first | done | rfl | exact congrArg some (Prod.ext rfl (by dsimp only; omega))))]; rfl) hM (cd2_2 ne_UO_IB))
      · refine z_b hX fo_X11 [.aload_n 0, .iconst 2, .iconst 3, .aload_n 0, .iload_n 2, .iconst 4] 45 (by decide +kernel) rfl ?_
        refine z_cV hX m_X11_of l_X11_84 p_X11_of (c_of4 (k := k) (by omega)) rfl rfl rfl rfl rfl rfl (by decide +kernel) ?_
        refine z_cV hX m_X11_refuses l_X11_63 p_X11_refuses c_X11_refuses rfl rfl rfl rfl rfl rfl (by decide +kernel) ?_
        exact z_iret hX hR (by decide +kernel) (Pm_ref (w := 3) (x := (c (61 + k))) (by unfold aSew; rw [if_pos h1]; rw [if_pos h2]; (try simp only [Int.toNat_natCast]); rw [show (rMend c a k : zr) = some (3, (c (61 + k))) from (by unfold rMend rPacked rSore rNoRip rHours rThread;  rw [if_pos (by omega)]; (first | done | rfl | exact congrArg some (Prod.ext rfl (by dsimp only; omega))))]; rfl) hM (cd2_2 ne_UO_IB))
    · rw [if_neg h2]
      refine z_if_eq hX (off := 7) 21 (by decide +kernel) (by decide) ⟨by decide, by decide⟩ (fun c14 => ?_) (fun c14 => by exact absurd c14 (by decide))
      refine z_b hX fo_X11 [.iconst 1] 22 (by decide +kernel) rfl ?_
      refine z_cV hX m_X11_fails l_X11_59 p_X11_fails (c_fails1 ⟨by decide, by decide⟩) rfl rfl rfl rfl rfl rfl (by decide +kernel) ?_
      refine z_if_eq hX (off := 5) 30 (by decide +kernel) (by decide) ⟨by decide, by decide⟩ (fun c25 => by exact absurd c25 (by decide)) (fun c25 => ?_)
      refine z_b hX fo_X11 [.iconst 0] 29 (by decide +kernel) rfl ?_
      exact z_iret hX hR (by decide +kernel) (Pm_fail (e := eIB) (by unfold aSew; rw [if_pos h1]; rw [if_neg h2]; (try simp only [Int.toNat_natCast]); rfl) ne_IB_UO hM cd2_1)
  · rw [if_neg h1]
    refine z_if_eq hX (off := 15) 21 (by decide +kernel) (by decide) ⟨by decide, by decide⟩ (fun c6 => ?_) (fun c6 => by exact absurd c6 (by decide))
    refine z_b hX fo_X11 [.iconst 1] 22 (by decide +kernel) rfl ?_
    refine z_cV hX m_X11_fails l_X11_59 p_X11_fails (c_fails1 ⟨by decide, by decide⟩) rfl rfl rfl rfl rfl rfl (by decide +kernel) ?_
    refine z_if_eq hX (off := 5) 30 (by decide +kernel) (by decide) ⟨by decide, by decide⟩ (fun c25 => by exact absurd c25 (by decide)) (fun c25 => ?_)
    refine z_b hX fo_X11 [.iconst 0] 29 (by decide +kernel) rfl ?_
    exact z_iret hX hR (by decide +kernel) (Pm_fail (e := eIB) (by unfold aSew; rw [if_neg h1]; (try simp only [Int.toNat_natCast]); rfl) ne_IB_UO hM cd2_1)
set_option maxHeartbeats 1000000 in
theorem c_X11_spangle {E : zE} {x y z D : Int} {R : aQ} {σ : Nat → Nat → Int} {c : Nat → Int} {l : (Nat → Int64) × (Nat → UInt64)} {w : Bool} (hI : AI D c R) (hM : MR R σ) (hw : σ 32 6 = wi w) (h_x : zi x) (h_y : zi y) (h_z : zi z) : Mb E yX11_spangle (Cond.code yX11_spangle cX11_spangle 4 (Option.some FieldType.int)) 2 [vr 32, vi x, vi y, vi z] (σ) (c) (l) (aSpangle w c R x y z) ((cd3 eIB eIA eUO)) := by
  refine Ctr_of (own := RX11) (by decide +kernel) rfl rfl (fun Y hX hR hnx => ?_)
  have g8 := hI.1.1.coats
  have g9 := hI.1.1.acts
  have g10 := hI.1.1.women
  have g11 := hI.1.1.trunks
  have g12 := hI.1.1.loaded
  have g1 := hI.1.1.g1
  have g2 := hI.1.1.g2
  have g3 := hI.1.1.g3
  refine z_b hX fo_X11 [.aload_n 0, .aload_n 0, .iload_n 1] 3 (by decide +kernel) rfl ?_
  refine z_cV hX m_X11_isWoman l_X11_103 p_X11_isWoman (c_X11_isWoman h_x ⟨by omega, by omega⟩) rfl rfl rfl rfl rfl rfl (by decide +kernel) ?_
  by_cases h1 : hW c x
  · rw [if_pos h1]
    obtain ⟨a, rfl⟩ : ∃ z : Nat, x = (z : Int) := ⟨x.toNat, by omega⟩
    refine z_if_eq hX (off := 11) 17 (by decide +kernel) (by decide) ⟨by decide, by decide⟩ (fun c6 => by exact absurd c6 (by decide)) (fun c6 => ?_)
    refine z_b hX fo_X11 [.aload_n 0, .iload_n 2] 11 (by decide +kernel) rfl ?_
    refine z_cV hX m_X11_isCoat l_X11_81 p_X11_isCoat (c_X11_isCoat h_y ⟨by omega, by omega⟩) rfl rfl rfl rfl rfl rfl (by decide +kernel) ?_
    by_cases h2 : hC c y
    · rw [if_pos h2]
      obtain ⟨k, rfl⟩ : ∃ z : Nat, y = (z : Int) := ⟨y.toNat, by omega⟩
      refine z_if_ne hX (off := 7) 21 (by decide +kernel) (by decide) ⟨by decide, by decide⟩ (fun c14 => ?_) (fun c14 => by exact absurd c14 (by decide))
      refine z_b hX fo_X11 [.iload_n 3, .iconst 1, .bipush 60] 25 (by decide +kernel) rfl ?_
      refine z_cS hX m_X11_in l_X11_55 p_X11_in (c_X11_in h_z ⟨by decide, by decide⟩ ⟨by decide, by decide⟩) rfl rfl rfl rfl (by decide +kernel) ?_
      by_cases h3 : 1 ≤ z ∧ z ≤ 60
      · rw [if_pos h3]
        refine z_if_eq hX (off := 7) 35 (by decide +kernel) (by decide) ⟨by decide, by decide⟩ (fun c28 => by exact absurd c28 (by decide)) (fun c28 => ?_)
        refine z_b hX fo_X11 [.iconst 0] 32 (by decide +kernel) rfl ?_
        refine z_goto hX (off := 4) 36 (by decide +kernel) (by decide) ?_
        refine z_cV hX m_X11_fails l_X11_59 p_X11_fails (c_fails0 rfl) rfl rfl rfl rfl rfl rfl (by decide +kernel) ?_
        refine z_if_eq hX (off := 5) 44 (by decide +kernel) (by decide) ⟨by decide, by decide⟩ (fun c39 => ?_) (fun c39 => by exact absurd c39 (by decide))
        refine z_b hX fo_X11 [.aload_n 0, .iload_n 2, .iconst 4] 47 (by decide +kernel) rfl ?_
        refine z_cV hX m_X11_of l_X11_84 p_X11_of (c_of4 (k := k) (by omega)) rfl rfl rfl rfl rfl rfl (by decide +kernel) ?_
        have s0 := hI.1.1.tr (k := k) (by omega)
        have s5 := hI.1.1.sore (k := a) (by omega)
        have s1 := hI.1.1.rips (k := k) (by omega)
        have s2 := hI.1.1.miss (k := k) (by omega)
        have s3 := hI.1.1.size (k := k) (by omega)
        have s4 := hI.1.1.hours (k := a) (by omega)
        refine z_if_lt hX (off := 16) 66 (by decide +kernel) (by decide) ⟨by omega, by omega⟩ (fun c50 => ?_) (fun c50 => ?_)
        · refine z_b hX fo_X11 [.aload_n 0, .iload_n 1, .iconst 1] 69 (by decide +kernel) rfl ?_
          refine z_cV hX m_X11_ofWoman l_X11_106 p_X11_ofWoman (c_ofWoman1 (k := a) (by omega)) rfl rfl rfl rfl rfl rfl (by decide +kernel) ?_
          refine z_b hX fo_X11 [.bipush 6] 74 (by decide +kernel) rfl ?_
          refine z_ic_lt hX (off := 21) 95 (by decide +kernel) (by decide) ⟨by omega, by omega⟩ ⟨by omega, by omega⟩ (fun c74 => ?_) (fun c74 => ?_)
          · refine z_b hX fo_X11 [.aload_n 0, .iload_n 2, .iconst 2] 98 (by decide +kernel) rfl ?_
            refine z_cV hX m_X11_of l_X11_84 p_X11_of (c_of2 (k := k) (by omega)) rfl rfl rfl rfl rfl rfl (by decide +kernel) ?_
            refine z_b hX fo_X11 [.iload_n 3] 102 (by decide +kernel) rfl ?_
            refine z_ic_ge hX (off := 17) 119 (by decide +kernel) (by decide) ⟨by omega, by omega⟩ ⟨by omega, by omega⟩ (fun c102 => ?_) (fun c102 => ?_)
            · refine z_b hX fo_X11 [.aload_n 0, .getfield 7, .iconst 1] 124 (by decide +kernel) rfl ?_
              refine z_ig hX (v := c 1) (1) rfl (by omega) (by omega) (by decide +kernel) ?_
              refine z_b hX fo_X11 [.iload_n 3] 126 (by decide +kernel) rfl ?_
              refine z_ic_ge hX (off := 19) 145 (by decide +kernel) (by decide) ⟨by omega, by omega⟩ ⟨by omega, by omega⟩ (fun c126 => ?_) (fun c126 => ?_)
              · refine z_b hX fo_X11 [.aload_n 0, .iload_n 1, .iconst 3, .iload_n 3, .bipush 9, .iadd, .bipush 10] 154 (by decide +kernel) rfl ?_
                refine z_idiv hX (by decide +kernel) (by omega) (by omega) ?_
                refine z_b hX fo_X11 [.iload_n 3, .iconst 4, .iadd, .iconst 5] 159 (by decide +kernel) rfl ?_
                refine z_idiv hX (by decide +kernel) (by omega) (by omega) ?_
                rcases (show (((z + 9) / 10) ≤ c (109 + a) ∧ ((z + 4) / 5) ≤ c 2) ∨ c (109 + a) < ((z + 9) / 10) ∨ (((z + 9) / 10) ≤ c (109 + a) ∧ c 2 < ((z + 4) / 5)) by omega) with ⟨q1, q2⟩ | q1 | ⟨q1, q2⟩
                · refine z_cV hX m_X11_lacks l_X11_109 p_X11_lacks (c_lacks_n (hI.1.1) (w := a) (h := ((z + 9) / 10)) (t := ((z + 4) / 5)) (by omega) ⟨by omega, by omega⟩ ⟨by omega, by omega⟩ q1 q2) rfl rfl rfl rfl rfl rfl (by decide +kernel) ?_
                  refine z_if_eq hX (off := 5) 168 (by decide +kernel) (by decide) ⟨by decide, by decide⟩ (fun c163 => ?_) (fun c163 => by exact absurd c163 (by decide))
                  refine z_b hX fo_X11 [.aload_n 0, .aload_n 0, .getfield 7] 173 (by decide +kernel) rfl ?_
                  obtain ⟨σ1, hkp, hM1, hc1, hF1⟩ := m_keep (E := E) (l := l) hI hM hw
                  refine z_cV0 hX m_X11_keeps l_X11_67 p_X11_keeps hkp rfl rfl rfl rfl rfl rfl (by decide +kernel) ?_
                  refine z_b hX fo_X11 [.aload_n 0, .iload_n 1, .iload_n 3, .bipush 9, .iadd, .bipush 10] 184 (by decide +kernel) rfl ?_
                  refine z_idiv hX (by decide +kernel) (by omega) (by omega) ?_
                  refine z_b hX fo_X11 [.iload_n 3, .iconst 4, .iadd, .iconst 5] 189 (by decide +kernel) rfl ?_
                  refine z_idiv hX (by decide +kernel) (by omega) (by omega) ?_
                  refine z_cV0 hX m_X11_sews l_X11_113 p_X11_sews (c_X11_sews hI.1.1 (by omega)) rfl rfl rfl rfl rfl rfl (by decide +kernel) ?_
                  refine z_b hX fo_X11 [.aload_n 0, .getfield 7, .iconst 1, .dup2] 199 (by decide +kernel) rfl ?_
                  refine z_ig hX (v := (mSews c a ((z + 9) / 10) ((z + 4) / 5)) 1) (1) rfl (by omega) (by omega) (by decide +kernel) ?_
                  refine z_b hX fo_X11 [.iload_n 3, .isub] 202 (by decide +kernel) rfl ?_
                  refine z_sg hX (1) (ulit (j := 1) (by decide) (by decide) rfl) (by omega) (by omega) (by decide +kernel) ?_
                  refine z_b hX fo_X11 [.aload_n 0, .getfield 7, .iconst 4, .dup2] 209 (by decide +kernel) rfl ?_
                  refine z_ig hX (v := (va_up (mSews c a ((z + 9) / 10) ((z + 4) / 5)) 1 (((mSews c a ((z + 9) / 10) ((z + 4) / 5)) 1) - z)) 4) (4) rfl (by omega) (by omega) (by decide +kernel) ?_
                  refine z_b hX fo_X11 [.iload_n 3, .iadd] 212 (by decide +kernel) rfl ?_
                  refine z_sg hX (4) (ulit (j := 4) (by decide) (by decide) rfl) (by omega) (by omega) (by decide +kernel) ?_
                  refine z_b hX fo_X11 [.aload_n 0, .iload_n 2, .iconst 2, .aload_n 0, .iload_n 2, .iconst 2] 219 (by decide +kernel) rfl ?_
                  refine z_cV hX m_X11_of l_X11_84 p_X11_of (c_of2 (k := k) (by omega)) rfl rfl rfl rfl rfl rfl (by decide +kernel) ?_
                  refine z_b hX fo_X11 [.iload_n 3, .isub] 224 (by decide +kernel) rfl ?_
                  refine z_cV0 hX m_X11_lays l_X11_71 p_X11_lays (c_lays2 (k := k) (by omega)) rfl rfl rfl rfl rfl rfl (by decide +kernel) ?_
                  refine z_b hX fo_X11 [.aload_n 0, .iload_n 2, .iconst 2] 230 (by decide +kernel) rfl ?_
                  refine z_cV hX m_X11_of l_X11_84 p_X11_of (c_of2 (k := k) (by omega)) rfl rfl rfl rfl rfl rfl (by decide +kernel) ?_
                  exact z_iret hX hR (by decide +kernel) (Pm_ok (v := c (37 + k) - z) (c' := sSew c a k z) (by unfold aSpangle; rw [if_pos h1]; rw [if_pos h2]; rw [if_pos h3]; (try simp only [Int.toNat_natCast]); rw [show (rSew c a k z : zr) = none from (by unfold rSew rPacked rSore rFew rNoSp rHours rThread; rw [if_neg (by omega)]; rw [if_neg (by omega)]; rw [if_neg (by omega)]; rw [if_neg (by omega)]; rw [if_neg (by omega)]; rw [if_neg (by omega)]; (first | done | rfl))]; rfl) (by rw [va_e, if_pos rfl, vne (by omega), vne (by omega)]; unfold mSews ad; rw [vne (by omega), sSpend_o (by omega) (by omega) (by omega)]) σ1 (congrArg (fun z => (zs σ1 33 (gm z), l)) (by rw [show (z + 9) / 10 = (z + 10 - 1) / 10 by omega, show (z + 4) / 5 = (z + 5 - 1) / 5 by omega]; rfl)) hM1 hc1 hF1)
                · refine z_cV hX m_X11_lacks l_X11_109 p_X11_lacks (c_lacks_h (hI.1.1) (w := a) (h := ((z + 9) / 10)) (t := ((z + 4) / 5)) (by omega) ⟨by omega, by omega⟩ ⟨by omega, by omega⟩ q1) rfl rfl rfl rfl rfl rfl (by decide +kernel) ?_
                  refine z_if_eq hX (off := 5) 168 (by decide +kernel) (by decide) ⟨by decide, by decide⟩ (fun c163 => by exact absurd c163 (by decide)) (fun c163 => ?_)
                  refine z_b hX fo_X11 [.iconst 0] 167 (by decide +kernel) rfl ?_
                  exact z_iret hX hR (by decide +kernel) (Pm_ref (w := 5) (x := (((z + 9) / 10) - c (109 + a))) (by unfold aSpangle; rw [if_pos h1]; rw [if_pos h2]; rw [if_pos h3]; (try simp only [Int.toNat_natCast]); rw [show (rSew c a k z : zr) = some (5, (((z + 9) / 10) - c (109 + a))) from (by unfold rSew rPacked rSore rFew rNoSp rHours rThread; rw [if_neg (by omega)]; rw [if_neg (by omega)]; rw [if_neg (by omega)]; rw [if_neg (by omega)]; rw [if_pos (by omega)]; (first | done | rfl | exact congrArg some (Prod.ext rfl (by dsimp only; omega))))]; rfl) hM (cd3_3 ne_UO_IB ne_UO_IA))
                · refine z_cV hX m_X11_lacks l_X11_109 p_X11_lacks (c_lacks_t (hI.1.1) (w := a) (h := ((z + 9) / 10)) (t := ((z + 4) / 5)) (by omega) ⟨by omega, by omega⟩ ⟨by omega, by omega⟩ q1 q2) rfl rfl rfl rfl rfl rfl (by decide +kernel) ?_
                  refine z_if_eq hX (off := 5) 168 (by decide +kernel) (by decide) ⟨by decide, by decide⟩ (fun c163 => by exact absurd c163 (by decide)) (fun c163 => ?_)
                  refine z_b hX fo_X11 [.iconst 0] 167 (by decide +kernel) rfl ?_
                  exact z_iret hX hR (by decide +kernel) (Pm_ref (w := 7) (x := (((z + 4) / 5) - c 2)) (by unfold aSpangle; rw [if_pos h1]; rw [if_pos h2]; rw [if_pos h3]; (try simp only [Int.toNat_natCast]); rw [show (rSew c a k z : zr) = some (7, (((z + 4) / 5) - c 2)) from (by unfold rSew rPacked rSore rFew rNoSp rHours rThread; rw [if_neg (by omega)]; rw [if_neg (by omega)]; rw [if_neg (by omega)]; rw [if_neg (by omega)]; rw [if_neg (by omega)]; rw [if_pos (by omega)]; (first | done | rfl | exact congrArg some (Prod.ext rfl (by dsimp only; omega))))]; rfl) hM (cd3_3 ne_UO_IB ne_UO_IA))
              · refine z_b hX fo_X11 [.aload_n 0, .iconst 3, .bipush 9, .iload_n 3, .aload_n 0, .getfield 7, .iconst 1] 139 (by decide +kernel) rfl ?_
                refine z_ig hX (v := c 1) (1) rfl (by omega) (by omega) (by decide +kernel) ?_
                refine z_b hX fo_X11 [.isub] 141 (by decide +kernel) rfl ?_
                refine z_cV hX m_X11_refuses l_X11_63 p_X11_refuses c_X11_refuses rfl rfl rfl rfl rfl rfl (by decide +kernel) ?_
                exact z_iret hX hR (by decide +kernel) (Pm_ref (w := 9) (x := (z - (c 1))) (by unfold aSpangle; rw [if_pos h1]; rw [if_pos h2]; rw [if_pos h3]; (try simp only [Int.toNat_natCast]); rw [show (rSew c a k z : zr) = some (9, (z - (c 1))) from (by unfold rSew rPacked rSore rFew rNoSp rHours rThread; rw [if_neg (by omega)]; rw [if_neg (by omega)]; rw [if_neg (by omega)]; rw [if_pos (by omega)]; (first | done | rfl | exact congrArg some (Prod.ext rfl (by dsimp only; omega))))]; rfl) hM (cd3_3 ne_UO_IB ne_UO_IA))
            · refine z_b hX fo_X11 [.aload_n 0, .iconst 3, .bipush 8, .aload_n 0, .iload_n 2, .iconst 2] 112 (by decide +kernel) rfl ?_
              refine z_cV hX m_X11_of l_X11_84 p_X11_of (c_of2 (k := k) (by omega)) rfl rfl rfl rfl rfl rfl (by decide +kernel) ?_
              refine z_cV hX m_X11_refuses l_X11_63 p_X11_refuses c_X11_refuses rfl rfl rfl rfl rfl rfl (by decide +kernel) ?_
              exact z_iret hX hR (by decide +kernel) (Pm_ref (w := 8) (x := (c (37 + k))) (by unfold aSpangle; rw [if_pos h1]; rw [if_pos h2]; rw [if_pos h3]; (try simp only [Int.toNat_natCast]); rw [show (rSew c a k z : zr) = some (8, (c (37 + k))) from (by unfold rSew rPacked rSore rFew rNoSp rHours rThread; rw [if_neg (by omega)]; rw [if_neg (by omega)]; rw [if_pos (by omega)]; (first | done | rfl | exact congrArg some (Prod.ext rfl (by dsimp only; omega))))]; rfl) hM (cd3_3 ne_UO_IB ne_UO_IA))
          · refine z_b hX fo_X11 [.aload_n 0, .iconst 3, .iconst 4, .aload_n 0, .iload_n 1, .iconst 1] 83 (by decide +kernel) rfl ?_
            refine z_cV hX m_X11_ofWoman l_X11_106 p_X11_ofWoman (c_ofWoman1 (k := a) (by omega)) rfl rfl rfl rfl rfl rfl (by decide +kernel) ?_
            refine z_b hX fo_X11 [.bipush 6, .isub, .iconst 1, .iadd] 91 (by decide +kernel) rfl ?_
            refine z_cV hX m_X11_refuses l_X11_63 p_X11_refuses c_X11_refuses rfl rfl rfl rfl rfl rfl (by decide +kernel) ?_
            exact z_iret hX hR (by decide +kernel) (Pm_ref (w := 4) (x := (((c (113 + a)) - 6) + 1)) (by unfold aSpangle; rw [if_pos h1]; rw [if_pos h2]; rw [if_pos h3]; (try simp only [Int.toNat_natCast]); rw [show (rSew c a k z : zr) = some (4, (((c (113 + a)) - 6) + 1)) from (by unfold rSew rPacked rSore rFew rNoSp rHours rThread; rw [if_neg (by omega)]; rw [if_pos (by omega)]; (first | done | rfl | exact congrArg some (Prod.ext rfl (by dsimp only; omega))))]; rfl) hM (cd3_3 ne_UO_IB ne_UO_IA))
        · refine z_b hX fo_X11 [.aload_n 0, .iconst 3, .iconst 3, .aload_n 0, .iload_n 2, .iconst 4] 59 (by decide +kernel) rfl ?_
          refine z_cV hX m_X11_of l_X11_84 p_X11_of (c_of4 (k := k) (by omega)) rfl rfl rfl rfl rfl rfl (by decide +kernel) ?_
          refine z_cV hX m_X11_refuses l_X11_63 p_X11_refuses c_X11_refuses rfl rfl rfl rfl rfl rfl (by decide +kernel) ?_
          exact z_iret hX hR (by decide +kernel) (Pm_ref (w := 3) (x := (c (61 + k))) (by unfold aSpangle; rw [if_pos h1]; rw [if_pos h2]; rw [if_pos h3]; (try simp only [Int.toNat_natCast]); rw [show (rSew c a k z : zr) = some (3, (c (61 + k))) from (by unfold rSew rPacked rSore rFew rNoSp rHours rThread;  rw [if_pos (by omega)]; (first | done | rfl | exact congrArg some (Prod.ext rfl (by dsimp only; omega))))]; rfl) hM (cd3_3 ne_UO_IB ne_UO_IA))
      · rw [if_neg h3]
        refine z_if_eq hX (off := 7) 35 (by decide +kernel) (by decide) ⟨by decide, by decide⟩ (fun c28 => ?_) (fun c28 => by exact absurd c28 (by decide))
        refine z_b hX fo_X11 [.iconst 2] 36 (by decide +kernel) rfl ?_
        refine z_cV hX m_X11_fails l_X11_59 p_X11_fails (c_fails1 ⟨by decide, by decide⟩) rfl rfl rfl rfl rfl rfl (by decide +kernel) ?_
        refine z_if_eq hX (off := 5) 44 (by decide +kernel) (by decide) ⟨by decide, by decide⟩ (fun c39 => by exact absurd c39 (by decide)) (fun c39 => ?_)
        refine z_b hX fo_X11 [.iconst 0] 43 (by decide +kernel) rfl ?_
        exact z_iret hX hR (by decide +kernel) (Pm_fail (e := eIA) (by unfold aSpangle; rw [if_pos h1]; rw [if_pos h2]; rw [if_neg h3]; (try simp only [Int.toNat_natCast]); rfl) ne_IA_UO hM (cd3_2 ne_IA_IB))
    · rw [if_neg h2]
      refine z_if_ne hX (off := 7) 21 (by decide +kernel) (by decide) ⟨by decide, by decide⟩ (fun c14 => by exact absurd c14 (by decide)) (fun c14 => ?_)
      refine z_b hX fo_X11 [.iconst 1] 18 (by decide +kernel) rfl ?_
      refine z_goto hX (off := 18) 36 (by decide +kernel) (by decide) ?_
      refine z_cV hX m_X11_fails l_X11_59 p_X11_fails (c_fails1 ⟨by decide, by decide⟩) rfl rfl rfl rfl rfl rfl (by decide +kernel) ?_
      refine z_if_eq hX (off := 5) 44 (by decide +kernel) (by decide) ⟨by decide, by decide⟩ (fun c39 => by exact absurd c39 (by decide)) (fun c39 => ?_)
      refine z_b hX fo_X11 [.iconst 0] 43 (by decide +kernel) rfl ?_
      exact z_iret hX hR (by decide +kernel) (Pm_fail (e := eIB) (by unfold aSpangle; rw [if_pos h1]; rw [if_neg h2]; (try simp only [Int.toNat_natCast]); rfl) ne_IB_UO hM cd3_1)
  · rw [if_neg h1]
    refine z_if_eq hX (off := 11) 17 (by decide +kernel) (by decide) ⟨by decide, by decide⟩ (fun c6 => ?_) (fun c6 => by exact absurd c6 (by decide))
    refine z_b hX fo_X11 [.iconst 1] 18 (by decide +kernel) rfl ?_
    refine z_goto hX (off := 18) 36 (by decide +kernel) (by decide) ?_
    refine z_cV hX m_X11_fails l_X11_59 p_X11_fails (c_fails1 ⟨by decide, by decide⟩) rfl rfl rfl rfl rfl rfl (by decide +kernel) ?_
    refine z_if_eq hX (off := 5) 44 (by decide +kernel) (by decide) ⟨by decide, by decide⟩ (fun c39 => by exact absurd c39 (by decide)) (fun c39 => ?_)
    refine z_b hX fo_X11 [.iconst 0] 43 (by decide +kernel) rfl ?_
    exact z_iret hX hR (by decide +kernel) (Pm_fail (e := eIB) (by unfold aSpangle; rw [if_neg h1]; (try simp only [Int.toNat_natCast]); rfl) ne_IB_UO hM cd3_1)
set_option maxHeartbeats 1000000 in
theorem c_X11_letOut {E : zE} {x y D : Int} {R : aQ} {σ : Nat → Nat → Int} {c : Nat → Int} {l : (Nat → Int64) × (Nat → UInt64)} {w : Bool} (hI : AI D c R) (hM : MR R σ) (hw : σ 32 6 = wi w) (h_x : zi x) (h_y : zi y) : Mb E yX11_letOut (Cond.code yX11_letOut cX11_letOut 3 (Option.some FieldType.int)) 2 [vr 32, vi x, vi y] (σ) (c) (l) (aLetOut w c R x y) ((cd2 eIB eUO)) := by
  refine Ctr_of (own := RX11) (by decide +kernel) rfl rfl (fun Y hX hR hnx => ?_)
  have g8 := hI.1.1.coats
  have g9 := hI.1.1.acts
  have g10 := hI.1.1.women
  have g11 := hI.1.1.trunks
  have g12 := hI.1.1.loaded
  have g1 := hI.1.1.g1
  have g2 := hI.1.1.g2
  have g3 := hI.1.1.g3
  refine z_b hX fo_X11 [.aload_n 0, .aload_n 0, .iload_n 1] 3 (by decide +kernel) rfl ?_
  refine z_cV hX m_X11_isWoman l_X11_103 p_X11_isWoman (c_X11_isWoman h_x ⟨by omega, by omega⟩) rfl rfl rfl rfl rfl rfl (by decide +kernel) ?_
  by_cases h1 : hW c x
  · rw [if_pos h1]
    obtain ⟨a, rfl⟩ : ∃ z : Nat, x = (z : Int) := ⟨x.toNat, by omega⟩
    refine z_if_eq hX (off := 15) 21 (by decide +kernel) (by decide) ⟨by decide, by decide⟩ (fun c6 => by exact absurd c6 (by decide)) (fun c6 => ?_)
    refine z_b hX fo_X11 [.aload_n 0, .iload_n 2] 11 (by decide +kernel) rfl ?_
    refine z_cV hX m_X11_isCoat l_X11_81 p_X11_isCoat (c_X11_isCoat h_y ⟨by omega, by omega⟩) rfl rfl rfl rfl rfl rfl (by decide +kernel) ?_
    by_cases h2 : hC c y
    · rw [if_pos h2]
      obtain ⟨k, rfl⟩ : ∃ z : Nat, y = (z : Int) := ⟨y.toNat, by omega⟩
      refine z_if_eq hX (off := 7) 21 (by decide +kernel) (by decide) ⟨by decide, by decide⟩ (fun c14 => by exact absurd c14 (by decide)) (fun c14 => ?_)
      refine z_b hX fo_X11 [.iconst 0] 18 (by decide +kernel) rfl ?_
      refine z_goto hX (off := 4) 22 (by decide +kernel) (by decide) ?_
      refine z_cV hX m_X11_fails l_X11_59 p_X11_fails (c_fails0 rfl) rfl rfl rfl rfl rfl rfl (by decide +kernel) ?_
      refine z_if_eq hX (off := 5) 30 (by decide +kernel) (by decide) ⟨by decide, by decide⟩ (fun c25 => ?_) (fun c25 => by exact absurd c25 (by decide))
      refine z_b hX fo_X11 [.aload_n 0, .iload_n 2, .iconst 4] 33 (by decide +kernel) rfl ?_
      refine z_cV hX m_X11_of l_X11_84 p_X11_of (c_of4 (k := k) (by omega)) rfl rfl rfl rfl rfl rfl (by decide +kernel) ?_
      have s0 := hI.1.1.tr (k := k) (by omega)
      have s5 := hI.1.1.sore (k := a) (by omega)
      have s1 := hI.1.1.rips (k := k) (by omega)
      have s2 := hI.1.1.miss (k := k) (by omega)
      have s3 := hI.1.1.size (k := k) (by omega)
      have s4 := hI.1.1.hours (k := a) (by omega)
      refine z_if_lt hX (off := 16) 52 (by decide +kernel) (by decide) ⟨by omega, by omega⟩ (fun c36 => ?_) (fun c36 => ?_)
      · refine z_b hX fo_X11 [.aload_n 0, .iload_n 1, .iconst 1] 55 (by decide +kernel) rfl ?_
        refine z_cV hX m_X11_ofWoman l_X11_106 p_X11_ofWoman (c_ofWoman1 (k := a) (by omega)) rfl rfl rfl rfl rfl rfl (by decide +kernel) ?_
        refine z_b hX fo_X11 [.bipush 6] 60 (by decide +kernel) rfl ?_
        refine z_ic_lt hX (off := 21) 81 (by decide +kernel) (by decide) ⟨by omega, by omega⟩ ⟨by omega, by omega⟩ (fun c60 => ?_) (fun c60 => ?_)
        · refine z_b hX fo_X11 [.aload_n 0, .iload_n 2, .iconst 0] 84 (by decide +kernel) rfl ?_
          refine z_cV hX m_X11_of l_X11_84 p_X11_of (c_of0 (k := k) (by omega)) rfl rfl rfl rfl rfl rfl (by decide +kernel) ?_
          refine z_b hX fo_X11 [.bipush 70] 89 (by decide +kernel) rfl ?_
          refine z_ic_ne hX (off := 13) 102 (by decide +kernel) (by decide) ⟨by omega, by omega⟩ ⟨by omega, by omega⟩ (fun c89 => ?_) (fun c89 => ?_)
          · refine z_b hX fo_X11 [.aload_n 0, .iload_n 1, .iconst 2, .iconst 2, .iconst 3] 107 (by decide +kernel) rfl ?_
            rcases (show (2 ≤ c (109 + a) ∧ 3 ≤ c 2) ∨ c (109 + a) < 2 ∨ (2 ≤ c (109 + a) ∧ c 2 < 3) by omega) with ⟨q1, q2⟩ | q1 | ⟨q1, q2⟩
            · refine z_cV hX m_X11_lacks l_X11_109 p_X11_lacks (c_lacks_n (hI.1.1) (w := a) (h := 2) (t := 3) (by omega) ⟨by decide, by decide⟩ ⟨by decide, by decide⟩ q1 q2) rfl rfl rfl rfl rfl rfl (by decide +kernel) ?_
              refine z_if_eq hX (off := 5) 115 (by decide +kernel) (by decide) ⟨by decide, by decide⟩ (fun c110 => ?_) (fun c110 => by exact absurd c110 (by decide))
              refine z_b hX fo_X11 [.aload_n 0, .aload_n 0, .getfield 7] 120 (by decide +kernel) rfl ?_
              obtain ⟨σ1, hkp, hM1, hc1, hF1⟩ := m_keep (E := E) (l := l) hI hM hw
              refine z_cV0 hX m_X11_keeps l_X11_67 p_X11_keeps hkp rfl rfl rfl rfl rfl rfl (by decide +kernel) ?_
              refine z_b hX fo_X11 [.aload_n 0, .iload_n 1, .iconst 2, .iconst 3] 127 (by decide +kernel) rfl ?_
              refine z_cV0 hX m_X11_sews l_X11_113 p_X11_sews (c_X11_sews hI.1.1 (by omega)) rfl rfl rfl rfl rfl rfl (by decide +kernel) ?_
              refine z_b hX fo_X11 [.aload_n 0, .iload_n 2, .iconst 0, .aload_n 0, .iload_n 2, .iconst 0] 136 (by decide +kernel) rfl ?_
              refine z_cV hX m_X11_of l_X11_84 p_X11_of (c_of0 (k := k) (by omega)) rfl rfl rfl rfl rfl rfl (by decide +kernel) ?_
              refine z_b hX fo_X11 [.iconst 1, .iadd] 141 (by decide +kernel) rfl ?_
              refine z_cV0 hX m_X11_lays l_X11_71 p_X11_lays (c_lays0 (k := k) (by omega)) rfl rfl rfl rfl rfl rfl (by decide +kernel) ?_
              refine z_b hX fo_X11 [.aload_n 0, .iload_n 2, .iconst 0] 147 (by decide +kernel) rfl ?_
              refine z_cV hX m_X11_of l_X11_84 p_X11_of (c_of0 (k := k) (by omega)) rfl rfl rfl rfl rfl rfl (by decide +kernel) ?_
              exact z_iret hX hR (by decide +kernel) (Pm_ok (v := c (13 + k) + 1) (c' := sWiden c a k) (by unfold aLetOut; rw [if_pos h1]; rw [if_pos h2]; (try simp only [Int.toNat_natCast]); rw [show (rWiden c a k : zr) = none from (by unfold rWiden rPacked rSore rWide rHours rThread; rw [if_neg (by omega)]; rw [if_neg (by omega)]; rw [if_neg (by omega)]; rw [if_neg (by omega)]; rw [if_neg (by omega)]; (first | done | rfl))]; rfl) (by rw [va_e, if_pos rfl]; unfold mSews ad; rw [vne (by omega), sSpend_o (by omega) (by omega) (by omega)]) σ1 (congrArg (fun z => (zs σ1 33 (gm z), l)) rfl) hM1 hc1 hF1)
            · refine z_cV hX m_X11_lacks l_X11_109 p_X11_lacks (c_lacks_h (hI.1.1) (w := a) (h := 2) (t := 3) (by omega) ⟨by decide, by decide⟩ ⟨by decide, by decide⟩ q1) rfl rfl rfl rfl rfl rfl (by decide +kernel) ?_
              refine z_if_eq hX (off := 5) 115 (by decide +kernel) (by decide) ⟨by decide, by decide⟩ (fun c110 => by exact absurd c110 (by decide)) (fun c110 => ?_)
              refine z_b hX fo_X11 [.iconst 0] 114 (by decide +kernel) rfl ?_
              exact z_iret hX hR (by decide +kernel) (Pm_ref (w := 5) (x := (2 - c (109 + a))) (by unfold aLetOut; rw [if_pos h1]; rw [if_pos h2]; (try simp only [Int.toNat_natCast]); rw [show (rWiden c a k : zr) = some (5, (2 - c (109 + a))) from (by unfold rWiden rPacked rSore rWide rHours rThread; rw [if_neg (by omega)]; rw [if_neg (by omega)]; rw [if_neg (by omega)]; rw [if_pos (by omega)]; (first | done | rfl | exact congrArg some (Prod.ext rfl (by dsimp only; omega))))]; rfl) hM (cd2_2 ne_UO_IB))
            · refine z_cV hX m_X11_lacks l_X11_109 p_X11_lacks (c_lacks_t (hI.1.1) (w := a) (h := 2) (t := 3) (by omega) ⟨by decide, by decide⟩ ⟨by decide, by decide⟩ q1 q2) rfl rfl rfl rfl rfl rfl (by decide +kernel) ?_
              refine z_if_eq hX (off := 5) 115 (by decide +kernel) (by decide) ⟨by decide, by decide⟩ (fun c110 => by exact absurd c110 (by decide)) (fun c110 => ?_)
              refine z_b hX fo_X11 [.iconst 0] 114 (by decide +kernel) rfl ?_
              exact z_iret hX hR (by decide +kernel) (Pm_ref (w := 7) (x := (3 - c 2)) (by unfold aLetOut; rw [if_pos h1]; rw [if_pos h2]; (try simp only [Int.toNat_natCast]); rw [show (rWiden c a k : zr) = some (7, (3 - c 2)) from (by unfold rWiden rPacked rSore rWide rHours rThread; rw [if_neg (by omega)]; rw [if_neg (by omega)]; rw [if_neg (by omega)]; rw [if_neg (by omega)]; rw [if_pos (by omega)]; (first | done | rfl | exact congrArg some (Prod.ext rfl (by dsimp only; omega))))]; rfl) hM (cd2_2 ne_UO_IB))
          · refine z_b hX fo_X11 [.aload_n 0, .iconst 2, .bipush 10, .bipush 70] 98 (by decide +kernel) rfl ?_
            refine z_cV hX m_X11_refuses l_X11_63 p_X11_refuses c_X11_refuses rfl rfl rfl rfl rfl rfl (by decide +kernel) ?_
            exact z_iret hX hR (by decide +kernel) (Pm_ref (w := 10) (x := 70) (by unfold aLetOut; rw [if_pos h1]; rw [if_pos h2]; (try simp only [Int.toNat_natCast]); rw [show (rWiden c a k : zr) = some (10, 70) from (by unfold rWiden rPacked rSore rWide rHours rThread; rw [if_neg (by omega)]; rw [if_neg (by omega)]; rw [if_pos (by omega)]; (first | done | rfl | exact congrArg some (Prod.ext rfl (by dsimp only; omega))))]; rfl) hM (cd2_2 ne_UO_IB))
        · refine z_b hX fo_X11 [.aload_n 0, .iconst 2, .iconst 4, .aload_n 0, .iload_n 1, .iconst 1] 69 (by decide +kernel) rfl ?_
          refine z_cV hX m_X11_ofWoman l_X11_106 p_X11_ofWoman (c_ofWoman1 (k := a) (by omega)) rfl rfl rfl rfl rfl rfl (by decide +kernel) ?_
          refine z_b hX fo_X11 [.bipush 6, .isub, .iconst 1, .iadd] 77 (by decide +kernel) rfl ?_
          refine z_cV hX m_X11_refuses l_X11_63 p_X11_refuses c_X11_refuses rfl rfl rfl rfl rfl rfl (by decide +kernel) ?_
          exact z_iret hX hR (by decide +kernel) (Pm_ref (w := 4) (x := (((c (113 + a)) - 6) + 1)) (by unfold aLetOut; rw [if_pos h1]; rw [if_pos h2]; (try simp only [Int.toNat_natCast]); rw [show (rWiden c a k : zr) = some (4, (((c (113 + a)) - 6) + 1)) from (by unfold rWiden rPacked rSore rWide rHours rThread; rw [if_neg (by omega)]; rw [if_pos (by omega)]; (first | done | rfl | exact congrArg some (Prod.ext rfl (by dsimp only; omega))))]; rfl) hM (cd2_2 ne_UO_IB))
      · refine z_b hX fo_X11 [.aload_n 0, .iconst 2, .iconst 3, .aload_n 0, .iload_n 2, .iconst 4] 45 (by decide +kernel) rfl ?_
        refine z_cV hX m_X11_of l_X11_84 p_X11_of (c_of4 (k := k) (by omega)) rfl rfl rfl rfl rfl rfl (by decide +kernel) ?_
        refine z_cV hX m_X11_refuses l_X11_63 p_X11_refuses c_X11_refuses rfl rfl rfl rfl rfl rfl (by decide +kernel) ?_
        exact z_iret hX hR (by decide +kernel) (Pm_ref (w := 3) (x := (c (61 + k))) (by unfold aLetOut; rw [if_pos h1]; rw [if_pos h2]; (try simp only [Int.toNat_natCast]); rw [show (rWiden c a k : zr) = some (3, (c (61 + k))) from (by unfold rWiden rPacked rSore rWide rHours rThread;  rw [if_pos (by omega)]; (first | done | rfl | exact congrArg some (Prod.ext rfl (by dsimp only; omega))))]; rfl) hM (cd2_2 ne_UO_IB))
    · rw [if_neg h2]
      refine z_if_eq hX (off := 7) 21 (by decide +kernel) (by decide) ⟨by decide, by decide⟩ (fun c14 => ?_) (fun c14 => by exact absurd c14 (by decide))
      refine z_b hX fo_X11 [.iconst 1] 22 (by decide +kernel) rfl ?_
      refine z_cV hX m_X11_fails l_X11_59 p_X11_fails (c_fails1 ⟨by decide, by decide⟩) rfl rfl rfl rfl rfl rfl (by decide +kernel) ?_
      refine z_if_eq hX (off := 5) 30 (by decide +kernel) (by decide) ⟨by decide, by decide⟩ (fun c25 => by exact absurd c25 (by decide)) (fun c25 => ?_)
      refine z_b hX fo_X11 [.iconst 0] 29 (by decide +kernel) rfl ?_
      exact z_iret hX hR (by decide +kernel) (Pm_fail (e := eIB) (by unfold aLetOut; rw [if_pos h1]; rw [if_neg h2]; (try simp only [Int.toNat_natCast]); rfl) ne_IB_UO hM cd2_1)
  · rw [if_neg h1]
    refine z_if_eq hX (off := 15) 21 (by decide +kernel) (by decide) ⟨by decide, by decide⟩ (fun c6 => ?_) (fun c6 => by exact absurd c6 (by decide))
    refine z_b hX fo_X11 [.iconst 1] 22 (by decide +kernel) rfl ?_
    refine z_cV hX m_X11_fails l_X11_59 p_X11_fails (c_fails1 ⟨by decide, by decide⟩) rfl rfl rfl rfl rfl rfl (by decide +kernel) ?_
    refine z_if_eq hX (off := 5) 30 (by decide +kernel) (by decide) ⟨by decide, by decide⟩ (fun c25 => by exact absurd c25 (by decide)) (fun c25 => ?_)
    refine z_b hX fo_X11 [.iconst 0] 29 (by decide +kernel) rfl ?_
    exact z_iret hX hR (by decide +kernel) (Pm_fail (e := eIB) (by unfold aLetOut; rw [if_neg h1]; (try simp only [Int.toNat_natCast]); rfl) ne_IB_UO hM cd2_1)
