/-! ===== the model: what comes ahead ===== -/
theorem zdtt_a {c : Nat → Int} {a : Nat} (h : c (97 + a) = -1) : zdtt c a = -1 := if_pos h
theorem zdtt_b {c : Nat → Int} {a k : Nat} (h : c (97 + a) = (k : Int)) (h2 : c (85 + a) ≤ c (13 + k)) (h3 : c (91 + a) ≤ 0) : zdtt c a = -1 := by
  unfold zdtt
  rw [if_neg (by omega), show (c (97 + a)).toNat = k by omega, if_neg (by omega), if_pos h3]
theorem zdtt_c {c : Nat → Int} {a k : Nat} (h : c (97 + a) = (k : Int)) (h2 : c (13 + k) < c (85 + a)) : zdtt c a = 0 := by
  unfold zdtt
  rw [if_neg (by omega), show (c (97 + a)).toNat = k by omega, if_pos (by omega)]
theorem zdtt_d {c : Nat → Int} {a k : Nat} (h : c (97 + a) = (k : Int)) (h2 : c (85 + a) ≤ c (13 + k)) (h3 : 0 < c (91 + a)) : zdtt c a = ((c (13 + k) - c (85 + a)) / c (91 + a) + 1) * 7 - c 0 % 7 := by
  unfold zdtt
  rw [if_neg (by omega), show (c (97 + a)).toNat = k by omega, if_neg (by omega), if_neg (by omega)]
theorem tt {e g d n : Int} (hg : 1 ≤ g ∧ g ≤ 3) (he : 0 ≤ e ∧ e ≤ 100) (hd : 0 ≤ d ∧ d < 7) (hn : 0 ≤ n) : (n < (e / g + 1) * 7 - d → g * ((d + n) / 7) ≤ e) ∧ (n = (e / g + 1) * 7 - d → e < g * ((d + n) / 7)) ∧ 1 ≤ (e / g + 1) * 7 - d ∧ (e / g + 1) * 7 - d ≤ 1000 ∧ 0 ≤ g * ((d + n) / 7) ∧ (n ≤ 2000 → g * ((d + n) / 7) ≤ 10000) := by
  rcases (show g = 1 ∨ g = 2 ∨ g = 3 by omega) with rfl | rfl | rfl
  · omega
  · omega
  · omega
theorem tt2 {g d n : Int} (h : (d + (n + 1)) % 7 = 0) (hd : 0 ≤ d) (hn : 0 ≤ n) : g * ((d % 7 + (n + 1)) / 7) = g * ((d % 7 + n) / 7) + g := by
  rw [show (d % 7 + (n + 1)) / 7 = (d % 7 + n) / 7 + 1 by omega, Int.mul_add, Int.mul_one]
theorem tt3 {g d n : Int} (h : (d + (n + 1)) % 7 ≠ 0) (hd : 0 ≤ d) (hn : 0 ≤ n) : g * ((d % 7 + (n + 1)) / 7) = g * ((d % 7 + n) / 7) := by
  rw [show (d % 7 + (n + 1)) / 7 = (d % 7 + n) / 7 by omega]
set_option maxHeartbeats 1000000 in
theorem c_X11_tightIn {E : zE} {x D : Int} {R : aQ} {σ : Nat → Nat → Int} {c : Nat → Int} {l : (Nat → Int64) × (Nat → UInt64)} {w : Bool} (hI : AI D c R) (hM : MR R σ) (hw : σ 32 6 = wi w) (h_x : zi x) (hD : D ≤ 1000000) : Mb E yX11_tightIn (Cond.code yX11_tightIn cX11_tightIn 6 (Option.some FieldType.int)) 2 [vr 32, vi x] (σ) (c) (l) (aTight c R x) ((cd2 eIB eNS)) := by
  refine Ctr_of (own := RX11) (by decide +kernel) rfl rfl (fun Y hX hR hnx => ?_)
  have g8 := hI.1.1.coats
  have g9 := hI.1.1.acts
  have g10 := hI.1.1.women
  have g11 := hI.1.1.trunks
  have g12 := hI.1.1.loaded
  have g1 := hI.1.1.g1
  have g2 := hI.1.1.g2
  have g3 := hI.1.1.g3
  refine z_b hX fo_X11 [.aload_n 0, .aload_n 0, .iload_n 1] 3 (by decide +kernel) rfl ?_
  refine z_cV hX m_X11_isAct l_X11_78 p_X11_isAct (c_X11_isAct h_x ⟨by omega, by omega⟩) rfl rfl rfl rfl rfl rfl (by decide +kernel) ?_
  by_cases h1 : hA c x
  · rw [if_pos h1]
    obtain ⟨a, rfl⟩ : ∃ z : Nat, x = (z : Int) := ⟨x.toNat, by omega⟩
    refine z_if_eq hX (off := 7) 13 (by decide +kernel) (by decide) ⟨by decide, by decide⟩ (fun c6 => by exact absurd c6 (by decide)) (fun c6 => ?_)
    refine z_b hX fo_X11 [.iconst 0] 10 (by decide +kernel) rfl ?_
    refine z_goto hX (off := 4) 14 (by decide +kernel) (by decide) ?_
    refine z_cV hX m_X11_fails l_X11_59 p_X11_fails (c_fails0 rfl) rfl rfl rfl rfl rfl rfl (by decide +kernel) ?_
    refine z_if_eq hX (off := 5) 22 (by decide +kernel) (by decide) ⟨by decide, by decide⟩ (fun c17 => ?_) (fun c17 => by exact absurd c17 (by decide))
    refine z_b hX fo_X11 [.aload_n 0, .iload_n 1, .iconst 2] 25 (by decide +kernel) rfl ?_
    refine z_cV hX m_X11_ofAct l_X11_88 p_X11_ofAct (c_ofAct2 (k := a) (by omega)) rfl rfl rfl rfl rfl rfl (by decide +kernel) ?_
    have ga := hI.1.1.acoat (k := a) (by omega)
    refine z_b hX fo_X11 [.istore_n 2, .aload_n 0, .iload_n 1, .iconst 0] 32 (by decide +kernel) rfl ?_
    refine z_cV hX m_X11_ofAct l_X11_88 p_X11_ofAct (c_ofAct0 (k := a) (by omega)) rfl rfl rfl rfl rfl rfl (by decide +kernel) ?_
    have s4 := hI.1.1.asize (k := a) (by omega)
    have s5 := hI.1.1.grow (k := a) (by omega)
    have sd := hI.1.1.day
    refine z_b hX fo_X11 [.istore_n 3, .iload_n 2] 37 (by decide +kernel) rfl ?_
    refine z_if_lt hX (off := 22) 59 (by decide +kernel) (by decide) ⟨by omega, by omega⟩ (fun c37 => ?_) (fun c37 => ?_)
    · refine z_b hX fo_X11 [.iconst 1] 60 (by decide +kernel) rfl ?_
      refine z_goto hX (off := 4) 64 (by decide +kernel) (by decide) ?_
      refine z_b hX fo_X11 [.istore 4, .aload_n 0, .iload 4] 69 (by decide +kernel) rfl ?_
      refine z_if_eq hX (off := 7) 76 (by decide +kernel) (by decide) ⟨by decide, by decide⟩ (fun c69 => by exact absurd c69 (by decide)) (fun c69 => ?_)
      refine z_b hX fo_X11 [.iconst 2] 73 (by decide +kernel) rfl ?_
      refine z_goto hX (off := 4) 77 (by decide +kernel) (by decide) ?_
      refine z_cV hX m_X11_fails l_X11_59 p_X11_fails (c_fails1 ⟨by decide, by decide⟩) rfl rfl rfl rfl rfl rfl (by decide +kernel) ?_
      rw [zco_co]
      refine z_if_eq hX (off := 5) 85 (by decide +kernel) (by decide) ⟨by decide, by decide⟩ (fun c80 => by exact absurd c80 (by decide)) (fun c80 => ?_)
      refine z_b hX fo_X11 [.iconst 0] 84 (by decide +kernel) rfl ?_
      exact z_iret hX hR (by decide +kernel) (Pm_fail (e := eNS) (by unfold aTight; rw [if_pos h1]; (try simp only [Int.toNat_natCast]); unfold fnd; rw [if_pos (show zdtt c a = -1 from zdtt_a (by omega))]; (try simp only [Int.toNat_natCast]); rfl) ne_NS_UO hM (cd2_2 ne_NS_IB))
    · obtain ⟨k, hk, j1, j2, j3⟩ := hI.1.2.1.2 a (by omega) (by omega) (by omega)
      rw [j1]
      have s3 := hI.1.1.size (k := k) (by omega)
      refine z_b hX fo_X11 [.iload_n 3, .aload_n 0, .iload_n 2, .iconst 0] 44 (by decide +kernel) rfl ?_
      refine z_cV hX m_X11_of l_X11_84 p_X11_of (c_of0 (k := k) (by omega)) rfl rfl rfl rfl rfl rfl (by decide +kernel) ?_
      refine z_ic_gt hX (off := 16) 63 (by decide +kernel) (by decide) ⟨by omega, by omega⟩ ⟨by omega, by omega⟩ (fun c47 => ?_) (fun c47 => ?_)
      · refine z_b hX fo_X11 [.iconst 0, .istore 4, .aload_n 0, .iload 4] 69 (by decide +kernel) rfl ?_
        refine z_if_eq hX (off := 7) 76 (by decide +kernel) (by decide) ⟨by decide, by decide⟩ (fun c69 => ?_) (fun c69 => by exact absurd c69 (by decide))
        refine z_b hX fo_X11 [.iconst 0] 77 (by decide +kernel) rfl ?_
        refine z_cV hX m_X11_fails l_X11_59 p_X11_fails (c_fails0 rfl) rfl rfl rfl rfl rfl rfl (by decide +kernel) ?_
        rw [zco_co]
        refine z_if_eq hX (off := 5) 85 (by decide +kernel) (by decide) ⟨by decide, by decide⟩ (fun c80 => ?_) (fun c80 => by exact absurd c80 (by decide))
        refine z_b hX fo_X11 [.iconst 0, .istore 5, .iload_n 3, .aload_n 0, .iload_n 2, .iconst 0] 92 (by decide +kernel) rfl ?_
        refine z_cV hX m_X11_of l_X11_84 p_X11_of (c_of0 (k := k) (by omega)) rfl rfl rfl rfl rfl rfl (by decide +kernel) ?_
        refine z_ic_gt hX (off := 38) 133 (by decide +kernel) (by decide) ⟨by omega, by omega⟩ ⟨by omega, by omega⟩ (fun c95 => ?_) (fun c95 => by exfalso; omega)
        refine z_b hX fo_X11 [.iload 5] 135 (by decide +kernel) rfl ?_
        exact z_iret hX hR (by decide +kernel) (Pm_que (v := zdtt c a) (by unfold aTight; rw [if_pos h1]; (try simp only [Int.toNat_natCast]); unfold fnd; rw [if_neg (show zdtt c a ≠ -1 by rw [zdtt_c j1 (by omega)]; decide)]; rfl) (zdtt_c j1 (by omega)) hM)
      · refine z_b hX fo_X11 [.aload_n 0, .iload_n 1, .iconst 1] 53 (by decide +kernel) rfl ?_
        refine z_cV hX m_X11_ofAct l_X11_88 p_X11_ofAct (c_ofAct1 (k := a) (by omega)) rfl rfl rfl rfl rfl rfl (by decide +kernel) ?_
        refine z_if_ne hX (off := 7) 63 (by decide +kernel) (by decide) ⟨by omega, by omega⟩ (fun c56 => ?_) (fun c56 => ?_)
        · refine z_b hX fo_X11 [.iconst 0, .istore 4, .aload_n 0, .iload 4] 69 (by decide +kernel) rfl ?_
          refine z_if_eq hX (off := 7) 76 (by decide +kernel) (by decide) ⟨by decide, by decide⟩ (fun c69 => ?_) (fun c69 => by exact absurd c69 (by decide))
          refine z_b hX fo_X11 [.iconst 0] 77 (by decide +kernel) rfl ?_
          refine z_cV hX m_X11_fails l_X11_59 p_X11_fails (c_fails0 rfl) rfl rfl rfl rfl rfl rfl (by decide +kernel) ?_
          rw [zco_co]
          refine z_if_eq hX (off := 5) 85 (by decide +kernel) (by decide) ⟨by decide, by decide⟩ (fun c80 => ?_) (fun c80 => by exact absurd c80 (by decide))
          refine z_b hX fo_X11 [.iconst 0, .istore 5] 88 (by decide +kernel) rfl ?_
          have hv := zdtt_d j1 (by omega) (by omega)
          have ht0 := tt (e := c (13 + k) - c (85 + a)) (g := c (91 + a)) (d := c 0 % 7) (n := 0) ⟨by omega, by omega⟩ ⟨by omega, by omega⟩ ⟨by omega, by omega⟩ (by omega)
          have loop : ∀ (m : Nat) (n s : Int), 0 ≤ n → n + (m : Int) = zdtt c a → s = c (85 + a) + c (91 + a) * (((c 0 % 7) + n) / 7) → Z (E, Y) 0 88 [(5, vi n), (4, vi 0), (3, vi s), (2, vi (k : Int)), (0, vr 32), (1, vi (a : Int))] [] (zs (zco σ 0) 33 (gm c), l) := by
            intro m
            induction m with
            | zero =>
              intro n s hn hm hs
              have ht := tt (e := c (13 + k) - c (85 + a)) (g := c (91 + a)) (d := c 0 % 7) (n := n) ⟨by omega, by omega⟩ ⟨by omega, by omega⟩ ⟨by omega, by omega⟩ hn
              refine z_b hX fo_X11 [.iload_n 3, .aload_n 0, .iload_n 2, .iconst 0] 92 (by decide +kernel) rfl ?_
              refine z_cV hX m_X11_of l_X11_84 p_X11_of (c_of0 (k := k) (by omega)) rfl rfl rfl rfl rfl rfl (by decide +kernel) ?_
              refine z_ic_gt hX (off := 38) 133 (by decide +kernel) (by decide) ⟨by omega, by omega⟩ ⟨by omega, by omega⟩ (fun c95 => ?_) (fun c95 => by exfalso; omega)
              refine z_b hX fo_X11 [.iload 5] 135 (by decide +kernel) rfl ?_
              exact z_iret hX hR (by decide +kernel) (Pm_que (v := zdtt c a) (by unfold aTight; rw [if_pos h1]; (try simp only [Int.toNat_natCast]); unfold fnd; rw [if_neg (show zdtt c a ≠ -1 by omega)]; rfl) (by omega) hM)
            | succ m ih =>
              intro n s hn hm hs
              have ht := tt (e := c (13 + k) - c (85 + a)) (g := c (91 + a)) (d := c 0 % 7) (n := n) ⟨by omega, by omega⟩ ⟨by omega, by omega⟩ ⟨by omega, by omega⟩ hn
              refine z_b hX fo_X11 [.iload_n 3, .aload_n 0, .iload_n 2, .iconst 0] 92 (by decide +kernel) rfl ?_
              refine z_cV hX m_X11_of l_X11_84 p_X11_of (c_of0 (k := k) (by omega)) rfl rfl rfl rfl rfl rfl (by decide +kernel) ?_
              refine z_ic_gt hX (off := 38) 133 (by decide +kernel) (by decide) ⟨by omega, by omega⟩ ⟨by omega, by omega⟩ (fun c95 => by exfalso; omega) (fun c95 => ?_)
              refine z_b hX fo_X11 [.iinc 5 1, .aload_n 0, .getfield 7, .iconst 0] 106 (by decide +kernel) rfl ?_
              refine z_ig hX (v := c 0) (0) rfl (by omega) (by omega) (by decide +kernel) ?_
              refine z_b hX fo_X11 [.iload 5, .iadd, .bipush 7] 112 (by decide +kernel) rfl ?_
              refine z_irem hX (by decide +kernel) (by omega) (by omega) ?_
              refine z_if_ne hX (off := (-25)) 88 (by decide +kernel) (by decide) ⟨by omega, by omega⟩ (fun c113 => ?_) (fun c113 => ?_)
              · first | (have t2 := tt2 (g := c (91 + a)) c113 (by omega) hn; exact z_lo [0, 1, 2, 3, 4, 5] (ih (n + 1) _ (by omega) (by omega) (by omega)) rfl) | (have t3 := tt3 (g := c (91 + a)) c113 (by omega) hn; exact z_lo [0, 1, 2, 3, 4, 5] (ih (n + 1) _ (by omega) (by omega) (by omega)) rfl)
              · refine z_b hX fo_X11 [.bipush 99, .iload_n 3, .aload_n 0, .iload_n 1, .iconst 1] 122 (by decide +kernel) rfl ?_
                refine z_cV hX m_X11_ofAct l_X11_88 p_X11_ofAct (c_ofAct1 (k := a) (by omega)) rfl rfl rfl rfl rfl rfl (by decide +kernel) ?_
                refine z_b hX fo_X11 [.iadd] 126 (by decide +kernel) rfl ?_
                refine z_cS hX m_X11_less l_X11_91 p_X11_less (c_X11_less ⟨by decide, by decide⟩ ⟨by omega, by omega⟩) rfl rfl rfl rfl (by decide +kernel) ?_
                rw [if_neg (show ¬ 99 < s + c (91 + a) by omega)]
                refine z_b hX fo_X11 [.istore_n 3] 130 (by decide +kernel) rfl ?_
                refine z_goto hX (off := (-42)) 88 (by decide +kernel) (by decide) ?_
                first | (have t2 := tt2 (g := c (91 + a)) c113 (by omega) hn; exact z_lo [1, 2, 0, 3, 4, 5] (ih (n + 1) _ (by omega) (by omega) (by omega)) rfl) | (have t3 := tt3 (g := c (91 + a)) c113 (by omega) hn; exact z_lo [1, 2, 0, 3, 4, 5] (ih (n + 1) _ (by omega) (by omega) (by omega)) rfl)
          exact z_lo [0, 1, 2, 3, 4, 5] (loop (zdtt c a).toNat 0 _ (by omega) (by omega) (by rw [show ((c 0 % 7) + 0) / 7 = 0 by omega, Int.mul_zero]; omega)) rfl
        · refine z_b hX fo_X11 [.iconst 1] 60 (by decide +kernel) rfl ?_
          refine z_goto hX (off := 4) 64 (by decide +kernel) (by decide) ?_
          refine z_b hX fo_X11 [.istore 4, .aload_n 0, .iload 4] 69 (by decide +kernel) rfl ?_
          refine z_if_eq hX (off := 7) 76 (by decide +kernel) (by decide) ⟨by decide, by decide⟩ (fun c69 => by exact absurd c69 (by decide)) (fun c69 => ?_)
          refine z_b hX fo_X11 [.iconst 2] 73 (by decide +kernel) rfl ?_
          refine z_goto hX (off := 4) 77 (by decide +kernel) (by decide) ?_
          refine z_cV hX m_X11_fails l_X11_59 p_X11_fails (c_fails1 ⟨by decide, by decide⟩) rfl rfl rfl rfl rfl rfl (by decide +kernel) ?_
          rw [zco_co]
          refine z_if_eq hX (off := 5) 85 (by decide +kernel) (by decide) ⟨by decide, by decide⟩ (fun c80 => by exact absurd c80 (by decide)) (fun c80 => ?_)
          refine z_b hX fo_X11 [.iconst 0] 84 (by decide +kernel) rfl ?_
          exact z_iret hX hR (by decide +kernel) (Pm_fail (e := eNS) (by unfold aTight; rw [if_pos h1]; (try simp only [Int.toNat_natCast]); unfold fnd; rw [if_pos (show zdtt c a = -1 from zdtt_b j1 (by omega) (by omega))]; (try simp only [Int.toNat_natCast]); rfl) ne_NS_UO hM (cd2_2 ne_NS_IB))
  · rw [if_neg h1]
    refine z_if_eq hX (off := 7) 13 (by decide +kernel) (by decide) ⟨by decide, by decide⟩ (fun c6 => ?_) (fun c6 => by exact absurd c6 (by decide))
    refine z_b hX fo_X11 [.iconst 1] 14 (by decide +kernel) rfl ?_
    refine z_cV hX m_X11_fails l_X11_59 p_X11_fails (c_fails1 ⟨by decide, by decide⟩) rfl rfl rfl rfl rfl rfl (by decide +kernel) ?_
    refine z_if_eq hX (off := 5) 22 (by decide +kernel) (by decide) ⟨by decide, by decide⟩ (fun c17 => by exact absurd c17 (by decide)) (fun c17 => ?_)
    refine z_b hX fo_X11 [.iconst 0] 21 (by decide +kernel) rfl ?_
    exact z_iret hX hR (by decide +kernel) (Pm_fail (e := eIB) (by unfold aTight; rw [if_neg h1]; (try simp only [Int.toNat_natCast]); rfl) ne_IB_UO hM cd2_1)
