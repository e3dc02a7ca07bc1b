/-! ===== the model: unpack, unload ===== -/
theorem zfnd_y {f : Nat → Int} {k : Int} : ∀ (m i : Nat), zfnd f k i m ≠ -1 → ∃ p, i ≤ p ∧ p < i + m ∧ f p = k ∧ (∀ j, i ≤ j → j < p → f j ≠ k) ∧ zfnd f k i m = (p : Int)
  | 0, i, h => absurd rfl h
  | m + 1, i, h => by
    have h3 : (if f i = k then (i : Int) else zfnd f k (i + 1) m) ≠ -1 := h
    by_cases e : f i = k
    · exact ⟨i, Nat.le_refl _, by omega, e, fun j q1 q2 => absurd q2 (by omega), if_pos e⟩
    · rw [if_neg e] at h3
      obtain ⟨p, h4, h5, h6, h7, h8⟩ := zfnd_y m (i + 1) h3
      refine ⟨p, by omega, by omega, h6, fun j q1 q2 => ?_, (if_neg e).trans h8⟩
      by_cases z : j = i
      · rw [z]; exact e
      · exact h7 j (by omega) q2
theorem plc_y {D : Int} {c : Nat → Int} {k t : Nat} (h : Inv D c) (hk : (k : Int) < c 8) (ht : c (61 + k) = (t : Int)) : t < 4 ∧ ∃ p q : Nat, plc c k = (p : Int) ∧ c (121 + t) = (q : Int) + 1 ∧ p ≤ q ∧ q < 5 ∧ c (129 + t * 5 + p) = (k : Int) ∧ ∀ j, j < p → c (129 + t * 5 + j) ≠ (k : Int) := by
  have g8 := h.1.coats
  have g11 := h.1.trunks
  have hu := plc_t h hk (by omega)
  have e : (c (61 + k)).toNat = t := by omega
  unfold plc at hu ⊢
  rw [e] at hu ⊢
  have ht4 : t < 4 := by omega
  obtain ⟨p, h1, h2, h3, h4, h5⟩ := zfnd_y (f := fun p => zcoat c t (p : Int)) (k := (k : Int)) 5 0 (by omega)
  have hz : ∀ j : Nat, (j : Int) < c (121 + t) → zcoat c t (j : Int) = c (129 + t * 5 + j) := fun j hj => by
    unfold zcoat
    rw [if_pos ⟨by omega, hj⟩, Int.toNat_natCast]
  have hp : (p : Int) < c (121 + t) := by omega
  refine ⟨ht4, p, (c (121 + t) - 1).toNat, h5, by omega, by omega, by omega, ?_, fun j hj => ?_⟩
  · rw [← hz p hp]; exact h3
  · rw [← hz j (by omega)]; exact h4 j (by omega) hj
set_option maxHeartbeats 1000000 in
theorem c_X11_unpack {E : zE} {x D : Int} {R : aQ} {σ : Nat → Nat → Int} {c : Nat → Int} {l : (Nat → Int64) × (Nat → UInt64)} {w : Bool} (hI : AI D c R) (hM : MR R σ) (hw : σ 32 6 = wi w) (h_x : zi x) : Mb E yX11_unpack (Cond.code yX11_unpack cX11_unpack 5 (Option.some FieldType.int)) 2 [vr 32, vi x] (σ) (c) (l) (aUnpack w c R x) ((cd2 eIB eUO)) := by
  refine Ctr_of (own := RX11) (by decide +kernel) rfl rfl (fun Y hX hR hnx => ?_)
  have g8 := hI.1.1.coats
  have g9 := hI.1.1.acts
  have g10 := hI.1.1.women
  have g11 := hI.1.1.trunks
  have g12 := hI.1.1.loaded
  have g1 := hI.1.1.g1
  have g2 := hI.1.1.g2
  have g3 := hI.1.1.g3
  refine z_b hX fo_X11 [.aload_n 0, .aload_n 0, .iload_n 1] 3 (by decide +kernel) rfl ?_
  refine z_cV hX m_X11_isCoat l_X11_81 p_X11_isCoat (c_X11_isCoat h_x ⟨by omega, by omega⟩) rfl rfl rfl rfl rfl rfl (by decide +kernel) ?_
  by_cases h1 : hC c x
  · rw [if_pos h1]
    obtain ⟨k, rfl⟩ : ∃ z : Nat, x = (z : Int) := ⟨x.toNat, by omega⟩
    refine z_if_eq hX (off := 7) 13 (by decide +kernel) (by decide) ⟨by decide, by decide⟩ (fun c6 => by exact absurd c6 (by decide)) (fun c6 => ?_)
    refine z_b hX fo_X11 [.iconst 0] 10 (by decide +kernel) rfl ?_
    refine z_goto hX (off := 4) 14 (by decide +kernel) (by decide) ?_
    refine z_cV hX m_X11_fails l_X11_59 p_X11_fails (c_fails0 rfl) rfl rfl rfl rfl rfl rfl (by decide +kernel) ?_
    refine z_if_eq hX (off := 5) 22 (by decide +kernel) (by decide) ⟨by decide, by decide⟩ (fun c17 => ?_) (fun c17 => by exact absurd c17 (by decide))
    refine z_b hX fo_X11 [.aload_n 0, .iload_n 1, .iconst 4] 25 (by decide +kernel) rfl ?_
    refine z_cV hX m_X11_of l_X11_84 p_X11_of (c_of4 (k := k) (by omega)) rfl rfl rfl rfl rfl rfl (by decide +kernel) ?_
    have s0 := hI.1.1.tr (k := k) (by omega)
    refine z_b hX fo_X11 [.istore_n 2, .iload_n 2] 30 (by decide +kernel) rfl ?_
    refine z_if_ge hX (off := 12) 42 (by decide +kernel) (by decide) ⟨by omega, by omega⟩ (fun c30 => ?_) (fun c30 => ?_)
    · obtain ⟨t, ht⟩ : ∃ t : Nat, c (61 + k) = (t : Int) := ⟨(c (61 + k)).toNat, by omega⟩
      rw [ht]
      refine z_b hX fo_X11 [.aload_n 0, .iload_n 2] 44 (by decide +kernel) rfl ?_
      refine z_cV hX m_X11_trainPlace l_X11_130 p_X11_trainPlace (c_X11_trainPlace hI.1.1 ⟨by omega, by omega⟩) rfl rfl rfl rfl rfl rfl (by decide +kernel) ?_
      have hz : -1 ≤ zonT c (t : Int) ∧ zonT c (t : Int) < 1000 := zfnd_zi _ _ _ _ (by omega)
      refine z_if_lt hX (off := 16) 63 (by decide +kernel) (by decide) ⟨by omega, by omega⟩ (fun c47 => ?_) (fun c47 => ?_)
      · refine z_b hX fo_X11 [.aload_n 0, .aload_n 0, .getfield 7] 68 (by decide +kernel) rfl ?_
        obtain ⟨σ1, hkp, hM1, hc1, hF1⟩ := m_keep (E := E) (l := l) hI hM hw
        refine z_cV0 hX m_X11_keeps l_X11_67 p_X11_keeps hkp rfl rfl rfl rfl rfl rfl (by decide +kernel) ?_
        refine z_b hX fo_X11 [.iconst 0, .istore_n 3] 73 (by decide +kernel) rfl ?_
        obtain ⟨ht4, p, q, hpl, hq, hpq, hq5, hpk, hmin⟩ := plc_y hI.1 (by omega) ht
        have hend : ∀ (x : Int) (c1 : Nat → Int), c1 = zshf (129 + t * 5) p (q - p) c → Z (E, Y) 0 154 [(4, vi x), (3, vi (p : Int)), (2, vi (t : Int)), (0, vr 32), (1, vi (k : Int))] [] (zs σ1 33 (gm c1), l) := by
          intro x c1 hd
          refine z_b hX fo_X11 [.aload_n 0, .getfield 7, .bipush 121, .bipush 6, .iload_n 2, .imul, .iadd, .dup2] 166 (by decide +kernel) rfl ?_
          refine z_ig hX (v := c1 (121 + t)) (121 + 6 * t) (gtr ht4) (by omega) (by omega) (by decide +kernel) ?_
          refine z_b hX fo_X11 [.iconst 1, .isub] 169 (by decide +kernel) rfl ?_
          refine z_sg hX (121 + 6 * t) (utr ht4) (by omega) (by omega) (by decide +kernel) ?_
          refine z_b hX fo_X11 [.aload_n 0, .iload_n 1, .iconst 4, .iconst (-1)] 174 (by decide +kernel) rfl ?_
          refine z_cV0 hX m_X11_lays l_X11_71 p_X11_lays (c_lays4 (k := k) (by omega)) rfl rfl rfl rfl rfl rfl (by decide +kernel) ?_
          refine z_b hX fo_X11 [.iload_n 3] 178 (by decide +kernel) rfl ?_
          exact z_iret hX hR (by decide +kernel) (Pm_ok (v := plc c k) (c' := sOut c k t p q) (by unfold aUnpack; rw [if_pos h1]; (try simp only [Int.toNat_natCast]); rw [show (rUnpack c k : zr) = none from (by unfold rUnpack rNoTr rLoaded; (try rw [ht]); rw [if_neg (by omega)]; rw [if_neg (by omega)]; rfl)]; rw [hpl, show (c (61 + k)).toNat = t by omega, show c (121 + t) + -1 = (q : Int) by omega]; (try simp only [Int.toNat_natCast]); rfl) hpl σ1 (congrArg (fun z => (zs σ1 33 (gm z), l)) (by subst hd; funext i; unfold sOut ad; simp only [va_e, zshf_e]; grind)) hM1 hc1 hF1)
        have loop2 : ∀ (m : Nat) (j : Nat) (x : Int) (c1 : Nat → Int), x = (j : Int) → j + m = q → c1 (121 + t) = (q : Int) + 1 → zshf (129 + t * 5) j m c1 = zshf (129 + t * 5) p (q - p) c → Z (E, Y) 0 102 [(4, vi x), (3, vi (p : Int)), (2, vi (t : Int)), (0, vr 32), (1, vi (k : Int))] [] (zs σ1 33 (gm c1), l) := by
          intro m
          induction m with
          | zero =>
            intro j x c1 hx hm hc9 hr
            subst hx
            refine z_b hX fo_X11 [.iload 4, .iconst 1, .iadd, .aload_n 0, .iload_n 2] 108 (by decide +kernel) rfl ?_
            refine z_cV hX m_X11_packedIn l_X11_133 p_X11_packedIn (c_X11_packedIn (t := t) ht4) rfl rfl rfl rfl rfl rfl (by decide +kernel) ?_
            rw [hc9]
            refine z_ic_ge hX (off := 43) 154 (by decide +kernel) (by decide) ⟨by omega, by omega⟩ ⟨by omega, by omega⟩ (fun c111 => ?_) (fun c111 => by exfalso; omega)
            exact z_lo [0, 1, 2, 3, 4] (hend _ _ (by rw [← hr]; rfl)) rfl
          | succ m ih =>
            intro j x c1 hx hm hc9 hr
            subst hx
            refine z_b hX fo_X11 [.iload 4, .iconst 1, .iadd, .aload_n 0, .iload_n 2] 108 (by decide +kernel) rfl ?_
            refine z_cV hX m_X11_packedIn l_X11_133 p_X11_packedIn (c_X11_packedIn (t := t) ht4) rfl rfl rfl rfl rfl rfl (by decide +kernel) ?_
            rw [hc9]
            refine z_ic_ge hX (off := 43) 154 (by decide +kernel) (by decide) ⟨by omega, by omega⟩ ⟨by omega, by omega⟩ (fun c111 => by exfalso; omega) (fun c111 => ?_)
            refine z_b hX fo_X11 [.aload_n 0, .getfield 7, .bipush 121, .bipush 6, .iload_n 2, .imul, .iadd, .iconst 1, .iadd, .iload 4, .iadd, .aload_n 0, .getfield 7, .bipush 121, .bipush 6, .iload_n 2, .imul, .iadd, .iconst 2, .iadd, .iload 4, .iadd] 146 (by decide +kernel) rfl ?_
            refine z_ig hX (v := c1 (129 + t * 5 + (j + 1))) (121 + 6 * t + 1 + (j + 1)) (gpl ht4 (by omega)) (by omega) (by omega) (by decide +kernel) ?_
            refine z_sg hX (121 + 6 * t + 1 + j) (upl ht4 (by omega)) (by omega) (by omega) (by decide +kernel) ?_
            refine z_b hX fo_X11 [.iinc 4 1] 151 (by decide +kernel) rfl ?_
            refine z_goto hX (off := (-49)) 102 (by decide +kernel) (by decide) ?_
            exact z_lo [0, 1, 2, 3, 4] (ih (j + 1) _ _ (by omega) (by omega) (by rw [vne (by omega)]; exact hc9) hr) rfl
        have loop : ∀ (m : Nat) (i : Nat) (x : Int), x = (i : Int) → i + m = p → Z (E, Y) 0 73 [(3, vi x), (2, vi (t : Int)), (0, vr 32), (1, vi (k : Int))] [] (zs σ1 33 (gm c), l) := by
          intro m
          induction m with
          | zero =>
            intro i x hx hm
            subst hx
            have hip : i = p := by omega
            subst hip
            refine z_b hX fo_X11 [.aload_n 0, .getfield 7, .bipush 121, .bipush 6, .iload_n 2, .imul, .iadd, .iconst 1, .iadd, .iload_n 3, .iadd] 88 (by decide +kernel) rfl ?_
            refine z_ig hX (v := c (129 + t * 5 + i)) (121 + 6 * t + 1 + i) (gpl ht4 (by omega)) (by omega) (by omega) (by decide +kernel) ?_
            have gp := hI.1.1.place (k := t * 5 + i) (by omega)
            rw [show 129 + (t * 5 + i) = 129 + t * 5 + i by omega] at gp
            refine z_b hX fo_X11 [.iload_n 1] 90 (by decide +kernel) rfl ?_
            refine z_ic_eq hX (off := 9) 99 (by decide +kernel) (by decide) ⟨by omega, by omega⟩ ⟨by omega, by omega⟩ (fun c90 => ?_) (fun c90 => by exfalso; omega)
            refine z_b hX fo_X11 [.iload_n 3, .istore 4] 102 (by decide +kernel) rfl ?_
            exact z_lo [0, 1, 2, 3, 4] (loop2 (q - i) i _ c rfl (by omega) hq rfl) rfl
          | succ m ih =>
            intro i x hx hm
            subst hx
            refine z_b hX fo_X11 [.aload_n 0, .getfield 7, .bipush 121, .bipush 6, .iload_n 2, .imul, .iadd, .iconst 1, .iadd, .iload_n 3, .iadd] 88 (by decide +kernel) rfl ?_
            refine z_ig hX (v := c (129 + t * 5 + i)) (121 + 6 * t + 1 + i) (gpl ht4 (by omega)) (by omega) (by omega) (by decide +kernel) ?_
            have gp := hI.1.1.place (k := t * 5 + i) (by omega)
            rw [show 129 + (t * 5 + i) = 129 + t * 5 + i by omega] at gp
            refine z_b hX fo_X11 [.iload_n 1] 90 (by decide +kernel) rfl ?_
            refine z_ic_eq hX (off := 9) 99 (by decide +kernel) (by decide) ⟨by omega, by omega⟩ ⟨by omega, by omega⟩ (fun c90 => by exact absurd c90 (hmin i (by omega))) (fun c90 => ?_)
            refine z_b hX fo_X11 [.iinc 3 1] 96 (by decide +kernel) rfl ?_
            refine z_goto hX (off := (-23)) 73 (by decide +kernel) (by decide) ?_
            exact z_lo [0, 1, 2, 3] (ih (i + 1) _ (by omega) (by omega)) rfl
        exact z_lo [0, 1, 2, 3] (loop p 0 _ rfl (by omega)) rfl
      · refine z_b hX fo_X11 [.aload_n 0, .iconst 2, .bipush 16, .aload_n 0, .iload_n 2] 56 (by decide +kernel) rfl ?_
        refine z_cV hX m_X11_trainPlace l_X11_130 p_X11_trainPlace (c_X11_trainPlace hI.1.1 ⟨by omega, by omega⟩) rfl rfl rfl rfl rfl rfl (by decide +kernel) ?_
        have hz : -1 ≤ zonT c (t : Int) ∧ zonT c (t : Int) < 1000 := zfnd_zi _ _ _ _ (by omega)
        refine z_cV hX m_X11_refuses l_X11_63 p_X11_refuses c_X11_refuses rfl rfl rfl rfl rfl rfl (by decide +kernel) ?_
        exact z_iret hX hR (by decide +kernel) (Pm_ref (w := 16) (x := (zonT c (t : Int))) (by unfold aUnpack; rw [if_pos h1]; (try simp only [Int.toNat_natCast]); rw [show (rUnpack c k : zr) = some (16, (zonT c (t : Int))) from (by unfold rUnpack rNoTr rLoaded; (try rw [ht]); rw [if_neg (by omega)]; rw [if_pos (by omega)]; (first | done | rfl | exact congrArg some (Prod.ext rfl (by dsimp only; omega))))]; rfl) hM (cd2_2 ne_UO_IB))
    · refine z_b hX fo_X11 [.aload_n 0, .iconst 2, .bipush 18, .iload_n 1] 38 (by decide +kernel) rfl ?_
      refine z_cV hX m_X11_refuses l_X11_63 p_X11_refuses c_X11_refuses rfl rfl rfl rfl rfl rfl (by decide +kernel) ?_
      exact z_iret hX hR (by decide +kernel) (Pm_ref (w := 18) (x := (k : Int)) (by unfold aUnpack; rw [if_pos h1]; (try simp only [Int.toNat_natCast]); rw [show (rUnpack c k : zr) = some (18, (k : Int)) from (by unfold rUnpack rNoTr rLoaded; (try rw [ht]);  rw [if_pos (by omega)]; (first | done | rfl | exact congrArg some (Prod.ext rfl (by dsimp only; omega))))]; rfl) hM (cd2_2 ne_UO_IB))
  · rw [if_neg h1]
    refine z_if_eq hX (off := 7) 13 (by decide +kernel) (by decide) ⟨by decide, by decide⟩ (fun c6 => ?_) (fun c6 => by exact absurd c6 (by decide))
    refine z_b hX fo_X11 [.iconst 1] 14 (by decide +kernel) rfl ?_
    refine z_cV hX m_X11_fails l_X11_59 p_X11_fails (c_fails1 ⟨by decide, by decide⟩) rfl rfl rfl rfl rfl rfl (by decide +kernel) ?_
    refine z_if_eq hX (off := 5) 22 (by decide +kernel) (by decide) ⟨by decide, by decide⟩ (fun c17 => by exact absurd c17 (by decide)) (fun c17 => ?_)
    refine z_b hX fo_X11 [.iconst 0] 21 (by decide +kernel) rfl ?_
    exact z_iret hX hR (by decide +kernel) (Pm_fail (e := eIB) (by unfold aUnpack; rw [if_neg h1]; (try simp only [Int.toNat_natCast]); rfl) ne_IB_UO hM cd2_1)
set_option maxHeartbeats 1000000 in
theorem c_X11_unload {E : zE} {D : Int} {R : aQ} {σ : Nat → Nat → Int} {c : Nat → Int} {l : (Nat → Int64) × (Nat → UInt64)} {w : Bool} (hI : AI D c R) (hM : MR R σ) (hw : σ 32 6 = wi w)  : Mb E yX11_unload (Cond.code yX11_unload cX11_unload 3 (Option.some FieldType.int)) 2 [vr 32] (σ) (c) (l) (aUnload w c R ) ((cd1 eUO)) := by
  refine Ctr_of (own := RX11) (by decide +kernel) rfl rfl (fun Y hX hR hnx => ?_)
  have g8 := hI.1.1.coats
  have g9 := hI.1.1.acts
  have g10 := hI.1.1.women
  have g11 := hI.1.1.trunks
  have g12 := hI.1.1.loaded
  have g1 := hI.1.1.g1
  have g2 := hI.1.1.g2
  have g3 := hI.1.1.g3
  refine z_b hX fo_X11 [.aload_n 0, .iconst 0, .putfield 32, .aload_n 0, .getfield 7, .sipush 145] 12 (by decide +kernel) rfl ?_
  rw [zco_eq]
  refine z_ig hX (v := c 12) (145) rfl (by omega) (by omega) (by decide +kernel) ?_
  refine z_if_ne hX (off := 12) 25 (by decide +kernel) (by decide) ⟨by omega, by omega⟩ (fun c13 => ?_) (fun c13 => ?_)
  · refine z_b hX fo_X11 [.aload_n 0, .aload_n 0, .getfield 7] 30 (by decide +kernel) rfl ?_
    obtain ⟨σ1, hkp, hM1, hc1, hF1⟩ := m_keep (E := E) (l := l) hI hM hw
    refine z_cV0 hX m_X11_keeps l_X11_67 p_X11_keeps hkp rfl rfl rfl rfl rfl rfl (by decide +kernel) ?_
    refine z_b hX fo_X11 [.aload_n 0, .getfield 7, .sipush 146] 40 (by decide +kernel) rfl ?_
    refine z_ig hX (v := c 125) (146) rfl (by omega) (by omega) (by decide +kernel) ?_
    refine z_b hX fo_X11 [.istore_n 1, .aload_n 0, .getfield 7, .sipush 145, .dup2] 50 (by decide +kernel) rfl ?_
    refine z_ig hX (v := c 12) (145) rfl (by omega) (by omega) (by decide +kernel) ?_
    refine z_b hX fo_X11 [.iconst 1, .isub] 53 (by decide +kernel) rfl ?_
    refine z_sg hX (145) (ulit (j := 12) (by decide) (by decide) rfl) (by omega) (by omega) (by decide +kernel) ?_
    refine z_b hX fo_X11 [.iconst 0, .istore_n 2] 56 (by decide +kernel) rfl ?_
    obtain ⟨q, hq⟩ : ∃ q : Nat, c 12 = (q : Int) + 1 := ⟨(c 12 - 1).toNat, by omega⟩
    have loop : ∀ (m : Nat) (i : Nat) (x : Int) (c1 : Nat → Int), x = (i : Int) → i + m = q → c1 12 = (q : Int) → zshf 125 i m c1 = sUnload c q → Z (E, Y) 0 56 [(2, vi x), (1, vi (c 125)), (0, vr 32)] [] (zs σ1 33 (gm c1), l) := by
      intro m
      induction m with
      | zero =>
        intro i x c1 hx hm hc9 hr
        subst hx
        refine z_b hX fo_X11 [.iload_n 2, .aload_n 0, .getfield 7, .sipush 145] 64 (by decide +kernel) rfl ?_
        refine z_ig hX (v := (c1) 12) (145) rfl (by omega) (by omega) (by decide +kernel) ?_
        rw [hc9]
        refine z_ic_ge hX (off := 31) 96 (by decide +kernel) (by decide) ⟨by omega, by omega⟩ ⟨by omega, by omega⟩ (fun c65 => ?_) (fun c65 => by exfalso; omega)
        refine z_b hX fo_X11 [.iload_n 1] 97 (by decide +kernel) rfl ?_
        exact z_iret hX hR (by decide +kernel) (Pm_ok (v := c 125) (c' := sUnload c q) (by unfold aUnload; rw [show (rUnload c : zr) = none from (by unfold rUnload; rw [if_neg (by omega)])]; rw [show c 12 + -1 = (q : Int) by omega]; (try simp only [Int.toNat_natCast]); rfl) rfl σ1 (congrArg (fun z => (zs σ1 33 (gm z), l)) hr) hM1 hc1 hF1)
      | succ m ih =>
        intro i x c1 hx hm hc9 hr
        subst hx
        refine z_b hX fo_X11 [.iload_n 2, .aload_n 0, .getfield 7, .sipush 145] 64 (by decide +kernel) rfl ?_
        refine z_ig hX (v := (c1) 12) (145) rfl (by omega) (by omega) (by decide +kernel) ?_
        rw [hc9]
        refine z_ic_ge hX (off := 31) 96 (by decide +kernel) (by decide) ⟨by omega, by omega⟩ ⟨by omega, by omega⟩ (fun c65 => by exfalso; omega) (fun c65 => ?_)
        refine z_b hX fo_X11 [.aload_n 0, .getfield 7, .sipush 146, .iload_n 2, .iadd, .aload_n 0, .getfield 7, .sipush 146, .iload_n 2, .iadd, .iconst 1, .iadd] 88 (by decide +kernel) rfl ?_
        refine z_ig hX (v := c1 (125 + (i + 1))) (146 + (i + 1)) (gtn (by omega)) (by omega) (by omega) (by decide +kernel) ?_
        refine z_sg hX (146 + i) (utn (by omega)) (by omega) (by omega) (by decide +kernel) ?_
        refine z_b hX fo_X11 [.iinc 2 1] 93 (by decide +kernel) rfl ?_
        refine z_goto hX (off := (-37)) 56 (by decide +kernel) (by decide) ?_
        exact z_lo [0, 1, 2] (ih (i + 1) _ _ (by omega) (by omega) (by rw [vne (by omega)]; exact hc9) hr) rfl
    exact z_lo [0, 1, 2] (loop q 0 _ _ rfl (by omega) (by rw [va_e, if_pos rfl]; omega) rfl) rfl
  · refine z_b hX fo_X11 [.aload_n 0, .iconst 1, .bipush 17, .iconst 0] 21 (by decide +kernel) rfl ?_
    refine z_cV hX m_X11_refuses l_X11_63 p_X11_refuses c_X11_refuses rfl rfl rfl rfl rfl rfl (by decide +kernel) ?_
    exact z_iret hX hR (by decide +kernel) (Pm_ref (w := 17) (x := 0) (by unfold aUnload;  (try simp only [Int.toNat_natCast]); rw [show (rUnload c : zr) = some (17, 0) from (by unfold rUnload;  rw [if_pos (by omega)]; (first | done | rfl | exact congrArg some (Prod.ext rfl (by dsimp only; omega))))]; rfl) hM cd1_1)
