/-! ===== the model: best, work ===== -/
set_option maxHeartbeats 1000000 in
theorem c_X11_best {E : zE} {x D : Int} {R : aQ} {σ : Nat → Nat → Int} {c : Nat → Int} {l : (Nat → Int64) × (Nat → UInt64)} {w : Bool} (hI : AI D c R) (hM : MR R σ) (hw : σ 32 6 = wi w) (h_x : zi x) : Mb E yX11_best (Cond.code yX11_best cX11_best 4 (Option.some FieldType.int)) 2 [vr 32, vi x] (σ) (c) (l) (aBest c R x) ((cd2 eIB eNS)) := by
  refine Ctr_of (own := RX11) (by decide +kernel) rfl rfl (fun Y hX hR hnx => ?_)
  have g8 := hI.1.1.coats
  have g9 := hI.1.1.acts
  have g10 := hI.1.1.women
  have g11 := hI.1.1.trunks
  have g12 := hI.1.1.loaded
  have g1 := hI.1.1.g1
  have g2 := hI.1.1.g2
  have g3 := hI.1.1.g3
  refine z_b hX fo_X11 [.aload_n 0, .aload_n 0, .iload_n 1] 3 (by decide +kernel) rfl ?_
  refine z_cV hX m_X11_isAct l_X11_78 p_X11_isAct (c_X11_isAct h_x ⟨by omega, by omega⟩) rfl rfl rfl rfl rfl rfl (by decide +kernel) ?_
  by_cases h1 : hA c x
  · rw [if_pos h1]
    obtain ⟨a, rfl⟩ : ∃ z : Nat, x = (z : Int) := ⟨x.toNat, by omega⟩
    refine z_if_eq hX (off := 7) 13 (by decide +kernel) (by decide) ⟨by decide, by decide⟩ (fun c6 => by exact absurd c6 (by decide)) (fun c6 => ?_)
    refine z_b hX fo_X11 [.iconst 0] 10 (by decide +kernel) rfl ?_
    refine z_goto hX (off := 4) 14 (by decide +kernel) (by decide) ?_
    refine z_cV hX m_X11_fails l_X11_59 p_X11_fails (c_fails0 rfl) rfl rfl rfl rfl rfl rfl (by decide +kernel) ?_
    refine z_if_eq hX (off := 5) 22 (by decide +kernel) (by decide) ⟨by decide, by decide⟩ (fun c17 => ?_) (fun c17 => by exact absurd c17 (by decide))
    refine z_b hX fo_X11 [.iconst (-1), .istore_n 2, .iconst 0, .istore_n 3] 26 (by decide +kernel) rfl ?_
    obtain ⟨n, hn⟩ : ∃ n : Nat, c 8 = (n : Int) := ⟨(c 8).toNat, by omega⟩
    have zz0 : ∀ {v w : Int}, zco (zco σ v) w = zco σ w := fun {v w} => by unfold zco; rw [zs_zs, zs_eq, va_va]
    have hend : ∀ (x v : Int), v = zbest c a 0 n (-1) → (v = -1 ∨ 0 ≤ v ∧ v < (n : Int)) → Z (E, Y) 0 95 [(3, vi x), (2, vi v), (0, vr 32), (1, vi (a : Int))] [] (zs (zco σ 0) 33 (gm c), l) := by
      intro x v hv hv2
      refine z_b hX fo_X11 [.aload_n 0, .iload_n 2] 97 (by decide +kernel) rfl ?_
      by_cases q9 : 0 ≤ v
      · refine z_if_ge hX (off := 7) 104 (by decide +kernel) (by decide) ⟨by omega, by omega⟩ (fun c97 => ?_) (fun c97 => by exfalso; omega)
        refine z_b hX fo_X11 [.iconst 0] 105 (by decide +kernel) rfl ?_
        refine z_cV hX m_X11_fails l_X11_59 p_X11_fails (c_fails0 rfl) rfl rfl rfl rfl rfl rfl (by decide +kernel) ?_
        rw [zz0]
        refine z_if_eq hX (off := 7) 115 (by decide +kernel) (by decide) ⟨by decide, by decide⟩ (fun c108 => ?_) (fun c108 => by exact absurd c108 (by decide))
        refine z_b hX fo_X11 [.iload_n 2] 116 (by decide +kernel) rfl ?_
        exact z_iret hX hR (by decide +kernel) (Pm_que (v := v) (by unfold aBest; rw [if_pos h1]; (try simp only [Int.toNat_natCast]); rw [show (c 8).toNat = n by omega, ← hv]; unfold fnd; rw [if_neg (by omega)]; rfl) rfl hM)
      · refine z_if_ge hX (off := 7) 104 (by decide +kernel) (by decide) ⟨by omega, by omega⟩ (fun c97 => by exfalso; omega) (fun c97 => ?_)
        refine z_b hX fo_X11 [.iconst 2] 101 (by decide +kernel) rfl ?_
        refine z_goto hX (off := 4) 105 (by decide +kernel) (by decide) ?_
        refine z_cV hX m_X11_fails l_X11_59 p_X11_fails (c_fails1 ⟨by decide, by decide⟩) rfl rfl rfl rfl rfl rfl (by decide +kernel) ?_
        rw [zz0]
        refine z_if_eq hX (off := 7) 115 (by decide +kernel) (by decide) ⟨by decide, by decide⟩ (fun c108 => by exact absurd c108 (by decide)) (fun c108 => ?_)
        refine z_b hX fo_X11 [.iconst 0] 112 (by decide +kernel) rfl ?_
        refine z_goto hX (off := 4) 116 (by decide +kernel) (by decide) ?_
        exact z_iret hX hR (by decide +kernel) (Pm_fail (e := eNS) (by unfold aBest; rw [if_pos h1]; (try simp only [Int.toNat_natCast]); rw [show (c 8).toNat = n by omega, ← hv]; unfold fnd; rw [if_pos (by omega)]; rfl) ne_NS_UO hM (cd2_2 ne_NS_IB))
    have loop : ∀ (m : Nat) (i : Nat) (x bb : Int), x = (i : Int) → (bb = -1 ∨ 0 ≤ bb ∧ bb < x) → i + m = n → zbest c a i m bb = zbest c a 0 n (-1) → Z (E, Y) 0 26 [(3, vi x), (2, vi bb), (0, vr 32), (1, vi (a : Int))] [] (zs (zco σ 0) 33 (gm c), l) := by
      intro m
      induction m with
      | zero =>
        intro i x bb hi hb hm hr
        subst hi
        refine z_b hX fo_X11 [.iload_n 3, .aload_n 0, .getfield 7, .bipush 9] 33 (by decide +kernel) rfl ?_
        refine z_ig hX (v := c 8) (9) rfl (by omega) (by omega) (by decide +kernel) ?_
        rw [hn]
        refine z_ic_ge hX (off := 61) 95 (by decide +kernel) (by decide) ⟨by omega, by omega⟩ ⟨by omega, by omega⟩ (fun c34 => ?_) (fun c34 => by exfalso; omega)
        exact z_lo [0, 1, 2, 3] (hend _ _ (by rw [← hr]; rfl) (by omega)) rfl
      | succ m ih =>
        intro i x bb hi hb hm hr
        subst hi
        have hi12 : i < 12 := by omega
        refine z_b hX fo_X11 [.iload_n 3, .aload_n 0, .getfield 7, .bipush 9] 33 (by decide +kernel) rfl ?_
        refine z_ig hX (v := c 8) (9) rfl (by omega) (by omega) (by decide +kernel) ?_
        rw [hn]
        refine z_ic_ge hX (off := 61) 95 (by decide +kernel) (by decide) ⟨by omega, by omega⟩ ⟨by omega, by omega⟩ (fun c34 => by exfalso; omega) (fun c34 => ?_)
        refine z_b hX fo_X11 [.aload_n 0, .iload_n 3, .iconst 3] 40 (by decide +kernel) rfl ?_
        refine z_cV hX m_X11_of l_X11_84 p_X11_of (c_of3 (k := i) (by omega)) rfl rfl rfl rfl rfl rfl (by decide +kernel) ?_
        have go := hI.1.1.own (k := i) (by omega)
        refine z_if_lt hX (off := 13) 56 (by decide +kernel) (by decide) ⟨by omega, by omega⟩ (fun c43 => ?_) (fun c43 => ?_)
        · refine z_b hX fo_X11 [.aload_n 0, .iload_n 3, .iload_n 1] 59 (by decide +kernel) rfl ?_
          refine z_cV hX m_X11_opens l_X11_97 p_X11_opens (c_X11_opens (k := i) hI.1.1 (by omega) (by omega)) rfl rfl rfl rfl rfl rfl (by decide +kernel) ?_
          have hz := @zopn_i c i a
          refine z_if_lt hX (off := 6) 68 (by decide +kernel) (by decide) ⟨by omega, by omega⟩ (fun c62 => ?_) (fun c62 => ?_)
          · refine z_b hX fo_X11 [.iload_n 2] 69 (by decide +kernel) rfl ?_
            refine z_if_lt hX (off := 18) 87 (by decide +kernel) (by decide) ⟨by omega, by omega⟩ (fun c69 => ?_) (fun c69 => ?_)
            · refine z_b hX fo_X11 [.iload_n 3, .istore_n 2, .iinc 3 1] 92 (by decide +kernel) rfl ?_
              refine z_goto hX (off := (-66)) 26 (by decide +kernel) (by decide) ?_
              exact z_lo [0, 1, 2, 3] (ih (i + 1) _ _ (by omega) (by omega) (by omega) (by rw [← hr]; exact congrArg (zbest c a (i + 1) m) (by (try simp only [Int.toNat_natCast]); (first | (rw [if_pos ⟨⟨by unfold zother; omega, zopn_m (by omega)⟩, by omega⟩]) | (rw [if_neg (fun z => by obtain ⟨⟨z1, z2⟩, z3⟩ := z; unfold zother at z1; omega)]) | (rw [if_neg (fun z => by obtain ⟨⟨z1, z2⟩, z3⟩ := z; exact z2 (zopn_p (by omega)))]))))) rfl
            · refine z_b hX fo_X11 [.aload_n 0, .iload_n 3, .iconst 0] 75 (by decide +kernel) rfl ?_
              refine z_cV hX m_X11_of l_X11_84 p_X11_of (c_of0 (k := i) (by omega)) rfl rfl rfl rfl rfl rfl (by decide +kernel) ?_
              have s1 := hI.1.1.size (k := i) (by omega)
              refine z_b hX fo_X11 [.aload_n 0, .iload_n 2, .iconst 0] 81 (by decide +kernel) rfl ?_
              obtain ⟨q, hq⟩ : ∃ q : Nat, bb = (q : Int) := ⟨bb.toNat, by omega⟩
              subst hq
              refine z_cV hX m_X11_of l_X11_84 p_X11_of (c_of0 (k := q) (by omega)) rfl rfl rfl rfl rfl rfl (by decide +kernel) ?_
              have s2 := hI.1.1.size (k := q) (by omega)
              have eq0 : (q : Int).toNat = q := by omega
              refine z_ic_ge hX (off := 5) 89 (by decide +kernel) (by decide) ⟨by omega, by omega⟩ ⟨by omega, by omega⟩ (fun c84 => ?_) (fun c84 => ?_)
              · refine z_b hX fo_X11 [.iinc 3 1] 92 (by decide +kernel) rfl ?_
                refine z_goto hX (off := (-66)) 26 (by decide +kernel) (by decide) ?_
                exact z_lo [0, 1, 2, 3] (ih (i + 1) _ _ (by omega) (by omega) (by omega) (by rw [← hr]; exact congrArg (zbest c a (i + 1) m) (by (try simp only [Int.toNat_natCast]); (first | (rw [if_pos ⟨⟨by unfold zother; omega, zopn_m (by omega)⟩, by omega⟩]) | (rw [if_neg (fun z => by obtain ⟨⟨z1, z2⟩, z3⟩ := z; unfold zother at z1; omega)]) | (rw [if_neg (fun z => by obtain ⟨⟨z1, z2⟩, z3⟩ := z; exact z2 (zopn_p (by omega)))]))))) rfl
              · refine z_b hX fo_X11 [.iload_n 3, .istore_n 2, .iinc 3 1] 92 (by decide +kernel) rfl ?_
                refine z_goto hX (off := (-66)) 26 (by decide +kernel) (by decide) ?_
                exact z_lo [0, 1, 2, 3] (ih (i + 1) _ _ (by omega) (by omega) (by omega) (by rw [← hr]; exact congrArg (zbest c a (i + 1) m) (by (try simp only [Int.toNat_natCast]); (first | (rw [if_pos ⟨⟨by unfold zother; omega, zopn_m (by omega)⟩, by omega⟩]) | (rw [if_neg (fun z => by obtain ⟨⟨z1, z2⟩, z3⟩ := z; unfold zother at z1; omega)]) | (rw [if_neg (fun z => by obtain ⟨⟨z1, z2⟩, z3⟩ := z; exact z2 (zopn_p (by omega)))]))))) rfl
          · refine z_goto hX (off := 24) 89 (by decide +kernel) (by decide) ?_
            refine z_b hX fo_X11 [.iinc 3 1] 92 (by decide +kernel) rfl ?_
            refine z_goto hX (off := (-66)) 26 (by decide +kernel) (by decide) ?_
            exact z_lo [0, 1, 2, 3] (ih (i + 1) _ _ (by omega) (by omega) (by omega) (by rw [← hr]; exact congrArg (zbest c a (i + 1) m) (by (try simp only [Int.toNat_natCast]); (first | (rw [if_pos ⟨⟨by unfold zother; omega, zopn_m (by omega)⟩, by omega⟩]) | (rw [if_neg (fun z => by obtain ⟨⟨z1, z2⟩, z3⟩ := z; unfold zother at z1; omega)]) | (rw [if_neg (fun z => by obtain ⟨⟨z1, z2⟩, z3⟩ := z; exact z2 (zopn_p (by omega)))]))))) rfl
        · refine z_b hX fo_X11 [.aload_n 0, .iload_n 3, .iconst 3] 49 (by decide +kernel) rfl ?_
          refine z_cV hX m_X11_of l_X11_84 p_X11_of (c_of3 (k := i) (by omega)) rfl rfl rfl rfl rfl rfl (by decide +kernel) ?_
          refine z_b hX fo_X11 [.iload_n 1] 53 (by decide +kernel) rfl ?_
          refine z_ic_ne hX (off := 36) 89 (by decide +kernel) (by decide) ⟨by omega, by omega⟩ ⟨by omega, by omega⟩ (fun c53 => ?_) (fun c53 => ?_)
          · refine z_b hX fo_X11 [.iinc 3 1] 92 (by decide +kernel) rfl ?_
            refine z_goto hX (off := (-66)) 26 (by decide +kernel) (by decide) ?_
            exact z_lo [0, 1, 2, 3] (ih (i + 1) _ _ (by omega) (by omega) (by omega) (by rw [← hr]; exact congrArg (zbest c a (i + 1) m) (by (try simp only [Int.toNat_natCast]); (first | (rw [if_pos ⟨⟨by unfold zother; omega, zopn_m (by omega)⟩, by omega⟩]) | (rw [if_neg (fun z => by obtain ⟨⟨z1, z2⟩, z3⟩ := z; unfold zother at z1; omega)]) | (rw [if_neg (fun z => by obtain ⟨⟨z1, z2⟩, z3⟩ := z; exact z2 (zopn_p (by omega)))]))))) rfl
          · refine z_b hX fo_X11 [.aload_n 0, .iload_n 3, .iload_n 1] 59 (by decide +kernel) rfl ?_
            refine z_cV hX m_X11_opens l_X11_97 p_X11_opens (c_X11_opens (k := i) hI.1.1 (by omega) (by omega)) rfl rfl rfl rfl rfl rfl (by decide +kernel) ?_
            have hz := @zopn_i c i a
            refine z_if_lt hX (off := 6) 68 (by decide +kernel) (by decide) ⟨by omega, by omega⟩ (fun c62 => ?_) (fun c62 => ?_)
            · refine z_b hX fo_X11 [.iload_n 2] 69 (by decide +kernel) rfl ?_
              refine z_if_lt hX (off := 18) 87 (by decide +kernel) (by decide) ⟨by omega, by omega⟩ (fun c69 => ?_) (fun c69 => ?_)
              · refine z_b hX fo_X11 [.iload_n 3, .istore_n 2, .iinc 3 1] 92 (by decide +kernel) rfl ?_
                refine z_goto hX (off := (-66)) 26 (by decide +kernel) (by decide) ?_
                exact z_lo [0, 1, 2, 3] (ih (i + 1) _ _ (by omega) (by omega) (by omega) (by rw [← hr]; exact congrArg (zbest c a (i + 1) m) (by (try simp only [Int.toNat_natCast]); (first | (rw [if_pos ⟨⟨by unfold zother; omega, zopn_m (by omega)⟩, by omega⟩]) | (rw [if_neg (fun z => by obtain ⟨⟨z1, z2⟩, z3⟩ := z; unfold zother at z1; omega)]) | (rw [if_neg (fun z => by obtain ⟨⟨z1, z2⟩, z3⟩ := z; exact z2 (zopn_p (by omega)))]))))) rfl
              · refine z_b hX fo_X11 [.aload_n 0, .iload_n 3, .iconst 0] 75 (by decide +kernel) rfl ?_
                refine z_cV hX m_X11_of l_X11_84 p_X11_of (c_of0 (k := i) (by omega)) rfl rfl rfl rfl rfl rfl (by decide +kernel) ?_
                have s1 := hI.1.1.size (k := i) (by omega)
                refine z_b hX fo_X11 [.aload_n 0, .iload_n 2, .iconst 0] 81 (by decide +kernel) rfl ?_
                obtain ⟨q, hq⟩ : ∃ q : Nat, bb = (q : Int) := ⟨bb.toNat, by omega⟩
                subst hq
                refine z_cV hX m_X11_of l_X11_84 p_X11_of (c_of0 (k := q) (by omega)) rfl rfl rfl rfl rfl rfl (by decide +kernel) ?_
                have s2 := hI.1.1.size (k := q) (by omega)
                have eq0 : (q : Int).toNat = q := by omega
                refine z_ic_ge hX (off := 5) 89 (by decide +kernel) (by decide) ⟨by omega, by omega⟩ ⟨by omega, by omega⟩ (fun c84 => ?_) (fun c84 => ?_)
                · refine z_b hX fo_X11 [.iinc 3 1] 92 (by decide +kernel) rfl ?_
                  refine z_goto hX (off := (-66)) 26 (by decide +kernel) (by decide) ?_
                  exact z_lo [0, 1, 2, 3] (ih (i + 1) _ _ (by omega) (by omega) (by omega) (by rw [← hr]; exact congrArg (zbest c a (i + 1) m) (by (try simp only [Int.toNat_natCast]); (first | (rw [if_pos ⟨⟨by unfold zother; omega, zopn_m (by omega)⟩, by omega⟩]) | (rw [if_neg (fun z => by obtain ⟨⟨z1, z2⟩, z3⟩ := z; unfold zother at z1; omega)]) | (rw [if_neg (fun z => by obtain ⟨⟨z1, z2⟩, z3⟩ := z; exact z2 (zopn_p (by omega)))]))))) rfl
                · refine z_b hX fo_X11 [.iload_n 3, .istore_n 2, .iinc 3 1] 92 (by decide +kernel) rfl ?_
                  refine z_goto hX (off := (-66)) 26 (by decide +kernel) (by decide) ?_
                  exact z_lo [0, 1, 2, 3] (ih (i + 1) _ _ (by omega) (by omega) (by omega) (by rw [← hr]; exact congrArg (zbest c a (i + 1) m) (by (try simp only [Int.toNat_natCast]); (first | (rw [if_pos ⟨⟨by unfold zother; omega, zopn_m (by omega)⟩, by omega⟩]) | (rw [if_neg (fun z => by obtain ⟨⟨z1, z2⟩, z3⟩ := z; unfold zother at z1; omega)]) | (rw [if_neg (fun z => by obtain ⟨⟨z1, z2⟩, z3⟩ := z; exact z2 (zopn_p (by omega)))]))))) rfl
            · refine z_goto hX (off := 24) 89 (by decide +kernel) (by decide) ?_
              refine z_b hX fo_X11 [.iinc 3 1] 92 (by decide +kernel) rfl ?_
              refine z_goto hX (off := (-66)) 26 (by decide +kernel) (by decide) ?_
              exact z_lo [0, 1, 2, 3] (ih (i + 1) _ _ (by omega) (by omega) (by omega) (by rw [← hr]; exact congrArg (zbest c a (i + 1) m) (by (try simp only [Int.toNat_natCast]); (first | (rw [if_pos ⟨⟨by unfold zother; omega, zopn_m (by omega)⟩, by omega⟩]) | (rw [if_neg (fun z => by obtain ⟨⟨z1, z2⟩, z3⟩ := z; unfold zother at z1; omega)]) | (rw [if_neg (fun z => by obtain ⟨⟨z1, z2⟩, z3⟩ := z; exact z2 (zopn_p (by omega)))]))))) rfl
    exact z_lo [0, 1, 2, 3] (loop n 0 0 (-1) rfl (Or.inl rfl) (by omega) rfl) rfl
  · rw [if_neg h1]
    refine z_if_eq hX (off := 7) 13 (by decide +kernel) (by decide) ⟨by decide, by decide⟩ (fun c6 => ?_) (fun c6 => by exact absurd c6 (by decide))
    refine z_b hX fo_X11 [.iconst 1] 14 (by decide +kernel) rfl ?_
    refine z_cV hX m_X11_fails l_X11_59 p_X11_fails (c_fails1 ⟨by decide, by decide⟩) rfl rfl rfl rfl rfl rfl (by decide +kernel) ?_
    refine z_if_eq hX (off := 5) 22 (by decide +kernel) (by decide) ⟨by decide, by decide⟩ (fun c17 => by exact absurd c17 (by decide)) (fun c17 => ?_)
    refine z_b hX fo_X11 [.iconst 0] 21 (by decide +kernel) rfl ?_
    exact z_iret hX hR (by decide +kernel) (Pm_fail (e := eIB) (by unfold aBest; rw [if_neg h1]; (try simp only [Int.toNat_natCast]); rfl) ne_IB_UO hM cd2_1)
