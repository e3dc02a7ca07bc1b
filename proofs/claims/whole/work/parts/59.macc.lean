/-! ===== the model: accounts, texts, undo ===== -/
set_option maxHeartbeats 1000000 in
theorem c_X11_sumOf {E : zE} {w n : Nat} {σ : Nat → Nat → Int} {c : Nat → Int} {l : (Nat → Int64) × (Nat → UInt64)} (hn : c 8 = (n : Int)) (h12 : n ≤ 12) (hw : w < 6) : Rv E yX11_sumOf (Cond.code yX11_sumOf cX11_sumOf 4 (Option.some FieldType.int)) 1 [vr 32, vi (w : Int)] ((zs σ 33 (gm c), l)) (vi (zsum c (13 + 12 * w) n)) ((zs σ 33 (gm c), l)) := by
  refine Ctr_of (own := RX11) (by decide +kernel) rfl rfl (fun Y hX hR hnx => ?_)
  refine z_b hX fo_X11 [.iconst 0, .istore_n 2, .iconst 0, .istore_n 3] 4 (by decide +kernel) rfl ?_
  have loop : ∀ (m : Nat) (i : Nat) (x s : Int), x = (i : Int) → s = zsum c (13 + 12 * w) i → i + m = n → Z (E, Y) 0 4 [(3, vi x), (2, vi s), (0, vr 32), (1, vi (w : Int))] [] (zs σ 33 (gm c), l) := by
    intro m
    induction m with
    | zero =>
      intro i x s hx hs hm
      subst hx
      refine z_b hX fo_X11 [.iload_n 3, .aload_n 0, .getfield 7, .bipush 9] 11 (by decide +kernel) rfl ?_
      refine z_ig hX (v := c 8) (9) rfl (by omega) (by omega) (by decide +kernel) ?_
      rw [hn]
      refine z_ic_ge hX (off := 18) 30 (by decide +kernel) (by decide) ⟨by omega, by omega⟩ ⟨by omega, by omega⟩ (fun c12 => ?_) (fun c12 => by exfalso; omega)
      refine z_b hX fo_X11 [.iload_n 2] 31 (by decide +kernel) rfl ?_
      exact z_iret hX hR (by decide +kernel) ⟨by rw [hs, show i = n by omega], rfl⟩
    | succ m ih =>
      intro i x s hx hs hm
      subst hx
      refine z_b hX fo_X11 [.iload_n 3, .aload_n 0, .getfield 7, .bipush 9] 11 (by decide +kernel) rfl ?_
      refine z_ig hX (v := c 8) (9) rfl (by omega) (by omega) (by decide +kernel) ?_
      rw [hn]
      refine z_ic_ge hX (off := 18) 30 (by decide +kernel) (by decide) ⟨by omega, by omega⟩ ⟨by omega, by omega⟩ (fun c12 => by exfalso; omega) (fun c12 => ?_)
      refine z_b hX fo_X11 [.iload_n 2, .aload_n 0, .iload_n 3, .iload_n 1] 19 (by decide +kernel) rfl ?_
      refine z_cV hX m_X11_of l_X11_84 p_X11_of (c_of (k := i) (w := w) (by omega) hw) rfl rfl rfl rfl rfl rfl (by decide +kernel) ?_
      refine z_b hX fo_X11 [.iadd, .istore_n 2, .iinc 3 1] 27 (by decide +kernel) rfl ?_
      refine z_goto hX (off := (-23)) 4 (by decide +kernel) (by decide) ?_
      exact z_lo [0, 1, 2, 3] (ih (i + 1) _ _ (by omega) (by rw [hs]; rfl) (by omega)) rfl
  exact z_lo [0, 1, 2, 3] (loop n 0 0 0 rfl rfl (by omega)) rfl
set_option maxHeartbeats 1000000 in
theorem c_X11_inTrunks {E : zE} {n : Nat} {D : Int} {σ : Nat → Nat → Int} {c : Nat → Int} {l : (Nat → Int64) × (Nat → UInt64)} (hg : Rg D c) (hn : c 8 = (n : Int)) (h12 : n ≤ 12) : Rv E yX11_inTrunks (Cond.code yX11_inTrunks cX11_inTrunks 3 (Option.some FieldType.int)) 1 [vr 32] ((zs σ 33 (gm c), l)) (vi (zcnt c n)) ((zs σ 33 (gm c), l)) := by
  refine Ctr_of (own := RX11) (by decide +kernel) rfl rfl (fun Y hX hR hnx => ?_)
  refine z_b hX fo_X11 [.iconst 0, .istore_n 1, .iconst 0, .istore_n 2] 4 (by decide +kernel) rfl ?_
  have loop : ∀ (m : Nat) (i : Nat) (x s : Int), x = (i : Int) → s = zcnt c i → i + m = n → Z (E, Y) 0 4 [(2, vi x), (1, vi s), (0, vr 32)] [] (zs σ 33 (gm c), l) := by
    intro m
    induction m with
    | zero =>
      intro i x s hx hs hm
      subst hx
      refine z_b hX fo_X11 [.iload_n 2, .aload_n 0, .getfield 7, .bipush 9] 11 (by decide +kernel) rfl ?_
      refine z_ig hX (v := c 8) (9) rfl (by omega) (by omega) (by decide +kernel) ?_
      rw [hn]
      refine z_ic_ge hX (off := 26) 38 (by decide +kernel) (by decide) ⟨by omega, by omega⟩ ⟨by omega, by omega⟩ (fun c12 => ?_) (fun c12 => by exfalso; omega)
      refine z_b hX fo_X11 [.iload_n 1] 39 (by decide +kernel) rfl ?_
      exact z_iret hX hR (by decide +kernel) ⟨by rw [hs, show i = n by omega], rfl⟩
    | succ m ih =>
      intro i x s hx hs hm
      subst hx
      refine z_b hX fo_X11 [.iload_n 2, .aload_n 0, .getfield 7, .bipush 9] 11 (by decide +kernel) rfl ?_
      refine z_ig hX (v := c 8) (9) rfl (by omega) (by omega) (by decide +kernel) ?_
      rw [hn]
      refine z_ic_ge hX (off := 26) 38 (by decide +kernel) (by decide) ⟨by omega, by omega⟩ ⟨by omega, by omega⟩ (fun c12 => by exfalso; omega) (fun c12 => ?_)
      refine z_b hX fo_X11 [.iload_n 1, .aload_n 0, .iload_n 2, .iconst 4] 19 (by decide +kernel) rfl ?_
      refine z_cV hX m_X11_of l_X11_84 p_X11_of (c_of4 (k := i) (by omega)) rfl rfl rfl rfl rfl rfl (by decide +kernel) ?_
      have gt := hg.tr (k := i) (by omega)
      refine z_if_lt hX (off := 7) 29 (by decide +kernel) (by decide) ⟨by omega, by omega⟩ (fun c22 => ?_) (fun c22 => ?_)
      · refine z_b hX fo_X11 [.iconst 0, .iadd, .istore_n 1, .iinc 2 1] 35 (by decide +kernel) rfl ?_
        refine z_goto hX (off := (-31)) 4 (by decide +kernel) (by decide) ?_
        exact z_lo [0, 1, 2] (ih (i + 1) _ _ (by omega) (by rw [hs]; show _ = zcnt c i + (if c (61 + i) ≠ -1 then 1 else 0); first | rw [if_pos (by omega)] | rw [if_neg (by omega)]) (by omega)) rfl
      · refine z_b hX fo_X11 [.iconst 1] 26 (by decide +kernel) rfl ?_
        refine z_goto hX (off := 4) 30 (by decide +kernel) (by decide) ?_
        refine z_b hX fo_X11 [.iadd, .istore_n 1, .iinc 2 1] 35 (by decide +kernel) rfl ?_
        refine z_goto hX (off := (-31)) 4 (by decide +kernel) (by decide) ?_
        exact z_lo [0, 1, 2] (ih (i + 1) _ _ (by omega) (by rw [hs]; show _ = zcnt c i + (if c (61 + i) ≠ -1 then 1 else 0); first | rw [if_pos (by omega)] | rw [if_neg (by omega)]) (by omega)) rfl
  exact z_lo [0, 1, 2] (loop n 0 0 0 rfl rfl (by omega)) rfl
set_option maxHeartbeats 1000000 in
theorem c_X11_errorPosition {E : zE} {D : Int} {R : aQ} {σ : Nat → Nat → Int} {c : Nat → Int} {l : (Nat → Int64) × (Nat → UInt64)} (hI : AI D c R) (hM : MR R σ) {cd : String → Int} : Mb E yX11_errorPosition (Cond.code yX11_errorPosition cX11_errorPosition 1 (Option.some FieldType.int)) 0 [vr 32] (σ) (c) (l) (aErr c R) (cd) := by
  refine Ctr_of (own := RX11) (by decide +kernel) rfl rfl (fun Y hX hR hnx => ?_)
  refine z_b hX fo_X11 [.aload_n 0, .iconst 0, .putfield 32, .aload_n 0, .getfield 25] 9 (by decide +kernel) rfl ?_
  rw [zco_eq]
  try dsimp only
  rw [show (zs (zco σ 0) 33 (gm c)) 32 13 = R.2.2.2.2 by rw [zs_ne (by decide), zco_o _ _ (by decide)]; exact hM.2.2.2.2]
  exact z_iret hX hR (by decide +kernel) (Pm_que (v := R.2.2.2.2) rfl rfl hM)
set_option maxHeartbeats 1000000 in
theorem c_X11_refusal {E : zE} {b D : Int} {R : aQ} {σ : Nat → Nat → Int} {c : Nat → Int} {l : (Nat → Int64) × (Nat → UInt64)} (hI : AI D c R) (hM : MR R σ) (hb : b = 0 ∨ b = 1) : Mb E yX11_refusal (Cond.code yX11_refusal cX11_refusal 2 (Option.some FieldType.int)) 1 [vr 32, vi b] (σ) (c) (l) (aRefusal c R b) ((cd1 eNS)) := by
  refine Ctr_of (own := RX11) (by decide +kernel) rfl rfl (fun Y hX hR hnx => ?_)
  refine z_b hX fo_X11 [.aload_n 0, .aload_n 0, .getfield 39] 5 (by decide +kernel) rfl ?_
  try dsimp only
  rw [show (zs σ 33 (gm c)) 32 9 = R.2.2.1.1 by rw [zs_ne (by decide)]; exact hM.2.2.1.1]
  refine z_if_ne hX (off := 7) 12 (by decide +kernel) (by decide) hI.reason (fun c5 => ?_) (fun c5 => ?_)
  · refine z_b hX fo_X11 [.iconst 0] 13 (by decide +kernel) rfl ?_
    refine z_cV hX m_X11_fails l_X11_59 p_X11_fails (c_fails0 rfl) rfl rfl rfl rfl rfl rfl (by decide +kernel) ?_
    refine z_if_eq hX (off := 7) 23 (by decide +kernel) (by decide) ⟨by decide, by decide⟩ (fun c16 => ?_) (fun c16 => by exact absurd c16 (by decide))
    refine z_b hX fo_X11 [.iload_n 1] 24 (by decide +kernel) rfl ?_
    refine z_if_eq hX (off := 10) 34 (by decide +kernel) (by decide) ⟨by omega, by omega⟩ (fun c24 => ?_) (fun c24 => ?_)
    · refine z_b hX fo_X11 [.aload_n 0, .getfield 39] 38 (by decide +kernel) rfl ?_
      try (dsimp only; rw [show (zs (zco σ 0) 33 (gm c)) 32 9 = R.2.2.1.1 by rw [zs_ne (by decide), zco_o _ _ (by decide)]; exact hM.2.2.1.1])
      try rw [show (zs (zco σ 0) 33 (gm c)) 32 9 = R.2.2.1.1 by rw [zs_ne (by decide), zco_o _ _ (by decide)]; exact hM.2.2.1.1]
      exact z_iret hX hR (by decide +kernel) (Pm_que (v := if b = 0 then R.2.2.1.1 else R.2.2.1.2) (by unfold aRefusal; rw [if_neg c5]; rfl) (by first | rw [if_pos (by omega)] | rw [if_neg (by omega)]) hM)
    · refine z_b hX fo_X11 [.aload_n 0, .getfield 42] 31 (by decide +kernel) rfl ?_
      try dsimp only
      rw [show (zs (zco σ 0) 33 (gm c)) 32 10 = R.2.2.1.2 by rw [zs_ne (by decide), zco_o _ _ (by decide)]; exact hM.2.2.1.2]
      refine z_goto hX (off := 7) 38 (by decide +kernel) (by decide) ?_
      try (dsimp only; rw [show (zs (zco σ 0) 33 (gm c)) 32 9 = R.2.2.1.1 by rw [zs_ne (by decide), zco_o _ _ (by decide)]; exact hM.2.2.1.1])
      try rw [show (zs (zco σ 0) 33 (gm c)) 32 9 = R.2.2.1.1 by rw [zs_ne (by decide), zco_o _ _ (by decide)]; exact hM.2.2.1.1]
      exact z_iret hX hR (by decide +kernel) (Pm_que (v := if b = 0 then R.2.2.1.1 else R.2.2.1.2) (by unfold aRefusal; rw [if_neg c5]; rfl) (by first | rw [if_pos (by omega)] | rw [if_neg (by omega)]) hM)
  · refine z_b hX fo_X11 [.iconst 1] 9 (by decide +kernel) rfl ?_
    refine z_goto hX (off := 4) 13 (by decide +kernel) (by decide) ?_
    refine z_cV hX m_X11_fails l_X11_59 p_X11_fails (c_fails1 ⟨by decide, by decide⟩) rfl rfl rfl rfl rfl rfl (by decide +kernel) ?_
    refine z_if_eq hX (off := 7) 23 (by decide +kernel) (by decide) ⟨by decide, by decide⟩ (fun c16 => by exact absurd c16 (by decide)) (fun c16 => ?_)
    refine z_b hX fo_X11 [.iconst 0] 20 (by decide +kernel) rfl ?_
    refine z_goto hX (off := 18) 38 (by decide +kernel) (by decide) ?_
    try (dsimp only; rw [show (zs (zco σ 0) 33 (gm c)) 32 9 = R.2.2.1.1 by rw [zs_ne (by decide), zco_o _ _ (by decide)]; exact hM.2.2.1.1])
    try rw [show (zs (zco σ 0) 33 (gm c)) 32 9 = R.2.2.1.1 by rw [zs_ne (by decide), zco_o _ _ (by decide)]; exact hM.2.2.1.1]
    exact z_iret hX hR (by decide +kernel) (Pm_fail (e := eNS) (by unfold aRefusal; rw [if_pos c5]; rfl) ne_NS_UO hM cd1_1)
set_option maxHeartbeats 1000000 in
theorem c_X11_sign {E : zE} {x D : Int} {R : aQ} {σ : Nat → Nat → Int} {c : Nat → Int} {l : (Nat → Int64) × (Nat → UInt64)} {w : Bool} (hI : AI D c R) (hM : MR R σ) (hw : σ 32 6 = wi w) (h_x : zi x) : Mb E yX11_sign (Cond.code yX11_sign cX11_sign 2 (Option.some FieldType.char)) 2 [vr 32, vi x] (σ) (c) (l) (aSign c R x) ((cd1 eIB)) := by
  refine Ctr_of (own := RX11) (by decide +kernel) rfl rfl (fun Y hX hR hnx => ?_)
  have g8 := hI.1.1.coats
  have g9 := hI.1.1.acts
  have g10 := hI.1.1.women
  have g11 := hI.1.1.trunks
  have g12 := hI.1.1.loaded
  have g1 := hI.1.1.g1
  have g2 := hI.1.1.g2
  have g3 := hI.1.1.g3
  refine z_b hX fo_X11 [.aload_n 0, .aload_n 0, .iload_n 1] 3 (by decide +kernel) rfl ?_
  refine z_cV hX m_X11_isCoat l_X11_81 p_X11_isCoat (c_X11_isCoat h_x ⟨by omega, by omega⟩) rfl rfl rfl rfl rfl rfl (by decide +kernel) ?_
  by_cases h1 : hC c x
  · rw [if_pos h1]
    obtain ⟨k, rfl⟩ : ∃ z : Nat, x = (z : Int) := ⟨x.toNat, by omega⟩
    refine z_if_eq hX (off := 7) 13 (by decide +kernel) (by decide) ⟨by decide, by decide⟩ (fun c6 => by exact absurd c6 (by decide)) (fun c6 => ?_)
    refine z_b hX fo_X11 [.iconst 0] 10 (by decide +kernel) rfl ?_
    refine z_goto hX (off := 4) 14 (by decide +kernel) (by decide) ?_
    refine z_cV hX m_X11_fails l_X11_59 p_X11_fails (c_fails0 rfl) rfl rfl rfl rfl rfl rfl (by decide +kernel) ?_
    refine z_if_eq hX (off := 6) 23 (by decide +kernel) (by decide) ⟨by decide, by decide⟩ (fun c17 => ?_) (fun c17 => by exact absurd c17 (by decide))
    refine z_b hX fo_X11 [.aload_n 0, .iload_n 1, .iconst 4] 26 (by decide +kernel) rfl ?_
    refine z_cV hX m_X11_of l_X11_84 p_X11_of (c_of4 (k := k) (by omega)) rfl rfl rfl rfl rfl rfl (by decide +kernel) ?_
    have s0 := hI.1.1.tr (k := k) (by omega)
    have s1 := hI.1.1.rips (k := k) (by omega)
    have s2 := hI.1.1.miss (k := k) (by omega)
    have s3 := hI.1.1.own (k := k) (by omega)
    refine z_if_lt hX (off := 6) 35 (by decide +kernel) (by decide) ⟨by omega, by omega⟩ (fun c29 => ?_) (fun c29 => ?_)
    · refine z_b hX fo_X11 [.aload_n 0, .iload_n 1, .iconst 1] 38 (by decide +kernel) rfl ?_
      refine z_cV hX m_X11_of l_X11_84 p_X11_of (c_of1 (k := k) (by omega)) rfl rfl rfl rfl rfl rfl (by decide +kernel) ?_
      refine z_if_le hX (off := 8) 49 (by decide +kernel) (by decide) ⟨by omega, by omega⟩ (fun c41 => ?_) (fun c41 => ?_)
      · refine z_b hX fo_X11 [.aload_n 0, .iload_n 1, .iconst 2] 52 (by decide +kernel) rfl ?_
        refine z_cV hX m_X11_of l_X11_84 p_X11_of (c_of2 (k := k) (by omega)) rfl rfl rfl rfl rfl rfl (by decide +kernel) ?_
        refine z_b hX fo_X11 [.bipush 10] 57 (by decide +kernel) rfl ?_
        refine z_ic_le hX (off := 8) 65 (by decide +kernel) (by decide) ⟨by omega, by omega⟩ ⟨by omega, by omega⟩ (fun c57 => ?_) (fun c57 => ?_)
        · refine z_b hX fo_X11 [.aload_n 0, .iload_n 1, .iconst 3] 68 (by decide +kernel) rfl ?_
          refine z_cV hX m_X11_of l_X11_84 p_X11_of (c_of3 (k := k) (by omega)) rfl rfl rfl rfl rfl rfl (by decide +kernel) ?_
          refine z_if_lt hX (off := 8) 79 (by decide +kernel) (by decide) ⟨by omega, by omega⟩ (fun c71 => ?_) (fun c71 => ?_)
          · refine z_b hX fo_X11 [.bipush 99] 81 (by decide +kernel) rfl ?_
            exact z_zret hX hR (by decide +kernel) (by decide +kernel) (Pm_que (v := zsign c k) (by unfold aSign; rw [if_pos h1]; (try simp only [Int.toNat_natCast]); rfl) (by unfold zsign; first | rw [if_pos (by omega)] | rw [if_neg (by omega), if_pos (by omega)] | rw [if_neg (by omega), if_neg (by omega), if_pos (by omega)] | rw [if_neg (by omega), if_neg (by omega), if_neg (by omega), if_pos (by omega)] | rw [if_neg (by omega), if_neg (by omega), if_neg (by omega), if_neg (by omega)]) hM)
          · refine z_b hX fo_X11 [.bipush 119] 76 (by decide +kernel) rfl ?_
            refine z_goto hX (off := 5) 81 (by decide +kernel) (by decide) ?_
            exact z_zret hX hR (by decide +kernel) (by decide +kernel) (Pm_que (v := zsign c k) (by unfold aSign; rw [if_pos h1]; (try simp only [Int.toNat_natCast]); rfl) (by unfold zsign; first | rw [if_pos (by omega)] | rw [if_neg (by omega), if_pos (by omega)] | rw [if_neg (by omega), if_neg (by omega), if_pos (by omega)] | rw [if_neg (by omega), if_neg (by omega), if_neg (by omega), if_pos (by omega)] | rw [if_neg (by omega), if_neg (by omega), if_neg (by omega), if_neg (by omega)]) hM)
        · refine z_b hX fo_X11 [.bipush 115] 62 (by decide +kernel) rfl ?_
          refine z_goto hX (off := 19) 81 (by decide +kernel) (by decide) ?_
          exact z_zret hX hR (by decide +kernel) (by decide +kernel) (Pm_que (v := zsign c k) (by unfold aSign; rw [if_pos h1]; (try simp only [Int.toNat_natCast]); rfl) (by unfold zsign; first | rw [if_pos (by omega)] | rw [if_neg (by omega), if_pos (by omega)] | rw [if_neg (by omega), if_neg (by omega), if_pos (by omega)] | rw [if_neg (by omega), if_neg (by omega), if_neg (by omega), if_pos (by omega)] | rw [if_neg (by omega), if_neg (by omega), if_neg (by omega), if_neg (by omega)]) hM)
      · refine z_b hX fo_X11 [.bipush 114] 46 (by decide +kernel) rfl ?_
        refine z_goto hX (off := 35) 81 (by decide +kernel) (by decide) ?_
        exact z_zret hX hR (by decide +kernel) (by decide +kernel) (Pm_que (v := zsign c k) (by unfold aSign; rw [if_pos h1]; (try simp only [Int.toNat_natCast]); rfl) (by unfold zsign; first | rw [if_pos (by omega)] | rw [if_neg (by omega), if_pos (by omega)] | rw [if_neg (by omega), if_neg (by omega), if_pos (by omega)] | rw [if_neg (by omega), if_neg (by omega), if_neg (by omega), if_pos (by omega)] | rw [if_neg (by omega), if_neg (by omega), if_neg (by omega), if_neg (by omega)]) hM)
    · refine z_b hX fo_X11 [.bipush 116] 34 (by decide +kernel) rfl ?_
      exact z_zret hX hR (by decide +kernel) (by decide +kernel) (Pm_que (v := zsign c k) (by unfold aSign; rw [if_pos h1]; (try simp only [Int.toNat_natCast]); rfl) (by unfold zsign; first | rw [if_pos (by omega)] | rw [if_neg (by omega), if_pos (by omega)] | rw [if_neg (by omega), if_neg (by omega), if_pos (by omega)] | rw [if_neg (by omega), if_neg (by omega), if_neg (by omega), if_pos (by omega)] | rw [if_neg (by omega), if_neg (by omega), if_neg (by omega), if_neg (by omega)]) hM)
  · rw [if_neg h1]
    refine z_if_eq hX (off := 7) 13 (by decide +kernel) (by decide) ⟨by decide, by decide⟩ (fun c6 => ?_) (fun c6 => by exact absurd c6 (by decide))
    refine z_b hX fo_X11 [.iconst 1] 14 (by decide +kernel) rfl ?_
    refine z_cV hX m_X11_fails l_X11_59 p_X11_fails (c_fails1 ⟨by decide, by decide⟩) rfl rfl rfl rfl rfl rfl (by decide +kernel) ?_
    refine z_if_eq hX (off := 6) 23 (by decide +kernel) (by decide) ⟨by decide, by decide⟩ (fun c17 => by exact absurd c17 (by decide)) (fun c17 => ?_)
    refine z_b hX fo_X11 [.bipush 32] 22 (by decide +kernel) rfl ?_
    exact z_zret hX hR (by decide +kernel) (by decide +kernel) (Pm_fail (e := eIB) (by unfold aSign; rw [if_neg h1]; (try simp only [Int.toNat_natCast]); rfl) ne_IB_UO hM cd1_1)
