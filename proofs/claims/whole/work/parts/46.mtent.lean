/-! ===== the model: what lacks, the tent, the train ===== -/
set_option maxHeartbeats 1000000 in
theorem c_lacks_n {E : zE} {w : Nat} {p h t D : Int} {σ : Nat → Nat → Int} {c : Nat → Int} {l : (Nat → Int64) × (Nat → UInt64)} (hg : Rg D c) (hw : w < 4) (hh : 0 ≤ h ∧ h ≤ 1000) (ht : 0 ≤ t ∧ t ≤ 1000) (q1 : h ≤ c (109 + w)) (q2 : t ≤ c 2) : Rv E yX11_lacks (Cond.code yX11_lacks cX11_lacks 7 (Option.some FieldType.boolean)) 1 [vr 32, vi (w : Int), vi p, vi h, vi t] ((zs σ 33 (gm c), l)) (vi 0) ((zs σ 33 (gm c), l)) := by
  refine Ctr_of (own := RX11) (by decide +kernel) rfl rfl (fun Y hX hR hnx => ?_)
  have g1 := hg.hours hw
  have g2 := hg.g2
  refine z_b hX fo_X11 [.iload_n 3, .aload_n 0, .iload_n 1, .iconst 0] 4 (by decide +kernel) rfl ?_
  refine z_cV hX m_X11_ofWoman l_X11_106 p_X11_ofWoman (c_ofWoman0 hw) rfl rfl rfl rfl rfl rfl (by decide +kernel) ?_
  refine z_b hX fo_X11 [.isub, .istore 5, .iload 4, .aload_n 0, .getfield 7, .iconst 2] 17 (by decide +kernel) rfl ?_
  refine z_ig hX (v := c 2) (2) rfl (by omega) (by omega) (by decide +kernel) ?_
  refine z_b hX fo_X11 [.isub, .istore 6, .iload 5] 23 (by decide +kernel) rfl ?_
  refine z_if_gt hX (off := 8) 31 (by decide +kernel) (by decide) ⟨by omega, by omega⟩ (fun c23 => by exfalso; omega) (fun c23 => ?_)
  refine z_b hX fo_X11 [.iload 6] 28 (by decide +kernel) rfl ?_
  refine z_if_le hX (off := 32) 60 (by decide +kernel) (by decide) ⟨by omega, by omega⟩ (fun c28 => ?_) (fun c28 => by exfalso; omega)
  refine z_b hX fo_X11 [.iload 5] 62 (by decide +kernel) rfl ?_
  refine z_if_gt hX (off := 8) 70 (by decide +kernel) (by decide) ⟨by omega, by omega⟩ (fun c62 => by exfalso; omega) (fun c62 => ?_)
  refine z_b hX fo_X11 [.iload 6] 67 (by decide +kernel) rfl ?_
  refine z_if_le hX (off := 7) 74 (by decide +kernel) (by decide) ⟨by omega, by omega⟩ (fun c67 => ?_) (fun c67 => by exfalso; omega)
  refine z_b hX fo_X11 [.iconst 0] 75 (by decide +kernel) rfl ?_
  exact z_zret hX hR (by decide +kernel) (by decide +kernel) ⟨rfl, rfl⟩
set_option maxHeartbeats 1000000 in
theorem c_lacks_h {E : zE} {w : Nat} {p h t D : Int} {σ : Nat → Nat → Int} {c : Nat → Int} {l : (Nat → Int64) × (Nat → UInt64)} (hg : Rg D c) (hw : w < 4) (hh : 0 ≤ h ∧ h ≤ 1000) (ht : 0 ≤ t ∧ t ≤ 1000) (q1 : c (109 + w) < h) : Rv E yX11_lacks (Cond.code yX11_lacks cX11_lacks 7 (Option.some FieldType.boolean)) 1 [vr 32, vi (w : Int), vi p, vi h, vi t] ((zs σ 33 (gm c), l)) (vi 1) ((zs (zrq σ p 5 (h - c (109 + w))) 33 (gm c), l)) := by
  refine Ctr_of (own := RX11) (by decide +kernel) rfl rfl (fun Y hX hR hnx => ?_)
  have g1 := hg.hours hw
  have g2 := hg.g2
  refine z_b hX fo_X11 [.iload_n 3, .aload_n 0, .iload_n 1, .iconst 0] 4 (by decide +kernel) rfl ?_
  refine z_cV hX m_X11_ofWoman l_X11_106 p_X11_ofWoman (c_ofWoman0 hw) rfl rfl rfl rfl rfl rfl (by decide +kernel) ?_
  refine z_b hX fo_X11 [.isub, .istore 5, .iload 4, .aload_n 0, .getfield 7, .iconst 2] 17 (by decide +kernel) rfl ?_
  refine z_ig hX (v := c 2) (2) rfl (by omega) (by omega) (by decide +kernel) ?_
  refine z_b hX fo_X11 [.isub, .istore 6, .iload 5] 23 (by decide +kernel) rfl ?_
  refine z_if_gt hX (off := 8) 31 (by decide +kernel) (by decide) ⟨by omega, by omega⟩ (fun c23 => ?_) (fun c23 => by exfalso; omega)
  refine z_b hX fo_X11 [.aload_n 0, .iload_n 2, .iload 5] 35 (by decide +kernel) rfl ?_
  refine z_if_le hX (off := 7) 42 (by decide +kernel) (by decide) ⟨by omega, by omega⟩ (fun c35 => by exfalso; omega) (fun c35 => ?_)
  refine z_b hX fo_X11 [.iconst 5] 39 (by decide +kernel) rfl ?_
  refine z_goto hX (off := 5) 44 (by decide +kernel) (by decide) ?_
  refine z_b hX fo_X11 [.iload 5] 46 (by decide +kernel) rfl ?_
  refine z_if_le hX (off := 8) 54 (by decide +kernel) (by decide) ⟨by omega, by omega⟩ (fun c46 => by exfalso; omega) (fun c46 => ?_)
  refine z_b hX fo_X11 [.iload 5] 51 (by decide +kernel) rfl ?_
  refine z_goto hX (off := 5) 56 (by decide +kernel) (by decide) ?_
  refine z_cV hX m_X11_refuses l_X11_63 p_X11_refuses c_X11_refuses rfl rfl rfl rfl rfl rfl (by decide +kernel) ?_
  refine z_b hX fo_X11 [.pop, .iload 5] 62 (by decide +kernel) rfl ?_
  refine z_if_gt hX (off := 8) 70 (by decide +kernel) (by decide) ⟨by omega, by omega⟩ (fun c62 => ?_) (fun c62 => by exfalso; omega)
  refine z_b hX fo_X11 [.iconst 1] 71 (by decide +kernel) rfl ?_
  refine z_goto hX (off := 4) 75 (by decide +kernel) (by decide) ?_
  exact z_zret hX hR (by decide +kernel) (by decide +kernel) ⟨rfl, rfl⟩
set_option maxHeartbeats 1000000 in
theorem c_lacks_t {E : zE} {w : Nat} {p h t D : Int} {σ : Nat → Nat → Int} {c : Nat → Int} {l : (Nat → Int64) × (Nat → UInt64)} (hg : Rg D c) (hw : w < 4) (hh : 0 ≤ h ∧ h ≤ 1000) (ht : 0 ≤ t ∧ t ≤ 1000) (q1 : h ≤ c (109 + w)) (q2 : c 2 < t) : Rv E yX11_lacks (Cond.code yX11_lacks cX11_lacks 7 (Option.some FieldType.boolean)) 1 [vr 32, vi (w : Int), vi p, vi h, vi t] ((zs σ 33 (gm c), l)) (vi 1) ((zs (zrq σ p 7 (t - c 2)) 33 (gm c), l)) := by
  refine Ctr_of (own := RX11) (by decide +kernel) rfl rfl (fun Y hX hR hnx => ?_)
  have g1 := hg.hours hw
  have g2 := hg.g2
  refine z_b hX fo_X11 [.iload_n 3, .aload_n 0, .iload_n 1, .iconst 0] 4 (by decide +kernel) rfl ?_
  refine z_cV hX m_X11_ofWoman l_X11_106 p_X11_ofWoman (c_ofWoman0 hw) rfl rfl rfl rfl rfl rfl (by decide +kernel) ?_
  refine z_b hX fo_X11 [.isub, .istore 5, .iload 4, .aload_n 0, .getfield 7, .iconst 2] 17 (by decide +kernel) rfl ?_
  refine z_ig hX (v := c 2) (2) rfl (by omega) (by omega) (by decide +kernel) ?_
  refine z_b hX fo_X11 [.isub, .istore 6, .iload 5] 23 (by decide +kernel) rfl ?_
  refine z_if_gt hX (off := 8) 31 (by decide +kernel) (by decide) ⟨by omega, by omega⟩ (fun c23 => by exfalso; omega) (fun c23 => ?_)
  refine z_b hX fo_X11 [.iload 6] 28 (by decide +kernel) rfl ?_
  refine z_if_le hX (off := 32) 60 (by decide +kernel) (by decide) ⟨by omega, by omega⟩ (fun c28 => by exfalso; omega) (fun c28 => ?_)
  refine z_b hX fo_X11 [.aload_n 0, .iload_n 2, .iload 5] 35 (by decide +kernel) rfl ?_
  refine z_if_le hX (off := 7) 42 (by decide +kernel) (by decide) ⟨by omega, by omega⟩ (fun c35 => ?_) (fun c35 => by exfalso; omega)
  refine z_b hX fo_X11 [.bipush 7, .iload 5] 46 (by decide +kernel) rfl ?_
  refine z_if_le hX (off := 8) 54 (by decide +kernel) (by decide) ⟨by omega, by omega⟩ (fun c46 => ?_) (fun c46 => by exfalso; omega)
  refine z_b hX fo_X11 [.iload 6] 56 (by decide +kernel) rfl ?_
  refine z_cV hX m_X11_refuses l_X11_63 p_X11_refuses c_X11_refuses rfl rfl rfl rfl rfl rfl (by decide +kernel) ?_
  refine z_b hX fo_X11 [.pop, .iload 5] 62 (by decide +kernel) rfl ?_
  refine z_if_gt hX (off := 8) 70 (by decide +kernel) (by decide) ⟨by omega, by omega⟩ (fun c62 => by exfalso; omega) (fun c62 => ?_)
  refine z_b hX fo_X11 [.iload 6] 67 (by decide +kernel) rfl ?_
  refine z_if_le hX (off := 7) 74 (by decide +kernel) (by decide) ⟨by omega, by omega⟩ (fun c67 => by exfalso; omega) (fun c67 => ?_)
  refine z_b hX fo_X11 [.iconst 1] 71 (by decide +kernel) rfl ?_
  refine z_goto hX (off := 4) 75 (by decide +kernel) (by decide) ?_
  exact z_zret hX hR (by decide +kernel) (by decide +kernel) ⟨rfl, rfl⟩
set_option maxHeartbeats 1000000 in
theorem c_X11_isTorn {E : zE} {p : Nat} {σ : Nat → Nat → Int} {c : Nat → Int} {l : (Nat → Int64) × (Nat → UInt64)} (hp : p < 32) : Rv E yX11_isTorn (Cond.code yX11_isTorn cX11_isTorn 2 (Option.some FieldType.boolean)) 0 [vr 32, vi (p : Int)] ((zs σ 33 (gm c), l)) (vi (if c (149 + p) ≠ 0 then 1 else 0)) ((zs σ 33 (gm c), l)) := by
  refine Ctr_of (own := RX11) (by decide +kernel) rfl rfl (fun Y hX hR hnx => ?_)
  refine z_b hX fo_X11 [.aload_n 0, .getfield 7, .bipush 7] 6 (by decide +kernel) rfl ?_
  refine z_ig hX (v := tb c) (7) rfl (by omega) (by omega) (by decide +kernel) ?_
  refine z_b hX fo_X11 [.iload_n 1] 8 (by decide +kernel) rfl ?_
  refine z_ishr hX (by decide +kernel) ?_
  refine z_b hX fo_X11 [.iconst 1] 10 (by decide +kernel) rfl ?_
  refine z_iand hX (by decide +kernel) ?_
  rw [bt_ask c hp]
  by_cases hq : c (149 + p) ≠ 0
  · have hq1 : (if c (149 + p) ≠ 0 then (1 : Int) else 0) = 1 := if_pos hq
    rw [hq1]
    refine z_b hX fo_X11 [.iconst 1] 12 (by decide +kernel) rfl ?_
    refine z_ic_ne hX (off := 7) 19 (by decide +kernel) (by decide) ⟨by decide, by decide⟩ ⟨by decide, by decide⟩ (fun c12 => by exact absurd c12 (by decide)) (fun c12 => ?_)
    refine z_b hX fo_X11 [.iconst 1] 16 (by decide +kernel) rfl ?_
    refine z_goto hX (off := 4) 20 (by decide +kernel) (by decide) ?_
    exact z_zret hX hR (by decide +kernel) (by decide +kernel) ⟨by rw [if_pos hq], rfl⟩
  · have hq1 : (if c (149 + p) ≠ 0 then (1 : Int) else 0) = 0 := if_neg hq
    rw [hq1]
    refine z_b hX fo_X11 [.iconst 1] 12 (by decide +kernel) rfl ?_
    refine z_ic_ne hX (off := 7) 19 (by decide +kernel) (by decide) ⟨by decide, by decide⟩ ⟨by decide, by decide⟩ (fun c12 => ?_) (fun c12 => by exact absurd c12 (by decide))
    refine z_b hX fo_X11 [.iconst 0] 20 (by decide +kernel) rfl ?_
    exact z_zret hX hR (by decide +kernel) (by decide +kernel) ⟨by rw [if_neg hq], rfl⟩
set_option maxHeartbeats 1000000 in
theorem c_X11_holes {E : zE} {D : Int} {σ : Nat → Nat → Int} {c : Nat → Int} {l : (Nat → Int64) × (Nat → UInt64)} (hg : Rg D c) : Rv E yX11_holes (Cond.code yX11_holes cX11_holes 3 (Option.some FieldType.int)) 1 [vr 32] ((zs σ 33 (gm c), l)) (vi (zsum c 149 32)) ((zs σ 33 (gm c), l)) := by
  refine Ctr_of (own := RX11) (by decide +kernel) rfl rfl (fun Y hX hR hnx => ?_)
  refine z_b hX fo_X11 [.iconst 0, .istore_n 1, .iconst 0, .istore_n 2] 4 (by decide +kernel) rfl ?_
  have loop : ∀ (m : Nat) (i : Nat) (x s : Int), x = (i : Int) → s = zsum c 149 i → i + m = 32 → Z (E, Y) 0 4 [(2, vi x), (1, vi s), (0, vr 32)] [] (zs σ 33 (gm c), l) := by
    intro m
    induction m with
    | zero =>
      intro i x s hx hs hm
      subst hx
      refine z_b hX fo_X11 [.iload_n 2, .bipush 32] 7 (by decide +kernel) rfl ?_
      refine z_ic_ge hX (off := 25) 32 (by decide +kernel) (by decide) ⟨by omega, by omega⟩ ⟨by omega, by omega⟩ (fun c7 => ?_) (fun c7 => by exfalso; omega)
      refine z_b hX fo_X11 [.iload_n 1] 33 (by decide +kernel) rfl ?_
      exact z_iret hX hR (by decide +kernel) ⟨by rw [hs, show i = 32 by omega], rfl⟩
    | succ m ih =>
      intro i x s hx hs hm
      subst hx
      refine z_b hX fo_X11 [.iload_n 2, .bipush 32] 7 (by decide +kernel) rfl ?_
      refine z_ic_ge hX (off := 25) 32 (by decide +kernel) (by decide) ⟨by omega, by omega⟩ ⟨by omega, by omega⟩ (fun c7 => by exfalso; omega) (fun c7 => ?_)
      refine z_b hX fo_X11 [.iload_n 1, .aload_n 0, .iload_n 2] 13 (by decide +kernel) rfl ?_
      refine z_cV hX m_X11_isTorn l_X11_116 p_X11_isTorn (c_X11_isTorn (p := i) (by omega)) rfl rfl rfl rfl rfl rfl (by decide +kernel) ?_
      have gt := hg.torn (k := i) (by omega)
      by_cases hq : c (149 + i) ≠ 0
      · have hq1 : (if c (149 + i) ≠ 0 then (1 : Int) else 0) = 1 := if_pos hq
        rw [hq1]
        refine z_if_eq hX (off := 7) 23 (by decide +kernel) (by decide) ⟨by decide, by decide⟩ (fun c16 => by exact absurd c16 (by decide)) (fun c16 => ?_)
        refine z_b hX fo_X11 [.iconst 1] 20 (by decide +kernel) rfl ?_
        refine z_goto hX (off := 4) 24 (by decide +kernel) (by decide) ?_
        refine z_b hX fo_X11 [.iadd, .istore_n 1, .iinc 2 1] 29 (by decide +kernel) rfl ?_
        refine z_goto hX (off := (-25)) 4 (by decide +kernel) (by decide) ?_
        exact z_lo [0, 1, 2] (ih (i + 1) _ _ (by omega) (by show _ = zsum c 149 i + c (149 + i); omega) (by omega)) rfl
      · have hq1 : (if c (149 + i) ≠ 0 then (1 : Int) else 0) = 0 := if_neg hq
        rw [hq1]
        refine z_if_eq hX (off := 7) 23 (by decide +kernel) (by decide) ⟨by decide, by decide⟩ (fun c16 => ?_) (fun c16 => by exact absurd c16 (by decide))
        refine z_b hX fo_X11 [.iconst 0, .iadd, .istore_n 1, .iinc 2 1] 29 (by decide +kernel) rfl ?_
        refine z_goto hX (off := (-25)) 4 (by decide +kernel) (by decide) ?_
        exact z_lo [0, 1, 2] (ih (i + 1) _ _ (by omega) (by show _ = zsum c 149 i + c (149 + i); omega) (by omega)) rfl
  exact z_lo [0, 1, 2] (loop 32 0 0 0 rfl rfl (by omega)) rfl
set_option maxHeartbeats 1000000 in
theorem c_X11_tornFrom {E : zE} {a : Nat} {D : Int} {σ : Nat → Nat → Int} {c : Nat → Int} {l : (Nat → Int64) × (Nat → UInt64)} (hg : Rg D c) (ha : a ≤ 32) : Rv E yX11_tornFrom (Cond.code yX11_tornFrom cX11_tornFrom 3 (Option.some FieldType.int)) 1 [vr 32, vi (a : Int)] ((zs σ 33 (gm c), l)) (vi (zfst (fun p => c (149 + p)) a (32 - a))) ((zs σ 33 (gm c), l)) := by
  refine Ctr_of (own := RX11) (by decide +kernel) rfl rfl (fun Y hX hR hnx => ?_)
  refine z_b hX fo_X11 [.iload_n 1, .istore_n 2] 2 (by decide +kernel) rfl ?_
  have loop : ∀ (m : Nat) (i : Nat) (x : Int), x = (i : Int) → i + m = 32 → zfst (fun p => c (149 + p)) i m = zfst (fun p => c (149 + p)) a (32 - a) → Z (E, Y) 0 2 [(2, vi x), (0, vr 32), (1, vi (a : Int))] [] (zs σ 33 (gm c), l) := by
    intro m
    induction m with
    | zero =>
      intro i x hx hm hr
      subst hx
      refine z_b hX fo_X11 [.iload_n 2, .bipush 32] 5 (by decide +kernel) rfl ?_
      refine z_ic_ge hX (off := 19) 24 (by decide +kernel) (by decide) ⟨by omega, by omega⟩ ⟨by omega, by omega⟩ (fun c5 => ?_) (fun c5 => by exfalso; omega)
      refine z_b hX fo_X11 [.iconst (-1)] 25 (by decide +kernel) rfl ?_
      exact z_iret hX hR (by decide +kernel) ⟨by rw [← hr]; rfl, rfl⟩
    | succ m ih =>
      intro i x hx hm hr
      subst hx
      refine z_b hX fo_X11 [.iload_n 2, .bipush 32] 5 (by decide +kernel) rfl ?_
      refine z_ic_ge hX (off := 19) 24 (by decide +kernel) (by decide) ⟨by omega, by omega⟩ ⟨by omega, by omega⟩ (fun c5 => by exfalso; omega) (fun c5 => ?_)
      refine z_b hX fo_X11 [.aload_n 0, .iload_n 2] 10 (by decide +kernel) rfl ?_
      refine z_cV hX m_X11_isTorn l_X11_116 p_X11_isTorn (c_X11_isTorn (p := i) (by omega)) rfl rfl rfl rfl rfl rfl (by decide +kernel) ?_
      have gt := hg.torn (k := i) (by omega)
      by_cases hq : c (149 + i) ≠ 0
      · have hq1 : (if c (149 + i) ≠ 0 then (1 : Int) else 0) = 1 := if_pos hq
        rw [hq1]
        refine z_if_eq hX (off := 5) 18 (by decide +kernel) (by decide) ⟨by decide, by decide⟩ (fun c13 => by exact absurd c13 (by decide)) (fun c13 => ?_)
        refine z_b hX fo_X11 [.iload_n 2] 17 (by decide +kernel) rfl ?_
        exact z_iret hX hR (by decide +kernel) ⟨by rw [← hr]; exact congrArg (fun z => Sum.inl (some (vi z))) (if_pos hq).symm, rfl⟩
      · have hq1 : (if c (149 + i) ≠ 0 then (1 : Int) else 0) = 0 := if_neg hq
        rw [hq1]
        refine z_if_eq hX (off := 5) 18 (by decide +kernel) (by decide) ⟨by decide, by decide⟩ (fun c13 => ?_) (fun c13 => by exact absurd c13 (by decide))
        refine z_b hX fo_X11 [.iinc 2 1] 21 (by decide +kernel) rfl ?_
        refine z_goto hX (off := (-19)) 2 (by decide +kernel) (by decide) ?_
        exact z_lo [0, 1, 2] (ih (i + 1) _ (by omega) (by omega) (by rw [← hr]; exact (if_neg hq).symm)) rfl
  exact z_lo [0, 1, 2] (loop (32 - a) a _ rfl (by omega) rfl) rfl
set_option maxHeartbeats 1000000 in
theorem c_X11_trainPlace {E : zE} {t D : Int} {σ : Nat → Nat → Int} {c : Nat → Int} {l : (Nat → Int64) × (Nat → UInt64)} (hg : Rg D c) (ht : zi t) : Rv E yX11_trainPlace (Cond.code yX11_trainPlace cX11_trainPlace 3 (Option.some FieldType.int)) 0 [vr 32, vi t] ((zs σ 33 (gm c), l)) (vi (zonT c t)) ((zs σ 33 (gm c), l)) := by
  refine Ctr_of (own := RX11) (by decide +kernel) rfl rfl (fun Y hX hR hnx => ?_)
  have g := hg.loaded
  obtain ⟨n, hn⟩ : ∃ n : Nat, c 12 = (n : Int) := ⟨(c 12).toNat, by omega⟩
  unfold zonT at hR
  rw [hn, Int.toNat_natCast] at hR
  have hz : ∀ p, p < n → zi (c (125 + p)) := fun p hp => by have := hg.train (k := p) (by omega); exact ⟨by omega, by omega⟩
  refine z_b hX fo_X11 [.iconst 0, .istore_n 2] 2 (by decide +kernel) rfl ?_
  have loop : ∀ (m : Nat) (i : Nat) (x : Int), x = (i : Int) → i + m = n → zfnd (fun p => c (125 + p)) t i m = zfnd (fun p => c (125 + p)) t 0 n → Z (E, Y) 0 2 [(2, vi x), (0, vr 32), (1, vi t)] [] (zs σ 33 (gm c), l) := by
    intro m
    induction m with
    | zero =>
      intro i x hx hm hr
      subst hx
      refine z_b hX fo_X11 [.iload_n 2, .aload_n 0, .getfield 7, .sipush 145] 10 (by decide +kernel) rfl ?_
      refine z_ig hX (v := c 12) (145) rfl (by omega) (by omega) (by decide +kernel) ?_
      rw [hn]
      refine z_ic_ge hX (off := 25) 36 (by decide +kernel) (by decide) ⟨by omega, by omega⟩ ⟨by omega, by omega⟩ (fun c11 => ?_) (fun c11 => by exfalso; omega)
      refine z_b hX fo_X11 [.iconst (-1)] 37 (by decide +kernel) rfl ?_
      exact z_iret hX hR (by decide +kernel) ⟨by rw [← hr]; rfl, rfl⟩
    | succ m ih =>
      intro i x hx hm hr
      subst hx
      refine z_b hX fo_X11 [.iload_n 2, .aload_n 0, .getfield 7, .sipush 145] 10 (by decide +kernel) rfl ?_
      refine z_ig hX (v := c 12) (145) rfl (by omega) (by omega) (by decide +kernel) ?_
      rw [hn]
      refine z_ic_ge hX (off := 25) 36 (by decide +kernel) (by decide) ⟨by omega, by omega⟩ ⟨by omega, by omega⟩ (fun c11 => by exfalso; omega) (fun c11 => ?_)
      refine z_b hX fo_X11 [.aload_n 0, .getfield 7, .sipush 146, .iload_n 2, .iadd] 23 (by decide +kernel) rfl ?_
      refine z_ig hX (v := c (125 + i)) (146 + i) (gtn (by omega)) (by omega) (by omega) (by decide +kernel) ?_
      refine z_b hX fo_X11 [.iload_n 1] 25 (by decide +kernel) rfl ?_
      refine z_ic_ne hX (off := 5) 30 (by decide +kernel) (by decide) (hz i (by omega)) ht (fun hq => ?_) (fun hq => ?_)
      · refine z_b hX fo_X11 [.iinc 2 1] 33 (by decide +kernel) rfl ?_
        refine z_goto hX (off := (-31)) 2 (by decide +kernel) (by decide) ?_
        exact z_lo [0, 1, 2] (ih (i + 1) _ (by omega) (by omega) (by rw [← hr]; exact (if_neg hq).symm)) rfl
      · refine z_b hX fo_X11 [.iload_n 2] 29 (by decide +kernel) rfl ?_
        exact z_iret hX hR (by decide +kernel) ⟨by rw [← hr]; exact congrArg (fun z => Sum.inl (some (vi z))) (if_pos hq).symm, rfl⟩
  exact z_lo [0, 1, 2] (loop n 0 0 rfl (by omega) rfl) rfl
