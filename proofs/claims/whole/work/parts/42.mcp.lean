/-! ===== the model copies ===== -/
set_option maxHeartbeats 1000000 in
theorem c_cp33_34 {E : zE} {a b : Nat} {τ : Nat → Nat → Int} {l : (Nat → Int64) × (Nat → UInt64)} (ha : a + 150 ≤ 150) (hb : b + 150 ≤ 1200) : Rn E yX11_copies (Cond.code yX11_copies cX11_copies 5 (Option.none : Option FieldType)) 0 [vr 33, vi (a : Int), vr 34, vi (b : Int)] ((τ, l)) ((zs τ 34 (cpy (τ 33) a (τ 34) b 150), l)) := by
  refine Ctr_of (own := RX11) (by decide +kernel) rfl rfl (fun Y hX hR hnx => ?_)
  refine z_b hX fo_X11 [.iconst 0, .istore 4] 3 (by decide +kernel) rfl ?_
  have loop : ∀ (m : Nat) (i : Nat) (x : Int), x = (i : Int) → i + m = 150 → Z (E, Y) 0 3 [(4, vi x), (2, vr 34), (3, vi (b : Int)), (0, vr 33), (1, vi (a : Int))] [] (zs τ 34 (cpy (τ 33) a (τ 34) b i), l) := by
    intro m
    induction m with
    | zero =>
      intro i x hx hm
      subst hx
      refine z_b hX fo_X11 [.iload 4, .sipush 150] 8 (by decide +kernel) rfl ?_
      refine z_ic_ge hX (off := 21) 29 (by decide +kernel) (by decide) ⟨by omega, by omega⟩ ⟨by omega, by omega⟩ (fun c8 => ?_) (fun c8 => by exfalso; omega)
      exact z_vret hX hR (by decide +kernel) ⟨rfl, by rw [show i = 150 by omega]⟩
    | succ m ih =>
      intro i x hx hm
      subst hx
      refine z_b hX fo_X11 [.iload 4, .sipush 150] 8 (by decide +kernel) rfl ?_
      refine z_ic_ge hX (off := 21) 29 (by decide +kernel) (by decide) ⟨by omega, by omega⟩ ⟨by omega, by omega⟩ (fun c8 => by exfalso; omega) (fun c8 => ?_)
      refine z_b hX fo_X11 [.aload_n 2, .iload_n 3, .iload 4, .iadd, .aload_n 0, .iload_n 1, .iload 4, .iadd] 21 (by decide +kernel) rfl ?_
      refine z_iald hX (a + i) rfl (by omega) (by decide) (by omega) (by decide +kernel) ?_
      rw [show (zs τ 34 (cpy (τ 33) a (τ 34) b i), l).1 33 (a + i) = τ 33 (a + i) by dsimp only; rw [zs_ne (by decide)]]
      refine z_iast hX (b + i) rfl (by omega) (by decide) (by omega) (by decide +kernel) ?_
      rw [zup_zs, zs_zs, zs_eq, cpy_s]
      refine z_b hX fo_X11 [.iinc 4 1] 26 (by decide +kernel) rfl ?_
      refine z_goto hX (off := (-23)) 3 (by decide +kernel) (by decide) ?_
      exact z_lo [0, 1, 2, 3, 4] (ih (i + 1) _ (by omega) (by omega)) rfl
  have h0 := loop 150 0 0 rfl (by omega)
  rw [cpy_0, zs_id] at h0
  exact z_lo [0, 3, 4, 1, 2] h0 rfl
set_option maxHeartbeats 1000000 in
theorem c_cp36_34 {E : zE} {a b : Nat} {τ : Nat → Nat → Int} {l : (Nat → Int64) × (Nat → UInt64)} (ha : a + 150 ≤ 150) (hb : b + 150 ≤ 1200) : Rn E yX11_copies (Cond.code yX11_copies cX11_copies 5 (Option.none : Option FieldType)) 0 [vr 36, vi (a : Int), vr 34, vi (b : Int)] ((τ, l)) ((zs τ 34 (cpy (τ 36) a (τ 34) b 150), l)) := by
  refine Ctr_of (own := RX11) (by decide +kernel) rfl rfl (fun Y hX hR hnx => ?_)
  refine z_b hX fo_X11 [.iconst 0, .istore 4] 3 (by decide +kernel) rfl ?_
  have loop : ∀ (m : Nat) (i : Nat) (x : Int), x = (i : Int) → i + m = 150 → Z (E, Y) 0 3 [(4, vi x), (2, vr 34), (3, vi (b : Int)), (0, vr 36), (1, vi (a : Int))] [] (zs τ 34 (cpy (τ 36) a (τ 34) b i), l) := by
    intro m
    induction m with
    | zero =>
      intro i x hx hm
      subst hx
      refine z_b hX fo_X11 [.iload 4, .sipush 150] 8 (by decide +kernel) rfl ?_
      refine z_ic_ge hX (off := 21) 29 (by decide +kernel) (by decide) ⟨by omega, by omega⟩ ⟨by omega, by omega⟩ (fun c8 => ?_) (fun c8 => by exfalso; omega)
      exact z_vret hX hR (by decide +kernel) ⟨rfl, by rw [show i = 150 by omega]⟩
    | succ m ih =>
      intro i x hx hm
      subst hx
      refine z_b hX fo_X11 [.iload 4, .sipush 150] 8 (by decide +kernel) rfl ?_
      refine z_ic_ge hX (off := 21) 29 (by decide +kernel) (by decide) ⟨by omega, by omega⟩ ⟨by omega, by omega⟩ (fun c8 => by exfalso; omega) (fun c8 => ?_)
      refine z_b hX fo_X11 [.aload_n 2, .iload_n 3, .iload 4, .iadd, .aload_n 0, .iload_n 1, .iload 4, .iadd] 21 (by decide +kernel) rfl ?_
      refine z_iald hX (a + i) rfl (by omega) (by decide) (by omega) (by decide +kernel) ?_
      rw [show (zs τ 34 (cpy (τ 36) a (τ 34) b i), l).1 36 (a + i) = τ 36 (a + i) by dsimp only; rw [zs_ne (by decide)]]
      refine z_iast hX (b + i) rfl (by omega) (by decide) (by omega) (by decide +kernel) ?_
      rw [zup_zs, zs_zs, zs_eq, cpy_s]
      refine z_b hX fo_X11 [.iinc 4 1] 26 (by decide +kernel) rfl ?_
      refine z_goto hX (off := (-23)) 3 (by decide +kernel) (by decide) ?_
      exact z_lo [0, 1, 2, 3, 4] (ih (i + 1) _ (by omega) (by omega)) rfl
  have h0 := loop 150 0 0 rfl (by omega)
  rw [cpy_0, zs_id] at h0
  exact z_lo [0, 3, 4, 1, 2] h0 rfl
set_option maxHeartbeats 1000000 in
theorem c_cp33_36 {E : zE} {a b : Nat} {τ : Nat → Nat → Int} {l : (Nat → Int64) × (Nat → UInt64)} (ha : a + 150 ≤ 150) (hb : b + 150 ≤ 150) : Rn E yX11_copies (Cond.code yX11_copies cX11_copies 5 (Option.none : Option FieldType)) 0 [vr 33, vi (a : Int), vr 36, vi (b : Int)] ((τ, l)) ((zs τ 36 (cpy (τ 33) a (τ 36) b 150), l)) := by
  refine Ctr_of (own := RX11) (by decide +kernel) rfl rfl (fun Y hX hR hnx => ?_)
  refine z_b hX fo_X11 [.iconst 0, .istore 4] 3 (by decide +kernel) rfl ?_
  have loop : ∀ (m : Nat) (i : Nat) (x : Int), x = (i : Int) → i + m = 150 → Z (E, Y) 0 3 [(4, vi x), (2, vr 36), (3, vi (b : Int)), (0, vr 33), (1, vi (a : Int))] [] (zs τ 36 (cpy (τ 33) a (τ 36) b i), l) := by
    intro m
    induction m with
    | zero =>
      intro i x hx hm
      subst hx
      refine z_b hX fo_X11 [.iload 4, .sipush 150] 8 (by decide +kernel) rfl ?_
      refine z_ic_ge hX (off := 21) 29 (by decide +kernel) (by decide) ⟨by omega, by omega⟩ ⟨by omega, by omega⟩ (fun c8 => ?_) (fun c8 => by exfalso; omega)
      exact z_vret hX hR (by decide +kernel) ⟨rfl, by rw [show i = 150 by omega]⟩
    | succ m ih =>
      intro i x hx hm
      subst hx
      refine z_b hX fo_X11 [.iload 4, .sipush 150] 8 (by decide +kernel) rfl ?_
      refine z_ic_ge hX (off := 21) 29 (by decide +kernel) (by decide) ⟨by omega, by omega⟩ ⟨by omega, by omega⟩ (fun c8 => by exfalso; omega) (fun c8 => ?_)
      refine z_b hX fo_X11 [.aload_n 2, .iload_n 3, .iload 4, .iadd, .aload_n 0, .iload_n 1, .iload 4, .iadd] 21 (by decide +kernel) rfl ?_
      refine z_iald hX (a + i) rfl (by omega) (by decide) (by omega) (by decide +kernel) ?_
      rw [show (zs τ 36 (cpy (τ 33) a (τ 36) b i), l).1 33 (a + i) = τ 33 (a + i) by dsimp only; rw [zs_ne (by decide)]]
      refine z_iast hX (b + i) rfl (by omega) (by decide) (by omega) (by decide +kernel) ?_
      rw [zup_zs, zs_zs, zs_eq, cpy_s]
      refine z_b hX fo_X11 [.iinc 4 1] 26 (by decide +kernel) rfl ?_
      refine z_goto hX (off := (-23)) 3 (by decide +kernel) (by decide) ?_
      exact z_lo [0, 1, 2, 3, 4] (ih (i + 1) _ (by omega) (by omega)) rfl
  have h0 := loop 150 0 0 rfl (by omega)
  rw [cpy_0, zs_id] at h0
  exact z_lo [0, 3, 4, 1, 2] h0 rfl
set_option maxHeartbeats 1000000 in
theorem c_cp36_33 {E : zE} {a b : Nat} {τ : Nat → Nat → Int} {l : (Nat → Int64) × (Nat → UInt64)} (ha : a + 150 ≤ 150) (hb : b + 150 ≤ 150) : Rn E yX11_copies (Cond.code yX11_copies cX11_copies 5 (Option.none : Option FieldType)) 0 [vr 36, vi (a : Int), vr 33, vi (b : Int)] ((τ, l)) ((zs τ 33 (cpy (τ 36) a (τ 33) b 150), l)) := by
  refine Ctr_of (own := RX11) (by decide +kernel) rfl rfl (fun Y hX hR hnx => ?_)
  refine z_b hX fo_X11 [.iconst 0, .istore 4] 3 (by decide +kernel) rfl ?_
  have loop : ∀ (m : Nat) (i : Nat) (x : Int), x = (i : Int) → i + m = 150 → Z (E, Y) 0 3 [(4, vi x), (2, vr 33), (3, vi (b : Int)), (0, vr 36), (1, vi (a : Int))] [] (zs τ 33 (cpy (τ 36) a (τ 33) b i), l) := by
    intro m
    induction m with
    | zero =>
      intro i x hx hm
      subst hx
      refine z_b hX fo_X11 [.iload 4, .sipush 150] 8 (by decide +kernel) rfl ?_
      refine z_ic_ge hX (off := 21) 29 (by decide +kernel) (by decide) ⟨by omega, by omega⟩ ⟨by omega, by omega⟩ (fun c8 => ?_) (fun c8 => by exfalso; omega)
      exact z_vret hX hR (by decide +kernel) ⟨rfl, by rw [show i = 150 by omega]⟩
    | succ m ih =>
      intro i x hx hm
      subst hx
      refine z_b hX fo_X11 [.iload 4, .sipush 150] 8 (by decide +kernel) rfl ?_
      refine z_ic_ge hX (off := 21) 29 (by decide +kernel) (by decide) ⟨by omega, by omega⟩ ⟨by omega, by omega⟩ (fun c8 => by exfalso; omega) (fun c8 => ?_)
      refine z_b hX fo_X11 [.aload_n 2, .iload_n 3, .iload 4, .iadd, .aload_n 0, .iload_n 1, .iload 4, .iadd] 21 (by decide +kernel) rfl ?_
      refine z_iald hX (a + i) rfl (by omega) (by decide) (by omega) (by decide +kernel) ?_
      rw [show (zs τ 33 (cpy (τ 36) a (τ 33) b i), l).1 36 (a + i) = τ 36 (a + i) by dsimp only; rw [zs_ne (by decide)]]
      refine z_iast hX (b + i) rfl (by omega) (by decide) (by omega) (by decide +kernel) ?_
      rw [zup_zs, zs_zs, zs_eq, cpy_s]
      refine z_b hX fo_X11 [.iinc 4 1] 26 (by decide +kernel) rfl ?_
      refine z_goto hX (off := (-23)) 3 (by decide +kernel) (by decide) ?_
      exact z_lo [0, 1, 2, 3, 4] (ih (i + 1) _ (by omega) (by omega)) rfl
  have h0 := loop 150 0 0 rfl (by omega)
  rw [cpy_0, zs_id] at h0
  exact z_lo [0, 3, 4, 1, 2] h0 rfl
set_option maxHeartbeats 1000000 in
theorem c_cp34_33 {E : zE} {a b : Nat} {τ : Nat → Nat → Int} {l : (Nat → Int64) × (Nat → UInt64)} (ha : a + 150 ≤ 1200) (hb : b + 150 ≤ 150) : Rn E yX11_copies (Cond.code yX11_copies cX11_copies 5 (Option.none : Option FieldType)) 0 [vr 34, vi (a : Int), vr 33, vi (b : Int)] ((τ, l)) ((zs τ 33 (cpy (τ 34) a (τ 33) b 150), l)) := by
  refine Ctr_of (own := RX11) (by decide +kernel) rfl rfl (fun Y hX hR hnx => ?_)
  refine z_b hX fo_X11 [.iconst 0, .istore 4] 3 (by decide +kernel) rfl ?_
  have loop : ∀ (m : Nat) (i : Nat) (x : Int), x = (i : Int) → i + m = 150 → Z (E, Y) 0 3 [(4, vi x), (2, vr 33), (3, vi (b : Int)), (0, vr 34), (1, vi (a : Int))] [] (zs τ 33 (cpy (τ 34) a (τ 33) b i), l) := by
    intro m
    induction m with
    | zero =>
      intro i x hx hm
      subst hx
      refine z_b hX fo_X11 [.iload 4, .sipush 150] 8 (by decide +kernel) rfl ?_
      refine z_ic_ge hX (off := 21) 29 (by decide +kernel) (by decide) ⟨by omega, by omega⟩ ⟨by omega, by omega⟩ (fun c8 => ?_) (fun c8 => by exfalso; omega)
      exact z_vret hX hR (by decide +kernel) ⟨rfl, by rw [show i = 150 by omega]⟩
    | succ m ih =>
      intro i x hx hm
      subst hx
      refine z_b hX fo_X11 [.iload 4, .sipush 150] 8 (by decide +kernel) rfl ?_
      refine z_ic_ge hX (off := 21) 29 (by decide +kernel) (by decide) ⟨by omega, by omega⟩ ⟨by omega, by omega⟩ (fun c8 => by exfalso; omega) (fun c8 => ?_)
      refine z_b hX fo_X11 [.aload_n 2, .iload_n 3, .iload 4, .iadd, .aload_n 0, .iload_n 1, .iload 4, .iadd] 21 (by decide +kernel) rfl ?_
      refine z_iald hX (a + i) rfl (by omega) (by decide) (by omega) (by decide +kernel) ?_
      rw [show (zs τ 33 (cpy (τ 34) a (τ 33) b i), l).1 34 (a + i) = τ 34 (a + i) by dsimp only; rw [zs_ne (by decide)]]
      refine z_iast hX (b + i) rfl (by omega) (by decide) (by omega) (by decide +kernel) ?_
      rw [zup_zs, zs_zs, zs_eq, cpy_s]
      refine z_b hX fo_X11 [.iinc 4 1] 26 (by decide +kernel) rfl ?_
      refine z_goto hX (off := (-23)) 3 (by decide +kernel) (by decide) ?_
      exact z_lo [0, 1, 2, 3, 4] (ih (i + 1) _ (by omega) (by omega)) rfl
  have h0 := loop 150 0 0 rfl (by omega)
  rw [cpy_0, zs_id] at h0
  exact z_lo [0, 3, 4, 1, 2] h0 rfl
set_option maxHeartbeats 1000000 in
theorem c_cp33_35 {E : zE} {a b : Nat} {τ : Nat → Nat → Int} {l : (Nat → Int64) × (Nat → UInt64)} (ha : a + 150 ≤ 150) (hb : b + 150 ≤ 150) : Rn E yX11_copies (Cond.code yX11_copies cX11_copies 5 (Option.none : Option FieldType)) 0 [vr 33, vi (a : Int), vr 35, vi (b : Int)] ((τ, l)) ((zs τ 35 (cpy (τ 33) a (τ 35) b 150), l)) := by
  refine Ctr_of (own := RX11) (by decide +kernel) rfl rfl (fun Y hX hR hnx => ?_)
  refine z_b hX fo_X11 [.iconst 0, .istore 4] 3 (by decide +kernel) rfl ?_
  have loop : ∀ (m : Nat) (i : Nat) (x : Int), x = (i : Int) → i + m = 150 → Z (E, Y) 0 3 [(4, vi x), (2, vr 35), (3, vi (b : Int)), (0, vr 33), (1, vi (a : Int))] [] (zs τ 35 (cpy (τ 33) a (τ 35) b i), l) := by
    intro m
    induction m with
    | zero =>
      intro i x hx hm
      subst hx
      refine z_b hX fo_X11 [.iload 4, .sipush 150] 8 (by decide +kernel) rfl ?_
      refine z_ic_ge hX (off := 21) 29 (by decide +kernel) (by decide) ⟨by omega, by omega⟩ ⟨by omega, by omega⟩ (fun c8 => ?_) (fun c8 => by exfalso; omega)
      exact z_vret hX hR (by decide +kernel) ⟨rfl, by rw [show i = 150 by omega]⟩
    | succ m ih =>
      intro i x hx hm
      subst hx
      refine z_b hX fo_X11 [.iload 4, .sipush 150] 8 (by decide +kernel) rfl ?_
      refine z_ic_ge hX (off := 21) 29 (by decide +kernel) (by decide) ⟨by omega, by omega⟩ ⟨by omega, by omega⟩ (fun c8 => by exfalso; omega) (fun c8 => ?_)
      refine z_b hX fo_X11 [.aload_n 2, .iload_n 3, .iload 4, .iadd, .aload_n 0, .iload_n 1, .iload 4, .iadd] 21 (by decide +kernel) rfl ?_
      refine z_iald hX (a + i) rfl (by omega) (by decide) (by omega) (by decide +kernel) ?_
      rw [show (zs τ 35 (cpy (τ 33) a (τ 35) b i), l).1 33 (a + i) = τ 33 (a + i) by dsimp only; rw [zs_ne (by decide)]]
      refine z_iast hX (b + i) rfl (by omega) (by decide) (by omega) (by decide +kernel) ?_
      rw [zup_zs, zs_zs, zs_eq, cpy_s]
      refine z_b hX fo_X11 [.iinc 4 1] 26 (by decide +kernel) rfl ?_
      refine z_goto hX (off := (-23)) 3 (by decide +kernel) (by decide) ?_
      exact z_lo [0, 1, 2, 3, 4] (ih (i + 1) _ (by omega) (by omega)) rfl
  have h0 := loop 150 0 0 rfl (by omega)
  rw [cpy_0, zs_id] at h0
  exact z_lo [0, 3, 4, 1, 2] h0 rfl
set_option maxHeartbeats 1000000 in
theorem c_cp35_33 {E : zE} {a b : Nat} {τ : Nat → Nat → Int} {l : (Nat → Int64) × (Nat → UInt64)} (ha : a + 150 ≤ 150) (hb : b + 150 ≤ 150) : Rn E yX11_copies (Cond.code yX11_copies cX11_copies 5 (Option.none : Option FieldType)) 0 [vr 35, vi (a : Int), vr 33, vi (b : Int)] ((τ, l)) ((zs τ 33 (cpy (τ 35) a (τ 33) b 150), l)) := by
  refine Ctr_of (own := RX11) (by decide +kernel) rfl rfl (fun Y hX hR hnx => ?_)
  refine z_b hX fo_X11 [.iconst 0, .istore 4] 3 (by decide +kernel) rfl ?_
  have loop : ∀ (m : Nat) (i : Nat) (x : Int), x = (i : Int) → i + m = 150 → Z (E, Y) 0 3 [(4, vi x), (2, vr 33), (3, vi (b : Int)), (0, vr 35), (1, vi (a : Int))] [] (zs τ 33 (cpy (τ 35) a (τ 33) b i), l) := by
    intro m
    induction m with
    | zero =>
      intro i x hx hm
      subst hx
      refine z_b hX fo_X11 [.iload 4, .sipush 150] 8 (by decide +kernel) rfl ?_
      refine z_ic_ge hX (off := 21) 29 (by decide +kernel) (by decide) ⟨by omega, by omega⟩ ⟨by omega, by omega⟩ (fun c8 => ?_) (fun c8 => by exfalso; omega)
      exact z_vret hX hR (by decide +kernel) ⟨rfl, by rw [show i = 150 by omega]⟩
    | succ m ih =>
      intro i x hx hm
      subst hx
      refine z_b hX fo_X11 [.iload 4, .sipush 150] 8 (by decide +kernel) rfl ?_
      refine z_ic_ge hX (off := 21) 29 (by decide +kernel) (by decide) ⟨by omega, by omega⟩ ⟨by omega, by omega⟩ (fun c8 => by exfalso; omega) (fun c8 => ?_)
      refine z_b hX fo_X11 [.aload_n 2, .iload_n 3, .iload 4, .iadd, .aload_n 0, .iload_n 1, .iload 4, .iadd] 21 (by decide +kernel) rfl ?_
      refine z_iald hX (a + i) rfl (by omega) (by decide) (by omega) (by decide +kernel) ?_
      rw [show (zs τ 33 (cpy (τ 35) a (τ 33) b i), l).1 35 (a + i) = τ 35 (a + i) by dsimp only; rw [zs_ne (by decide)]]
      refine z_iast hX (b + i) rfl (by omega) (by decide) (by omega) (by decide +kernel) ?_
      rw [zup_zs, zs_zs, zs_eq, cpy_s]
      refine z_b hX fo_X11 [.iinc 4 1] 26 (by decide +kernel) rfl ?_
      refine z_goto hX (off := (-23)) 3 (by decide +kernel) (by decide) ?_
      exact z_lo [0, 1, 2, 3, 4] (ih (i + 1) _ (by omega) (by omega)) rfl
  have h0 := loop 150 0 0 rfl (by omega)
  rw [cpy_0, zs_id] at h0
  exact z_lo [0, 3, 4, 1, 2] h0 rfl
