/-- sums of a row's stretch; copies of a beginning; the first place from i on -/
def zsum (f : Nat → Int) (a : Nat) : Nat → Int
  | 0 => 0
  | n + 1 => zsum f a n + f (a + n)
def zcp (f g : Nat → Int) (n : Nat) : Nat → Int := fun j => if j < n then f j else g j
theorem zcp_0 (f g : Nat → Int) : zcp f g 0 = g := by funext j; simp [zcp]
theorem zcp_s (f g : Nat → Int) (n : Nat) : va_up (zcp f g n) n (f n) = zcp f g (n + 1) := by
  funext j
  simp only [va_up, zcp]
  by_cases h : j = n
  · subst h; simp
  · rw [if_neg h]
    by_cases h2 : j < n
    · rw [if_pos h2, if_pos (by omega)]
    · rw [if_neg h2, if_neg (by omega)]

set_option maxHeartbeats 1000000 in
theorem c_X6_sum {E : zE} {a n : Nat} {σ : Nat → Nat → Int} {c : Nat → Int} {l : (Nat → Int64) × (Nat → UInt64)} (ha : a + n ≤ 181) : Rv E yX6_sum (Cond.code yX6_sum cX6_sum 5 (Option.some FieldType.int)) 1 [vr 1, vi (a : Int), vi (n : Int)] ((zs σ 21 c, l)) (vi (zsum c a n)) ((zs σ 21 c, l)) := by
  refine Ctr_of (own := RX6) (by decide +kernel) rfl rfl (fun Y hX hR hnx => ?_)
  refine z_b hX fo_X6 [.iconst 0, .istore_n 3, .iconst 0, .istore 4] 5 (by decide +kernel) rfl ?_
  have loop : ∀ (m : Nat) (i : Nat) (x s : Int), x = (i : Int) → s = zsum c a i → i + m = n → Z (E, Y) 0 5 [(4, vi x), (3, vi s), (0, vr 1), (1, vi (a : Int)), (2, vi (n : Int))] [] (zs σ 21 c, l) := by
    intro m
    induction m with
    | zero =>
      intro i x s hi hs hm
      refine z_b hX fo_X6 [.iload 4, .iload_n 2] 8 (by decide +kernel) rfl ?_
      refine z_ic_ge hX (off := 28) 36 (by decide +kernel) (by decide) ⟨by omega, by omega⟩ ⟨by omega, by omega⟩ (fun c8 => ?_) (fun c8 => by exfalso; omega)
      refine z_b hX fo_X6 [.iload_n 3] 37 (by decide +kernel) rfl ?_
      exact z_iret hX hR (by decide +kernel) ⟨by rw [hs, show i = n by omega], rfl⟩
    | succ m ih =>
      intro i x s hi hs hm
      refine z_b hX fo_X6 [.iload 4, .iload_n 2] 8 (by decide +kernel) rfl ?_
      refine z_ic_ge hX (off := 28) 36 (by decide +kernel) (by decide) ⟨by omega, by omega⟩ ⟨by omega, by omega⟩ (fun c8 => by exfalso; omega) (fun c8 => ?_)
      refine z_b hX fo_X6 [.iload 4, .sipush 181] 16 (by decide +kernel) rfl ?_
      refine z_ic_ge hX (off := 20) 36 (by decide +kernel) (by decide) ⟨by omega, by omega⟩ ⟨by omega, by omega⟩ (fun c16 => by exfalso; omega) (fun c16 => ?_)
      refine z_b hX fo_X6 [.iload_n 3, .aload_n 0, .iload_n 1, .iload 4, .iadd] 25 (by decide +kernel) rfl ?_
      refine z_cV hX m_X6_at l_X6_15 p_X6_at (c_at (j := a + i) (by omega) (by omega)) rfl rfl rfl rfl rfl rfl (by decide +kernel) ?_
      refine z_b hX fo_X6 [.iadd, .istore_n 3, .iinc 4 1] 33 (by decide +kernel) rfl ?_
      refine z_goto hX (off := (-28)) 5 (by decide +kernel) (by decide) ?_
      exact ih (i + 1) _ _ (by omega) (by rw [hs]; rfl) (by omega)
  exact loop n 0 0 0 rfl rfl (by omega)
set_option maxHeartbeats 1000000 in
theorem c_X6_copyFrom {E : zE} {r q : Nat} {st : zT} (hr : 1 ≤ r ∧ r ≤ 11) (hq : 1 ≤ q ∧ q ≤ 11) (hne : q ≠ r) : Rn E yX6_copyFrom (Cond.code yX6_copyFrom cX6_copyFrom 3 (Option.none : Option FieldType)) 1 [vr r, vr q] (st) ((zs st.1 (r + 20) (zcp (st.1 (q + 20)) (st.1 (r + 20)) 181), st.2)) := by
  refine Ctr_of (own := RX6) (by decide +kernel) rfl rfl (fun Y hX hR hnx => ?_)
  refine z_b hX fo_X6 [.iconst 0, .istore_n 2] 2 (by decide +kernel) rfl ?_
  have loop : ∀ (m : Nat) (i : Nat) (x : Int), x = (i : Int) → i + m = 181 → Z (E, Y) 0 2 [(2, vi x), (0, vr r), (1, vr q)] [] (zs st.1 (r + 20) (zcp (st.1 (q + 20)) (st.1 (r + 20)) i), st.2) := by
    intro m
    induction m with
    | zero =>
      intro i x hi hm
      refine z_b hX fo_X6 [.iload_n 2, .sipush 181] 6 (by decide +kernel) rfl ?_
      refine z_ic_ge hX (off := 19) 25 (by decide +kernel) (by decide) ⟨by omega, by omega⟩ ⟨by omega, by omega⟩ (fun c6 => ?_) (fun c6 => by exfalso; omega)
      exact z_vret hX hR (by decide +kernel) ⟨rfl, by rw [show i = 181 by omega]⟩
    | succ m ih =>
      intro i x hi hm
      refine z_b hX fo_X6 [.iload_n 2, .sipush 181] 6 (by decide +kernel) rfl ?_
      refine z_ic_ge hX (off := 19) 25 (by decide +kernel) (by decide) ⟨by omega, by omega⟩ ⟨by omega, by omega⟩ (fun c6 => by exfalso; omega) (fun c6 => ?_)
      refine z_b hX fo_X6 [.aload_n 0, .iload_n 2, .aload_n 1, .iload_n 2] 13 (by decide +kernel) rfl ?_
      refine z_cV hX m_X6_at l_X6_15 p_X6_at (c_X6_at (r := q) (j := i) hq (by omega) (by omega)) rfl (zrm_at hq) rfl rfl rfl rfl (by decide +kernel) ?_
      dsimp only
      rw [zs_ne (show q + 20 ≠ r + 20 by omega)]
      refine z_cV0 hX m_X6_put l_X6_19 p_X6_put (c_X6_put (r := r) (j := i) hr (by omega) (by omega)) rfl (zrm_at hr) rfl rfl rfl rfl (by decide +kernel) ?_
      refine z_b hX fo_X6 [.iinc 2 1] 22 (by decide +kernel) rfl ?_
      refine z_goto hX (off := (-20)) 2 (by decide +kernel) (by decide) ?_
      dsimp only
      rw [zup_zs, zs_eq, zs_zs, zcp_s]
      exact ih (i + 1) _ (by omega) (by omega)
  have h0 := loop 181 0 0 rfl (by omega)
  rw [zcp_0, zs_id] at h0
  exact h0
set_option maxHeartbeats 1000000 in
theorem c_X6_tornPanels {E : zE} {σ : Nat → Nat → Int} {c : Nat → Int} {l : (Nat → Int64) × (Nat → UInt64)} : Rv E yX6_tornPanels (Cond.code yX6_tornPanels cX6_tornPanels 1 (Option.some FieldType.int)) 2 [vr 1] ((zs σ 21 c, l)) (vi (zsum c 149 32)) ((zs σ 21 c, l)) := by
  refine Ctr_of (own := RX6) (by decide +kernel) rfl rfl (fun Y hX hR hnx => ?_)
  refine z_b hX fo_X6 [.aload_n 0, .sipush 149, .bipush 32] 6 (by decide +kernel) rfl ?_
  refine z_cV hX m_X6_sum l_X6_23 p_X6_sum (c_X6_sum (a := 149) (n := 32) (by omega)) rfl rfl rfl rfl rfl rfl (by decide +kernel) ?_
  exact z_iret hX hR (by decide +kernel) ⟨rfl, rfl⟩
/-- the first of m places from i on whose number isn't 0, or -1 -/
def zfst (f : Nat → Int) : Nat → Nat → Int
  | _, 0 => -1
  | i, m + 1 => if f i ≠ 0 then (i : Int) else zfst f (i + 1) m

set_option maxHeartbeats 1000000 in
theorem c_X6_tornFrom {E : zE} {a : Nat} {σ : Nat → Nat → Int} {c : Nat → Int} {l : (Nat → Int64) × (Nat → UInt64)} (ha : a ≤ 32) (hz : ∀ p, p < 32 → zi (c (149 + p))) : Rv E yX6_tornFrom (Cond.code yX6_tornFrom cX6_tornFrom 3 (Option.some FieldType.int)) 1 [vr 1, vi (a : Int)] ((zs σ 21 c, l)) (vi (zfst (fun p => c (149 + p)) a (32 - a))) ((zs σ 21 c, l)) := by
  refine Ctr_of (own := RX6) (by decide +kernel) rfl rfl (fun Y hX hR hnx => ?_)
  refine z_b hX fo_X6 [.iload_n 1, .istore_n 2] 2 (by decide +kernel) rfl ?_
  have loop : ∀ (m : Nat) (i : Nat) (x : Int), x = (i : Int) → i + m = 32 → zfst (fun p => c (149 + p)) i m = zfst (fun p => c (149 + p)) a (32 - a) → Z (E, Y) 0 2 [(2, vi x), (0, vr 1), (1, vi (a : Int))] [] (zs σ 21 c, l) := by
    intro m
    induction m with
    | zero =>
      intro i x hi hm hr
      refine z_b hX fo_X6 [.iload_n 2, .bipush 32] 5 (by decide +kernel) rfl ?_
      refine z_ic_ge hX (off := 23) 28 (by decide +kernel) (by decide) ⟨by omega, by omega⟩ ⟨by omega, by omega⟩ (fun c5 => ?_) (fun c5 => by exfalso; omega)
      refine z_b hX fo_X6 [.iconst (-1)] 29 (by decide +kernel) rfl ?_
      exact z_iret hX hR (by decide +kernel) ⟨by rw [← hr]; rfl, rfl⟩
    | succ m ih =>
      intro i x hi hm hr
      refine z_b hX fo_X6 [.iload_n 2, .bipush 32] 5 (by decide +kernel) rfl ?_
      refine z_ic_ge hX (off := 23) 28 (by decide +kernel) (by decide) ⟨by omega, by omega⟩ ⟨by omega, by omega⟩ (fun c5 => by exfalso; omega) (fun c5 => ?_)
      refine z_b hX fo_X6 [.aload_n 0, .sipush 149, .iload_n 2, .iadd] 14 (by decide +kernel) rfl ?_
      refine z_cV hX m_X6_at l_X6_15 p_X6_at (c_at (j := 149 + i) (by omega) (by omega)) rfl rfl rfl rfl rfl rfl (by decide +kernel) ?_
      refine z_if_eq hX (off := 5) 22 (by decide +kernel) (by decide) (hz i (by omega)) (fun c17 => ?_) (fun c17 => ?_)
      · refine z_b hX fo_X6 [.iinc 2 1] 25 (by decide +kernel) rfl ?_
        refine z_goto hX (off := (-23)) 2 (by decide +kernel) (by decide) ?_
        exact ih (i + 1) _ (by omega) (by omega) (by rw [← hr]; show _ = if _ then _ else _; rw [if_neg (by simpa using c17)])
      · refine z_b hX fo_X6 [.iload_n 2] 21 (by decide +kernel) rfl ?_
        exact z_iret hX hR (by decide +kernel) ⟨by rw [← hr]; show _ = Sum.inl (some (vi (if _ then _ else _))); rw [if_pos c17, hi], rfl⟩
  exact loop (32 - a) a _ rfl (by omega) rfl
