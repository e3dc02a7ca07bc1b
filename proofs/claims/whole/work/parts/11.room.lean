theorem zrm_at {r : Nat} (h : 1 ≤ r ∧ r ≤ 11) : zsh[r]? = some (.inl (1, [some (r + 20)])) := by
  obtain ⟨h1, h2⟩ := h
  rcases (show r = 1 ∨ r = 2 ∨ r = 3 ∨ r = 4 ∨ r = 5 ∨ r = 6 ∨ r = 7 ∨ r = 8 ∨ r = 9 ∨ r = 10 ∨ r = 11 by omega) with rfl | rfl | rfl | rfl | rfl | rfl | rfl | rfl | rfl | rfl | rfl <;> rfl
theorem zra_at {r : Nat} (h : 1 ≤ r ∧ r ≤ 11) : zsh[r + 20]? = some (.inr (0, 181)) := by
  obtain ⟨h1, h2⟩ := h
  rcases (show r = 1 ∨ r = 2 ∨ r = 3 ∨ r = 4 ∨ r = 5 ∨ r = 6 ∨ r = 7 ∨ r = 8 ∨ r = 9 ∨ r = 10 ∨ r = 11 by omega) with rfl | rfl | rfl | rfl | rfl | rfl | rfl | rfl | rfl | rfl | rfl <;> rfl
/-- fewer locals, in another order -/
theorem z_lo {X : zC} {b pc : Nat} {lo lo' : List (Nat × vV)} {sk : List vV} {st : zT} (ks : List Nat) (k : Z X b pc lo' sk st) (h : ks.filterMap (fun k => lo[k]?) = lo') : Z X b pc lo sk st := by
  intro H locs cells slots ls hP hS hc hs hl
  refine k H locs cells slots ls hP hS hc hs ⟨hl.1, hl.2.1, fun q hq => ?_⟩
  obtain ⟨q0, hq0, rfl⟩ := List.mem_map.mp hq
  rw [← h] at hq0
  obtain ⟨i, -, hi⟩ := List.mem_filterMap.mp hq0
  exact hl.2.2 _ (List.mem_map.mpr ⟨q0, List.mem_of_getElem? hi, rfl⟩)
set_option maxHeartbeats 1000000 in
theorem c_X6_at {E : zE} {r j : Nat} {i : Int} {st : zT} (hr : 1 ≤ r ∧ r ≤ 11) (hi : i = (j : Int)) (hj : j < 181) : Rv E yX6_at (Cond.code yX6_at cX6_at 2 (Option.some FieldType.int)) 0 [vr r, vi i] (st) (vi (st.1 (r + 20) j)) (st) := by
  refine Ctr_of (own := RX6) (by decide +kernel) rfl rfl (fun Y hX hR hnx => ?_)
  refine z_b hX fo_X6 [.iload_n 1] 1 (by decide +kernel) rfl ?_
  refine z_if_lt hX (off := 21) 22 (by decide +kernel) (by decide) ⟨by omega, by omega⟩ (fun c1 => by exfalso; omega) (fun c1 => ?_)
  refine z_b hX fo_X6 [.iload_n 1, .aload_n 0] 6 (by decide +kernel) rfl ?_
  refine z_get (ci := 0) (c := 11) (f := 0) hX fo_X6 rfl (zrm_at hr) (some (r + 20)) rfl rfl (by decide +kernel) ?_
  refine z_alen hX (zra_at hr) (by decide +kernel) ?_
  refine z_ic_ge hX (off := 12) 22 (by decide +kernel) (by decide) ⟨by omega, by omega⟩ ⟨by omega, by omega⟩ (fun c10 => by exfalso; omega) (fun c10 => ?_)
  refine z_b hX fo_X6 [.aload_n 0] 14 (by decide +kernel) rfl ?_
  refine z_get (ci := 0) (c := 11) (f := 0) hX fo_X6 rfl (zrm_at hr) (some (r + 20)) rfl rfl (by decide +kernel) ?_
  refine z_b hX fo_X6 [.iload_n 1] 18 (by decide +kernel) rfl ?_
  refine z_iald hX (j) (zra_at hr) (by omega) (by decide) (by omega) (by decide +kernel) ?_
  refine z_goto hX (off := 4) 23 (by decide +kernel) (by decide) ?_
  exact z_iret hX hR (by decide +kernel) ⟨rfl, rfl⟩
set_option maxHeartbeats 1000000 in
theorem c_X6_put {E : zE} {r j : Nat} {i v : Int} {st : zT} (hr : 1 ≤ r ∧ r ≤ 11) (hi : i = (j : Int)) (hj : j < 181) : Rn E yX6_put (Cond.code yX6_put cX6_put 3 (Option.none : Option FieldType)) 0 [vr r, vi i, vi v] (st) ((zup st.1 (r + 20) j v, st.2)) := by
  refine Ctr_of (own := RX6) (by decide +kernel) rfl rfl (fun Y hX hR hnx => ?_)
  obtain ⟨σ, l2⟩ := st
  refine z_b hX fo_X6 [.iload_n 1] 1 (by decide +kernel) rfl ?_
  refine z_if_lt hX (off := 19) 20 (by decide +kernel) (by decide) ⟨by omega, by omega⟩ (fun c1 => by exfalso; omega) (fun c1 => ?_)
  refine z_b hX fo_X6 [.iload_n 1, .aload_n 0] 6 (by decide +kernel) rfl ?_
  refine z_get (ci := 0) (c := 11) (f := 0) hX fo_X6 rfl (zrm_at hr) (some (r + 20)) rfl rfl (by decide +kernel) ?_
  refine z_alen hX (zra_at hr) (by decide +kernel) ?_
  refine z_ic_ge hX (off := 10) 20 (by decide +kernel) (by decide) ⟨by omega, by omega⟩ ⟨by omega, by omega⟩ (fun c10 => by exfalso; omega) (fun c10 => ?_)
  refine z_b hX fo_X6 [.aload_n 0] 14 (by decide +kernel) rfl ?_
  refine z_get (ci := 0) (c := 11) (f := 0) hX fo_X6 rfl (zrm_at hr) (some (r + 20)) rfl rfl (by decide +kernel) ?_
  refine z_b hX fo_X6 [.iload_n 1, .iload_n 2] 19 (by decide +kernel) rfl ?_
  refine z_iast hX (j) (zra_at hr) (by omega) (by decide) (by omega) (by decide +kernel) ?_
  exact z_vret hX hR (by decide +kernel) ⟨rfl, rfl⟩
theorem c_at {E : zE} {j : Nat} {i : Int} {σ : Nat → Nat → Int} {c : Nat → Int} {l : (Nat → Int64) × (Nat → UInt64)} (hi : i = (j : Int)) (hj : j < 181) : Rv E yX6_at (Cond.code yX6_at cX6_at 2 (Option.some FieldType.int)) 0 [vr 1, vi i] (zs σ 21 c, l) (vi (c j)) (zs σ 21 c, l) := c_X6_at (r := 1) ⟨by omega, by omega⟩ hi hj
theorem c_put {E : zE} {j : Nat} {i v : Int} {σ : Nat → Nat → Int} {c : Nat → Int} {l : (Nat → Int64) × (Nat → UInt64)} (hi : i = (j : Int)) (hj : j < 181) : Rn E yX6_put (Cond.code yX6_put cX6_put 3 (Option.none : Option FieldType)) 0 [vr 1, vi i, vi v] (zs σ 21 c, l) (zs σ 21 (va_up c j v), l) :=
  (c_X6_put (r := 1) (st := (zs σ 21 c, l)) ⟨by omega, by omega⟩ hi hj).to (by show (zup (zs σ 21 c) 21 j v, l) = _; rw [zup_zs, zs_zs, zs_eq])
set_option maxHeartbeats 1000000 in
theorem c_X6_add {E : zE} {j : Nat} {i v : Int} {σ : Nat → Nat → Int} {c : Nat → Int} {l : (Nat → Int64) × (Nat → UInt64)} (hi : i = (j : Int)) (hj : j < 181) : Rv E yX6_add (Cond.code yX6_add cX6_add 3 (Option.some FieldType.int)) 1 [vr 1, vi i, vi v] ((zs σ 21 c, l)) (vi (c j + v)) ((zs σ 21 (va_up c j (c j + v)), l)) := by
  refine Ctr_of (own := RX6) (by decide +kernel) rfl rfl (fun Y hX hR hnx => ?_)
  refine z_b hX fo_X6 [.aload_n 0, .iload_n 1, .aload_n 0, .iload_n 1] 4 (by decide +kernel) rfl ?_
  refine z_cV hX m_X6_at l_X6_15 p_X6_at (c_at (j := j) (by omega) (by omega)) rfl rfl rfl rfl rfl rfl (by decide +kernel) ?_
  refine z_b hX fo_X6 [.iload_n 2, .iadd] 9 (by decide +kernel) rfl ?_
  refine z_cV0 hX m_X6_put l_X6_19 p_X6_put (c_put (j := j) (by omega) (by omega)) rfl rfl rfl rfl rfl rfl (by decide +kernel) ?_
  refine z_b hX fo_X6 [.aload_n 0, .iload_n 1] 14 (by decide +kernel) rfl ?_
  refine z_cV hX m_X6_at l_X6_15 p_X6_at (c_at (j := j) (by omega) (by omega)) rfl rfl rfl rfl rfl rfl (by decide +kernel) ?_
  exact z_iret hX hR (by decide +kernel) ⟨by simp [va_up], rfl⟩
set_option maxHeartbeats 1000000 in
theorem c_X6_hasCoat {E : zE} {x : Int} {σ : Nat → Nat → Int} {c : Nat → Int} {l : (Nat → Int64) × (Nat → UInt64)} (hx : zi x) (hc : 0 ≤ c 8 ∧ c 8 ≤ 12) : Rv E yX6_hasCoat (Cond.code yX6_hasCoat cX6_hasCoat 2 (Option.some FieldType.boolean)) 1 [vr 1, vi x] ((zs σ 21 c, l)) (vi (if 0 ≤ x ∧ x < c 8 then 1 else 0)) ((zs σ 21 c, l)) := by
  refine Ctr_of (own := RX6) (by decide +kernel) rfl rfl (fun Y hX hR hnx => ?_)
  refine z_b hX fo_X6 [.iload_n 1] 1 (by decide +kernel) rfl ?_
  refine z_if_lt hX (off := 17) 18 (by decide +kernel) (by decide) ⟨by omega, by omega⟩ (fun c1 => ?_) (fun c1 => ?_)
  · refine z_b hX fo_X6 [.iconst 0] 19 (by decide +kernel) rfl ?_
    exact z_zret hX hR rfl (by decide +kernel) ⟨by first | rw [if_pos (by omega)] | rw [if_neg (by omega)], rfl⟩
  · refine z_b hX fo_X6 [.iload_n 1, .aload_n 0, .bipush 8] 8 (by decide +kernel) rfl ?_
    refine z_cV hX m_X6_at l_X6_15 p_X6_at (c_at (j := 8) (by omega) (by omega)) rfl rfl rfl rfl rfl rfl (by decide +kernel) ?_
    refine z_ic_ge hX (off := 7) 18 (by decide +kernel) (by decide) ⟨by omega, by omega⟩ ⟨by omega, by omega⟩ (fun c11 => ?_) (fun c11 => ?_)
    · refine z_b hX fo_X6 [.iconst 0] 19 (by decide +kernel) rfl ?_
      exact z_zret hX hR rfl (by decide +kernel) ⟨by first | rw [if_pos (by omega)] | rw [if_neg (by omega)], rfl⟩
    · refine z_b hX fo_X6 [.iconst 1] 15 (by decide +kernel) rfl ?_
      refine z_goto hX (off := 4) 19 (by decide +kernel) (by decide) ?_
      exact z_zret hX hR rfl (by decide +kernel) ⟨by first | rw [if_pos (by omega)] | rw [if_neg (by omega)], rfl⟩
set_option maxHeartbeats 1000000 in
theorem c_X6_hasAct {E : zE} {x : Int} {σ : Nat → Nat → Int} {c : Nat → Int} {l : (Nat → Int64) × (Nat → UInt64)} (hx : zi x) (hc : 0 ≤ c 9 ∧ c 9 ≤ 12) : Rv E yX6_hasAct (Cond.code yX6_hasAct cX6_hasAct 2 (Option.some FieldType.boolean)) 1 [vr 1, vi x] ((zs σ 21 c, l)) (vi (if 0 ≤ x ∧ x < c 9 then 1 else 0)) ((zs σ 21 c, l)) := by
  refine Ctr_of (own := RX6) (by decide +kernel) rfl rfl (fun Y hX hR hnx => ?_)
  refine z_b hX fo_X6 [.iload_n 1] 1 (by decide +kernel) rfl ?_
  refine z_if_lt hX (off := 17) 18 (by decide +kernel) (by decide) ⟨by omega, by omega⟩ (fun c1 => ?_) (fun c1 => ?_)
  · refine z_b hX fo_X6 [.iconst 0] 19 (by decide +kernel) rfl ?_
    exact z_zret hX hR rfl (by decide +kernel) ⟨by first | rw [if_pos (by omega)] | rw [if_neg (by omega)], rfl⟩
  · refine z_b hX fo_X6 [.iload_n 1, .aload_n 0, .bipush 9] 8 (by decide +kernel) rfl ?_
    refine z_cV hX m_X6_at l_X6_15 p_X6_at (c_at (j := 9) (by omega) (by omega)) rfl rfl rfl rfl rfl rfl (by decide +kernel) ?_
    refine z_ic_ge hX (off := 7) 18 (by decide +kernel) (by decide) ⟨by omega, by omega⟩ ⟨by omega, by omega⟩ (fun c11 => ?_) (fun c11 => ?_)
    · refine z_b hX fo_X6 [.iconst 0] 19 (by decide +kernel) rfl ?_
      exact z_zret hX hR rfl (by decide +kernel) ⟨by first | rw [if_pos (by omega)] | rw [if_neg (by omega)], rfl⟩
    · refine z_b hX fo_X6 [.iconst 1] 15 (by decide +kernel) rfl ?_
      refine z_goto hX (off := 4) 19 (by decide +kernel) (by decide) ?_
      exact z_zret hX hR rfl (by decide +kernel) ⟨by first | rw [if_pos (by omega)] | rw [if_neg (by omega)], rfl⟩
set_option maxHeartbeats 1000000 in
theorem c_X6_hasSeamstress {E : zE} {x : Int} {σ : Nat → Nat → Int} {c : Nat → Int} {l : (Nat → Int64) × (Nat → UInt64)} (hx : zi x) (hc : 0 ≤ c 10 ∧ c 10 ≤ 12) : Rv E yX6_hasSeamstress (Cond.code yX6_hasSeamstress cX6_hasSeamstress 2 (Option.some FieldType.boolean)) 1 [vr 1, vi x] ((zs σ 21 c, l)) (vi (if 0 ≤ x ∧ x < c 10 then 1 else 0)) ((zs σ 21 c, l)) := by
  refine Ctr_of (own := RX6) (by decide +kernel) rfl rfl (fun Y hX hR hnx => ?_)
  refine z_b hX fo_X6 [.iload_n 1] 1 (by decide +kernel) rfl ?_
  refine z_if_lt hX (off := 17) 18 (by decide +kernel) (by decide) ⟨by omega, by omega⟩ (fun c1 => ?_) (fun c1 => ?_)
  · refine z_b hX fo_X6 [.iconst 0] 19 (by decide +kernel) rfl ?_
    exact z_zret hX hR rfl (by decide +kernel) ⟨by first | rw [if_pos (by omega)] | rw [if_neg (by omega)], rfl⟩
  · refine z_b hX fo_X6 [.iload_n 1, .aload_n 0, .bipush 10] 8 (by decide +kernel) rfl ?_
    refine z_cV hX m_X6_at l_X6_15 p_X6_at (c_at (j := 10) (by omega) (by omega)) rfl rfl rfl rfl rfl rfl (by decide +kernel) ?_
    refine z_ic_ge hX (off := 7) 18 (by decide +kernel) (by decide) ⟨by omega, by omega⟩ ⟨by omega, by omega⟩ (fun c11 => ?_) (fun c11 => ?_)
    · refine z_b hX fo_X6 [.iconst 0] 19 (by decide +kernel) rfl ?_
      exact z_zret hX hR rfl (by decide +kernel) ⟨by first | rw [if_pos (by omega)] | rw [if_neg (by omega)], rfl⟩
    · refine z_b hX fo_X6 [.iconst 1] 15 (by decide +kernel) rfl ?_
      refine z_goto hX (off := 4) 19 (by decide +kernel) (by decide) ?_
      exact z_zret hX hR rfl (by decide +kernel) ⟨by first | rw [if_pos (by omega)] | rw [if_neg (by omega)], rfl⟩
set_option maxHeartbeats 1000000 in
theorem c_X6_hasTrunk {E : zE} {x : Int} {σ : Nat → Nat → Int} {c : Nat → Int} {l : (Nat → Int64) × (Nat → UInt64)} (hx : zi x) (hc : 0 ≤ c 11 ∧ c 11 ≤ 12) : Rv E yX6_hasTrunk (Cond.code yX6_hasTrunk cX6_hasTrunk 2 (Option.some FieldType.boolean)) 1 [vr 1, vi x] ((zs σ 21 c, l)) (vi (if 0 ≤ x ∧ x < c 11 then 1 else 0)) ((zs σ 21 c, l)) := by
  refine Ctr_of (own := RX6) (by decide +kernel) rfl rfl (fun Y hX hR hnx => ?_)
  refine z_b hX fo_X6 [.iload_n 1] 1 (by decide +kernel) rfl ?_
  refine z_if_lt hX (off := 17) 18 (by decide +kernel) (by decide) ⟨by omega, by omega⟩ (fun c1 => ?_) (fun c1 => ?_)
  · refine z_b hX fo_X6 [.iconst 0] 19 (by decide +kernel) rfl ?_
    exact z_zret hX hR rfl (by decide +kernel) ⟨by first | rw [if_pos (by omega)] | rw [if_neg (by omega)], rfl⟩
  · refine z_b hX fo_X6 [.iload_n 1, .aload_n 0, .bipush 11] 8 (by decide +kernel) rfl ?_
    refine z_cV hX m_X6_at l_X6_15 p_X6_at (c_at (j := 11) (by omega) (by omega)) rfl rfl rfl rfl rfl rfl (by decide +kernel) ?_
    refine z_ic_ge hX (off := 7) 18 (by decide +kernel) (by decide) ⟨by omega, by omega⟩ ⟨by omega, by omega⟩ (fun c11 => ?_) (fun c11 => ?_)
    · refine z_b hX fo_X6 [.iconst 0] 19 (by decide +kernel) rfl ?_
      exact z_zret hX hR rfl (by decide +kernel) ⟨by first | rw [if_pos (by omega)] | rw [if_neg (by omega)], rfl⟩
    · refine z_b hX fo_X6 [.iconst 1] 15 (by decide +kernel) rfl ?_
      refine z_goto hX (off := 4) 19 (by decide +kernel) (by decide) ?_
      exact z_zret hX hR rfl (by decide +kernel) ⟨by first | rw [if_pos (by omega)] | rw [if_neg (by omega)], rfl⟩
