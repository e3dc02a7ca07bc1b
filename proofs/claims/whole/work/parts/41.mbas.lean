/-! ===== the model's helpers ===== -/
theorem zup32 {σ : Nat → Nat → Int} {g : Nat → Int} {i : Nat} {v : Int} : zup (zs σ 33 g) 32 i v = zs (zs σ 32 (va_up (σ 32) i v)) 33 g := by
  rw [zup_zs, zs_ne (show 32 ≠ 33 by decide), zs_comm (show 33 ≠ 32 by decide)]
theorem zco_eq {σ : Nat → Nat → Int} {g : Nat → Int} {v : Int} : zup (zs σ 33 g) 32 7 v = zs (zco σ v) 33 g := zup32
theorem zrq_eq {σ : Nat → Nat → Int} {g : Nat → Int} {p w x : Int} : zup (zup (zup (zup (zs σ 33 g) 32 7 p) 32 8 1) 32 9 w) 32 10 x = zs (zrq σ p w x) 33 g := by
  rw [zup32, zup32, zup32, zup32]
  unfold zrq
  rw [zs_zs, zs_zs, zs_zs, zs_eq, zs_eq, zs_eq]
set_option maxHeartbeats 1000000 in
theorem c_X11_in {E : zE} {v a b : Int} {st : zT} (hv : zi v) (ha : zi a) (hb : zi b) : Rv E yX11_in (Cond.code yX11_in cX11_in 3 (Option.some FieldType.boolean)) 0 [vi v, vi a, vi b] (st) (vi (if a ≤ v ∧ v ≤ b then 1 else 0)) (st) := by
  refine Ctr_of (own := RX11) (by decide +kernel) rfl rfl (fun Y hX hR hnx => ?_)
  refine z_b hX fo_X11 [.iload_n 0, .iload_n 1] 2 (by decide +kernel) rfl ?_
  refine z_ic_lt hX (off := 12) 14 (by decide +kernel) (by decide) hv ha (fun c2 => ?_) (fun c2 => ?_)
  · refine z_b hX fo_X11 [.iconst 0] 15 (by decide +kernel) rfl ?_
    exact z_zret hX hR (by decide +kernel) (by decide +kernel) ⟨by first | rw [if_pos (by omega)] | rw [if_neg (by omega)], rfl⟩
  · refine z_b hX fo_X11 [.iload_n 0, .iload_n 2] 7 (by decide +kernel) rfl ?_
    refine z_ic_gt hX (off := 7) 14 (by decide +kernel) (by decide) hv hb (fun c7 => ?_) (fun c7 => ?_)
    · refine z_b hX fo_X11 [.iconst 0] 15 (by decide +kernel) rfl ?_
      exact z_zret hX hR (by decide +kernel) (by decide +kernel) ⟨by first | rw [if_pos (by omega)] | rw [if_neg (by omega)], rfl⟩
    · refine z_b hX fo_X11 [.iconst 1] 11 (by decide +kernel) rfl ?_
      refine z_goto hX (off := 4) 15 (by decide +kernel) (by decide) ?_
      exact z_zret hX hR (by decide +kernel) (by decide +kernel) ⟨by first | rw [if_pos (by omega)] | rw [if_neg (by omega)], rfl⟩
set_option maxHeartbeats 1000000 in
theorem c_X11_less {E : zE} {a b : Int} {st : zT} (ha : zi a) (hb : zi b) : Rv E yX11_less (Cond.code yX11_less cX11_less 2 (Option.some FieldType.int)) 0 [vi a, vi b] (st) (vi (if a < b then a else b)) (st) := by
  refine Ctr_of (own := RX11) (by decide +kernel) rfl rfl (fun Y hX hR hnx => ?_)
  refine z_b hX fo_X11 [.iload_n 0, .iload_n 1] 2 (by decide +kernel) rfl ?_
  refine z_ic_ge hX (off := 7) 9 (by decide +kernel) (by decide) ha hb (fun c2 => ?_) (fun c2 => ?_)
  · refine z_b hX fo_X11 [.iload_n 1] 10 (by decide +kernel) rfl ?_
    exact z_iret hX hR (by decide +kernel) ⟨by first | rw [if_pos (by omega)] | rw [if_neg (by omega)], rfl⟩
  · refine z_b hX fo_X11 [.iload_n 0] 6 (by decide +kernel) rfl ?_
    refine z_goto hX (off := 4) 10 (by decide +kernel) (by decide) ?_
    exact z_iret hX hR (by decide +kernel) ⟨by first | rw [if_pos (by omega)] | rw [if_neg (by omega)], rfl⟩
set_option maxHeartbeats 1000000 in
theorem c_X11_more {E : zE} {a b : Int} {st : zT} (ha : zi a) (hb : zi b) : Rv E yX11_more (Cond.code yX11_more cX11_more 2 (Option.some FieldType.int)) 0 [vi a, vi b] (st) (vi (if b < a then a else b)) (st) := by
  refine Ctr_of (own := RX11) (by decide +kernel) rfl rfl (fun Y hX hR hnx => ?_)
  refine z_b hX fo_X11 [.iload_n 0, .iload_n 1] 2 (by decide +kernel) rfl ?_
  refine z_ic_le hX (off := 7) 9 (by decide +kernel) (by decide) ha hb (fun c2 => ?_) (fun c2 => ?_)
  · refine z_b hX fo_X11 [.iload_n 1] 10 (by decide +kernel) rfl ?_
    exact z_iret hX hR (by decide +kernel) ⟨by first | rw [if_pos (by omega)] | rw [if_neg (by omega)], rfl⟩
  · refine z_b hX fo_X11 [.iload_n 0] 6 (by decide +kernel) rfl ?_
    refine z_goto hX (off := 4) 10 (by decide +kernel) (by decide) ?_
    exact z_iret hX hR (by decide +kernel) ⟨by first | rw [if_pos (by omega)] | rw [if_neg (by omega)], rfl⟩
set_option maxHeartbeats 1000000 in
theorem c_X11_thrown {E : zE} {st : zT} : Rv E yX11_thrown (Cond.code yX11_thrown cX11_thrown 1 (Option.some FieldType.int)) 0 [vr 32] (st) (vi (st.1 32 7)) (st) := by
  refine Ctr_of (own := RX11) (by decide +kernel) rfl rfl (fun Y hX hR hnx => ?_)
  refine z_b hX fo_X11 [.aload_n 0, .getfield 32] 4 (by decide +kernel) rfl ?_
  exact z_iret hX hR (by decide +kernel) ⟨rfl, rfl⟩
set_option maxHeartbeats 1000000 in
theorem c_fails0 {E : zE} {x : Int} {σ : Nat → Nat → Int} {c : Nat → Int} {l : (Nat → Int64) × (Nat → UInt64)} (h : x = 0) : Rv E yX11_fails (Cond.code yX11_fails cX11_fails 2 (Option.some FieldType.boolean)) 0 [vr 32, vi x] ((zs σ 33 (gm c), l)) (vi 0) ((zs (zco σ x) 33 (gm c), l)) := by
  refine Ctr_of (own := RX11) (by decide +kernel) rfl rfl (fun Y hX hR hnx => ?_)
  refine z_b hX fo_X11 [.aload_n 0, .iload_n 1, .putfield 32, .iload_n 1] 6 (by decide +kernel) rfl ?_
  refine z_if_le hX (off := 7) 13 (by decide +kernel) (by decide) ⟨by omega, by omega⟩ (fun c6 => ?_) (fun c6 => by exfalso; omega)
  refine z_b hX fo_X11 [.iconst 0] 14 (by decide +kernel) rfl ?_
  exact z_zret hX hR (by decide +kernel) (by decide +kernel) ⟨rfl, by dsimp only; rw [zco_eq]⟩
set_option maxHeartbeats 1000000 in
theorem c_fails1 {E : zE} {x : Int} {σ : Nat → Nat → Int} {c : Nat → Int} {l : (Nat → Int64) × (Nat → UInt64)} (h : 1 ≤ x ∧ x ≤ 9) : Rv E yX11_fails (Cond.code yX11_fails cX11_fails 2 (Option.some FieldType.boolean)) 0 [vr 32, vi x] ((zs σ 33 (gm c), l)) (vi 1) ((zs (zco σ x) 33 (gm c), l)) := by
  refine Ctr_of (own := RX11) (by decide +kernel) rfl rfl (fun Y hX hR hnx => ?_)
  refine z_b hX fo_X11 [.aload_n 0, .iload_n 1, .putfield 32, .iload_n 1] 6 (by decide +kernel) rfl ?_
  refine z_if_le hX (off := 7) 13 (by decide +kernel) (by decide) ⟨by omega, by omega⟩ (fun c6 => by exfalso; omega) (fun c6 => ?_)
  refine z_b hX fo_X11 [.iconst 1] 10 (by decide +kernel) rfl ?_
  refine z_goto hX (off := 4) 14 (by decide +kernel) (by decide) ?_
  exact z_zret hX hR (by decide +kernel) (by decide +kernel) ⟨rfl, by dsimp only; rw [zco_eq]⟩
set_option maxHeartbeats 1000000 in
theorem c_X11_refuses {E : zE} {p w x : Int} {σ : Nat → Nat → Int} {c : Nat → Int} {l : (Nat → Int64) × (Nat → UInt64)} : Rv E yX11_refuses (Cond.code yX11_refuses cX11_refuses 4 (Option.some FieldType.int)) 0 [vr 32, vi p, vi w, vi x] ((zs σ 33 (gm c), l)) (vi 0) ((zs (zrq σ p w x) 33 (gm c), l)) := by
  refine Ctr_of (own := RX11) (by decide +kernel) rfl rfl (fun Y hX hR hnx => ?_)
  refine z_b hX fo_X11 [.aload_n 0, .iload_n 1, .putfield 32, .aload_n 0, .iconst 1] 7 (by decide +kernel) rfl ?_
  refine z_putz hX (oc := 5) (f := 8) rfl ws_X11 tyX11_ok nmX11 (by decide) f_X11_35 rfl rfl rfl (by decide) rfl rfl (by decide +kernel) ?_
  refine z_b hX fo_X11 [.aload_n 0, .iload_n 2, .putfield 39, .aload_n 0, .iload_n 3, .putfield 42, .iconst 0] 21 (by decide +kernel) rfl ?_
  exact z_iret hX hR (by decide +kernel) ⟨rfl, by dsimp only; rw [zrq_eq]⟩
set_option maxHeartbeats 1000000 in
theorem c_X11_isCoat {E : zE} {x : Int} {σ : Nat → Nat → Int} {c : Nat → Int} {l : (Nat → Int64) × (Nat → UInt64)} (hx : zi x) (hc : 0 ≤ c 8 ∧ c 8 ≤ 12) : Rv E yX11_isCoat (Cond.code yX11_isCoat cX11_isCoat 2 (Option.some FieldType.boolean)) 1 [vr 32, vi x] ((zs σ 33 (gm c), l)) (vi (if hC c x then 1 else 0)) ((zs σ 33 (gm c), l)) := by
  refine Ctr_of (own := RX11) (by decide +kernel) rfl rfl (fun Y hX hR hnx => ?_)
  refine z_b hX fo_X11 [.iload_n 1, .iconst 0, .aload_n 0, .getfield 7, .bipush 9] 8 (by decide +kernel) rfl ?_
  refine z_ig hX (v := c 8) (9) rfl (by omega) (by omega) (by decide +kernel) ?_
  refine z_b hX fo_X11 [.iconst 1, .isub] 11 (by decide +kernel) rfl ?_
  refine z_cS hX m_X11_in l_X11_55 p_X11_in (c_X11_in hx ⟨by decide, by decide⟩ ⟨by omega, by omega⟩) rfl rfl rfl rfl (by decide +kernel) ?_
  rw [show (if 0 ≤ x ∧ x ≤ c 8 - 1 then (1 : Int) else 0) = (if hC c x then 1 else 0) by by_cases h : hC c x; rw [if_pos h, if_pos (by omega)]; rw [if_neg h, if_neg (by omega)]]
  exact z_zret hX hR z01n (by decide +kernel) ⟨rfl, rfl⟩
set_option maxHeartbeats 1000000 in
theorem c_X11_isAct {E : zE} {x : Int} {σ : Nat → Nat → Int} {c : Nat → Int} {l : (Nat → Int64) × (Nat → UInt64)} (hx : zi x) (hc : 0 ≤ c 9 ∧ c 9 ≤ 12) : Rv E yX11_isAct (Cond.code yX11_isAct cX11_isAct 2 (Option.some FieldType.boolean)) 1 [vr 32, vi x] ((zs σ 33 (gm c), l)) (vi (if hA c x then 1 else 0)) ((zs σ 33 (gm c), l)) := by
  refine Ctr_of (own := RX11) (by decide +kernel) rfl rfl (fun Y hX hR hnx => ?_)
  refine z_b hX fo_X11 [.iload_n 1, .iconst 0, .aload_n 0, .getfield 7, .bipush 82] 8 (by decide +kernel) rfl ?_
  refine z_ig hX (v := c 9) (82) rfl (by omega) (by omega) (by decide +kernel) ?_
  refine z_b hX fo_X11 [.iconst 1, .isub] 11 (by decide +kernel) rfl ?_
  refine z_cS hX m_X11_in l_X11_55 p_X11_in (c_X11_in hx ⟨by decide, by decide⟩ ⟨by omega, by omega⟩) rfl rfl rfl rfl (by decide +kernel) ?_
  rw [show (if 0 ≤ x ∧ x ≤ c 9 - 1 then (1 : Int) else 0) = (if hA c x then 1 else 0) by by_cases h : hA c x; rw [if_pos h, if_pos (by omega)]; rw [if_neg h, if_neg (by omega)]]
  exact z_zret hX hR z01n (by decide +kernel) ⟨rfl, rfl⟩
set_option maxHeartbeats 1000000 in
theorem c_X11_isWoman {E : zE} {x : Int} {σ : Nat → Nat → Int} {c : Nat → Int} {l : (Nat → Int64) × (Nat → UInt64)} (hx : zi x) (hc : 0 ≤ c 10 ∧ c 10 ≤ 12) : Rv E yX11_isWoman (Cond.code yX11_isWoman cX11_isWoman 2 (Option.some FieldType.boolean)) 1 [vr 32, vi x] ((zs σ 33 (gm c), l)) (vi (if hW c x then 1 else 0)) ((zs σ 33 (gm c), l)) := by
  refine Ctr_of (own := RX11) (by decide +kernel) rfl rfl (fun Y hX hR hnx => ?_)
  refine z_b hX fo_X11 [.iload_n 1, .iconst 0, .aload_n 0, .getfield 7, .bipush 107] 8 (by decide +kernel) rfl ?_
  refine z_ig hX (v := c 10) (107) rfl (by omega) (by omega) (by decide +kernel) ?_
  refine z_b hX fo_X11 [.iconst 1, .isub] 11 (by decide +kernel) rfl ?_
  refine z_cS hX m_X11_in l_X11_55 p_X11_in (c_X11_in hx ⟨by decide, by decide⟩ ⟨by omega, by omega⟩) rfl rfl rfl rfl (by decide +kernel) ?_
  rw [show (if 0 ≤ x ∧ x ≤ c 10 - 1 then (1 : Int) else 0) = (if hW c x then 1 else 0) by by_cases h : hW c x; rw [if_pos h, if_pos (by omega)]; rw [if_neg h, if_neg (by omega)]]
  exact z_zret hX hR z01n (by decide +kernel) ⟨rfl, rfl⟩
set_option maxHeartbeats 1000000 in
theorem c_X11_isTrunk {E : zE} {x : Int} {σ : Nat → Nat → Int} {c : Nat → Int} {l : (Nat → Int64) × (Nat → UInt64)} (hx : zi x) (hc : 0 ≤ c 11 ∧ c 11 ≤ 12) : Rv E yX11_isTrunk (Cond.code yX11_isTrunk cX11_isTrunk 2 (Option.some FieldType.boolean)) 1 [vr 32, vi x] ((zs σ 33 (gm c), l)) (vi (if hT c x then 1 else 0)) ((zs σ 33 (gm c), l)) := by
  refine Ctr_of (own := RX11) (by decide +kernel) rfl rfl (fun Y hX hR hnx => ?_)
  refine z_b hX fo_X11 [.iload_n 1, .iconst 0, .aload_n 0, .getfield 7, .bipush 120] 8 (by decide +kernel) rfl ?_
  refine z_ig hX (v := c 11) (120) rfl (by omega) (by omega) (by decide +kernel) ?_
  refine z_b hX fo_X11 [.iconst 1, .isub] 11 (by decide +kernel) rfl ?_
  refine z_cS hX m_X11_in l_X11_55 p_X11_in (c_X11_in hx ⟨by decide, by decide⟩ ⟨by omega, by omega⟩) rfl rfl rfl rfl (by decide +kernel) ?_
  rw [show (if 0 ≤ x ∧ x ≤ c 11 - 1 then (1 : Int) else 0) = (if hT c x then 1 else 0) by by_cases h : hT c x; rw [if_pos h, if_pos (by omega)]; rw [if_neg h, if_neg (by omega)]]
  exact z_zret hX hR z01n (by decide +kernel) ⟨rfl, rfl⟩
set_option maxHeartbeats 1000000 in
theorem c_of {E : zE} {k w : Nat} {σ : Nat → Nat → Int} {c : Nat → Int} {l : (Nat → Int64) × (Nat → UInt64)} (hk : k < 12) (hw : w < 6) : Rv E yX11_of (Cond.code yX11_of cX11_of 3 (Option.some FieldType.int)) 0 [vr 32, vi (k : Int), vi (w : Int)] ((zs σ 33 (gm c), l)) (vi (c (13 + 12 * w + k))) ((zs σ 33 (gm c), l)) := by
  refine Ctr_of (own := RX11) (by decide +kernel) rfl rfl (fun Y hX hR hnx => ?_)
  refine z_b hX fo_X11 [.aload_n 0, .getfield 7, .bipush 10, .bipush 6, .iload_n 1, .imul, .iadd, .iload_n 2, .iadd] 13 (by decide +kernel) rfl ?_
  refine z_ig hX (v := c (13 + 12 * w + k)) (10 + 6 * k + w) (gco hk hw) (by omega) (by omega) (by decide +kernel) ?_
  exact z_iret hX hR (by decide +kernel) ⟨rfl, rfl⟩
theorem c_of0 {E : zE} {k : Nat} {σ : Nat → Nat → Int} {c : Nat → Int} {l : (Nat → Int64) × (Nat → UInt64)} (hk : k < 12) : Rv E yX11_of (Cond.code yX11_of cX11_of 3 (Option.some FieldType.int)) 0 [vr 32, vi (k : Int), vi 0] (zs σ 33 (gm c), l) (vi (c (13 + k))) (zs σ 33 (gm c), l) := (c_of (w := 0) hk (by decide)).to (by congr 2) rfl
theorem c_of1 {E : zE} {k : Nat} {σ : Nat → Nat → Int} {c : Nat → Int} {l : (Nat → Int64) × (Nat → UInt64)} (hk : k < 12) : Rv E yX11_of (Cond.code yX11_of cX11_of 3 (Option.some FieldType.int)) 0 [vr 32, vi (k : Int), vi 1] (zs σ 33 (gm c), l) (vi (c (25 + k))) (zs σ 33 (gm c), l) := (c_of (w := 1) hk (by decide)).to (by congr 2) rfl
theorem c_of2 {E : zE} {k : Nat} {σ : Nat → Nat → Int} {c : Nat → Int} {l : (Nat → Int64) × (Nat → UInt64)} (hk : k < 12) : Rv E yX11_of (Cond.code yX11_of cX11_of 3 (Option.some FieldType.int)) 0 [vr 32, vi (k : Int), vi 2] (zs σ 33 (gm c), l) (vi (c (37 + k))) (zs σ 33 (gm c), l) := (c_of (w := 2) hk (by decide)).to (by congr 2) rfl
theorem c_of3 {E : zE} {k : Nat} {σ : Nat → Nat → Int} {c : Nat → Int} {l : (Nat → Int64) × (Nat → UInt64)} (hk : k < 12) : Rv E yX11_of (Cond.code yX11_of cX11_of 3 (Option.some FieldType.int)) 0 [vr 32, vi (k : Int), vi 3] (zs σ 33 (gm c), l) (vi (c (49 + k))) (zs σ 33 (gm c), l) := (c_of (w := 3) hk (by decide)).to (by congr 2) rfl
theorem c_of4 {E : zE} {k : Nat} {σ : Nat → Nat → Int} {c : Nat → Int} {l : (Nat → Int64) × (Nat → UInt64)} (hk : k < 12) : Rv E yX11_of (Cond.code yX11_of cX11_of 3 (Option.some FieldType.int)) 0 [vr 32, vi (k : Int), vi 4] (zs σ 33 (gm c), l) (vi (c (61 + k))) (zs σ 33 (gm c), l) := (c_of (w := 4) hk (by decide)).to (by congr 2) rfl
theorem c_of5 {E : zE} {k : Nat} {σ : Nat → Nat → Int} {c : Nat → Int} {l : (Nat → Int64) × (Nat → UInt64)} (hk : k < 12) : Rv E yX11_of (Cond.code yX11_of cX11_of 3 (Option.some FieldType.int)) 0 [vr 32, vi (k : Int), vi 5] (zs σ 33 (gm c), l) (vi (c (73 + k))) (zs σ 33 (gm c), l) := (c_of (w := 5) hk (by decide)).to (by congr 2) rfl
set_option maxHeartbeats 1000000 in
theorem c_ofAct {E : zE} {k w : Nat} {σ : Nat → Nat → Int} {c : Nat → Int} {l : (Nat → Int64) × (Nat → UInt64)} (hk : k < 6) (hw : w < 4) : Rv E yX11_ofAct (Cond.code yX11_ofAct cX11_ofAct 3 (Option.some FieldType.int)) 0 [vr 32, vi (k : Int), vi (w : Int)] ((zs σ 33 (gm c), l)) (vi (c (85 + 6 * w + k))) ((zs σ 33 (gm c), l)) := by
  refine Ctr_of (own := RX11) (by decide +kernel) rfl rfl (fun Y hX hR hnx => ?_)
  refine z_b hX fo_X11 [.aload_n 0, .getfield 7, .bipush 83, .iconst 4, .iload_n 1, .imul, .iadd, .iload_n 2, .iadd] 12 (by decide +kernel) rfl ?_
  refine z_ig hX (v := c (85 + 6 * w + k)) (83 + 4 * k + w) (gac hk hw) (by omega) (by omega) (by decide +kernel) ?_
  exact z_iret hX hR (by decide +kernel) ⟨rfl, rfl⟩
theorem c_ofAct0 {E : zE} {k : Nat} {σ : Nat → Nat → Int} {c : Nat → Int} {l : (Nat → Int64) × (Nat → UInt64)} (hk : k < 6) : Rv E yX11_ofAct (Cond.code yX11_ofAct cX11_ofAct 3 (Option.some FieldType.int)) 0 [vr 32, vi (k : Int), vi 0] (zs σ 33 (gm c), l) (vi (c (85 + k))) (zs σ 33 (gm c), l) := (c_ofAct (w := 0) hk (by decide)).to (by congr 2) rfl
theorem c_ofAct1 {E : zE} {k : Nat} {σ : Nat → Nat → Int} {c : Nat → Int} {l : (Nat → Int64) × (Nat → UInt64)} (hk : k < 6) : Rv E yX11_ofAct (Cond.code yX11_ofAct cX11_ofAct 3 (Option.some FieldType.int)) 0 [vr 32, vi (k : Int), vi 1] (zs σ 33 (gm c), l) (vi (c (91 + k))) (zs σ 33 (gm c), l) := (c_ofAct (w := 1) hk (by decide)).to (by congr 2) rfl
theorem c_ofAct2 {E : zE} {k : Nat} {σ : Nat → Nat → Int} {c : Nat → Int} {l : (Nat → Int64) × (Nat → UInt64)} (hk : k < 6) : Rv E yX11_ofAct (Cond.code yX11_ofAct cX11_ofAct 3 (Option.some FieldType.int)) 0 [vr 32, vi (k : Int), vi 2] (zs σ 33 (gm c), l) (vi (c (97 + k))) (zs σ 33 (gm c), l) := (c_ofAct (w := 2) hk (by decide)).to (by congr 2) rfl
theorem c_ofAct3 {E : zE} {k : Nat} {σ : Nat → Nat → Int} {c : Nat → Int} {l : (Nat → Int64) × (Nat → UInt64)} (hk : k < 6) : Rv E yX11_ofAct (Cond.code yX11_ofAct cX11_ofAct 3 (Option.some FieldType.int)) 0 [vr 32, vi (k : Int), vi 3] (zs σ 33 (gm c), l) (vi (c (103 + k))) (zs σ 33 (gm c), l) := (c_ofAct (w := 3) hk (by decide)).to (by congr 2) rfl
set_option maxHeartbeats 1000000 in
theorem c_ofWoman {E : zE} {k w : Nat} {σ : Nat → Nat → Int} {c : Nat → Int} {l : (Nat → Int64) × (Nat → UInt64)} (hk : k < 4) (hw : w < 3) : Rv E yX11_ofWoman (Cond.code yX11_ofWoman cX11_ofWoman 3 (Option.some FieldType.int)) 0 [vr 32, vi (k : Int), vi (w : Int)] ((zs σ 33 (gm c), l)) (vi (c (109 + 4 * w + k))) ((zs σ 33 (gm c), l)) := by
  refine Ctr_of (own := RX11) (by decide +kernel) rfl rfl (fun Y hX hR hnx => ?_)
  refine z_b hX fo_X11 [.aload_n 0, .getfield 7, .bipush 108, .iconst 3, .iload_n 1, .imul, .iadd, .iload_n 2, .iadd] 12 (by decide +kernel) rfl ?_
  refine z_ig hX (v := c (109 + 4 * w + k)) (108 + 3 * k + w) (gwo hk hw) (by omega) (by omega) (by decide +kernel) ?_
  exact z_iret hX hR (by decide +kernel) ⟨rfl, rfl⟩
theorem c_ofWoman0 {E : zE} {k : Nat} {σ : Nat → Nat → Int} {c : Nat → Int} {l : (Nat → Int64) × (Nat → UInt64)} (hk : k < 4) : Rv E yX11_ofWoman (Cond.code yX11_ofWoman cX11_ofWoman 3 (Option.some FieldType.int)) 0 [vr 32, vi (k : Int), vi 0] (zs σ 33 (gm c), l) (vi (c (109 + k))) (zs σ 33 (gm c), l) := (c_ofWoman (w := 0) hk (by decide)).to (by congr 2) rfl
theorem c_ofWoman1 {E : zE} {k : Nat} {σ : Nat → Nat → Int} {c : Nat → Int} {l : (Nat → Int64) × (Nat → UInt64)} (hk : k < 4) : Rv E yX11_ofWoman (Cond.code yX11_ofWoman cX11_ofWoman 3 (Option.some FieldType.int)) 0 [vr 32, vi (k : Int), vi 1] (zs σ 33 (gm c), l) (vi (c (113 + k))) (zs σ 33 (gm c), l) := (c_ofWoman (w := 1) hk (by decide)).to (by congr 2) rfl
theorem c_ofWoman2 {E : zE} {k : Nat} {σ : Nat → Nat → Int} {c : Nat → Int} {l : (Nat → Int64) × (Nat → UInt64)} (hk : k < 4) : Rv E yX11_ofWoman (Cond.code yX11_ofWoman cX11_ofWoman 3 (Option.some FieldType.int)) 0 [vr 32, vi (k : Int), vi 2] (zs σ 33 (gm c), l) (vi (c (117 + k))) (zs σ 33 (gm c), l) := (c_ofWoman (w := 2) hk (by decide)).to (by congr 2) rfl
set_option maxHeartbeats 1000000 in
theorem c_lays {E : zE} {k w : Nat} {v : Int} {σ : Nat → Nat → Int} {c : Nat → Int} {l : (Nat → Int64) × (Nat → UInt64)} (hk : k < 12) (hw : w < 6) : Rn E yX11_lays (Cond.code yX11_lays cX11_lays 4 (Option.none : Option FieldType)) 0 [vr 32, vi (k : Int), vi (w : Int), vi v] ((zs σ 33 (gm c), l)) ((zs σ 33 (gm (va_up c (13 + 12 * w + k) v)), l)) := by
  refine Ctr_of (own := RX11) (by decide +kernel) rfl rfl (fun Y hX hR hnx => ?_)
  refine z_b hX fo_X11 [.aload_n 0, .getfield 7, .bipush 10, .bipush 6, .iload_n 1, .imul, .iadd, .iload_n 2, .iadd, .iload_n 3] 14 (by decide +kernel) rfl ?_
  refine z_sg hX (10 + 6 * k + w) (uco hk hw) (by omega) (by omega) (by decide +kernel) ?_
  exact z_vret hX hR (by decide +kernel) ⟨rfl, rfl⟩
theorem c_lays0 {E : zE} {k : Nat} {v : Int} {σ : Nat → Nat → Int} {c : Nat → Int} {l : (Nat → Int64) × (Nat → UInt64)} (hk : k < 12) : Rn E yX11_lays (Cond.code yX11_lays cX11_lays 4 (Option.none : Option FieldType)) 0 [vr 32, vi (k : Int), vi 0, vi v] (zs σ 33 (gm c), l) (zs σ 33 (gm (va_up c (13 + k) v)), l) := (c_lays (w := 0) hk (by decide)).to (by congr 3)
theorem c_lays1 {E : zE} {k : Nat} {v : Int} {σ : Nat → Nat → Int} {c : Nat → Int} {l : (Nat → Int64) × (Nat → UInt64)} (hk : k < 12) : Rn E yX11_lays (Cond.code yX11_lays cX11_lays 4 (Option.none : Option FieldType)) 0 [vr 32, vi (k : Int), vi 1, vi v] (zs σ 33 (gm c), l) (zs σ 33 (gm (va_up c (25 + k) v)), l) := (c_lays (w := 1) hk (by decide)).to (by congr 3)
theorem c_lays2 {E : zE} {k : Nat} {v : Int} {σ : Nat → Nat → Int} {c : Nat → Int} {l : (Nat → Int64) × (Nat → UInt64)} (hk : k < 12) : Rn E yX11_lays (Cond.code yX11_lays cX11_lays 4 (Option.none : Option FieldType)) 0 [vr 32, vi (k : Int), vi 2, vi v] (zs σ 33 (gm c), l) (zs σ 33 (gm (va_up c (37 + k) v)), l) := (c_lays (w := 2) hk (by decide)).to (by congr 3)
theorem c_lays3 {E : zE} {k : Nat} {v : Int} {σ : Nat → Nat → Int} {c : Nat → Int} {l : (Nat → Int64) × (Nat → UInt64)} (hk : k < 12) : Rn E yX11_lays (Cond.code yX11_lays cX11_lays 4 (Option.none : Option FieldType)) 0 [vr 32, vi (k : Int), vi 3, vi v] (zs σ 33 (gm c), l) (zs σ 33 (gm (va_up c (49 + k) v)), l) := (c_lays (w := 3) hk (by decide)).to (by congr 3)
theorem c_lays4 {E : zE} {k : Nat} {v : Int} {σ : Nat → Nat → Int} {c : Nat → Int} {l : (Nat → Int64) × (Nat → UInt64)} (hk : k < 12) : Rn E yX11_lays (Cond.code yX11_lays cX11_lays 4 (Option.none : Option FieldType)) 0 [vr 32, vi (k : Int), vi 4, vi v] (zs σ 33 (gm c), l) (zs σ 33 (gm (va_up c (61 + k) v)), l) := (c_lays (w := 4) hk (by decide)).to (by congr 3)
theorem c_lays5 {E : zE} {k : Nat} {v : Int} {σ : Nat → Nat → Int} {c : Nat → Int} {l : (Nat → Int64) × (Nat → UInt64)} (hk : k < 12) : Rn E yX11_lays (Cond.code yX11_lays cX11_lays 4 (Option.none : Option FieldType)) 0 [vr 32, vi (k : Int), vi 5, vi v] (zs σ 33 (gm c), l) (zs σ 33 (gm (va_up c (73 + k) v)), l) := (c_lays (w := 5) hk (by decide)).to (by congr 3)
set_option maxHeartbeats 1000000 in
theorem c_laysAct {E : zE} {k w : Nat} {v : Int} {σ : Nat → Nat → Int} {c : Nat → Int} {l : (Nat → Int64) × (Nat → UInt64)} (hk : k < 6) (hw : w < 4) : Rn E yX11_laysAct (Cond.code yX11_laysAct cX11_laysAct 4 (Option.none : Option FieldType)) 0 [vr 32, vi (k : Int), vi (w : Int), vi v] ((zs σ 33 (gm c), l)) ((zs σ 33 (gm (va_up c (85 + 6 * w + k) v)), l)) := by
  refine Ctr_of (own := RX11) (by decide +kernel) rfl rfl (fun Y hX hR hnx => ?_)
  refine z_b hX fo_X11 [.aload_n 0, .getfield 7, .bipush 83, .iconst 4, .iload_n 1, .imul, .iadd, .iload_n 2, .iadd, .iload_n 3] 13 (by decide +kernel) rfl ?_
  refine z_sg hX (83 + 4 * k + w) (uac hk hw) (by omega) (by omega) (by decide +kernel) ?_
  exact z_vret hX hR (by decide +kernel) ⟨rfl, rfl⟩
theorem c_laysAct0 {E : zE} {k : Nat} {v : Int} {σ : Nat → Nat → Int} {c : Nat → Int} {l : (Nat → Int64) × (Nat → UInt64)} (hk : k < 6) : Rn E yX11_laysAct (Cond.code yX11_laysAct cX11_laysAct 4 (Option.none : Option FieldType)) 0 [vr 32, vi (k : Int), vi 0, vi v] (zs σ 33 (gm c), l) (zs σ 33 (gm (va_up c (85 + k) v)), l) := (c_laysAct (w := 0) hk (by decide)).to (by congr 3)
theorem c_laysAct1 {E : zE} {k : Nat} {v : Int} {σ : Nat → Nat → Int} {c : Nat → Int} {l : (Nat → Int64) × (Nat → UInt64)} (hk : k < 6) : Rn E yX11_laysAct (Cond.code yX11_laysAct cX11_laysAct 4 (Option.none : Option FieldType)) 0 [vr 32, vi (k : Int), vi 1, vi v] (zs σ 33 (gm c), l) (zs σ 33 (gm (va_up c (91 + k) v)), l) := (c_laysAct (w := 1) hk (by decide)).to (by congr 3)
theorem c_laysAct2 {E : zE} {k : Nat} {v : Int} {σ : Nat → Nat → Int} {c : Nat → Int} {l : (Nat → Int64) × (Nat → UInt64)} (hk : k < 6) : Rn E yX11_laysAct (Cond.code yX11_laysAct cX11_laysAct 4 (Option.none : Option FieldType)) 0 [vr 32, vi (k : Int), vi 2, vi v] (zs σ 33 (gm c), l) (zs σ 33 (gm (va_up c (97 + k) v)), l) := (c_laysAct (w := 2) hk (by decide)).to (by congr 3)
theorem c_laysAct3 {E : zE} {k : Nat} {v : Int} {σ : Nat → Nat → Int} {c : Nat → Int} {l : (Nat → Int64) × (Nat → UInt64)} (hk : k < 6) : Rn E yX11_laysAct (Cond.code yX11_laysAct cX11_laysAct 4 (Option.none : Option FieldType)) 0 [vr 32, vi (k : Int), vi 3, vi v] (zs σ 33 (gm c), l) (zs σ 33 (gm (va_up c (103 + k) v)), l) := (c_laysAct (w := 3) hk (by decide)).to (by congr 3)
set_option maxHeartbeats 1000000 in
theorem c_X11_packedIn {E : zE} {t : Nat} {σ : Nat → Nat → Int} {c : Nat → Int} {l : (Nat → Int64) × (Nat → UInt64)} (ht : t < 4) : Rv E yX11_packedIn (Cond.code yX11_packedIn cX11_packedIn 2 (Option.some FieldType.int)) 0 [vr 32, vi (t : Int)] ((zs σ 33 (gm c), l)) (vi (c (121 + t))) ((zs σ 33 (gm c), l)) := by
  refine Ctr_of (own := RX11) (by decide +kernel) rfl rfl (fun Y hX hR hnx => ?_)
  refine z_b hX fo_X11 [.aload_n 0, .getfield 7, .bipush 121, .bipush 6, .iload_n 1, .imul, .iadd] 11 (by decide +kernel) rfl ?_
  refine z_ig hX (v := c (121 + t)) (121 + 6 * t) (gtr ht) (by omega) (by omega) (by decide +kernel) ?_
  exact z_iret hX hR (by decide +kernel) ⟨rfl, rfl⟩
