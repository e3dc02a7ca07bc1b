/-! ===== the model: days ===== -/
theorem uw0 {c : Nat → Int} {k : Nat} {v : Int} (hk : k < 4) : va_up (gm c) (108 + 3 * k + 0) v = gm (va_up c (109 + k) v) := uwo (w := 0) hk (by decide)
theorem uw1 {c : Nat → Int} {k : Nat} {v : Int} (hk : k < 4) : va_up (gm c) (108 + 3 * k + 1) v = gm (va_up c (113 + k) v) := uwo (w := 1) hk (by decide)
theorem zrest_id {c : Nat → Int} : ∀ (m i : Nat), c 10 ≤ (i : Int) → zrest i m c = c
  | 0, i, h => rfl
  | m + 1, i, h => by
    show zrest (i + 1) m (zrest1 c i) = c
    rw [show zrest1 c i = c from if_neg (by omega)]
    exact zrest_id m (i + 1) (by omega)
theorem zgrowC_id {c : Nat → Int} : ∀ (m i : Nat), c 9 ≤ (i : Int) → zgrowC i m c = c
  | 0, i, h => rfl
  | m + 1, i, h => by
    show zgrowC (i + 1) m (zgrow1 c i) = c
    rw [show zgrow1 c i = c from if_neg (by omega)]
    exact zgrowC_id m (i + 1) (by omega)
theorem zgrowN_id {c : Nat → Int} : ∀ (m i : Nat) (g : Int), c 9 ≤ (i : Int) → zgrowN i m c g = g
  | 0, i, g, h => rfl
  | m + 1, i, g, h => by
    show zgrowN (i + 1) m (zgrow1 c i) (g + zgrowV c i) = g
    rw [show zgrow1 c i = c from if_neg (by omega), show zgrowV c i = 0 from if_neg (by omega), Int.add_zero]
    exact zgrowN_id m (i + 1) g (by omega)
theorem zday_no {c : Nat → Int} {X : Nat → Int} (hX : X = zrest 0 4 c) (h : (X 0 + 1) % 7 ≠ 0) : zdayC c = ad X 0 1 ∧ zdayV c = 0 := by
  unfold zdayC zdayV zday1
  rw [← hX, if_neg h, if_neg h]; exact ⟨rfl, rfl⟩
theorem zday_yes {c : Nat → Int} {X : Nat → Int} (hX : X = zrest 0 4 c) (h : (X 0 + 1) % 7 = 0) : zdayC c = zgrowC 0 6 (ad X 0 1) ∧ zdayV c = zgrowN 0 6 (ad X 0 1) 0 := by
  unfold zdayC zdayV zday1
  rw [← hX, if_pos h, if_pos h]; exact ⟨rfl, rfl⟩
set_option maxHeartbeats 1000000 in
theorem c_X11_dayGoes {E : zE} {D : Int} {σ : Nat → Nat → Int} {c : Nat → Int} {l : (Nat → Int64) × (Nat → UInt64)} (hg : Rg D c) (hD : D ≤ 1100000) : Rv E yX11_dayGoes (Cond.code yX11_dayGoes cX11_dayGoes 4 (Option.some FieldType.int)) 1 [vr 32] ((zs σ 33 (gm c), l)) (vi (zdayV c)) ((zs σ 33 (gm (zdayC c)), l)) := by
  refine Ctr_of (own := RX11) (by decide +kernel) rfl rfl (fun Y hX hR hnx => ?_)
  have gw := hg.women
  obtain ⟨n, hn⟩ : ∃ n : Nat, c 10 = (n : Int) := ⟨(c 10).toNat, by omega⟩
  refine z_b hX fo_X11 [.iconst 0, .istore_n 1] 2 (by decide +kernel) rfl ?_
  have hmid : ∀ (x : Int) (X : Nat → Int), X = zrest 0 4 c → Rg D X → Z (E, Y) 0 57 [(1, vi x), (0, vr 32)] [] (zs σ 33 (gm X), l) := by
    intro x X hX9 hgr
    refine z_b hX fo_X11 [.aload_n 0, .getfield 7, .iconst 0, .dup2] 63 (by decide +kernel) rfl ?_
    refine z_ig hX (v := X 0) (0) (glow (by decide)) (by omega) (by omega) (by decide +kernel) ?_
    refine z_b hX fo_X11 [.iconst 1, .iadd] 66 (by decide +kernel) rfl ?_
    refine z_sg hX (0) (show va_up (gm X) 0 (X 0 + 1) = gm (ad X 0 1) from ulow (by decide)) (by omega) (by omega) (by decide +kernel) ?_
    obtain ⟨n, hn⟩ : ∃ n : Nat, X 9 = (n : Int) := ⟨(X 9).toNat, by have := hgr.acts; omega⟩
    have h9 : (ad X 0 1) 9 = (n : Int) := by unfold ad; rw [vne (by decide)]; exact hn
    have hx0 := hgr.day
    obtain ⟨e, hd0, he0⟩ : ∃ e : Int, (ad X 0 1) 0 = e ∧ e = X 0 + 1 := ⟨_, rfl, by unfold ad; rw [va_e, if_pos rfl]⟩
    have hgX : Rg (D + 1) (ad X 0 1) := (hgr.mono (by omega)).upa zbd_day (by omega)
    have ga := hgX.acts
    refine z_b hX fo_X11 [.iconst 0, .istore_n 1, .iconst 0, .istore_n 2] 71 (by decide +kernel) rfl ?_
    by_cases he : e % 7 = 0
    · obtain ⟨hC9, hV9⟩ := zday_yes hX9 (by rw [← he0]; exact he)
      have loop : ∀ (m : Nat) (i : Nat) (x g : Int) (c1 : Nat → Int), x = (i : Int) → i + m = 6 → c1 9 = (n : Int) → c1 0 = e → Rg (D + 1) c1 → zgrowC i m c1 = zgrowC 0 6 (ad X 0 1) → zgrowN i m c1 g = zgrowN 0 6 (ad X 0 1) 0 → Z (E, Y) 0 71 [(2, vi x), (1, vi g), (0, vr 32)] [] (zs σ 33 (gm c1), l) := by
        intro m
        induction m with
        | zero =>
          intro i x g c1 hx hm h9 hd0 hg1 hr hs
          subst hx
          have e6 : zgrowC i 0 c1 = c1 := rfl
          refine z_b hX fo_X11 [.iload_n 2, .aload_n 0, .getfield 7, .bipush 82] 78 (by decide +kernel) rfl ?_
          refine z_ig hX (v := (c1) 9) (82) rfl (by omega) (by omega) (by decide +kernel) ?_
          rw [h9]
          refine z_ic_ge hX (off := 58) 137 (by decide +kernel) (by decide) ⟨by omega, by omega⟩ ⟨by omega, by omega⟩ (fun c79 => ?_) (fun c79 => by exfalso; omega)
          refine z_b hX fo_X11 [.iload_n 1] 138 (by decide +kernel) rfl ?_
          exact z_iret hX hR (by decide +kernel) ⟨by rw [hV9, ← hs]; rfl, by rw [hC9, ← hr]; rfl⟩
        | succ m ih =>
          intro i x g c1 hx hm h9 hd0 hg1 hr hs
          subst hx
          refine z_b hX fo_X11 [.iload_n 2, .aload_n 0, .getfield 7, .bipush 82] 78 (by decide +kernel) rfl ?_
          refine z_ig hX (v := (c1) 9) (82) rfl (by omega) (by omega) (by decide +kernel) ?_
          rw [h9]
          refine z_ic_ge hX (off := 58) 137 (by decide +kernel) (by decide) ⟨by omega, by omega⟩ ⟨by omega, by omega⟩ (fun c79 => ?_) (fun c79 => ?_)
          · refine z_b hX fo_X11 [.iload_n 1] 138 (by decide +kernel) rfl ?_
            exact z_iret hX hR (by decide +kernel) ⟨by rw [hV9, ← hs, zgrowN_id _ _ _ (by omega)], by rw [hC9, ← hr, zgrowC_id _ _ (by omega)]⟩
          · refine z_b hX fo_X11 [.aload_n 0, .getfield 7, .iconst 0] 87 (by decide +kernel) rfl ?_
            refine z_ig hX (v := (c1) 0) (0) rfl (by omega) (by omega) (by decide +kernel) ?_
            rw [hd0]
            refine z_b hX fo_X11 [.bipush 7] 90 (by decide +kernel) rfl ?_
            refine z_irem hX (by decide +kernel) (by omega) (by omega) ?_
            refine z_if_ne hX (off := 46) 137 (by decide +kernel) (by decide) ⟨by omega, by omega⟩ (fun c91 => by exact absurd he c91) (fun c91 => ?_)
            refine z_b hX fo_X11 [.bipush 99, .aload_n 0, .iload_n 2, .iconst 0] 99 (by decide +kernel) rfl ?_
            refine z_cV hX m_X11_ofAct l_X11_88 p_X11_ofAct (c_ofAct0 (k := i) (by omega)) rfl rfl rfl rfl rfl rfl (by decide +kernel) ?_
            have s1 := hg1.asize (k := i) (by omega)
            refine z_b hX fo_X11 [.aload_n 0, .iload_n 2, .iconst 1] 105 (by decide +kernel) rfl ?_
            refine z_cV hX m_X11_ofAct l_X11_88 p_X11_ofAct (c_ofAct1 (k := i) (by omega)) rfl rfl rfl rfl rfl rfl (by decide +kernel) ?_
            have s2 := hg1.grow (k := i) (by omega)
            refine z_b hX fo_X11 [.iadd] 109 (by decide +kernel) rfl ?_
            refine z_cS hX m_X11_less l_X11_91 p_X11_less (c_X11_less ⟨by decide, by decide⟩ ⟨by omega, by omega⟩) rfl rfl rfl rfl (by decide +kernel) ?_
            rw [show (if 99 < c1 (85 + i) + c1 (91 + i) then 99 else c1 (85 + i) + c1 (91 + i)) = c1 (85 + i) + zmn (c1 (91 + i)) (99 - c1 (85 + i)) by simp only [zmn]; split <;> split <;> omega]
            refine z_b hX fo_X11 [.istore_n 3, .iload_n 1, .iload_n 3, .aload_n 0, .iload_n 2, .iconst 0] 118 (by decide +kernel) rfl ?_
            refine z_cV hX m_X11_ofAct l_X11_88 p_X11_ofAct (c_ofAct0 (k := i) (by omega)) rfl rfl rfl rfl rfl rfl (by decide +kernel) ?_
            refine z_b hX fo_X11 [.isub, .iadd, .istore_n 1, .aload_n 0, .iload_n 2, .iconst 0, .iload_n 3] 128 (by decide +kernel) rfl ?_
            refine z_cV0 hX m_X11_laysAct l_X11_75 p_X11_laysAct (c_laysAct0 (k := i) (by omega)) rfl rfl rfl rfl rfl rfl (by decide +kernel) ?_
            refine z_b hX fo_X11 [.iinc 2 1] 134 (by decide +kernel) rfl ?_
            refine z_goto hX (off := (-63)) 71 (by decide +kernel) (by decide) ?_
            have ez : zgrow1 c1 i = va_up c1 (85 + i) (c1 (85 + i) + zmn (c1 (91 + i)) (99 - c1 (85 + i))) := if_pos (by omega)
            have ev : zgrowV c1 i = zmn (c1 (91 + i)) (99 - c1 (85 + i)) := if_pos (by omega)
            exact z_lo [0, 1, 3] (ih (i + 1) _ _ _ (by omega) (by omega) (by rw [vne (by omega)]; exact h9) (by rw [vne (by omega)]; exact hd0) (by rw [← ez]; exact hg1.grow1 (by omega)) (by rw [← hr, ← ez]; rfl) (by rw [← hs, ← ez]; show zgrowN (i + 1) m (zgrow1 c1 i) _ = zgrowN (i + 1) m (zgrow1 c1 i) (g + zgrowV c1 i); rw [ev]; congr 1; omega)) rfl
      exact z_lo [0, 1, 2] (loop 6 0 0 0 _ rfl rfl h9 hd0 hgX rfl rfl) rfl
    · obtain ⟨hC9, hV9⟩ := zday_no hX9 (by rw [← he0]; exact he)
      refine z_b hX fo_X11 [.iload_n 2, .aload_n 0, .getfield 7, .bipush 82] 78 (by decide +kernel) rfl ?_
      refine z_ig hX (v := ((ad X 0 1)) 9) (82) rfl (by omega) (by omega) (by decide +kernel) ?_
      rw [h9]
      refine z_ic_ge hX (off := 58) 137 (by decide +kernel) (by decide) ⟨by omega, by omega⟩ ⟨by omega, by omega⟩ (fun c79 => ?_) (fun c79 => ?_)
      · refine z_b hX fo_X11 [.iload_n 1] 138 (by decide +kernel) rfl ?_
        exact z_iret hX hR (by decide +kernel) ⟨by rw [hV9], by rw [hC9]⟩
      · refine z_b hX fo_X11 [.aload_n 0, .getfield 7, .iconst 0] 87 (by decide +kernel) rfl ?_
        refine z_ig hX (v := ((ad X 0 1)) 0) (0) rfl (by omega) (by omega) (by decide +kernel) ?_
        rw [hd0]
        refine z_b hX fo_X11 [.bipush 7] 90 (by decide +kernel) rfl ?_
        refine z_irem hX (by decide +kernel) (by omega) (by omega) ?_
        refine z_if_ne hX (off := 46) 137 (by decide +kernel) (by decide) ⟨by omega, by omega⟩ (fun c91 => ?_) (fun c91 => by exact absurd c91 he)
        refine z_b hX fo_X11 [.iload_n 1] 138 (by decide +kernel) rfl ?_
        exact z_iret hX hR (by decide +kernel) ⟨by rw [hV9], by rw [hC9]⟩
  have loop : ∀ (m : Nat) (i : Nat) (x : Int) (c1 : Nat → Int), x = (i : Int) → i + m = 4 → c1 10 = (n : Int) → Rg D c1 → zrest i m c1 = zrest 0 4 c → Z (E, Y) 0 2 [(1, vi x), (0, vr 32)] [] (zs σ 33 (gm c1), l) := by
    intro m
    induction m with
    | zero =>
      intro i x c1 hx hm h10 hg1 hr
      subst hx
      refine z_b hX fo_X11 [.iload_n 1, .aload_n 0, .getfield 7, .bipush 107] 9 (by decide +kernel) rfl ?_
      refine z_ig hX (v := (c1) 10) (107) rfl (by omega) (by omega) (by decide +kernel) ?_
      rw [h10]
      refine z_ic_ge hX (off := 47) 57 (by decide +kernel) (by decide) ⟨by omega, by omega⟩ ⟨by omega, by omega⟩ (fun c10 => ?_) (fun c10 => by exfalso; omega)
      exact hmid _ c1 (by rw [← hr]; rfl) hg1
    | succ m ih =>
      intro i x c1 hx hm h10 hg1 hr
      subst hx
      refine z_b hX fo_X11 [.iload_n 1, .aload_n 0, .getfield 7, .bipush 107] 9 (by decide +kernel) rfl ?_
      refine z_ig hX (v := (c1) 10) (107) rfl (by omega) (by omega) (by decide +kernel) ?_
      rw [h10]
      refine z_ic_ge hX (off := 47) 57 (by decide +kernel) (by decide) ⟨by omega, by omega⟩ ⟨by omega, by omega⟩ (fun c10 => ?_) (fun c10 => ?_)
      · exact hmid _ c1 (by rw [← hr]; exact (zrest_id _ _ (by omega)).symm) hg1
      · refine z_b hX fo_X11 [.aload_n 0, .getfield 7, .bipush 108, .iconst 3, .iload_n 1, .imul, .iadd, .bipush 8] 25 (by decide +kernel) rfl ?_
        refine z_sg hX (108 + 3 * i + 0) (uw0 (by omega)) (by omega) (by omega) (by decide +kernel) ?_
        refine z_b hX fo_X11 [.aload_n 0, .getfield 7, .bipush 108, .iconst 3, .iload_n 1, .imul, .iadd, .iconst 1, .iadd, .iconst 0, .aload_n 0, .iload_n 1, .iconst 1] 42 (by decide +kernel) rfl ?_
        refine z_cV hX m_X11_ofWoman l_X11_106 p_X11_ofWoman (c_ofWoman1 (k := i) (by omega)) rfl rfl rfl rfl rfl rfl (by decide +kernel) ?_
        have e1 : (va_up c1 (109 + i) 8) (113 + i) = c1 (113 + i) := vne (by omega)
        have s1 := hg1.sore (k := i) (by omega)
        refine z_b hX fo_X11 [.iconst 2, .isub] 47 (by decide +kernel) rfl ?_
        refine z_cS hX m_X11_more l_X11_100 p_X11_more (c_X11_more ⟨by decide, by decide⟩ ⟨by omega, by omega⟩) rfl rfl rfl rfl (by decide +kernel) ?_
        rw [show (if (va_up c1 (109 + i) 8) (113 + i) - 2 < 0 then 0 else (va_up c1 (109 + i) 8) (113 + i) - 2) = zmx 0 ((va_up c1 (109 + i) 8) (113 + i) - 2) by simp only [zmx]; split <;> split <;> omega]
        refine z_sg hX (108 + 3 * i + 1) (uw1 (by omega)) (by omega) (by omega) (by decide +kernel) ?_
        refine z_b hX fo_X11 [.iinc 1 1] 54 (by decide +kernel) rfl ?_
        refine z_goto hX (off := (-52)) 2 (by decide +kernel) (by decide) ?_
        have ez : zrest1 c1 i = va_up (va_up c1 (109 + i) 8) (113 + i) (zmx 0 ((va_up c1 (109 + i) 8) (113 + i) - 2)) := if_pos (by omega)
        exact z_lo [0, 1] (ih (i + 1) _ _ (by omega) (by omega) (by rw [vne (by omega), vne (by omega)]; exact h10) (by rw [← ez]; exact hg1.rest1 (by omega)) (by rw [← hr, ← ez]; rfl)) rfl
  exact loop 4 0 0 c rfl rfl hn hg rfl
set_option maxHeartbeats 1000000 in
theorem c_X11_pass {E : zE} {x D : Int} {R : aQ} {σ : Nat → Nat → Int} {c : Nat → Int} {l : (Nat → Int64) × (Nat → UInt64)} {w : Bool} (hI : AI D c R) (hM : MR R σ) (hw : σ 32 6 = wi w) (h_x : zi x) (hD : D ≤ 1000000) : Mb E yX11_pass (Cond.code yX11_pass cX11_pass 4 (Option.some FieldType.int)) 2 [vr 32, vi x] (σ) (c) (l) (aPass w c R x) ((cd1 eIA)) := by
  refine Ctr_of (own := RX11) (by decide +kernel) rfl rfl (fun Y hX hR hnx => ?_)
  have g8 := hI.1.1.coats
  have g9 := hI.1.1.acts
  have g10 := hI.1.1.women
  have g11 := hI.1.1.trunks
  have g12 := hI.1.1.loaded
  have g1 := hI.1.1.g1
  have g2 := hI.1.1.g2
  have g3 := hI.1.1.g3
  refine z_b hX fo_X11 [.aload_n 0, .iload_n 1, .iconst 1, .bipush 60] 5 (by decide +kernel) rfl ?_
  refine z_cS hX m_X11_in l_X11_55 p_X11_in (c_X11_in h_x ⟨by decide, by decide⟩ ⟨by decide, by decide⟩) rfl rfl rfl rfl (by decide +kernel) ?_
  by_cases h1 : 1 ≤ x ∧ x ≤ 60
  · rw [if_pos h1]
    refine z_if_eq hX (off := 7) 15 (by decide +kernel) (by decide) ⟨by decide, by decide⟩ (fun c8 => by exact absurd c8 (by decide)) (fun c8 => ?_)
    refine z_b hX fo_X11 [.iconst 0] 12 (by decide +kernel) rfl ?_
    refine z_goto hX (off := 4) 16 (by decide +kernel) (by decide) ?_
    refine z_cV hX m_X11_fails l_X11_59 p_X11_fails (c_fails0 rfl) rfl rfl rfl rfl rfl rfl (by decide +kernel) ?_
    refine z_if_eq hX (off := 5) 24 (by decide +kernel) (by decide) ⟨by decide, by decide⟩ (fun c19 => ?_) (fun c19 => by exact absurd c19 (by decide))
    obtain ⟨n, rfl⟩ : ∃ z : Nat, x = (z : Int) := ⟨x.toNat, by omega⟩
    refine z_b hX fo_X11 [.aload_n 0, .aload_n 0, .getfield 7] 29 (by decide +kernel) rfl ?_
    obtain ⟨σ1, hkp, hM1, hc1, hF1⟩ := m_keep (E := E) (l := l) hI hM hw
    refine z_cV0 hX m_X11_keeps l_X11_67 p_X11_keeps hkp rfl rfl rfl rfl rfl rfl (by decide +kernel) ?_
    refine z_b hX fo_X11 [.iconst 0, .istore_n 2, .iconst 0, .istore_n 3] 36 (by decide +kernel) rfl ?_
    have loop : ∀ (m : Nat) (i : Nat) (x g : Int) (c1 : Nat → Int), x = (i : Int) → i + m = n → Rg (D + (i : Int)) c1 → zpassC m c1 = zpassC n c → zpassN m c1 g = zpassN n c 0 → Z (E, Y) 0 36 [(3, vi x), (2, vi g), (0, vr 32), (1, vi (n : Int))] [] (zs σ1 33 (gm c1), l) := by
      intro m
      induction m with
      | zero =>
        intro i x g c1 hx hm hg1 hr hs
        subst hx
        refine z_b hX fo_X11 [.iload_n 3, .iload_n 1] 38 (by decide +kernel) rfl ?_
        refine z_ic_ge hX (off := 16) 54 (by decide +kernel) (by decide) ⟨by omega, by omega⟩ ⟨by omega, by omega⟩ (fun c38 => ?_) (fun c38 => by exfalso; omega)
        refine z_b hX fo_X11 [.iload_n 2] 55 (by decide +kernel) rfl ?_
        exact z_iret hX hR (by decide +kernel) (Pm_ok (v := zpassN n c 0) (c' := zpassC n c) (by unfold aPass; rw [if_pos h1]; (try simp only [Int.toNat_natCast]); rfl) (by rw [← hs]; rfl) σ1 (congrArg (fun z => (zs σ1 33 (gm z), l)) (by rw [← hr]; rfl)) hM1 hc1 hF1)
      | succ m ih =>
        intro i x g c1 hx hm hg1 hr hs
        subst hx
        refine z_b hX fo_X11 [.iload_n 3, .iload_n 1] 38 (by decide +kernel) rfl ?_
        refine z_ic_ge hX (off := 16) 54 (by decide +kernel) (by decide) ⟨by omega, by omega⟩ ⟨by omega, by omega⟩ (fun c38 => by exfalso; omega) (fun c38 => ?_)
        refine z_b hX fo_X11 [.iload_n 2, .aload_n 0] 43 (by decide +kernel) rfl ?_
        refine z_cV hX m_X11_dayGoes l_X11_136 p_X11_dayGoes (c_X11_dayGoes hg1 (by omega)) rfl rfl rfl rfl rfl rfl (by decide +kernel) ?_
        refine z_b hX fo_X11 [.iadd, .istore_n 2, .iinc 3 1] 51 (by decide +kernel) rfl ?_
        refine z_goto hX (off := (-15)) 36 (by decide +kernel) (by decide) ?_
        have hg2 := hg1.dayC
        rw [show D + (i : Int) + 1 = D + ((i + 1 : Nat) : Int) by omega] at hg2
        exact z_lo [0, 1, 2, 3] (ih (i + 1) _ _ _ (by omega) (by omega) hg2 hr hs) rfl
    exact z_lo [0, 1, 2, 3] (loop n 0 0 0 c rfl (by omega) (hI.1.1.mono (by omega)) rfl rfl) rfl
  · rw [if_neg h1]
    refine z_if_eq hX (off := 7) 15 (by decide +kernel) (by decide) ⟨by decide, by decide⟩ (fun c8 => ?_) (fun c8 => by exact absurd c8 (by decide))
    refine z_b hX fo_X11 [.iconst 1] 16 (by decide +kernel) rfl ?_
    refine z_cV hX m_X11_fails l_X11_59 p_X11_fails (c_fails1 ⟨by decide, by decide⟩) rfl rfl rfl rfl rfl rfl (by decide +kernel) ?_
    refine z_if_eq hX (off := 5) 24 (by decide +kernel) (by decide) ⟨by decide, by decide⟩ (fun c19 => by exact absurd c19 (by decide)) (fun c19 => ?_)
    refine z_b hX fo_X11 [.iconst 0] 23 (by decide +kernel) rfl ?_
    exact z_iret hX hR (by decide +kernel) (Pm_fail (e := eIA) (by unfold aPass; rw [if_neg h1]; (try simp only [Int.toNat_natCast]); rfl) ne_IA_UO hM cd1_1)
