/-! ===== History ===== -/
theorem z_ifnull {X : zC} {own : String} {cc : ByteArray} {nL d b pc : Nat} {lo : List (Nat × vV)} {sk : List vV} {st : zT} (h : zOk X own cc nL d) {a : Nat} {off : Int} (hd : decode cc pc = .ok (.ifnull off, 3)) (k : Z X b (pc + 3) lo sk st) : Z X b pc lo (vr a :: sk) st :=
  fun H locs cells slots ls hP hS hc hs hl => lv_ifnull h.1 h.2.1 hd (k H locs cells slots ls hP hS hc hs hl)
theorem z_astore {X : zC} {own : String} {cc : ByteArray} {nL d b pc : Nat} {lo : List (Nat × vV)} {sk : List vV} {st : zT} (h : zOk X own cc nL d) {i x : Nat} (hd : decode cc pc = .ok (.astore i, 2)) (hn : Nat.blt i nL = true) (k : Z X b (pc + 2) ((i, vr x) :: zrm1 i lo) sk st) : Z X b pc lo (vr x :: sk) st :=
  fun H locs cells slots ls hP hS hc hs hl => lv_astore h.1 h.2.1 hd hl (by rw [h.2.2.2.1]; exact Nat.le_of_ble_eq_true hn) (z_hl (v := vr x)) (fun ls' hl' => k H locs cells slots ls' hP hS hc hs hl')
theorem zcp_all {f g : Nat → Int} (h : ∀ j, 181 ≤ j → f j = g j) : zcp f g 181 = f := by
  funext j
  simp only [zcp]
  split
  · rfl
  · exact (h j (by omega)).symm
def zkm (σ : Nat → Nat → Int) : Nat → Nat → Int := zs σ 12 (va_up (va_up (σ 12) 1 (if σ 12 1 < 8 then σ 12 1 + 1 else 0)) 2 (if σ 12 2 + 1 < 8 then σ 12 2 + 1 else 8))
def zbk (σ : Nat → Nat → Int) : Nat → Nat → Int := zs σ 12 (va_up (va_up (σ 12) 1 (if 0 < σ 12 1 then σ 12 1 - 1 else 8)) 2 (if 0 < σ 12 2 - 1 then σ 12 2 - 1 else 0))
theorem zup12 {σ : Nat → Nat → Int} {c : Nat → Int} {v : Int} : (zup (zs σ 21 c) 12 1 v) 12 2 = σ 12 2 := by rw [zup_eq, vne (by decide), zs_ne (by decide)]
theorem zup12s {σ : Nat → Nat → Int} {c : Nat → Int} {v w : Int} : zup (zup (zs σ 21 c) 12 1 v) 12 2 w = zs (zs σ 12 (va_up (va_up (σ 12) 1 v) 2 w)) 21 c := by
  rw [zup_zs, zup_zs, zs_zs, zs_eq, zs_ne (show 12 ≠ 21 by decide), zs_comm (show 21 ≠ 12 by decide)]
theorem zrd12 {σ : Nat → Nat → Int} {c : Nat → Int} {l : (Nat → Int64) × (Nat → UInt64)} {i : Nat} : (zs σ 21 c, l).1 12 i = σ 12 i := rfl
set_option maxHeartbeats 1000000 in
theorem c_X1_pageAt {E : zE} {p : Nat} {st : zT} (hp : p < 9) : Rv E yX1_pageAt (Cond.code yX1_pageAt cX1_pageAt 2 (Option.some (FieldType.object "CircusCoats$Room"))) 0 [vr 12, vi (p : Int)] (st) (vr (3 + p)) (st) := by
  refine Ctr_of (own := RX1) (by decide +kernel) rfl rfl (fun Y hX hR hnx => ?_)
  refine z_b hX fo_X1 [.iload_n 1] 1 (by decide +kernel) rfl ?_
  refine z_if_lt hX (off := 21) 22 (by decide +kernel) (by decide) ⟨by omega, by omega⟩ (fun c1 => by exfalso; omega) (fun c1 => ?_)
  refine z_b hX fo_X1 [.iload_n 1, .aload_n 0, .getfield 11] 9 (by decide +kernel) rfl ?_
  refine z_alen hX rfl (by decide +kernel) ?_
  refine z_ic_ge hX (off := 12) 22 (by decide +kernel) (by decide) ⟨by omega, by omega⟩ ⟨by omega, by omega⟩ (fun c10 => by exfalso; omega) (fun c10 => ?_)
  refine z_b hX fo_X1 [.aload_n 0, .getfield 11, .iload_n 1] 18 (by decide +kernel) rfl ?_
  refine z_aald hX (p) (by omega) (by omega) (by decide +kernel) ?_
  refine z_goto hX (off := 4) 23 (by decide +kernel) (by decide) ?_
  exact z_aret hX hR (Or.inl ⟨_, rfl⟩) (by decide +kernel) ⟨rfl, rfl⟩
set_option maxHeartbeats 1000000 in
theorem c_X1_mark {E : zE} {p : Nat} {σ : Nat → Nat → Int} {c : Nat → Int} {l : (Nat → Int64) × (Nat → UInt64)} (hn : σ 12 1 = (p : Int)) (hp : p < 9) (h0 : ∀ j, 181 ≤ j → c j = σ (23 + p) j) : Rn E yX1_mark (Cond.code yX1_mark cX1_mark 3 (Option.none : Option FieldType)) 2 [vr 12, vr 1] ((zs σ 21 c, l)) ((zs (zs σ (23 + p) c) 21 c, l)) := by
  refine Ctr_of (own := RX1) (by decide +kernel) rfl rfl (fun Y hX hR hnx => ?_)
  refine z_b hX fo_X1 [.aload_n 0, .aload_n 0, .getfield 29] 5 (by decide +kernel) rfl ?_
  rw [show (zs σ 21 c, l).1 12 1 = (p : Int) from hn]
  refine z_cV hX m_X1_pageAt l_X1_32 p_X1_pageAt (c_X1_pageAt (p := p) hp) rfl rfl rfl rfl rfl rfl (by decide +kernel) ?_
  refine z_astore_n hX (i := 2) (by decide +kernel) rfl ?_
  refine z_b hX fo_X1 [.aload_n 2] 10 (by decide +kernel) rfl ?_
  refine z_ifnull hX (off := 8) (by decide +kernel) ?_
  refine z_b hX fo_X1 [.aload_n 2, .aload_n 1] 15 (by decide +kernel) rfl ?_
  refine z_cV0 hX m_X6_copyFrom l_X1_36 p_X6_copyFrom (c_X6_copyFrom (r := 3 + p) (q := 1) ⟨by omega, by omega⟩ ⟨by omega, by omega⟩ (by omega)) rfl (zrm_at (r := 3 + p) ⟨by omega, by omega⟩) rfl rfl rfl rfl (by decide +kernel) ?_
  exact z_vret hX hR (by decide +kernel) ⟨rfl, by dsimp only; rw [show 3 + p + 20 = 23 + p by omega, zs_eq, zs_ne (show 23 + p ≠ 21 by omega), zcp_all h0, zs_comm (show 21 ≠ 23 + p by omega)]⟩
set_option maxHeartbeats 1000000 in
theorem c_X1_backToMark {E : zE} {p : Nat} {σ : Nat → Nat → Int} {c : Nat → Int} {l : (Nat → Int64) × (Nat → UInt64)} (hn : σ 12 1 = (p : Int)) (hp : p < 9) (h0 : ∀ j, 181 ≤ j → σ (23 + p) j = c j) : Rn E yX1_backToMark (Cond.code yX1_backToMark cX1_backToMark 3 (Option.none : Option FieldType)) 2 [vr 12, vr 1] ((zs σ 21 c, l)) ((zs σ 21 (σ (23 + p)), l)) := by
  refine Ctr_of (own := RX1) (by decide +kernel) rfl rfl (fun Y hX hR hnx => ?_)
  refine z_b hX fo_X1 [.aload_n 0, .aload_n 0, .getfield 29] 5 (by decide +kernel) rfl ?_
  rw [show (zs σ 21 c, l).1 12 1 = (p : Int) from hn]
  refine z_cV hX m_X1_pageAt l_X1_32 p_X1_pageAt (c_X1_pageAt (p := p) hp) rfl rfl rfl rfl rfl rfl (by decide +kernel) ?_
  refine z_astore_n hX (i := 2) (by decide +kernel) rfl ?_
  refine z_b hX fo_X1 [.aload_n 2] 10 (by decide +kernel) rfl ?_
  refine z_ifnull hX (off := 8) (by decide +kernel) ?_
  refine z_b hX fo_X1 [.aload_n 1, .aload_n 2] 15 (by decide +kernel) rfl ?_
  refine z_cV0 hX m_X6_copyFrom l_X1_36 p_X6_copyFrom (c_X6_copyFrom (r := 1) (q := 3 + p) ⟨by omega, by omega⟩ ⟨by omega, by omega⟩ (by omega)) rfl rfl rfl rfl rfl rfl (by decide +kernel) ?_
  exact z_vret hX hR (by decide +kernel) ⟨rfl, by dsimp only; rw [show 3 + p + 20 = 23 + p by omega, zs_eq, zs_ne (show 23 + p ≠ 21 by omega), zcp_all h0, zs_zs]⟩
set_option maxHeartbeats 1000000 in
theorem c_X1_keepMark {E : zE} {σ : Nat → Nat → Int} {c : Nat → Int} {l : (Nat → Int64) × (Nat → UInt64)} (h1 : 0 ≤ σ 12 1 ∧ σ 12 1 ≤ 8) (h2 : 0 ≤ σ 12 2 ∧ σ 12 2 ≤ 8) : Rn E yX1_keepMark (Cond.code yX1_keepMark cX1_keepMark 1 (Option.none : Option FieldType)) 0 [vr 12] ((zs σ 21 c, l)) ((zs (zkm σ) 21 c, l)) := by
  refine Ctr_of (own := RX1) (by decide +kernel) rfl rfl (fun Y hX hR hnx => ?_)
  refine z_b hX fo_X1 [.aload_n 0, .aload_n 0, .getfield 29, .bipush 8] 7 (by decide +kernel) rfl ?_
  rw [zrd12]
  refine z_ic_ge hX (off := 12) 19 (by decide +kernel) (by decide) ⟨by omega, by omega⟩ ⟨by omega, by omega⟩ (fun c7 => ?_) (fun c7 => ?_)
  · refine z_b hX fo_X1 [.iconst 0, .putfield 29, .aload_n 0, .bipush 8, .aload_n 0, .getfield 18, .iconst 1, .iadd] 32 (by decide +kernel) rfl ?_
    dsimp only
    rw [zup12]
    refine z_min hX lm_X1_39 (by decide +kernel) ⟨by omega, by omega⟩ ⟨by omega, by omega⟩ rfl ?_
    refine z_b hX fo_X1 [.putfield 18] 38 (by decide +kernel) rfl ?_
    exact z_vret hX hR (by decide +kernel) ⟨rfl, by dsimp only; rw [zup12s]; (try rw [show (zs σ 21 c) 12 1 = σ 12 1 from rfl]); unfold zkm; first | rw [if_pos (show σ 12 1 < 8 from c7)] | rw [if_neg (show ¬ σ 12 1 < 8 from Int.not_lt.mpr c7)]⟩
  · refine z_b hX fo_X1 [.aload_n 0, .getfield 29, .iconst 1, .iadd] 16 (by decide +kernel) rfl ?_
    refine z_goto hX (off := 4) 20 (by decide +kernel) (by decide) ?_
    refine z_b hX fo_X1 [.putfield 29, .aload_n 0, .bipush 8, .aload_n 0, .getfield 18, .iconst 1, .iadd] 32 (by decide +kernel) rfl ?_
    dsimp only
    rw [zup12]
    refine z_min hX lm_X1_39 (by decide +kernel) ⟨by omega, by omega⟩ ⟨by omega, by omega⟩ rfl ?_
    refine z_b hX fo_X1 [.putfield 18] 38 (by decide +kernel) rfl ?_
    exact z_vret hX hR (by decide +kernel) ⟨rfl, by dsimp only; rw [zup12s]; (try rw [show (zs σ 21 c) 12 1 = σ 12 1 from rfl]); unfold zkm; first | rw [if_pos (show σ 12 1 < 8 from c7)] | rw [if_neg (show ¬ σ 12 1 < 8 from Int.not_lt.mpr c7)]⟩
set_option maxHeartbeats 1000000 in
theorem c_X1_keep {E : zE} {p : Nat} {σ : Nat → Nat → Int} {c : Nat → Int} {l : (Nat → Int64) × (Nat → UInt64)} (hn : σ 12 1 = (p : Int)) (hp : p < 9) (h2 : 0 ≤ σ 12 2 ∧ σ 12 2 ≤ 8) (h0 : ∀ j, 181 ≤ j → c j = σ (23 + p) j) : Rn E yX1_keep (Cond.code yX1_keep cX1_keep 2 (Option.none : Option FieldType)) 3 [vr 12, vr 1] ((zs σ 21 c, l)) ((zs (zkm (zs σ (23 + p) c)) 21 c, l)) := by
  refine Ctr_of (own := RX1) (by decide +kernel) rfl rfl (fun Y hX hR hnx => ?_)
  refine z_b hX fo_X1 [.aload_n 0, .aload_n 1] 2 (by decide +kernel) rfl ?_
  refine z_cV0 hX m_X1_mark l_X1_22 p_X1_mark (c_X1_mark hn hp h0) rfl rfl rfl rfl rfl rfl (by decide +kernel) ?_
  refine z_b hX fo_X1 [.aload_n 0] 6 (by decide +kernel) rfl ?_
  refine z_cV0 hX m_X1_keepMark l_X1_26 p_X1_keepMark (c_X1_keepMark (σ := zs σ (23 + p) c) (by rw [zs_ne (show 12 ≠ 23 + p by omega), hn]; exact ⟨by omega, by omega⟩) (by rw [zs_ne (show 12 ≠ 23 + p by omega)]; exact h2)) rfl rfl rfl rfl rfl rfl (by decide +kernel) ?_
  exact z_vret hX hR (by decide +kernel) ⟨rfl, rfl⟩
set_option maxHeartbeats 1000000 in
theorem c_X1_kept {E : zE} {st : zT} : Rv E yX1_kept (Cond.code yX1_kept cX1_kept 1 (Option.some FieldType.int)) 0 [vr 12] (st) (vi (st.1 12 2)) (st) := by
  refine Ctr_of (own := RX1) (by decide +kernel) rfl rfl (fun Y hX hR hnx => ?_)
  refine z_b hX fo_X1 [.aload_n 0, .getfield 18] 4 (by decide +kernel) rfl ?_
  exact z_iret hX hR (by decide +kernel) ⟨rfl, rfl⟩
set_option maxHeartbeats 1000000 in
theorem c_X1_forget {E : zE} {σ : Nat → Nat → Int} {c : Nat → Int} {l : (Nat → Int64) × (Nat → UInt64)} : Rn E yX1_forget (Cond.code yX1_forget cX1_forget 1 (Option.none : Option FieldType)) 0 [vr 12] ((zs σ 21 c, l)) ((zs (zs σ 12 (va_up (σ 12) 2 0)) 21 c, l)) := by
  refine Ctr_of (own := RX1) (by decide +kernel) rfl rfl (fun Y hX hR hnx => ?_)
  refine z_b hX fo_X1 [.aload_n 0, .iconst 0, .putfield 18] 5 (by decide +kernel) rfl ?_
  exact z_vret hX hR (by decide +kernel) ⟨rfl, by dsimp only; rw [zup_zs, zs_ne (show 12 ≠ 21 by decide), zs_comm (show 21 ≠ 12 by decide)]⟩
set_option maxHeartbeats 1000000 in
theorem c_X1_back {E : zE} {p : Nat} {σ : Nat → Nat → Int} {c : Nat → Int} {l : (Nat → Int64) × (Nat → UInt64)} (hn : (zbk σ) 12 1 = (p : Int)) (hp : p < 9) (h1 : 0 ≤ σ 12 1 ∧ σ 12 1 ≤ 8) (h2 : 0 ≤ σ 12 2 ∧ σ 12 2 ≤ 8) (h0 : ∀ j, 181 ≤ j → σ (23 + p) j = c j) : Rn E yX1_back (Cond.code yX1_back cX1_back 2 (Option.none : Option FieldType)) 3 [vr 12, vr 1] ((zs σ 21 c, l)) ((zs (zbk σ) 21 (σ (23 + p)), l)) := by
  refine Ctr_of (own := RX1) (by decide +kernel) rfl rfl (fun Y hX hR hnx => ?_)
  refine z_b hX fo_X1 [.aload_n 0, .aload_n 0, .getfield 29] 5 (by decide +kernel) rfl ?_
  rw [zrd12]
  refine z_if_le hX (off := 12) 17 (by decide +kernel) (by decide) ⟨by omega, by omega⟩ (fun c5 => ?_) (fun c5 => ?_)
  · have e1 : zbk σ = zs σ 12 (va_up (va_up (σ 12) 1 8) 2 (if 0 < σ 12 2 - 1 then σ 12 2 - 1 else 0)) := by unfold zbk; rw [if_neg (show ¬ 0 < σ 12 1 from Int.not_lt.mpr c5)]
    refine z_b hX fo_X1 [.bipush 8, .putfield 29, .aload_n 0, .iconst 0, .aload_n 0, .getfield 18, .iconst 1, .isub] 30 (by decide +kernel) rfl ?_
    dsimp only
    rw [zup12]
    refine z_max hX lm_X1_45 (by decide +kernel) ⟨by omega, by omega⟩ ⟨by omega, by omega⟩ rfl ?_
    refine z_b hX fo_X1 [.putfield 18, .aload_n 0, .aload_n 1] 38 (by decide +kernel) rfl ?_
    dsimp only
    rw [zup12s]
    try rw [show (zs σ 21 c) 12 1 = σ 12 1 from rfl]
    rw [← e1]
    refine z_cV0 hX m_X1_backToMark l_X1_48 p_X1_backToMark (c_X1_backToMark hn hp (by rw [show zbk σ (23 + p) = σ (23 + p) from zs_ne (by omega) _]; exact h0)) rfl rfl rfl rfl rfl rfl (by decide +kernel) ?_
    exact z_vret hX hR (by decide +kernel) ⟨rfl, by rw [show zbk σ (23 + p) = σ (23 + p) from zs_ne (by omega) _]⟩
  · have e1 : zbk σ = zs σ 12 (va_up (va_up (σ 12) 1 (σ 12 1 - 1)) 2 (if 0 < σ 12 2 - 1 then σ 12 2 - 1 else 0)) := by unfold zbk; rw [if_pos (show 0 < σ 12 1 from c5)]
    refine z_b hX fo_X1 [.aload_n 0, .getfield 29, .iconst 1, .isub] 14 (by decide +kernel) rfl ?_
    refine z_goto hX (off := 5) 19 (by decide +kernel) (by decide) ?_
    refine z_b hX fo_X1 [.putfield 29, .aload_n 0, .iconst 0, .aload_n 0, .getfield 18, .iconst 1, .isub] 30 (by decide +kernel) rfl ?_
    dsimp only
    rw [zup12]
    refine z_max hX lm_X1_45 (by decide +kernel) ⟨by omega, by omega⟩ ⟨by omega, by omega⟩ rfl ?_
    refine z_b hX fo_X1 [.putfield 18, .aload_n 0, .aload_n 1] 38 (by decide +kernel) rfl ?_
    dsimp only
    rw [zup12s]
    try rw [show (zs σ 21 c) 12 1 = σ 12 1 from rfl]
    rw [← e1]
    refine z_cV0 hX m_X1_backToMark l_X1_48 p_X1_backToMark (c_X1_backToMark hn hp (by rw [show zbk σ (23 + p) = σ (23 + p) from zs_ne (by omega) _]; exact h0)) rfl rfl rfl rfl rfl rfl (by decide +kernel) ?_
    exact z_vret hX hR (by decide +kernel) ⟨rfl, by rw [show zbk σ (23 + p) = σ (23 + p) from zs_ne (by omega) _]⟩
