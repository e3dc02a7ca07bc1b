/-! ===== the model: work ===== -/
def mh (r m s w : Int) : Int := r + (zmx 0 (m - 10) + 9) / 10 + zmx 0 (2 * w - s)
theorem mh_z (r m s w : Int) : zhrs r m s w = mh r m (2 * s) w := by
  unfold zhrs mh; simp only [zmx]
  split <;> split <;> split <;> omega
theorem mh1 {r m s w : Int} (q : 0 < r) : mh (r + (-1)) m s w = mh r m s w - 1 := by unfold mh; omega
theorem mh2 {r m s w : Int} (q : 10 < m) : mh r (m + (-10)) s w = mh r m s w - 1 := by
  unfold mh; simp only [zmx]
  rw [if_pos (show 0 < m - 10 by omega)]
  split <;> split <;> omega
theorem mh3 {r m s w : Int} (q : s < 2 * w) : mh r m (s + 1) w = mh r m s w - 1 := by
  unfold mh; simp only [zmx]
  rw [if_pos (show 0 < 2 * w - s by omega)]
  split <;> split <;> omega
theorem mh4 {r m s w : Int} (h1 : 0 ≤ r) : 0 ≤ mh r m s w ∧ (r ≤ 0 → m ≤ 10 → 2 * w ≤ s → mh r m s w = 0) ∧ (0 < r → 1 ≤ mh r m s w) ∧ (10 < m → 1 ≤ mh r m s w) ∧ (s < 2 * w → 1 ≤ mh r m s w) ∧ (r ≤ 9 → m ≤ 60 → w ≤ 70 → 0 ≤ s → mh r m s w ≤ 200) := by
  unfold mh; simp only [zmx]
  split <;> split <;> omega
set_option maxHeartbeats 1000000 in
theorem c_X11_work {E : zE} {x y D : Int} {R : aQ} {σ : Nat → Nat → Int} {c : Nat → Int} {l : (Nat → Int64) × (Nat → UInt64)} {w : Bool} (hI : AI D c R) (hM : MR R σ) (hw : σ 32 6 = wi w) (h_x : zi x) (h_y : zi y) : Mb E yX11_work (Cond.code yX11_work cX11_work 3 (Option.some FieldType.int)) 2 [vr 32, vi x, vi y] (σ) (c) (l) (aWork c R x y) ((cd2 eIB eNS)) := by
  refine Ctr_of (own := RX11) (by decide +kernel) rfl rfl (fun Y hX hR hnx => ?_)
  have g8 := hI.1.1.coats
  have g9 := hI.1.1.acts
  have g10 := hI.1.1.women
  have g11 := hI.1.1.trunks
  have g12 := hI.1.1.loaded
  have g1 := hI.1.1.g1
  have g2 := hI.1.1.g2
  have g3 := hI.1.1.g3
  refine z_b hX fo_X11 [.aload_n 0, .aload_n 0, .iload_n 1] 3 (by decide +kernel) rfl ?_
  refine z_cV hX m_X11_isCoat l_X11_81 p_X11_isCoat (c_X11_isCoat h_x ⟨by omega, by omega⟩) rfl rfl rfl rfl rfl rfl (by decide +kernel) ?_
  by_cases h1 : hC c x
  · rw [if_pos h1]
    obtain ⟨k, rfl⟩ : ∃ z : Nat, x = (z : Int) := ⟨x.toNat, by omega⟩
    refine z_if_eq hX (off := 11) 17 (by decide +kernel) (by decide) ⟨by decide, by decide⟩ (fun c6 => by exact absurd c6 (by decide)) (fun c6 => ?_)
    refine z_b hX fo_X11 [.aload_n 0, .iload_n 2] 11 (by decide +kernel) rfl ?_
    refine z_cV hX m_X11_isAct l_X11_78 p_X11_isAct (c_X11_isAct h_y ⟨by omega, by omega⟩) rfl rfl rfl rfl rfl rfl (by decide +kernel) ?_
    by_cases h2 : hA c y
    · rw [if_pos h2]
      obtain ⟨a, rfl⟩ : ∃ z : Nat, y = (z : Int) := ⟨y.toNat, by omega⟩
      refine z_if_ne hX (off := 7) 21 (by decide +kernel) (by decide) ⟨by decide, by decide⟩ (fun c14 => ?_) (fun c14 => by exact absurd c14 (by decide))
      refine z_b hX fo_X11 [.aload_n 0, .iload_n 2, .iconst 0] 24 (by decide +kernel) rfl ?_
      refine z_cV hX m_X11_ofAct l_X11_88 p_X11_ofAct (c_ofAct0 (k := a) (by omega)) rfl rfl rfl rfl rfl rfl (by decide +kernel) ?_
      have s1 := hI.1.1.rips (k := k) (by omega)
      have s2 := hI.1.1.miss (k := k) (by omega)
      have s3 := hI.1.1.size (k := k) (by omega)
      have s4 := hI.1.1.asize (k := a) (by omega)
      have hz4 := zh4 (r := c (25 + k)) (m := c (37 + k)) (s := c (13 + k)) (w := c (85 + a)) (by omega)
      refine z_b hX fo_X11 [.bipush 70] 29 (by decide +kernel) rfl ?_
      refine z_ic_le hX (off := 7) 36 (by decide +kernel) (by decide) ⟨by omega, by omega⟩ ⟨by omega, by omega⟩ (fun c29 => ?_) (fun c29 => ?_)
      · refine z_b hX fo_X11 [.iconst 0] 37 (by decide +kernel) rfl ?_
        refine z_cV hX m_X11_fails l_X11_59 p_X11_fails (c_fails0 rfl) rfl rfl rfl rfl rfl rfl (by decide +kernel) ?_
        refine z_if_eq hX (off := 5) 45 (by decide +kernel) (by decide) ⟨by decide, by decide⟩ (fun c40 => ?_) (fun c40 => by exact absurd c40 (by decide))
        refine z_b hX fo_X11 [.aload_n 0, .iload_n 1, .iconst 1] 48 (by decide +kernel) rfl ?_
        refine z_cV hX m_X11_of l_X11_84 p_X11_of (c_of1 (k := k) (by omega)) rfl rfl rfl rfl rfl rfl (by decide +kernel) ?_
        refine z_b hX fo_X11 [.iconst 0, .aload_n 0, .iload_n 1, .iconst 2] 55 (by decide +kernel) rfl ?_
        refine z_cV hX m_X11_of l_X11_84 p_X11_of (c_of2 (k := k) (by omega)) rfl rfl rfl rfl rfl rfl (by decide +kernel) ?_
        refine z_b hX fo_X11 [.bipush 10, .isub] 61 (by decide +kernel) rfl ?_
        refine z_cS hX m_X11_more l_X11_100 p_X11_more (c_X11_more ⟨by decide, by decide⟩ ⟨by omega, by omega⟩) rfl rfl rfl rfl (by decide +kernel) ?_
        obtain ⟨v1, ev1, bv1⟩ : ∃ v : Int, v = (if c (37 + k) - 10 < 0 then 0 else c (37 + k) - 10) ∧ 0 ≤ v ∧ v ≤ 50 := ⟨_, rfl, by split <;> omega, by split <;> omega⟩
        rw [← ev1]
        refine z_b hX fo_X11 [.bipush 9, .iadd, .bipush 10] 69 (by decide +kernel) rfl ?_
        refine z_idiv hX (by decide +kernel) (by omega) (by omega) ?_
        refine z_b hX fo_X11 [.iadd, .iconst 2, .iconst 0, .aload_n 0, .iload_n 2, .iconst 0] 76 (by decide +kernel) rfl ?_
        refine z_cV hX m_X11_ofAct l_X11_88 p_X11_ofAct (c_ofAct0 (k := a) (by omega)) rfl rfl rfl rfl rfl rfl (by decide +kernel) ?_
        refine z_b hX fo_X11 [.aload_n 0, .iload_n 1, .iconst 0] 82 (by decide +kernel) rfl ?_
        refine z_cV hX m_X11_of l_X11_84 p_X11_of (c_of0 (k := k) (by omega)) rfl rfl rfl rfl rfl rfl (by decide +kernel) ?_
        refine z_b hX fo_X11 [.isub] 86 (by decide +kernel) rfl ?_
        refine z_cS hX m_X11_more l_X11_100 p_X11_more (c_X11_more ⟨by decide, by decide⟩ ⟨by omega, by omega⟩) rfl rfl rfl rfl (by decide +kernel) ?_
        obtain ⟨v2, ev2, bv2⟩ : ∃ v : Int, v = (if c (85 + a) - c (13 + k) < 0 then 0 else c (85 + a) - c (13 + k)) ∧ 0 ≤ v ∧ v ≤ 99 := ⟨_, rfl, by split <;> omega, by split <;> omega⟩
        rw [← ev2]
        refine z_b hX fo_X11 [.imul, .iadd] 91 (by decide +kernel) rfl ?_
        exact z_iret hX hR (by decide +kernel) (Pm_que (v := zhrs (c (25 + k)) (c (37 + k)) (c (13 + k)) (c (85 + a))) (by unfold aWork; rw [if_pos h1]; rw [if_pos h2]; (try simp only [Int.toNat_natCast]); rw [if_neg (show ¬ 70 < c (85 + a) by omega)]; unfold fnd; rw [if_neg (show zhrs (c (25 + k)) (c (37 + k)) (c (13 + k)) (c (85 + a)) ≠ -1 by omega)]; (try simp only [Int.toNat_natCast]); rfl) (by unfold zhrs; rw [show zmx 0 (c (37 + k) - 10) = v1 by rw [ev1]; simp only [zmx]; split <;> split <;> omega, show zmx 0 (c (85 + a) - c (13 + k)) = v2 by rw [ev2]; simp only [zmx]; split <;> split <;> omega]; omega) hM)
      · refine z_b hX fo_X11 [.iconst 2] 33 (by decide +kernel) rfl ?_
        refine z_goto hX (off := 4) 37 (by decide +kernel) (by decide) ?_
        refine z_cV hX m_X11_fails l_X11_59 p_X11_fails (c_fails1 ⟨by decide, by decide⟩) rfl rfl rfl rfl rfl rfl (by decide +kernel) ?_
        refine z_if_eq hX (off := 5) 45 (by decide +kernel) (by decide) ⟨by decide, by decide⟩ (fun c40 => by exact absurd c40 (by decide)) (fun c40 => ?_)
        refine z_b hX fo_X11 [.iconst 0] 44 (by decide +kernel) rfl ?_
        exact z_iret hX hR (by decide +kernel) (Pm_fail (e := eNS) (by unfold aWork; rw [if_pos h1]; rw [if_pos h2]; (try simp only [Int.toNat_natCast]); rw [if_pos (show 70 < c (85 + a) by omega)]; unfold fnd; rw [if_pos rfl]; (try simp only [Int.toNat_natCast]); rfl) ne_NS_UO hM (cd2_2 ne_NS_IB))
    · rw [if_neg h2]
      refine z_if_ne hX (off := 7) 21 (by decide +kernel) (by decide) ⟨by decide, by decide⟩ (fun c14 => by exact absurd c14 (by decide)) (fun c14 => ?_)
      refine z_b hX fo_X11 [.iconst 1] 18 (by decide +kernel) rfl ?_
      refine z_goto hX (off := 19) 37 (by decide +kernel) (by decide) ?_
      refine z_cV hX m_X11_fails l_X11_59 p_X11_fails (c_fails1 ⟨by decide, by decide⟩) rfl rfl rfl rfl rfl rfl (by decide +kernel) ?_
      refine z_if_eq hX (off := 5) 45 (by decide +kernel) (by decide) ⟨by decide, by decide⟩ (fun c40 => by exact absurd c40 (by decide)) (fun c40 => ?_)
      refine z_b hX fo_X11 [.iconst 0] 44 (by decide +kernel) rfl ?_
      exact z_iret hX hR (by decide +kernel) (Pm_fail (e := eIB) (by unfold aWork; rw [if_pos h1]; rw [if_neg h2]; (try simp only [Int.toNat_natCast]); rfl) ne_IB_UO hM cd2_1)
  · rw [if_neg h1]
    refine z_if_eq hX (off := 11) 17 (by decide +kernel) (by decide) ⟨by decide, by decide⟩ (fun c6 => ?_) (fun c6 => by exact absurd c6 (by decide))
    refine z_b hX fo_X11 [.iconst 1] 18 (by decide +kernel) rfl ?_
    refine z_goto hX (off := 19) 37 (by decide +kernel) (by decide) ?_
    refine z_cV hX m_X11_fails l_X11_59 p_X11_fails (c_fails1 ⟨by decide, by decide⟩) rfl rfl rfl rfl rfl rfl (by decide +kernel) ?_
    refine z_if_eq hX (off := 5) 45 (by decide +kernel) (by decide) ⟨by decide, by decide⟩ (fun c40 => by exact absurd c40 (by decide)) (fun c40 => ?_)
    refine z_b hX fo_X11 [.iconst 0] 44 (by decide +kernel) rfl ?_
    exact z_iret hX hR (by decide +kernel) (Pm_fail (e := eIB) (by unfold aWork; rw [if_neg h1]; (try simp only [Int.toNat_natCast]); rfl) ne_IB_UO hM cd2_1)
set_option maxHeartbeats 1000000 in
theorem c_X11_workAgain {E : zE} {x y D : Int} {R : aQ} {σ : Nat → Nat → Int} {c : Nat → Int} {l : (Nat → Int64) × (Nat → UInt64)} {w : Bool} (hI : AI D c R) (hM : MR R σ) (hw : σ 32 6 = wi w) (h_x : zi x) (h_y : zi y) : Mb E yX11_workAgain (Cond.code yX11_workAgain cX11_workAgain 7 (Option.some FieldType.int)) 2 [vr 32, vi x, vi y] (σ) (c) (l) (aWork c R x y) ((cd2 eIB eNS)) := by
  refine Ctr_of (own := RX11) (by decide +kernel) rfl rfl (fun Y hX hR hnx => ?_)
  have g8 := hI.1.1.coats
  have g9 := hI.1.1.acts
  have g10 := hI.1.1.women
  have g11 := hI.1.1.trunks
  have g12 := hI.1.1.loaded
  have g1 := hI.1.1.g1
  have g2 := hI.1.1.g2
  have g3 := hI.1.1.g3
  refine z_b hX fo_X11 [.aload_n 0, .aload_n 0, .iload_n 1] 3 (by decide +kernel) rfl ?_
  refine z_cV hX m_X11_isCoat l_X11_81 p_X11_isCoat (c_X11_isCoat h_x ⟨by omega, by omega⟩) rfl rfl rfl rfl rfl rfl (by decide +kernel) ?_
  by_cases h1 : hC c x
  · rw [if_pos h1]
    obtain ⟨k, rfl⟩ : ∃ z : Nat, x = (z : Int) := ⟨x.toNat, by omega⟩
    refine z_if_eq hX (off := 11) 17 (by decide +kernel) (by decide) ⟨by decide, by decide⟩ (fun c6 => by exact absurd c6 (by decide)) (fun c6 => ?_)
    refine z_b hX fo_X11 [.aload_n 0, .iload_n 2] 11 (by decide +kernel) rfl ?_
    refine z_cV hX m_X11_isAct l_X11_78 p_X11_isAct (c_X11_isAct h_y ⟨by omega, by omega⟩) rfl rfl rfl rfl rfl rfl (by decide +kernel) ?_
    by_cases h2 : hA c y
    · rw [if_pos h2]
      obtain ⟨a, rfl⟩ : ∃ z : Nat, y = (z : Int) := ⟨y.toNat, by omega⟩
      refine z_if_ne hX (off := 7) 21 (by decide +kernel) (by decide) ⟨by decide, by decide⟩ (fun c14 => ?_) (fun c14 => by exact absurd c14 (by decide))
      refine z_b hX fo_X11 [.aload_n 0, .iload_n 2, .iconst 0] 24 (by decide +kernel) rfl ?_
      refine z_cV hX m_X11_ofAct l_X11_88 p_X11_ofAct (c_ofAct0 (k := a) (by omega)) rfl rfl rfl rfl rfl rfl (by decide +kernel) ?_
      have s1 := hI.1.1.rips (k := k) (by omega)
      have s2 := hI.1.1.miss (k := k) (by omega)
      have s3 := hI.1.1.size (k := k) (by omega)
      have s4 := hI.1.1.asize (k := a) (by omega)
      have hz4 := zh4 (r := c (25 + k)) (m := c (37 + k)) (s := c (13 + k)) (w := c (85 + a)) (by omega)
      refine z_b hX fo_X11 [.bipush 70] 29 (by decide +kernel) rfl ?_
      refine z_ic_le hX (off := 7) 36 (by decide +kernel) (by decide) ⟨by omega, by omega⟩ ⟨by omega, by omega⟩ (fun c29 => ?_) (fun c29 => ?_)
      · refine z_b hX fo_X11 [.iconst 0] 37 (by decide +kernel) rfl ?_
        refine z_cV hX m_X11_fails l_X11_59 p_X11_fails (c_fails0 rfl) rfl rfl rfl rfl rfl rfl (by decide +kernel) ?_
        refine z_if_eq hX (off := 5) 45 (by decide +kernel) (by decide) ⟨by decide, by decide⟩ (fun c40 => ?_) (fun c40 => by exact absurd c40 (by decide))
        refine z_b hX fo_X11 [.aload_n 0, .iload_n 1, .iconst 1] 48 (by decide +kernel) rfl ?_
        refine z_cV hX m_X11_of l_X11_84 p_X11_of (c_of1 (k := k) (by omega)) rfl rfl rfl rfl rfl rfl (by decide +kernel) ?_
        refine z_b hX fo_X11 [.istore_n 3, .aload_n 0, .iload_n 1, .iconst 2] 55 (by decide +kernel) rfl ?_
        refine z_cV hX m_X11_of l_X11_84 p_X11_of (c_of2 (k := k) (by omega)) rfl rfl rfl rfl rfl rfl (by decide +kernel) ?_
        refine z_b hX fo_X11 [.istore 4, .iconst 2, .aload_n 0, .iload_n 1, .iconst 0] 64 (by decide +kernel) rfl ?_
        refine z_cV hX m_X11_of l_X11_84 p_X11_of (c_of0 (k := k) (by omega)) rfl rfl rfl rfl rfl rfl (by decide +kernel) ?_
        refine z_b hX fo_X11 [.imul, .istore 5, .iconst 0, .istore 6] 73 (by decide +kernel) rfl ?_
        have e0 := mh_z (c (25 + k)) (c (37 + k)) (c (13 + k)) (c (85 + a))
        have e9 := hz4.2.2.2.2.2 (by omega) (by omega) (by omega) (by omega)
        have loop : ∀ (M : Nat) (r m s h : Int), (0 ≤ r ∧ r ≤ 9) → (0 ≤ m ∧ m ≤ 60) → (0 ≤ s ∧ s ≤ 140) → 0 ≤ h → mh r m s (c (85 + a)) = (M : Int) → h + (M : Int) = zhrs (c (25 + k)) (c (37 + k)) (c (13 + k)) (c (85 + a)) → Z (E, Y) 0 73 [(6, vi h), (5, vi s), (4, vi m), (3, vi r), (0, vr 32), (1, vi (k : Int)), (2, vi (a : Int))] [] (zs (zco σ 0) 33 (gm c), l) := by
          intro M
          induction M with
          | zero =>
            intro r m s h a1 a2 a3 a4 a5 a6
            have f1 := @mh1 r m s (c (85 + a))
            have f2 := @mh2 r m s (c (85 + a))
            have f3 := @mh3 r m s (c (85 + a))
            have f4 := mh4 (r := r) (m := m) (s := s) (w := c (85 + a)) (by omega)
            refine z_b hX fo_X11 [.iload_n 3] 74 (by decide +kernel) rfl ?_
            refine z_if_gt hX (off := 23) 97 (by decide +kernel) (by decide) ⟨by omega, by omega⟩ (fun c74 => by exfalso; omega) (fun c74 => ?_)
            refine z_b hX fo_X11 [.iload 4, .bipush 10] 81 (by decide +kernel) rfl ?_
            refine z_ic_gt hX (off := 16) 97 (by decide +kernel) (by decide) ⟨by omega, by omega⟩ ⟨by omega, by omega⟩ (fun c81 => by exfalso; omega) (fun c81 => ?_)
            refine z_b hX fo_X11 [.iload 5, .iconst 2, .aload_n 0, .iload_n 2, .iconst 0] 90 (by decide +kernel) rfl ?_
            refine z_cV hX m_X11_ofAct l_X11_88 p_X11_ofAct (c_ofAct0 (k := a) (by omega)) rfl rfl rfl rfl rfl rfl (by decide +kernel) ?_
            refine z_b hX fo_X11 [.imul] 94 (by decide +kernel) rfl ?_
            refine z_ic_ge hX (off := 35) 129 (by decide +kernel) (by decide) ⟨by omega, by omega⟩ ⟨by omega, by omega⟩ (fun c94 => ?_) (fun c94 => by exfalso; omega)
            refine z_b hX fo_X11 [.iload 6] 131 (by decide +kernel) rfl ?_
            exact z_iret hX hR (by decide +kernel) (Pm_que (v := zhrs (c (25 + k)) (c (37 + k)) (c (13 + k)) (c (85 + a))) (by unfold aWork; rw [if_pos h1]; rw [if_pos h2]; (try simp only [Int.toNat_natCast]); rw [if_neg (show ¬ 70 < c (85 + a) by omega)]; unfold fnd; rw [if_neg (show zhrs (c (25 + k)) (c (37 + k)) (c (13 + k)) (c (85 + a)) ≠ -1 by omega)]; rfl) (by omega) hM)
          | succ M ih =>
            intro r m s h a1 a2 a3 a4 a5 a6
            have f1 := @mh1 r m s (c (85 + a))
            have f2 := @mh2 r m s (c (85 + a))
            have f3 := @mh3 r m s (c (85 + a))
            have f4 := mh4 (r := r) (m := m) (s := s) (w := c (85 + a)) (by omega)
            refine z_b hX fo_X11 [.iload_n 3] 74 (by decide +kernel) rfl ?_
            refine z_if_gt hX (off := 23) 97 (by decide +kernel) (by decide) ⟨by omega, by omega⟩ (fun c74 => ?_) (fun c74 => ?_)
            · refine z_b hX fo_X11 [.iload_n 3] 98 (by decide +kernel) rfl ?_
              refine z_if_le hX (off := 9) 107 (by decide +kernel) (by decide) ⟨by omega, by omega⟩ (fun c98 => ?_) (fun c98 => ?_)
              · refine z_b hX fo_X11 [.iload 4, .bipush 10] 111 (by decide +kernel) rfl ?_
                refine z_ic_le hX (off := 9) 120 (by decide +kernel) (by decide) ⟨by omega, by omega⟩ ⟨by omega, by omega⟩ (fun c111 => ?_) (fun c111 => ?_)
                · refine z_b hX fo_X11 [.iinc 5 1, .iinc 6 1] 126 (by decide +kernel) rfl ?_
                  refine z_goto hX (off := (-53)) 73 (by decide +kernel) (by decide) ?_
                  exact z_lo [0, 1, 2, 3, 4, 5, 6] (ih _ _ _ _ (by omega) (by omega) (by omega) (by omega) (by omega) (by omega)) rfl
                · refine z_b hX fo_X11 [.iinc 4 (-10)] 117 (by decide +kernel) rfl ?_
                  refine z_goto hX (off := 6) 123 (by decide +kernel) (by decide) ?_
                  refine z_b hX fo_X11 [.iinc 6 1] 126 (by decide +kernel) rfl ?_
                  refine z_goto hX (off := (-53)) 73 (by decide +kernel) (by decide) ?_
                  exact z_lo [0, 2, 1, 3, 4, 5, 6] (ih _ _ _ _ (by omega) (by omega) (by omega) (by omega) (by omega) (by omega)) rfl
              · refine z_b hX fo_X11 [.iinc 3 (-1)] 104 (by decide +kernel) rfl ?_
                refine z_goto hX (off := 19) 123 (by decide +kernel) (by decide) ?_
                refine z_b hX fo_X11 [.iinc 6 1] 126 (by decide +kernel) rfl ?_
                refine z_goto hX (off := (-53)) 73 (by decide +kernel) (by decide) ?_
                exact z_lo [0, 2, 3, 1, 4, 5, 6] (ih _ _ _ _ (by omega) (by omega) (by omega) (by omega) (by omega) (by omega)) rfl
            · refine z_b hX fo_X11 [.iload 4, .bipush 10] 81 (by decide +kernel) rfl ?_
              refine z_ic_gt hX (off := 16) 97 (by decide +kernel) (by decide) ⟨by omega, by omega⟩ ⟨by omega, by omega⟩ (fun c81 => ?_) (fun c81 => ?_)
              · refine z_b hX fo_X11 [.iload_n 3] 98 (by decide +kernel) rfl ?_
                refine z_if_le hX (off := 9) 107 (by decide +kernel) (by decide) ⟨by omega, by omega⟩ (fun c98 => ?_) (fun c98 => ?_)
                · refine z_b hX fo_X11 [.iload 4, .bipush 10] 111 (by decide +kernel) rfl ?_
                  refine z_ic_le hX (off := 9) 120 (by decide +kernel) (by decide) ⟨by omega, by omega⟩ ⟨by omega, by omega⟩ (fun c111 => ?_) (fun c111 => ?_)
                  · refine z_b hX fo_X11 [.iinc 5 1, .iinc 6 1] 126 (by decide +kernel) rfl ?_
                    refine z_goto hX (off := (-53)) 73 (by decide +kernel) (by decide) ?_
                    exact z_lo [0, 1, 2, 3, 4, 5, 6] (ih _ _ _ _ (by omega) (by omega) (by omega) (by omega) (by omega) (by omega)) rfl
                  · refine z_b hX fo_X11 [.iinc 4 (-10)] 117 (by decide +kernel) rfl ?_
                    refine z_goto hX (off := 6) 123 (by decide +kernel) (by decide) ?_
                    refine z_b hX fo_X11 [.iinc 6 1] 126 (by decide +kernel) rfl ?_
                    refine z_goto hX (off := (-53)) 73 (by decide +kernel) (by decide) ?_
                    exact z_lo [0, 2, 1, 3, 4, 5, 6] (ih _ _ _ _ (by omega) (by omega) (by omega) (by omega) (by omega) (by omega)) rfl
                · refine z_b hX fo_X11 [.iinc 3 (-1)] 104 (by decide +kernel) rfl ?_
                  refine z_goto hX (off := 19) 123 (by decide +kernel) (by decide) ?_
                  refine z_b hX fo_X11 [.iinc 6 1] 126 (by decide +kernel) rfl ?_
                  refine z_goto hX (off := (-53)) 73 (by decide +kernel) (by decide) ?_
                  exact z_lo [0, 2, 3, 1, 4, 5, 6] (ih _ _ _ _ (by omega) (by omega) (by omega) (by omega) (by omega) (by omega)) rfl
              · refine z_b hX fo_X11 [.iload 5, .iconst 2, .aload_n 0, .iload_n 2, .iconst 0] 90 (by decide +kernel) rfl ?_
                refine z_cV hX m_X11_ofAct l_X11_88 p_X11_ofAct (c_ofAct0 (k := a) (by omega)) rfl rfl rfl rfl rfl rfl (by decide +kernel) ?_
                refine z_b hX fo_X11 [.imul] 94 (by decide +kernel) rfl ?_
                refine z_ic_ge hX (off := 35) 129 (by decide +kernel) (by decide) ⟨by omega, by omega⟩ ⟨by omega, by omega⟩ (fun c94 => by exfalso; omega) (fun c94 => ?_)
                refine z_b hX fo_X11 [.iload_n 3] 98 (by decide +kernel) rfl ?_
                refine z_if_le hX (off := 9) 107 (by decide +kernel) (by decide) ⟨by omega, by omega⟩ (fun c98 => ?_) (fun c98 => ?_)
                · refine z_b hX fo_X11 [.iload 4, .bipush 10] 111 (by decide +kernel) rfl ?_
                  refine z_ic_le hX (off := 9) 120 (by decide +kernel) (by decide) ⟨by omega, by omega⟩ ⟨by omega, by omega⟩ (fun c111 => ?_) (fun c111 => ?_)
                  · refine z_b hX fo_X11 [.iinc 5 1, .iinc 6 1] 126 (by decide +kernel) rfl ?_
                    refine z_goto hX (off := (-53)) 73 (by decide +kernel) (by decide) ?_
                    exact z_lo [0, 1, 2, 3, 4, 5, 6] (ih _ _ _ _ (by omega) (by omega) (by omega) (by omega) (by omega) (by omega)) rfl
                  · refine z_b hX fo_X11 [.iinc 4 (-10)] 117 (by decide +kernel) rfl ?_
                    refine z_goto hX (off := 6) 123 (by decide +kernel) (by decide) ?_
                    refine z_b hX fo_X11 [.iinc 6 1] 126 (by decide +kernel) rfl ?_
                    refine z_goto hX (off := (-53)) 73 (by decide +kernel) (by decide) ?_
                    exact z_lo [0, 2, 1, 3, 4, 5, 6] (ih _ _ _ _ (by omega) (by omega) (by omega) (by omega) (by omega) (by omega)) rfl
                · refine z_b hX fo_X11 [.iinc 3 (-1)] 104 (by decide +kernel) rfl ?_
                  refine z_goto hX (off := 19) 123 (by decide +kernel) (by decide) ?_
                  refine z_b hX fo_X11 [.iinc 6 1] 126 (by decide +kernel) rfl ?_
                  refine z_goto hX (off := (-53)) 73 (by decide +kernel) (by decide) ?_
                  exact z_lo [0, 2, 3, 1, 4, 5, 6] (ih _ _ _ _ (by omega) (by omega) (by omega) (by omega) (by omega) (by omega)) rfl
        exact z_lo [0, 1, 2, 3, 4, 5, 6] (loop (zhrs (c (25 + k)) (c (37 + k)) (c (13 + k)) (c (85 + a))).toNat _ _ _ 0 s1 s2 ⟨by omega, by omega⟩ (by omega) (by omega) (by omega)) rfl
      · refine z_b hX fo_X11 [.iconst 2] 33 (by decide +kernel) rfl ?_
        refine z_goto hX (off := 4) 37 (by decide +kernel) (by decide) ?_
        refine z_cV hX m_X11_fails l_X11_59 p_X11_fails (c_fails1 ⟨by decide, by decide⟩) rfl rfl rfl rfl rfl rfl (by decide +kernel) ?_
        refine z_if_eq hX (off := 5) 45 (by decide +kernel) (by decide) ⟨by decide, by decide⟩ (fun c40 => by exact absurd c40 (by decide)) (fun c40 => ?_)
        refine z_b hX fo_X11 [.iconst 0] 44 (by decide +kernel) rfl ?_
        exact z_iret hX hR (by decide +kernel) (Pm_fail (e := eNS) (by unfold aWork; rw [if_pos h1]; rw [if_pos h2]; (try simp only [Int.toNat_natCast]); rw [if_pos (show 70 < c (85 + a) by omega)]; unfold fnd; rw [if_pos rfl]; (try simp only [Int.toNat_natCast]); rfl) ne_NS_UO hM (cd2_2 ne_NS_IB))
    · rw [if_neg h2]
      refine z_if_ne hX (off := 7) 21 (by decide +kernel) (by decide) ⟨by decide, by decide⟩ (fun c14 => by exact absurd c14 (by decide)) (fun c14 => ?_)
      refine z_b hX fo_X11 [.iconst 1] 18 (by decide +kernel) rfl ?_
      refine z_goto hX (off := 19) 37 (by decide +kernel) (by decide) ?_
      refine z_cV hX m_X11_fails l_X11_59 p_X11_fails (c_fails1 ⟨by decide, by decide⟩) rfl rfl rfl rfl rfl rfl (by decide +kernel) ?_
      refine z_if_eq hX (off := 5) 45 (by decide +kernel) (by decide) ⟨by decide, by decide⟩ (fun c40 => by exact absurd c40 (by decide)) (fun c40 => ?_)
      refine z_b hX fo_X11 [.iconst 0] 44 (by decide +kernel) rfl ?_
      exact z_iret hX hR (by decide +kernel) (Pm_fail (e := eIB) (by unfold aWork; rw [if_pos h1]; rw [if_neg h2]; (try simp only [Int.toNat_natCast]); rfl) ne_IB_UO hM cd2_1)
  · rw [if_neg h1]
    refine z_if_eq hX (off := 11) 17 (by decide +kernel) (by decide) ⟨by decide, by decide⟩ (fun c6 => ?_) (fun c6 => by exact absurd c6 (by decide))
    refine z_b hX fo_X11 [.iconst 1] 18 (by decide +kernel) rfl ?_
    refine z_goto hX (off := 19) 37 (by decide +kernel) (by decide) ?_
    refine z_cV hX m_X11_fails l_X11_59 p_X11_fails (c_fails1 ⟨by decide, by decide⟩) rfl rfl rfl rfl rfl rfl (by decide +kernel) ?_
    refine z_if_eq hX (off := 5) 45 (by decide +kernel) (by decide) ⟨by decide, by decide⟩ (fun c40 => by exact absurd c40 (by decide)) (fun c40 => ?_)
    refine z_b hX fo_X11 [.iconst 0] 44 (by decide +kernel) rfl ?_
    exact z_iret hX hR (by decide +kernel) (Pm_fail (e := eIB) (by unfold aWork; rw [if_neg h1]; (try simp only [Int.toNat_natCast]); rfl) ne_IB_UO hM cd2_1)
