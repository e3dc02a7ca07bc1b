/-! ===== Refusals ===== -/
def zrf (σ : Nat → Nat → Int) (w x : Int) : Nat → Nat → Int := zs σ 14 (va_up (va_up (σ 14) 0 w) 1 x)
theorem zrf_eq (σ : Nat → Nat → Int) (c : Nat → Int) (w x : Int) : zup (zup (zs σ 21 c) 14 0 w) 14 1 x = zs (zrf σ w x) 21 c := by
  unfold zrf
  rw [zup_zs, zup_zs, zs_zs, zs_eq, zs_ne (show 14 ≠ 21 by decide), zs_comm (show 21 ≠ 14 by decide)]
abbrev zr : Type := Option (Int × Int)
def zo : zr → Int
  | none => 0
  | some _ => 1
def zoσ (r : zr) (σ : Nat → Nat → Int) : Nat → Nat → Int := match r with
  | none => σ
  | some (w, x) => zrf σ w x
theorem zo_nar (r : zr) : narrow .boolean (.int (Int32.ofInt (zo r))) = .int (Int32.ofInt (zo r)) := by
  cases r with
  | none => show narrow .boolean (.int (Int32.ofInt 0)) = _; decide +kernel
  | some q => show narrow .boolean (.int (Int32.ofInt 1)) = .int (Int32.ofInt 1); decide +kernel
def ror (a b : zr) : zr := match a with
  | none => b
  | some q => some q
def rMore (n m : Int) : zr := if m ≤ n then some (1, m) else none
def rWear (c : Nat → Int) (a : Int) (k : Nat) : zr := if zother c k a then some (2, c (49 + k)) else none
def rPacked (c : Nat → Int) (k : Nat) : zr := if c (61 + k) ≠ -1 then some (3, c (61 + k)) else none
def rSore (c : Nat → Int) (w : Nat) : zr := if 5 < c (113 + w) then some (4, c (113 + w) - 5) else none
def rHours (c : Nat → Int) (w : Nat) (h : Int) : zr := if 0 < h - c (109 + w) then some (5, h - c (109 + w)) else none
def rThread (c : Nat → Int) (h : Int) : zr := if 0 < h - c 2 then some (7, h - c 2) else none
def rNoRip (c : Nat → Int) (k : Nat) : zr := if c (25 + k) = 0 then some (6, (k : Int)) else none
def rFew (c : Nat → Int) (k : Nat) (n : Int) : zr := if c (37 + k) < n then some (8, c (37 + k)) else none
def rNoSp (c : Nat → Int) (n : Int) : zr := if c 1 < n then some (9, n - c 1) else none
def rWide (c : Nat → Int) (k : Nat) : zr := if 70 ≤ c (13 + k) then some (10, c (13 + k)) else none
def rMend (c : Nat → Int) (w k : Nat) : zr := ror (rPacked c k) (ror (rSore c w) (ror (rNoRip c k) (ror (rHours c w 1) (rThread c 1))))
def rSew (c : Nat → Int) (w k : Nat) (n : Int) : zr := ror (rPacked c k) (ror (rSore c w) (ror (rFew c k n) (ror (rNoSp c n) (ror (rHours c w ((n + 10 - 1) / 10)) (rThread c ((n + 5 - 1) / 5))))))
def rWiden (c : Nat → Int) (w k : Nat) : zr := ror (rPacked c k) (ror (rSore c w) (ror (rWide c k) (ror (rHours c w 2) (rThread c 3))))
def rNoTorn (c : Nat → Int) : zr := if zsum c 149 32 = 0 then some (11, 0) else none
def rNoPatch (c : Nat → Int) : zr := if c 3 = 0 then some (12, 0) else none
def rPatch (c : Nat → Int) (w : Nat) : zr := ror (rSore c w) (ror (rNoTorn c) (ror (rNoPatch c) (rHours c w 1)))
abbrev zonT (c : Nat → Int) (t : Int) : Int := zfnd (fun p => c (125 + p)) t 0 (c 12).toNat
def rLoaded (c : Nat → Int) (t : Int) : zr := if zonT c t ≠ -1 then some (16, zonT c t) else none
def rPack (c : Nat → Int) (k t : Nat) : zr := ror (rPacked c k) (ror (rLoaded c (t : Int)) (rMore (c (121 + t)) 5))
def rNoTr (c : Nat → Int) (k : Nat) : zr := if c (61 + k) = -1 then some (18, (k : Int)) else none
def rUnpack (c : Nat → Int) (k : Nat) : zr := ror (rNoTr c k) (rLoaded c (c (61 + k)))
def rUnload (c : Nat → Int) : zr := if c 12 = 0 then some (17, 0) else none
def rOpen0 (c : Nat → Int) (k : Nat) : zr := if 0 < c (25 + k) then some (14, 0) else none
def rOpen1 (c : Nat → Int) (k : Nat) : zr := if 10 < c (37 + k) then some (14, 1) else none
def rOpen2 (c : Nat → Int) (k a : Nat) : zr := if c (13 + k) < c (85 + a) then some (14, 2) else none
def rOpen (c : Nat → Int) (k a : Nat) : zr := ror (rOpen0 c k) (ror (rOpen1 c k) (rOpen2 c k a))
def rNoCoat (c : Nat → Int) (a : Nat) : zr := if c (97 + a) = -1 then some (13, (a : Int)) else none
def rTorn (c : Nat → Int) : zr := if 8 < zsum c 149 32 then some (15, zsum c 149 32) else none
def rGo (c : Nat → Int) (a : Nat) : zr := ror (rNoCoat c a) (ror (rPacked c (c (97 + a)).toNat) (ror (rOpen c (c (97 + a)).toNat a) (rTorn c)))
theorem Rg.g1 {B : Int} {c : Nat → Int} (h : Rg B c) : 0 ≤ c 1 ∧ c 1 ≤ 999 := h.get (j := 1) rfl
theorem Rg.g2 {B : Int} {c : Nat → Int} (h : Rg B c) : 0 ≤ c 2 ∧ c 2 ≤ 999 := h.get (j := 2) rfl
theorem Rg.g3 {B : Int} {c : Nat → Int} (h : Rg B c) : 0 ≤ c 3 ∧ c 3 ≤ 999 := h.get (j := 3) rfl
theorem Rg.tornN {B : Int} {c : Nat → Int} (h : Rg B c) : ∀ n : Nat, n ≤ 32 → 0 ≤ zsum c 149 n ∧ zsum c 149 n ≤ n
  | 0, _ => ⟨Int.le_refl 0, Int.le_refl 0⟩
  | n + 1, hn => by
    have h1 := Rg.tornN h n (by omega)
    have h2 := h.torn (show n < 32 by omega)
    show 0 ≤ zsum c 149 n + c (149 + n) ∧ zsum c 149 n + c (149 + n) ≤ _
    omega
set_option maxHeartbeats 1000000 in
theorem c_tell0 {E : zE} {w x : Int} {σ : Nat → Nat → Int} {c : Nat → Int} {l : (Nat → Int64) × (Nat → UInt64)} : Rv E yX5_tell (Cond.code yX5_tell cX5_tell 4 (Option.some FieldType.boolean)) 0 [vr 14, vi 0, vi w, vi x] ((zs σ 21 c, l)) (vi 0) ((zs σ 21 c, l)) := by
  refine Ctr_of (own := RX5) (by decide +kernel) rfl rfl (fun Y hX hR hnx => ?_)
  refine z_b hX fo_X5 [.iload_n 1] 1 (by decide +kernel) rfl ?_
  refine z_if_eq hX (off := 13) 14 (by decide +kernel) (by decide) ⟨by decide, by decide⟩ (fun c1 => ?_) (fun c1 => by exact absurd c1 (by decide))
  refine z_b hX fo_X5 [.iload_n 1] 15 (by decide +kernel) rfl ?_
  exact z_zret hX hR (by decide +kernel) (by decide +kernel) ⟨rfl, rfl⟩
set_option maxHeartbeats 1000000 in
theorem c_tell1 {E : zE} {w x : Int} {σ : Nat → Nat → Int} {c : Nat → Int} {l : (Nat → Int64) × (Nat → UInt64)} : Rv E yX5_tell (Cond.code yX5_tell cX5_tell 4 (Option.some FieldType.boolean)) 0 [vr 14, vi 1, vi w, vi x] ((zs σ 21 c, l)) (vi 1) ((zs (zrf σ w x) 21 c, l)) := by
  refine Ctr_of (own := RX5) (by decide +kernel) rfl rfl (fun Y hX hR hnx => ?_)
  refine z_b hX fo_X5 [.iload_n 1] 1 (by decide +kernel) rfl ?_
  refine z_if_eq hX (off := 13) 14 (by decide +kernel) (by decide) ⟨by decide, by decide⟩ (fun c1 => by exact absurd c1 (by decide)) (fun c1 => ?_)
  refine z_b hX fo_X5 [.aload_n 0, .iload_n 2, .putfield 9, .aload_n 0, .iload_n 3, .putfield 15, .iload_n 1] 15 (by decide +kernel) rfl ?_
  exact z_zret hX hR (by decide +kernel) (by decide +kernel) ⟨rfl, by dsimp only; rw [zrf_eq]⟩
set_option maxHeartbeats 1000000 in
theorem c_X5_reason {E : zE} {st : zT} : Rv E yX5_reason (Cond.code yX5_reason cX5_reason 1 (Option.some FieldType.int)) 0 [vr 14] (st) (vi (st.1 14 0)) (st) := by
  refine Ctr_of (own := RX5) (by decide +kernel) rfl rfl (fun Y hX hR hnx => ?_)
  refine z_b hX fo_X5 [.aload_n 0, .getfield 9] 4 (by decide +kernel) rfl ?_
  exact z_iret hX hR (by decide +kernel) ⟨rfl, rfl⟩
set_option maxHeartbeats 1000000 in
theorem c_X5_detail {E : zE} {st : zT} : Rv E yX5_detail (Cond.code yX5_detail cX5_detail 1 (Option.some FieldType.int)) 0 [vr 14] (st) (vi (st.1 14 1)) (st) := by
  refine Ctr_of (own := RX5) (by decide +kernel) rfl rfl (fun Y hX hR hnx => ?_)
  refine z_b hX fo_X5 [.aload_n 0, .getfield 15] 4 (by decide +kernel) rfl ?_
  exact z_iret hX hR (by decide +kernel) ⟨rfl, rfl⟩
set_option maxHeartbeats 1000000 in
theorem c_X5_againstMore {E : zE} {n m : Int} {σ : Nat → Nat → Int} {c : Nat → Int} {l : (Nat → Int64) × (Nat → UInt64)} (hn : zi n) (hm : zi m) : Rv E yX5_againstMore (Cond.code yX5_againstMore cX5_againstMore 3 (Option.some FieldType.boolean)) 1 [vr 14, vi n, vi m] ((zs σ 21 c, l)) (vi (zo (rMore n m))) ((zs (zoσ (rMore n m) σ) 21 c, l)) := by
  refine Ctr_of (own := RX5) (by decide +kernel) rfl rfl (fun Y hX hR hnx => ?_)
  refine z_b hX fo_X5 [.aload_n 0, .iload_n 1, .iload_n 2] 3 (by decide +kernel) rfl ?_
  refine z_ic_lt hX (off := 7) 10 (by decide +kernel) (by decide) ⟨by omega, by omega⟩ ⟨by omega, by omega⟩ (fun c3 => ?_) (fun c3 => ?_)
  · have e1 : rMore n m = none := if_neg (by omega)
    refine z_b hX fo_X5 [.iconst 0, .iconst 1, .iload_n 2] 13 (by decide +kernel) rfl ?_
    refine z_cV hX m_X5_tell l_X5_18 p_X5_tell c_tell0 rfl rfl rfl rfl rfl rfl (by decide +kernel) ?_
    exact z_zret hX hR (by decide +kernel) (by decide +kernel) ⟨by rw [e1]; rfl, by rw [e1]; rfl⟩
  · have e1 : rMore n m = some _ := if_pos (by omega)
    refine z_b hX fo_X5 [.iconst 1] 7 (by decide +kernel) rfl ?_
    refine z_goto hX (off := 4) 11 (by decide +kernel) (by decide) ?_
    refine z_b hX fo_X5 [.iconst 1, .iload_n 2] 13 (by decide +kernel) rfl ?_
    refine z_cV hX m_X5_tell l_X5_18 p_X5_tell c_tell1 rfl rfl rfl rfl rfl rfl (by decide +kernel) ?_
    exact z_zret hX hR (by decide +kernel) (by decide +kernel) ⟨by rw [e1]; rfl, by rw [e1]; rfl⟩
set_option maxHeartbeats 1000000 in
theorem c_X5_againstWearing {E : zE} {a k : Nat} {B : Int} {σ : Nat → Nat → Int} {c : Nat → Int} {l : (Nat → Int64) × (Nat → UInt64)} (hg : Rg B c) (hk : k < 12) (ha : a < 6) : Rv E yX5_againstWearing (Cond.code yX5_againstWearing cX5_againstWearing 4 (Option.some FieldType.boolean)) 2 [vr 14, vr 1, vi (a : Int), vi (k : Int)] ((zs σ 21 c, l)) (vi (zo (rWear c (a : Int) k))) ((zs (zoσ (rWear c (a : Int) k) σ) 21 c, l)) := by
  refine Ctr_of (own := RX5) (by decide +kernel) rfl rfl (fun Y hX hR hnx => ?_)
  refine z_b hX fo_X5 [.aload_n 0, .aload_n 1, .iload_n 3, .iload_n 2] 4 (by decide +kernel) rfl ?_
  refine z_cS hX m_X9_isOfAnother l_X5_22 p_X9_isOfAnother (c_X9_isOfAnother hg hk ⟨by omega, by omega⟩) rfl rfl rfl rfl (by decide +kernel) ?_
  by_cases hh : zother c k (a : Int)
  · have e1 : rWear c (a : Int) k = some _ := if_pos hh
    rw [if_pos hh]
    refine z_b hX fo_X5 [.iconst 2, .aload_n 1, .bipush 49, .iload_n 3, .iadd] 13 (by decide +kernel) rfl ?_
    refine z_cV hX m_X6_at l_X5_30 p_X6_at (c_at (j := (49 + k)) (by omega) (by omega)) rfl rfl rfl rfl rfl rfl (by decide +kernel) ?_
    refine z_cV hX m_X5_tell l_X5_18 p_X5_tell c_tell1 rfl rfl rfl rfl rfl rfl (by decide +kernel) ?_
    exact z_zret hX hR (by decide +kernel) (by decide +kernel) ⟨by rw [e1]; rfl, by rw [e1]; rfl⟩
  · have e1 : rWear c (a : Int) k = none := if_neg hh
    rw [if_neg hh]
    refine z_b hX fo_X5 [.iconst 2, .aload_n 1, .bipush 49, .iload_n 3, .iadd] 13 (by decide +kernel) rfl ?_
    refine z_cV hX m_X6_at l_X5_30 p_X6_at (c_at (j := (49 + k)) (by omega) (by omega)) rfl rfl rfl rfl rfl rfl (by decide +kernel) ?_
    refine z_cV hX m_X5_tell l_X5_18 p_X5_tell c_tell0 rfl rfl rfl rfl rfl rfl (by decide +kernel) ?_
    exact z_zret hX hR (by decide +kernel) (by decide +kernel) ⟨by rw [e1]; rfl, by rw [e1]; rfl⟩
set_option maxHeartbeats 1000000 in
theorem c_X5_isPackedAway {E : zE} {k : Nat} {B : Int} {σ : Nat → Nat → Int} {c : Nat → Int} {l : (Nat → Int64) × (Nat → UInt64)} (hg : Rg B c) (hk : k < 12) : Rv E yX5_isPackedAway (Cond.code yX5_isPackedAway cX5_isPackedAway 4 (Option.some FieldType.boolean)) 1 [vr 14, vr 1, vi (k : Int)] ((zs σ 21 c, l)) (vi (zo (rPacked c k))) ((zs (zoσ (rPacked c k) σ) 21 c, l)) := by
  refine Ctr_of (own := RX5) (by decide +kernel) rfl rfl (fun Y hX hR hnx => ?_)
  have h1 := hg.tr hk
  refine z_b hX fo_X5 [.aload_n 1, .bipush 61, .iload_n 2, .iadd] 5 (by decide +kernel) rfl ?_
  refine z_cV hX m_X6_at l_X5_30 p_X6_at (c_at (j := (61 + k)) (by omega) (by omega)) rfl rfl rfl rfl rfl rfl (by decide +kernel) ?_
  refine z_b hX fo_X5 [.istore_n 3, .aload_n 0, .iload_n 3, .iconst (-1)] 12 (by decide +kernel) rfl ?_
  refine z_ic_eq hX (off := 7) 19 (by decide +kernel) (by decide) ⟨by omega, by omega⟩ ⟨by omega, by omega⟩ (fun c12 => ?_) (fun c12 => ?_)
  · have e1 : rPacked c k = none := if_neg (by omega)
    refine z_b hX fo_X5 [.iconst 0, .iconst 3, .iload_n 3] 22 (by decide +kernel) rfl ?_
    refine z_cV hX m_X5_tell l_X5_18 p_X5_tell c_tell0 rfl rfl rfl rfl rfl rfl (by decide +kernel) ?_
    exact z_zret hX hR (by decide +kernel) (by decide +kernel) ⟨by rw [e1]; rfl, by rw [e1]; rfl⟩
  · have e1 : rPacked c k = some _ := if_pos (by omega)
    refine z_b hX fo_X5 [.iconst 1] 16 (by decide +kernel) rfl ?_
    refine z_goto hX (off := 4) 20 (by decide +kernel) (by decide) ?_
    refine z_b hX fo_X5 [.iconst 3, .iload_n 3] 22 (by decide +kernel) rfl ?_
    refine z_cV hX m_X5_tell l_X5_18 p_X5_tell c_tell1 rfl rfl rfl rfl rfl rfl (by decide +kernel) ?_
    exact z_zret hX hR (by decide +kernel) (by decide +kernel) ⟨by rw [e1]; rfl, by rw [e1]; rfl⟩
set_option maxHeartbeats 1000000 in
theorem c_X5_isTooSore {E : zE} {w : Nat} {B : Int} {σ : Nat → Nat → Int} {c : Nat → Int} {l : (Nat → Int64) × (Nat → UInt64)} (hg : Rg B c) (hw : w < 4) : Rv E yX5_isTooSore (Cond.code yX5_isTooSore cX5_isTooSore 4 (Option.some FieldType.boolean)) 1 [vr 14, vr 1, vi (w : Int)] ((zs σ 21 c, l)) (vi (zo (rSore c w))) ((zs (zoσ (rSore c w) σ) 21 c, l)) := by
  refine Ctr_of (own := RX5) (by decide +kernel) rfl rfl (fun Y hX hR hnx => ?_)
  have h1 := hg.sore hw
  refine z_b hX fo_X5 [.aload_n 1, .bipush 113, .iload_n 2, .iadd] 5 (by decide +kernel) rfl ?_
  refine z_cV hX m_X6_at l_X5_30 p_X6_at (c_at (j := (113 + w)) (by omega) (by omega)) rfl rfl rfl rfl rfl rfl (by decide +kernel) ?_
  refine z_b hX fo_X5 [.istore_n 3, .aload_n 0, .iload_n 3, .iconst 5] 12 (by decide +kernel) rfl ?_
  refine z_ic_le hX (off := 7) 19 (by decide +kernel) (by decide) ⟨by omega, by omega⟩ ⟨by omega, by omega⟩ (fun c12 => ?_) (fun c12 => ?_)
  · have e1 : rSore c w = none := if_neg (by omega)
    refine z_b hX fo_X5 [.iconst 0, .iconst 4, .iload_n 3, .iconst 5, .isub] 24 (by decide +kernel) rfl ?_
    refine z_cV hX m_X5_tell l_X5_18 p_X5_tell c_tell0 rfl rfl rfl rfl rfl rfl (by decide +kernel) ?_
    exact z_zret hX hR (by decide +kernel) (by decide +kernel) ⟨by rw [e1]; rfl, by rw [e1]; rfl⟩
  · have e1 : rSore c w = some _ := if_pos (by omega)
    refine z_b hX fo_X5 [.iconst 1] 16 (by decide +kernel) rfl ?_
    refine z_goto hX (off := 4) 20 (by decide +kernel) (by decide) ?_
    refine z_b hX fo_X5 [.iconst 4, .iload_n 3, .iconst 5, .isub] 24 (by decide +kernel) rfl ?_
    refine z_cV hX m_X5_tell l_X5_18 p_X5_tell c_tell1 rfl rfl rfl rfl rfl rfl (by decide +kernel) ?_
    exact z_zret hX hR (by decide +kernel) (by decide +kernel) ⟨by rw [e1]; rfl, by rw [e1]; rfl⟩
set_option maxHeartbeats 1000000 in
theorem c_X5_lacksHours {E : zE} {w : Nat} {h B : Int} {σ : Nat → Nat → Int} {c : Nat → Int} {l : (Nat → Int64) × (Nat → UInt64)} (hg : Rg B c) (hw : w < 4) (hh : 0 ≤ h ∧ h ≤ 1000) : Rv E yX5_lacksHours (Cond.code yX5_lacksHours cX5_lacksHours 5 (Option.some FieldType.boolean)) 1 [vr 14, vr 1, vi (w : Int), vi h] ((zs σ 21 c, l)) (vi (zo (rHours c w h))) ((zs (zoσ (rHours c w h) σ) 21 c, l)) := by
  refine Ctr_of (own := RX5) (by decide +kernel) rfl rfl (fun Y hX hR hnx => ?_)
  have h1 := hg.hours hw
  refine z_b hX fo_X5 [.iload_n 3, .aload_n 1, .bipush 109, .iload_n 2, .iadd] 6 (by decide +kernel) rfl ?_
  refine z_cV hX m_X6_at l_X5_30 p_X6_at (c_at (j := (109 + w)) (by omega) (by omega)) rfl rfl rfl rfl rfl rfl (by decide +kernel) ?_
  refine z_b hX fo_X5 [.isub, .istore 4, .aload_n 0, .iload 4] 15 (by decide +kernel) rfl ?_
  refine z_if_le hX (off := 7) 22 (by decide +kernel) (by decide) ⟨by omega, by omega⟩ (fun c15 => ?_) (fun c15 => ?_)
  · have e1 : rHours c w h = none := if_neg (by omega)
    refine z_b hX fo_X5 [.iconst 0, .iconst 5, .iload 4] 26 (by decide +kernel) rfl ?_
    refine z_cV hX m_X5_tell l_X5_18 p_X5_tell c_tell0 rfl rfl rfl rfl rfl rfl (by decide +kernel) ?_
    exact z_zret hX hR (by decide +kernel) (by decide +kernel) ⟨by rw [e1]; rfl, by rw [e1]; rfl⟩
  · have e1 : rHours c w h = some _ := if_pos (by omega)
    refine z_b hX fo_X5 [.iconst 1] 19 (by decide +kernel) rfl ?_
    refine z_goto hX (off := 4) 23 (by decide +kernel) (by decide) ?_
    refine z_b hX fo_X5 [.iconst 5, .iload 4] 26 (by decide +kernel) rfl ?_
    refine z_cV hX m_X5_tell l_X5_18 p_X5_tell c_tell1 rfl rfl rfl rfl rfl rfl (by decide +kernel) ?_
    exact z_zret hX hR (by decide +kernel) (by decide +kernel) ⟨by rw [e1]; rfl, by rw [e1]; rfl⟩
set_option maxHeartbeats 1000000 in
theorem c_X5_lacksThread {E : zE} {h B : Int} {σ : Nat → Nat → Int} {c : Nat → Int} {l : (Nat → Int64) × (Nat → UInt64)} (hg : Rg B c) (hh : 0 ≤ h ∧ h ≤ 1000) : Rv E yX5_lacksThread (Cond.code yX5_lacksThread cX5_lacksThread 4 (Option.some FieldType.boolean)) 1 [vr 14, vr 1, vi h] ((zs σ 21 c, l)) (vi (zo (rThread c h))) ((zs (zoσ (rThread c h) σ) 21 c, l)) := by
  refine Ctr_of (own := RX5) (by decide +kernel) rfl rfl (fun Y hX hR hnx => ?_)
  have h1 := hg.g2
  refine z_b hX fo_X5 [.iload_n 2, .aload_n 1, .iconst 2] 3 (by decide +kernel) rfl ?_
  refine z_cV hX m_X6_at l_X5_30 p_X6_at (c_at (j := 2) (by omega) (by omega)) rfl rfl rfl rfl rfl rfl (by decide +kernel) ?_
  refine z_b hX fo_X5 [.isub, .istore_n 3, .aload_n 0, .iload_n 3] 10 (by decide +kernel) rfl ?_
  refine z_if_le hX (off := 7) 17 (by decide +kernel) (by decide) ⟨by omega, by omega⟩ (fun c10 => ?_) (fun c10 => ?_)
  · have e1 : rThread c h = none := if_neg (by omega)
    refine z_b hX fo_X5 [.iconst 0, .bipush 7, .iload_n 3] 21 (by decide +kernel) rfl ?_
    refine z_cV hX m_X5_tell l_X5_18 p_X5_tell c_tell0 rfl rfl rfl rfl rfl rfl (by decide +kernel) ?_
    exact z_zret hX hR (by decide +kernel) (by decide +kernel) ⟨by rw [e1]; rfl, by rw [e1]; rfl⟩
  · have e1 : rThread c h = some _ := if_pos (by omega)
    refine z_b hX fo_X5 [.iconst 1] 14 (by decide +kernel) rfl ?_
    refine z_goto hX (off := 4) 18 (by decide +kernel) (by decide) ?_
    refine z_b hX fo_X5 [.bipush 7, .iload_n 3] 21 (by decide +kernel) rfl ?_
    refine z_cV hX m_X5_tell l_X5_18 p_X5_tell c_tell1 rfl rfl rfl rfl rfl rfl (by decide +kernel) ?_
    exact z_zret hX hR (by decide +kernel) (by decide +kernel) ⟨by rw [e1]; rfl, by rw [e1]; rfl⟩
theorem zfnd_zi (f : Nat → Int) (k : Int) : ∀ (m i : Nat), i + m ≤ 1000 → -1 ≤ zfnd f k i m ∧ zfnd f k i m < 1000
  | 0, i, _ => by show -1 ≤ (-1 : Int) ∧ (-1 : Int) < 1000; omega
  | m + 1, i, h => by
    show -1 ≤ (if f i = k then (i : Int) else zfnd f k (i + 1) m) ∧ (if f i = k then (i : Int) else zfnd f k (i + 1) m) < 1000
    split
    · omega
    · exact zfnd_zi f k m (i + 1) (by omega)
set_option maxHeartbeats 1000000 in
theorem c_X5_isLoaded {E : zE} {t B : Int} {σ : Nat → Nat → Int} {c : Nat → Int} {l : (Nat → Int64) × (Nat → UInt64)} (hg : Rg B c) (ht : zi t) : Rv E yX5_isLoaded (Cond.code yX5_isLoaded cX5_isLoaded 4 (Option.some FieldType.boolean)) 2 [vr 14, vr 1, vi t] ((zs σ 21 c, l)) (vi (zo (rLoaded c t))) ((zs (zoσ (rLoaded c t) σ) 21 c, l)) := by
  refine Ctr_of (own := RX5) (by decide +kernel) rfl rfl (fun Y hX hR hnx => ?_)
  have h1 := hg.loaded
  obtain ⟨n, hn⟩ : ∃ n : Nat, c 12 = (n : Int) := ⟨(c 12).toNat, by omega⟩
  have hz : ∀ p, p < n → zi (c (125 + p)) := fun p hp => Rg.zi (hg.train (by omega)) (by decide) (by decide)
  have e0 : zonT c t = zfnd (fun p => c (125 + p)) t 0 n := by unfold zonT; rw [hn]; rfl
  have e9 := zfnd_zi (fun p => c (125 + p)) t n 0 (by omega)
  refine z_b hX fo_X5 [.aload_n 1, .iload_n 2] 2 (by decide +kernel) rfl ?_
  refine z_cS hX m_X4_placeOnTrain l_X5_75 p_X4_placeOnTrain (c_X4_placeOnTrain hn (by omega) hz ht) rfl rfl rfl rfl (by decide +kernel) ?_
  rw [← e0] at e9 ⊢
  refine z_b hX fo_X5 [.istore_n 3, .aload_n 0, .iload_n 3, .iconst (-1)] 9 (by decide +kernel) rfl ?_
  refine z_ic_eq hX (off := 7) 16 (by decide +kernel) (by decide) ⟨by omega, by omega⟩ ⟨by omega, by omega⟩ (fun c9 => ?_) (fun c9 => ?_)
  · have e1 : rLoaded c t = none := if_neg (fun z => z c9)
    refine z_b hX fo_X5 [.iconst 0, .bipush 16, .iload_n 3] 20 (by decide +kernel) rfl ?_
    refine z_cV hX m_X5_tell l_X5_18 p_X5_tell c_tell0 rfl rfl rfl rfl rfl rfl (by decide +kernel) ?_
    exact z_zret hX hR (by decide +kernel) (by decide +kernel) ⟨by rw [e1]; rfl, by rw [e1]; rfl⟩
  · have e1 : rLoaded c t = some _ := if_pos c9
    refine z_b hX fo_X5 [.iconst 1] 13 (by decide +kernel) rfl ?_
    refine z_goto hX (off := 4) 17 (by decide +kernel) (by decide) ?_
    refine z_b hX fo_X5 [.bipush 16, .iload_n 3] 20 (by decide +kernel) rfl ?_
    refine z_cV hX m_X5_tell l_X5_18 p_X5_tell c_tell1 rfl rfl rfl rfl rfl rfl (by decide +kernel) ?_
    exact z_zret hX hR (by decide +kernel) (by decide +kernel) ⟨by rw [e1]; rfl, by rw [e1]; rfl⟩
set_option maxHeartbeats 1000000 in
theorem c_X5_againstMending {E : zE} {w k : Nat} {B : Int} {σ : Nat → Nat → Int} {c : Nat → Int} {l : (Nat → Int64) × (Nat → UInt64)} (hg : Rg B c) (hw : w < 4) (hk : k < 12) : Rv E yX5_againstMending (Cond.code yX5_againstMending cX5_againstMending 4 (Option.some FieldType.boolean)) 2 [vr 14, vr 1, vi (w : Int), vi (k : Int)] ((zs σ 21 c, l)) (vi (zo (rMend c w k))) ((zs (zoσ (rMend c w k) σ) 21 c, l)) := by
  refine Ctr_of (own := RX5) (by decide +kernel) rfl rfl (fun Y hX hR hnx => ?_)
  have h1 := hg.rips hk
  refine z_b hX fo_X5 [.aload_n 0, .aload_n 1, .iload_n 3] 3 (by decide +kernel) rfl ?_
  refine z_cV hX m_X5_isPackedAway l_X5_34 p_X5_isPackedAway (c_X5_isPackedAway hg hk) rfl rfl rfl rfl rfl rfl (by decide +kernel) ?_
  rcases h3 : rPacked c k with _ | q3
  · dsimp only [zo]
    refine z_if_ne hX (off := 57) 63 (by decide +kernel) (by decide) ⟨by decide, by decide⟩ (fun c6 => by exact absurd c6 (by decide)) (fun c6 => ?_)
    refine z_b hX fo_X5 [.aload_n 0, .aload_n 1, .iload_n 2] 12 (by decide +kernel) rfl ?_
    refine z_cV hX m_X5_isTooSore l_X5_38 p_X5_isTooSore (c_X5_isTooSore hg hw) rfl rfl rfl rfl rfl rfl (by decide +kernel) ?_
    rcases h12 : rSore c w with _ | q12
    · dsimp only [zo]
      refine z_if_ne hX (off := 48) 63 (by decide +kernel) (by decide) ⟨by decide, by decide⟩ (fun c15 => by exact absurd c15 (by decide)) (fun c15 => ?_)
      refine z_b hX fo_X5 [.aload_n 0, .aload_n 1, .bipush 25, .iload_n 3, .iadd] 24 (by decide +kernel) rfl ?_
      refine z_cV hX m_X6_at l_X5_30 p_X6_at (c_at (j := (25 + k)) (by omega) (by omega)) rfl rfl rfl rfl rfl rfl (by decide +kernel) ?_
      refine z_if_ne hX (off := 7) 34 (by decide +kernel) (by decide) ⟨by omega, by omega⟩ (fun c27 => ?_) (fun c27 => ?_)
      · have e30 : rNoRip c k = none := if_neg (by omega)
        refine z_b hX fo_X5 [.iconst 0, .bipush 6, .iload_n 3] 38 (by decide +kernel) rfl ?_
        refine z_cV hX m_X5_tell l_X5_18 p_X5_tell c_tell0 rfl rfl rfl rfl rfl rfl (by decide +kernel) ?_
        refine z_if_ne hX (off := 22) 63 (by decide +kernel) (by decide) ⟨by decide, by decide⟩ (fun c41 => by exact absurd c41 (by decide)) (fun c41 => ?_)
        refine z_b hX fo_X5 [.aload_n 0, .aload_n 1, .iload_n 2, .iconst 1] 48 (by decide +kernel) rfl ?_
        refine z_cV hX m_X5_lacksHours l_X5_41 p_X5_lacksHours (c_X5_lacksHours hg hw ⟨by omega, by omega⟩) rfl rfl rfl rfl rfl rfl (by decide +kernel) ?_
        rcases h48 : rHours c w 1 with _ | q48
        · dsimp only [zo]
          refine z_if_ne hX (off := 12) 63 (by decide +kernel) (by decide) ⟨by decide, by decide⟩ (fun c51 => by exact absurd c51 (by decide)) (fun c51 => ?_)
          refine z_b hX fo_X5 [.aload_n 0, .aload_n 1, .iconst 1] 57 (by decide +kernel) rfl ?_
          refine z_cV hX m_X5_lacksThread l_X5_44 p_X5_lacksThread (c_X5_lacksThread hg ⟨by omega, by omega⟩) rfl rfl rfl rfl rfl rfl (by decide +kernel) ?_
          rcases h57 : rThread c 1 with _ | q57
          · dsimp only [zo]
            refine z_if_eq hX (off := 7) 67 (by decide +kernel) (by decide) ⟨by decide, by decide⟩ (fun c60 => ?_) (fun c60 => by exact absurd c60 (by decide))
            refine z_b hX fo_X5 [.iconst 0] 68 (by decide +kernel) rfl ?_
            exact z_zret hX hR (by decide +kernel) (by decide +kernel) ⟨by unfold rMend; simp only [h3, h12, e30, h48, h57, ror, zo], by unfold rMend; simp only [h3, h12, e30, h48, h57, ror, zoσ]⟩
          · dsimp only [zo]
            refine z_if_eq hX (off := 7) 67 (by decide +kernel) (by decide) ⟨by decide, by decide⟩ (fun c60 => by exact absurd c60 (by decide)) (fun c60 => ?_)
            refine z_b hX fo_X5 [.iconst 1] 64 (by decide +kernel) rfl ?_
            refine z_goto hX (off := 4) 68 (by decide +kernel) (by decide) ?_
            exact z_zret hX hR (by decide +kernel) (by decide +kernel) ⟨by unfold rMend; simp only [h3, h12, e30, h48, h57, ror, zo], by unfold rMend; simp only [h3, h12, e30, h48, h57, ror, zoσ]⟩
        · dsimp only [zo]
          refine z_if_ne hX (off := 12) 63 (by decide +kernel) (by decide) ⟨by decide, by decide⟩ (fun c51 => ?_) (fun c51 => by exact absurd c51 (by decide))
          refine z_b hX fo_X5 [.iconst 1] 64 (by decide +kernel) rfl ?_
          refine z_goto hX (off := 4) 68 (by decide +kernel) (by decide) ?_
          exact z_zret hX hR (by decide +kernel) (by decide +kernel) ⟨by unfold rMend; simp only [h3, h12, e30, h48, ror, zo], by unfold rMend; simp only [h3, h12, e30, h48, ror, zoσ]⟩
      · have e30 : rNoRip c k = some _ := if_pos (by omega)
        refine z_b hX fo_X5 [.iconst 1] 31 (by decide +kernel) rfl ?_
        refine z_goto hX (off := 4) 35 (by decide +kernel) (by decide) ?_
        refine z_b hX fo_X5 [.bipush 6, .iload_n 3] 38 (by decide +kernel) rfl ?_
        refine z_cV hX m_X5_tell l_X5_18 p_X5_tell c_tell1 rfl rfl rfl rfl rfl rfl (by decide +kernel) ?_
        refine z_if_ne hX (off := 22) 63 (by decide +kernel) (by decide) ⟨by decide, by decide⟩ (fun c41 => ?_) (fun c41 => by exact absurd c41 (by decide))
        refine z_b hX fo_X5 [.iconst 1] 64 (by decide +kernel) rfl ?_
        refine z_goto hX (off := 4) 68 (by decide +kernel) (by decide) ?_
        exact z_zret hX hR (by decide +kernel) (by decide +kernel) ⟨by unfold rMend; simp only [h3, h12, e30, ror, zo], by unfold rMend; simp only [h3, h12, e30, ror, zoσ]⟩
    · dsimp only [zo]
      refine z_if_ne hX (off := 48) 63 (by decide +kernel) (by decide) ⟨by decide, by decide⟩ (fun c15 => ?_) (fun c15 => by exact absurd c15 (by decide))
      refine z_b hX fo_X5 [.iconst 1] 64 (by decide +kernel) rfl ?_
      refine z_goto hX (off := 4) 68 (by decide +kernel) (by decide) ?_
      exact z_zret hX hR (by decide +kernel) (by decide +kernel) ⟨by unfold rMend; simp only [h3, h12, ror, zo], by unfold rMend; simp only [h3, h12, ror, zoσ]⟩
  · dsimp only [zo]
    refine z_if_ne hX (off := 57) 63 (by decide +kernel) (by decide) ⟨by decide, by decide⟩ (fun c6 => ?_) (fun c6 => by exact absurd c6 (by decide))
    refine z_b hX fo_X5 [.iconst 1] 64 (by decide +kernel) rfl ?_
    refine z_goto hX (off := 4) 68 (by decide +kernel) (by decide) ?_
    exact z_zret hX hR (by decide +kernel) (by decide +kernel) ⟨by unfold rMend; simp only [h3, ror, zo], by unfold rMend; simp only [h3, ror, zoσ]⟩
set_option maxHeartbeats 1000000 in
theorem c_X5_againstSewingOn {E : zE} {w k : Nat} {n B : Int} {σ : Nat → Nat → Int} {c : Nat → Int} {l : (Nat → Int64) × (Nat → UInt64)} (hg : Rg B c) (hw : w < 4) (hk : k < 12) (hn : 1 ≤ n ∧ n ≤ 60) : Rv E yX5_againstSewingOn (Cond.code yX5_againstSewingOn cX5_againstSewingOn 7 (Option.some FieldType.boolean)) 2 [vr 14, vr 1, vi (w : Int), vi (k : Int), vi n] ((zs σ 21 c, l)) (vi (zo (rSew c w k n))) ((zs (zoσ (rSew c w k n) σ) 21 c, l)) := by
  refine Ctr_of (own := RX5) (by decide +kernel) rfl rfl (fun Y hX hR hnx => ?_)
  have h1 := hg.miss hk
  have h2 := hg.g1
  refine z_b hX fo_X5 [.aload_n 1, .bipush 37, .iload_n 3, .iadd] 5 (by decide +kernel) rfl ?_
  refine z_cV hX m_X6_at l_X5_30 p_X6_at (c_at (j := (37 + k)) (by omega) (by omega)) rfl rfl rfl rfl rfl rfl (by decide +kernel) ?_
  refine z_b hX fo_X5 [.istore 5, .aload_n 1, .iconst 1] 12 (by decide +kernel) rfl ?_
  refine z_cV hX m_X6_at l_X5_30 p_X6_at (c_at (j := 1) (by omega) (by omega)) rfl rfl rfl rfl rfl rfl (by decide +kernel) ?_
  refine z_b hX fo_X5 [.istore 6, .aload_n 0, .aload_n 1, .iload_n 3] 20 (by decide +kernel) rfl ?_
  refine z_cV hX m_X5_isPackedAway l_X5_34 p_X5_isPackedAway (c_X5_isPackedAway hg hk) rfl rfl rfl rfl rfl rfl (by decide +kernel) ?_
  rcases h20 : rPacked c k with _ | q20
  · dsimp only [zo]
    refine z_if_ne hX (off := 88) 111 (by decide +kernel) (by decide) ⟨by decide, by decide⟩ (fun c23 => by exact absurd c23 (by decide)) (fun c23 => ?_)
    refine z_b hX fo_X5 [.aload_n 0, .aload_n 1, .iload_n 2] 29 (by decide +kernel) rfl ?_
    refine z_cV hX m_X5_isTooSore l_X5_38 p_X5_isTooSore (c_X5_isTooSore hg hw) rfl rfl rfl rfl rfl rfl (by decide +kernel) ?_
    rcases h29 : rSore c w with _ | q29
    · dsimp only [zo]
      refine z_if_ne hX (off := 79) 111 (by decide +kernel) (by decide) ⟨by decide, by decide⟩ (fun c32 => by exact absurd c32 (by decide)) (fun c32 => ?_)
      refine z_b hX fo_X5 [.aload_n 0, .iload 5, .iload 4] 40 (by decide +kernel) rfl ?_
      refine z_ic_ge hX (off := 7) 47 (by decide +kernel) (by decide) ⟨by omega, by omega⟩ ⟨by omega, by omega⟩ (fun c40 => ?_) (fun c40 => ?_)
      · have e43 : rFew c k n = none := if_neg (by omega)
        refine z_b hX fo_X5 [.iconst 0, .bipush 8, .iload 5] 52 (by decide +kernel) rfl ?_
        refine z_cV hX m_X5_tell l_X5_18 p_X5_tell c_tell0 rfl rfl rfl rfl rfl rfl (by decide +kernel) ?_
        refine z_if_ne hX (off := 56) 111 (by decide +kernel) (by decide) ⟨by decide, by decide⟩ (fun c55 => by exact absurd c55 (by decide)) (fun c55 => ?_)
        refine z_b hX fo_X5 [.aload_n 0, .iload 6, .iload 4] 63 (by decide +kernel) rfl ?_
        refine z_ic_ge hX (off := 7) 70 (by decide +kernel) (by decide) ⟨by omega, by omega⟩ ⟨by omega, by omega⟩ (fun c63 => ?_) (fun c63 => ?_)
        · have e66 : rNoSp c n = none := if_neg (by omega)
          refine z_b hX fo_X5 [.iconst 0, .bipush 9, .iload 4, .iload 6, .isub] 78 (by decide +kernel) rfl ?_
          refine z_cV hX m_X5_tell l_X5_18 p_X5_tell c_tell0 rfl rfl rfl rfl rfl rfl (by decide +kernel) ?_
          refine z_if_ne hX (off := 30) 111 (by decide +kernel) (by decide) ⟨by decide, by decide⟩ (fun c81 => by exact absurd c81 (by decide)) (fun c81 => ?_)
          refine z_b hX fo_X5 [.aload_n 0, .aload_n 1, .iload_n 2, .iload 4] 89 (by decide +kernel) rfl ?_
          refine z_cS hX m_X7_hoursFor l_X5_47 p_X7_hoursFor (c_X7_hoursFor ⟨by omega, by omega⟩) rfl rfl rfl rfl (by decide +kernel) ?_
          refine z_cV hX m_X5_lacksHours l_X5_41 p_X5_lacksHours (c_X5_lacksHours hg hw ⟨by omega, by omega⟩) rfl rfl rfl rfl rfl rfl (by decide +kernel) ?_
          rcases h92 : rHours c w ((n + 10 - 1) / 10) with _ | q92
          · dsimp only [zo]
            refine z_if_ne hX (off := 16) 111 (by decide +kernel) (by decide) ⟨by decide, by decide⟩ (fun c95 => by exact absurd c95 (by decide)) (fun c95 => ?_)
            refine z_b hX fo_X5 [.aload_n 0, .aload_n 1, .iload 4] 102 (by decide +kernel) rfl ?_
            refine z_cS hX m_X7_threadFor l_X5_52 p_X7_threadFor (c_X7_threadFor ⟨by omega, by omega⟩) rfl rfl rfl rfl (by decide +kernel) ?_
            refine z_cV hX m_X5_lacksThread l_X5_44 p_X5_lacksThread (c_X5_lacksThread hg ⟨by omega, by omega⟩) rfl rfl rfl rfl rfl rfl (by decide +kernel) ?_
            rcases h105 : rThread c ((n + 5 - 1) / 5) with _ | q105
            · dsimp only [zo]
              refine z_if_eq hX (off := 7) 115 (by decide +kernel) (by decide) ⟨by decide, by decide⟩ (fun c108 => ?_) (fun c108 => by exact absurd c108 (by decide))
              refine z_b hX fo_X5 [.iconst 0] 116 (by decide +kernel) rfl ?_
              exact z_zret hX hR (by decide +kernel) (by decide +kernel) ⟨by unfold rSew; simp only [h20, h29, e43, e66, h92, h105, ror, zo], by unfold rSew; simp only [h20, h29, e43, e66, h92, h105, ror, zoσ]⟩
            · dsimp only [zo]
              refine z_if_eq hX (off := 7) 115 (by decide +kernel) (by decide) ⟨by decide, by decide⟩ (fun c108 => by exact absurd c108 (by decide)) (fun c108 => ?_)
              refine z_b hX fo_X5 [.iconst 1] 112 (by decide +kernel) rfl ?_
              refine z_goto hX (off := 4) 116 (by decide +kernel) (by decide) ?_
              exact z_zret hX hR (by decide +kernel) (by decide +kernel) ⟨by unfold rSew; simp only [h20, h29, e43, e66, h92, h105, ror, zo], by unfold rSew; simp only [h20, h29, e43, e66, h92, h105, ror, zoσ]⟩
          · dsimp only [zo]
            refine z_if_ne hX (off := 16) 111 (by decide +kernel) (by decide) ⟨by decide, by decide⟩ (fun c95 => ?_) (fun c95 => by exact absurd c95 (by decide))
            refine z_b hX fo_X5 [.iconst 1] 112 (by decide +kernel) rfl ?_
            refine z_goto hX (off := 4) 116 (by decide +kernel) (by decide) ?_
            exact z_zret hX hR (by decide +kernel) (by decide +kernel) ⟨by unfold rSew; simp only [h20, h29, e43, e66, h92, ror, zo], by unfold rSew; simp only [h20, h29, e43, e66, h92, ror, zoσ]⟩
        · have e66 : rNoSp c n = some _ := if_pos (by omega)
          refine z_b hX fo_X5 [.iconst 1] 67 (by decide +kernel) rfl ?_
          refine z_goto hX (off := 4) 71 (by decide +kernel) (by decide) ?_
          refine z_b hX fo_X5 [.bipush 9, .iload 4, .iload 6, .isub] 78 (by decide +kernel) rfl ?_
          refine z_cV hX m_X5_tell l_X5_18 p_X5_tell c_tell1 rfl rfl rfl rfl rfl rfl (by decide +kernel) ?_
          refine z_if_ne hX (off := 30) 111 (by decide +kernel) (by decide) ⟨by decide, by decide⟩ (fun c81 => ?_) (fun c81 => by exact absurd c81 (by decide))
          refine z_b hX fo_X5 [.iconst 1] 112 (by decide +kernel) rfl ?_
          refine z_goto hX (off := 4) 116 (by decide +kernel) (by decide) ?_
          exact z_zret hX hR (by decide +kernel) (by decide +kernel) ⟨by unfold rSew; simp only [h20, h29, e43, e66, ror, zo], by unfold rSew; simp only [h20, h29, e43, e66, ror, zoσ]⟩
      · have e43 : rFew c k n = some _ := if_pos (by omega)
        refine z_b hX fo_X5 [.iconst 1] 44 (by decide +kernel) rfl ?_
        refine z_goto hX (off := 4) 48 (by decide +kernel) (by decide) ?_
        refine z_b hX fo_X5 [.bipush 8, .iload 5] 52 (by decide +kernel) rfl ?_
        refine z_cV hX m_X5_tell l_X5_18 p_X5_tell c_tell1 rfl rfl rfl rfl rfl rfl (by decide +kernel) ?_
        refine z_if_ne hX (off := 56) 111 (by decide +kernel) (by decide) ⟨by decide, by decide⟩ (fun c55 => ?_) (fun c55 => by exact absurd c55 (by decide))
        refine z_b hX fo_X5 [.iconst 1] 112 (by decide +kernel) rfl ?_
        refine z_goto hX (off := 4) 116 (by decide +kernel) (by decide) ?_
        exact z_zret hX hR (by decide +kernel) (by decide +kernel) ⟨by unfold rSew; simp only [h20, h29, e43, ror, zo], by unfold rSew; simp only [h20, h29, e43, ror, zoσ]⟩
    · dsimp only [zo]
      refine z_if_ne hX (off := 79) 111 (by decide +kernel) (by decide) ⟨by decide, by decide⟩ (fun c32 => ?_) (fun c32 => by exact absurd c32 (by decide))
      refine z_b hX fo_X5 [.iconst 1] 112 (by decide +kernel) rfl ?_
      refine z_goto hX (off := 4) 116 (by decide +kernel) (by decide) ?_
      exact z_zret hX hR (by decide +kernel) (by decide +kernel) ⟨by unfold rSew; simp only [h20, h29, ror, zo], by unfold rSew; simp only [h20, h29, ror, zoσ]⟩
  · dsimp only [zo]
    refine z_if_ne hX (off := 88) 111 (by decide +kernel) (by decide) ⟨by decide, by decide⟩ (fun c23 => ?_) (fun c23 => by exact absurd c23 (by decide))
    refine z_b hX fo_X5 [.iconst 1] 112 (by decide +kernel) rfl ?_
    refine z_goto hX (off := 4) 116 (by decide +kernel) (by decide) ?_
    exact z_zret hX hR (by decide +kernel) (by decide +kernel) ⟨by unfold rSew; simp only [h20, ror, zo], by unfold rSew; simp only [h20, ror, zoσ]⟩
set_option maxHeartbeats 1000000 in
theorem c_X5_againstWidening {E : zE} {w k : Nat} {B : Int} {σ : Nat → Nat → Int} {c : Nat → Int} {l : (Nat → Int64) × (Nat → UInt64)} (hg : Rg B c) (hw : w < 4) (hk : k < 12) : Rv E yX5_againstWidening (Cond.code yX5_againstWidening cX5_againstWidening 5 (Option.some FieldType.boolean)) 2 [vr 14, vr 1, vi (w : Int), vi (k : Int)] ((zs σ 21 c, l)) (vi (zo (rWiden c w k))) ((zs (zoσ (rWiden c w k) σ) 21 c, l)) := by
  refine Ctr_of (own := RX5) (by decide +kernel) rfl rfl (fun Y hX hR hnx => ?_)
  have h1 := hg.size hk
  refine z_b hX fo_X5 [.aload_n 1, .bipush 13, .iload_n 3, .iadd] 5 (by decide +kernel) rfl ?_
  refine z_cV hX m_X6_at l_X5_30 p_X6_at (c_at (j := (13 + k)) (by omega) (by omega)) rfl rfl rfl rfl rfl rfl (by decide +kernel) ?_
  refine z_b hX fo_X5 [.istore 4, .aload_n 0, .aload_n 1, .iload_n 3] 13 (by decide +kernel) rfl ?_
  refine z_cV hX m_X5_isPackedAway l_X5_34 p_X5_isPackedAway (c_X5_isPackedAway hg hk) rfl rfl rfl rfl rfl rfl (by decide +kernel) ?_
  rcases h13 : rPacked c k with _ | q13
  · dsimp only [zo]
    refine z_if_ne hX (off := 54) 70 (by decide +kernel) (by decide) ⟨by decide, by decide⟩ (fun c16 => by exact absurd c16 (by decide)) (fun c16 => ?_)
    refine z_b hX fo_X5 [.aload_n 0, .aload_n 1, .iload_n 2] 22 (by decide +kernel) rfl ?_
    refine z_cV hX m_X5_isTooSore l_X5_38 p_X5_isTooSore (c_X5_isTooSore hg hw) rfl rfl rfl rfl rfl rfl (by decide +kernel) ?_
    rcases h22 : rSore c w with _ | q22
    · dsimp only [zo]
      refine z_if_ne hX (off := 45) 70 (by decide +kernel) (by decide) ⟨by decide, by decide⟩ (fun c25 => by exact absurd c25 (by decide)) (fun c25 => ?_)
      refine z_b hX fo_X5 [.aload_n 0, .iload 4, .bipush 70] 33 (by decide +kernel) rfl ?_
      refine z_ic_lt hX (off := 7) 40 (by decide +kernel) (by decide) ⟨by omega, by omega⟩ ⟨by omega, by omega⟩ (fun c33 => ?_) (fun c33 => ?_)
      · have e36 : rWide c k = none := if_neg (by omega)
        refine z_b hX fo_X5 [.iconst 0, .bipush 10, .iload 4] 45 (by decide +kernel) rfl ?_
        refine z_cV hX m_X5_tell l_X5_18 p_X5_tell c_tell0 rfl rfl rfl rfl rfl rfl (by decide +kernel) ?_
        refine z_if_ne hX (off := 22) 70 (by decide +kernel) (by decide) ⟨by decide, by decide⟩ (fun c48 => by exact absurd c48 (by decide)) (fun c48 => ?_)
        refine z_b hX fo_X5 [.aload_n 0, .aload_n 1, .iload_n 2, .iconst 2] 55 (by decide +kernel) rfl ?_
        refine z_cV hX m_X5_lacksHours l_X5_41 p_X5_lacksHours (c_X5_lacksHours hg hw ⟨by omega, by omega⟩) rfl rfl rfl rfl rfl rfl (by decide +kernel) ?_
        rcases h55 : rHours c w 2 with _ | q55
        · dsimp only [zo]
          refine z_if_ne hX (off := 12) 70 (by decide +kernel) (by decide) ⟨by decide, by decide⟩ (fun c58 => by exact absurd c58 (by decide)) (fun c58 => ?_)
          refine z_b hX fo_X5 [.aload_n 0, .aload_n 1, .iconst 3] 64 (by decide +kernel) rfl ?_
          refine z_cV hX m_X5_lacksThread l_X5_44 p_X5_lacksThread (c_X5_lacksThread hg ⟨by omega, by omega⟩) rfl rfl rfl rfl rfl rfl (by decide +kernel) ?_
          rcases h64 : rThread c 3 with _ | q64
          · dsimp only [zo]
            refine z_if_eq hX (off := 7) 74 (by decide +kernel) (by decide) ⟨by decide, by decide⟩ (fun c67 => ?_) (fun c67 => by exact absurd c67 (by decide))
            refine z_b hX fo_X5 [.iconst 0] 75 (by decide +kernel) rfl ?_
            exact z_zret hX hR (by decide +kernel) (by decide +kernel) ⟨by unfold rWiden; simp only [h13, h22, e36, h55, h64, ror, zo], by unfold rWiden; simp only [h13, h22, e36, h55, h64, ror, zoσ]⟩
          · dsimp only [zo]
            refine z_if_eq hX (off := 7) 74 (by decide +kernel) (by decide) ⟨by decide, by decide⟩ (fun c67 => by exact absurd c67 (by decide)) (fun c67 => ?_)
            refine z_b hX fo_X5 [.iconst 1] 71 (by decide +kernel) rfl ?_
            refine z_goto hX (off := 4) 75 (by decide +kernel) (by decide) ?_
            exact z_zret hX hR (by decide +kernel) (by decide +kernel) ⟨by unfold rWiden; simp only [h13, h22, e36, h55, h64, ror, zo], by unfold rWiden; simp only [h13, h22, e36, h55, h64, ror, zoσ]⟩
        · dsimp only [zo]
          refine z_if_ne hX (off := 12) 70 (by decide +kernel) (by decide) ⟨by decide, by decide⟩ (fun c58 => ?_) (fun c58 => by exact absurd c58 (by decide))
          refine z_b hX fo_X5 [.iconst 1] 71 (by decide +kernel) rfl ?_
          refine z_goto hX (off := 4) 75 (by decide +kernel) (by decide) ?_
          exact z_zret hX hR (by decide +kernel) (by decide +kernel) ⟨by unfold rWiden; simp only [h13, h22, e36, h55, ror, zo], by unfold rWiden; simp only [h13, h22, e36, h55, ror, zoσ]⟩
      · have e36 : rWide c k = some _ := if_pos (by omega)
        refine z_b hX fo_X5 [.iconst 1] 37 (by decide +kernel) rfl ?_
        refine z_goto hX (off := 4) 41 (by decide +kernel) (by decide) ?_
        refine z_b hX fo_X5 [.bipush 10, .iload 4] 45 (by decide +kernel) rfl ?_
        refine z_cV hX m_X5_tell l_X5_18 p_X5_tell c_tell1 rfl rfl rfl rfl rfl rfl (by decide +kernel) ?_
        refine z_if_ne hX (off := 22) 70 (by decide +kernel) (by decide) ⟨by decide, by decide⟩ (fun c48 => ?_) (fun c48 => by exact absurd c48 (by decide))
        refine z_b hX fo_X5 [.iconst 1] 71 (by decide +kernel) rfl ?_
        refine z_goto hX (off := 4) 75 (by decide +kernel) (by decide) ?_
        exact z_zret hX hR (by decide +kernel) (by decide +kernel) ⟨by unfold rWiden; simp only [h13, h22, e36, ror, zo], by unfold rWiden; simp only [h13, h22, e36, ror, zoσ]⟩
    · dsimp only [zo]
      refine z_if_ne hX (off := 45) 70 (by decide +kernel) (by decide) ⟨by decide, by decide⟩ (fun c25 => ?_) (fun c25 => by exact absurd c25 (by decide))
      refine z_b hX fo_X5 [.iconst 1] 71 (by decide +kernel) rfl ?_
      refine z_goto hX (off := 4) 75 (by decide +kernel) (by decide) ?_
      exact z_zret hX hR (by decide +kernel) (by decide +kernel) ⟨by unfold rWiden; simp only [h13, h22, ror, zo], by unfold rWiden; simp only [h13, h22, ror, zoσ]⟩
  · dsimp only [zo]
    refine z_if_ne hX (off := 54) 70 (by decide +kernel) (by decide) ⟨by decide, by decide⟩ (fun c16 => ?_) (fun c16 => by exact absurd c16 (by decide))
    refine z_b hX fo_X5 [.iconst 1] 71 (by decide +kernel) rfl ?_
    refine z_goto hX (off := 4) 75 (by decide +kernel) (by decide) ?_
    exact z_zret hX hR (by decide +kernel) (by decide +kernel) ⟨by unfold rWiden; simp only [h13, ror, zo], by unfold rWiden; simp only [h13, ror, zoσ]⟩
set_option maxHeartbeats 1000000 in
theorem c_X5_againstPatching {E : zE} {w : Nat} {B : Int} {σ : Nat → Nat → Int} {c : Nat → Int} {l : (Nat → Int64) × (Nat → UInt64)} (hg : Rg B c) (hw : w < 4) : Rv E yX5_againstPatching (Cond.code yX5_againstPatching cX5_againstPatching 3 (Option.some FieldType.boolean)) 3 [vr 14, vr 1, vi (w : Int)] ((zs σ 21 c, l)) (vi (zo (rPatch c w))) ((zs (zoσ (rPatch c w) σ) 21 c, l)) := by
  refine Ctr_of (own := RX5) (by decide +kernel) rfl rfl (fun Y hX hR hnx => ?_)
  have h1 := Rg.tornN hg 32 (by omega)
  have h2 := hg.g3
  refine z_b hX fo_X5 [.aload_n 0, .aload_n 1, .iload_n 2] 3 (by decide +kernel) rfl ?_
  refine z_cV hX m_X5_isTooSore l_X5_38 p_X5_isTooSore (c_X5_isTooSore hg hw) rfl rfl rfl rfl rfl rfl (by decide +kernel) ?_
  rcases h3 : rSore c w with _ | q3
  · dsimp only [zo]
    refine z_if_ne hX (off := 58) 64 (by decide +kernel) (by decide) ⟨by decide, by decide⟩ (fun c6 => by exact absurd c6 (by decide)) (fun c6 => ?_)
    refine z_b hX fo_X5 [.aload_n 0, .aload_n 1] 11 (by decide +kernel) rfl ?_
    refine z_cV hX m_X6_tornPanels l_X5_55 p_X6_tornPanels c_X6_tornPanels rfl rfl rfl rfl rfl rfl (by decide +kernel) ?_
    refine z_if_ne hX (off := 7) 21 (by decide +kernel) (by decide) ⟨by omega, by omega⟩ (fun c14 => ?_) (fun c14 => ?_)
    · have e17 : rNoTorn c = none := if_neg (by omega)
      refine z_b hX fo_X5 [.iconst 0, .bipush 11, .iconst 0] 25 (by decide +kernel) rfl ?_
      refine z_cV hX m_X5_tell l_X5_18 p_X5_tell c_tell0 rfl rfl rfl rfl rfl rfl (by decide +kernel) ?_
      refine z_if_ne hX (off := 36) 64 (by decide +kernel) (by decide) ⟨by decide, by decide⟩ (fun c28 => by exact absurd c28 (by decide)) (fun c28 => ?_)
      refine z_b hX fo_X5 [.aload_n 0, .aload_n 1, .iconst 3] 34 (by decide +kernel) rfl ?_
      refine z_cV hX m_X6_at l_X5_30 p_X6_at (c_at (j := 3) (by omega) (by omega)) rfl rfl rfl rfl rfl rfl (by decide +kernel) ?_
      refine z_if_ne hX (off := 7) 44 (by decide +kernel) (by decide) ⟨by omega, by omega⟩ (fun c37 => ?_) (fun c37 => ?_)
      · have e40 : rNoPatch c = none := if_neg (by omega)
        refine z_b hX fo_X5 [.iconst 0, .bipush 12, .iconst 0] 48 (by decide +kernel) rfl ?_
        refine z_cV hX m_X5_tell l_X5_18 p_X5_tell c_tell0 rfl rfl rfl rfl rfl rfl (by decide +kernel) ?_
        refine z_if_ne hX (off := 13) 64 (by decide +kernel) (by decide) ⟨by decide, by decide⟩ (fun c51 => by exact absurd c51 (by decide)) (fun c51 => ?_)
        refine z_b hX fo_X5 [.aload_n 0, .aload_n 1, .iload_n 2, .iconst 1] 58 (by decide +kernel) rfl ?_
        refine z_cV hX m_X5_lacksHours l_X5_41 p_X5_lacksHours (c_X5_lacksHours hg hw ⟨by omega, by omega⟩) rfl rfl rfl rfl rfl rfl (by decide +kernel) ?_
        rcases h58 : rHours c w 1 with _ | q58
        · dsimp only [zo]
          refine z_if_eq hX (off := 7) 68 (by decide +kernel) (by decide) ⟨by decide, by decide⟩ (fun c61 => ?_) (fun c61 => by exact absurd c61 (by decide))
          refine z_b hX fo_X5 [.iconst 0] 69 (by decide +kernel) rfl ?_
          exact z_zret hX hR (by decide +kernel) (by decide +kernel) ⟨by unfold rPatch; simp only [h3, e17, e40, h58, ror, zo], by unfold rPatch; simp only [h3, e17, e40, h58, ror, zoσ]⟩
        · dsimp only [zo]
          refine z_if_eq hX (off := 7) 68 (by decide +kernel) (by decide) ⟨by decide, by decide⟩ (fun c61 => by exact absurd c61 (by decide)) (fun c61 => ?_)
          refine z_b hX fo_X5 [.iconst 1] 65 (by decide +kernel) rfl ?_
          refine z_goto hX (off := 4) 69 (by decide +kernel) (by decide) ?_
          exact z_zret hX hR (by decide +kernel) (by decide +kernel) ⟨by unfold rPatch; simp only [h3, e17, e40, h58, ror, zo], by unfold rPatch; simp only [h3, e17, e40, h58, ror, zoσ]⟩
      · have e40 : rNoPatch c = some _ := if_pos (by omega)
        refine z_b hX fo_X5 [.iconst 1] 41 (by decide +kernel) rfl ?_
        refine z_goto hX (off := 4) 45 (by decide +kernel) (by decide) ?_
        refine z_b hX fo_X5 [.bipush 12, .iconst 0] 48 (by decide +kernel) rfl ?_
        refine z_cV hX m_X5_tell l_X5_18 p_X5_tell c_tell1 rfl rfl rfl rfl rfl rfl (by decide +kernel) ?_
        refine z_if_ne hX (off := 13) 64 (by decide +kernel) (by decide) ⟨by decide, by decide⟩ (fun c51 => ?_) (fun c51 => by exact absurd c51 (by decide))
        refine z_b hX fo_X5 [.iconst 1] 65 (by decide +kernel) rfl ?_
        refine z_goto hX (off := 4) 69 (by decide +kernel) (by decide) ?_
        exact z_zret hX hR (by decide +kernel) (by decide +kernel) ⟨by unfold rPatch; simp only [h3, e17, e40, ror, zo], by unfold rPatch; simp only [h3, e17, e40, ror, zoσ]⟩
    · have e17 : rNoTorn c = some _ := if_pos (by omega)
      refine z_b hX fo_X5 [.iconst 1] 18 (by decide +kernel) rfl ?_
      refine z_goto hX (off := 4) 22 (by decide +kernel) (by decide) ?_
      refine z_b hX fo_X5 [.bipush 11, .iconst 0] 25 (by decide +kernel) rfl ?_
      refine z_cV hX m_X5_tell l_X5_18 p_X5_tell c_tell1 rfl rfl rfl rfl rfl rfl (by decide +kernel) ?_
      refine z_if_ne hX (off := 36) 64 (by decide +kernel) (by decide) ⟨by decide, by decide⟩ (fun c28 => ?_) (fun c28 => by exact absurd c28 (by decide))
      refine z_b hX fo_X5 [.iconst 1] 65 (by decide +kernel) rfl ?_
      refine z_goto hX (off := 4) 69 (by decide +kernel) (by decide) ?_
      exact z_zret hX hR (by decide +kernel) (by decide +kernel) ⟨by unfold rPatch; simp only [h3, e17, ror, zo], by unfold rPatch; simp only [h3, e17, ror, zoσ]⟩
  · dsimp only [zo]
    refine z_if_ne hX (off := 58) 64 (by decide +kernel) (by decide) ⟨by decide, by decide⟩ (fun c6 => ?_) (fun c6 => by exact absurd c6 (by decide))
    refine z_b hX fo_X5 [.iconst 1] 65 (by decide +kernel) rfl ?_
    refine z_goto hX (off := 4) 69 (by decide +kernel) (by decide) ?_
    exact z_zret hX hR (by decide +kernel) (by decide +kernel) ⟨by unfold rPatch; simp only [h3, ror, zo], by unfold rPatch; simp only [h3, ror, zoσ]⟩
set_option maxHeartbeats 1000000 in
theorem c_X5_againstPacking {E : zE} {k t : Nat} {B : Int} {σ : Nat → Nat → Int} {c : Nat → Int} {l : (Nat → Int64) × (Nat → UInt64)} (hg : Rg B c) (hk : k < 12) (ht : t < 4) : Rv E yX5_againstPacking (Cond.code yX5_againstPacking cX5_againstPacking 4 (Option.some FieldType.boolean)) 3 [vr 14, vr 1, vi (k : Int), vi (t : Int)] ((zs σ 21 c, l)) (vi (zo (rPack c k t))) ((zs (zoσ (rPack c k t) σ) 21 c, l)) := by
  refine Ctr_of (own := RX5) (by decide +kernel) rfl rfl (fun Y hX hR hnx => ?_)
  refine z_b hX fo_X5 [.aload_n 0, .aload_n 1, .iload_n 2] 3 (by decide +kernel) rfl ?_
  refine z_cV hX m_X5_isPackedAway l_X5_34 p_X5_isPackedAway (c_X5_isPackedAway hg hk) rfl rfl rfl rfl rfl rfl (by decide +kernel) ?_
  rcases h3 : rPacked c k with _ | q3
  · dsimp only [zo]
    refine z_if_ne hX (off := 28) 34 (by decide +kernel) (by decide) ⟨by decide, by decide⟩ (fun c6 => by exact absurd c6 (by decide)) (fun c6 => ?_)
    refine z_b hX fo_X5 [.aload_n 0, .aload_n 1, .iload_n 3] 12 (by decide +kernel) rfl ?_
    refine z_cV hX m_X5_isLoaded l_X5_59 p_X5_isLoaded (c_X5_isLoaded hg ⟨by omega, by omega⟩) rfl rfl rfl rfl rfl rfl (by decide +kernel) ?_
    rcases h12 : rLoaded c (t : Int) with _ | q12
    · dsimp only [zo]
      refine z_if_ne hX (off := 19) 34 (by decide +kernel) (by decide) ⟨by decide, by decide⟩ (fun c15 => by exact absurd c15 (by decide)) (fun c15 => ?_)
      refine z_b hX fo_X5 [.aload_n 0, .aload_n 1, .bipush 121, .iload_n 3, .iadd] 24 (by decide +kernel) rfl ?_
      refine z_cV hX m_X6_at l_X5_30 p_X6_at (c_at (j := (121 + t)) (by omega) (by omega)) rfl rfl rfl rfl rfl rfl (by decide +kernel) ?_
      refine z_b hX fo_X5 [.iconst 5] 28 (by decide +kernel) rfl ?_
      refine z_cV hX m_X5_againstMore l_X5_62 p_X5_againstMore (c_X5_againstMore (Rg.zi (hg.intr ht) (by decide) (by decide)) ⟨by decide, by decide⟩) rfl rfl rfl rfl rfl rfl (by decide +kernel) ?_
      rcases h28 : rMore (c (121 + t)) 5 with _ | q28
      · dsimp only [zo]
        refine z_if_eq hX (off := 7) 38 (by decide +kernel) (by decide) ⟨by decide, by decide⟩ (fun c31 => ?_) (fun c31 => by exact absurd c31 (by decide))
        refine z_b hX fo_X5 [.iconst 0] 39 (by decide +kernel) rfl ?_
        exact z_zret hX hR (by decide +kernel) (by decide +kernel) ⟨by unfold rPack; simp only [h3, h12, h28, ror, zo], by unfold rPack; simp only [h3, h12, h28, ror, zoσ]⟩
      · dsimp only [zo]
        refine z_if_eq hX (off := 7) 38 (by decide +kernel) (by decide) ⟨by decide, by decide⟩ (fun c31 => by exact absurd c31 (by decide)) (fun c31 => ?_)
        refine z_b hX fo_X5 [.iconst 1] 35 (by decide +kernel) rfl ?_
        refine z_goto hX (off := 4) 39 (by decide +kernel) (by decide) ?_
        exact z_zret hX hR (by decide +kernel) (by decide +kernel) ⟨by unfold rPack; simp only [h3, h12, h28, ror, zo], by unfold rPack; simp only [h3, h12, h28, ror, zoσ]⟩
    · dsimp only [zo]
      refine z_if_ne hX (off := 19) 34 (by decide +kernel) (by decide) ⟨by decide, by decide⟩ (fun c15 => ?_) (fun c15 => by exact absurd c15 (by decide))
      refine z_b hX fo_X5 [.iconst 1] 35 (by decide +kernel) rfl ?_
      refine z_goto hX (off := 4) 39 (by decide +kernel) (by decide) ?_
      exact z_zret hX hR (by decide +kernel) (by decide +kernel) ⟨by unfold rPack; simp only [h3, h12, ror, zo], by unfold rPack; simp only [h3, h12, ror, zoσ]⟩
  · dsimp only [zo]
    refine z_if_ne hX (off := 28) 34 (by decide +kernel) (by decide) ⟨by decide, by decide⟩ (fun c6 => ?_) (fun c6 => by exact absurd c6 (by decide))
    refine z_b hX fo_X5 [.iconst 1] 35 (by decide +kernel) rfl ?_
    refine z_goto hX (off := 4) 39 (by decide +kernel) (by decide) ?_
    exact z_zret hX hR (by decide +kernel) (by decide +kernel) ⟨by unfold rPack; simp only [h3, ror, zo], by unfold rPack; simp only [h3, ror, zoσ]⟩
set_option maxHeartbeats 1000000 in
theorem c_X5_againstUnpacking {E : zE} {k : Nat} {B : Int} {σ : Nat → Nat → Int} {c : Nat → Int} {l : (Nat → Int64) × (Nat → UInt64)} (hg : Rg B c) (hk : k < 12) : Rv E yX5_againstUnpacking (Cond.code yX5_againstUnpacking cX5_againstUnpacking 4 (Option.some FieldType.boolean)) 3 [vr 14, vr 1, vi (k : Int)] ((zs σ 21 c, l)) (vi (zo (rUnpack c k))) ((zs (zoσ (rUnpack c k) σ) 21 c, l)) := by
  refine Ctr_of (own := RX5) (by decide +kernel) rfl rfl (fun Y hX hR hnx => ?_)
  have h1 := hg.tr hk
  refine z_b hX fo_X5 [.aload_n 1, .bipush 61, .iload_n 2, .iadd] 5 (by decide +kernel) rfl ?_
  refine z_cV hX m_X6_at l_X5_30 p_X6_at (c_at (j := (61 + k)) (by omega) (by omega)) rfl rfl rfl rfl rfl rfl (by decide +kernel) ?_
  refine z_b hX fo_X5 [.istore_n 3, .aload_n 0, .iload_n 3, .iconst (-1)] 12 (by decide +kernel) rfl ?_
  refine z_ic_ne hX (off := 7) 19 (by decide +kernel) (by decide) ⟨by omega, by omega⟩ ⟨by omega, by omega⟩ (fun c12 => ?_) (fun c12 => ?_)
  · have e15 : rNoTr c k = none := if_neg (by omega)
    refine z_b hX fo_X5 [.iconst 0, .bipush 18, .iload_n 2] 23 (by decide +kernel) rfl ?_
    refine z_cV hX m_X5_tell l_X5_18 p_X5_tell c_tell0 rfl rfl rfl rfl rfl rfl (by decide +kernel) ?_
    refine z_if_ne hX (off := 12) 38 (by decide +kernel) (by decide) ⟨by decide, by decide⟩ (fun c26 => by exact absurd c26 (by decide)) (fun c26 => ?_)
    refine z_b hX fo_X5 [.aload_n 0, .aload_n 1, .iload_n 3] 32 (by decide +kernel) rfl ?_
    refine z_cV hX m_X5_isLoaded l_X5_59 p_X5_isLoaded (c_X5_isLoaded hg ⟨by omega, by omega⟩) rfl rfl rfl rfl rfl rfl (by decide +kernel) ?_
    rcases h32 : rLoaded c (c (61 + k)) with _ | q32
    · dsimp only [zo]
      refine z_if_eq hX (off := 7) 42 (by decide +kernel) (by decide) ⟨by decide, by decide⟩ (fun c35 => ?_) (fun c35 => by exact absurd c35 (by decide))
      refine z_b hX fo_X5 [.iconst 0] 43 (by decide +kernel) rfl ?_
      exact z_zret hX hR (by decide +kernel) (by decide +kernel) ⟨by unfold rUnpack; simp only [e15, h32, ror, zo], by unfold rUnpack; simp only [e15, h32, ror, zoσ]⟩
    · dsimp only [zo]
      refine z_if_eq hX (off := 7) 42 (by decide +kernel) (by decide) ⟨by decide, by decide⟩ (fun c35 => by exact absurd c35 (by decide)) (fun c35 => ?_)
      refine z_b hX fo_X5 [.iconst 1] 39 (by decide +kernel) rfl ?_
      refine z_goto hX (off := 4) 43 (by decide +kernel) (by decide) ?_
      exact z_zret hX hR (by decide +kernel) (by decide +kernel) ⟨by unfold rUnpack; simp only [e15, h32, ror, zo], by unfold rUnpack; simp only [e15, h32, ror, zoσ]⟩
  · have e15 : rNoTr c k = some _ := if_pos (by omega)
    refine z_b hX fo_X5 [.iconst 1] 16 (by decide +kernel) rfl ?_
    refine z_goto hX (off := 4) 20 (by decide +kernel) (by decide) ?_
    refine z_b hX fo_X5 [.bipush 18, .iload_n 2] 23 (by decide +kernel) rfl ?_
    refine z_cV hX m_X5_tell l_X5_18 p_X5_tell c_tell1 rfl rfl rfl rfl rfl rfl (by decide +kernel) ?_
    refine z_if_ne hX (off := 12) 38 (by decide +kernel) (by decide) ⟨by decide, by decide⟩ (fun c26 => ?_) (fun c26 => by exact absurd c26 (by decide))
    refine z_b hX fo_X5 [.iconst 1] 39 (by decide +kernel) rfl ?_
    refine z_goto hX (off := 4) 43 (by decide +kernel) (by decide) ?_
    exact z_zret hX hR (by decide +kernel) (by decide +kernel) ⟨by unfold rUnpack; simp only [e15, ror, zo], by unfold rUnpack; simp only [e15, ror, zoσ]⟩
set_option maxHeartbeats 1000000 in
theorem c_X5_againstLoading {E : zE} {t : Nat} {B : Int} {σ : Nat → Nat → Int} {c : Nat → Int} {l : (Nat → Int64) × (Nat → UInt64)} (hg : Rg B c) (ht : t < 4) : Rv E yX5_againstLoading (Cond.code yX5_againstLoading cX5_againstLoading 3 (Option.some FieldType.boolean)) 3 [vr 14, vr 1, vi (t : Int)] ((zs σ 21 c, l)) (vi (zo (rLoaded c (t : Int)))) ((zs (zoσ (rLoaded c (t : Int)) σ) 21 c, l)) := by
  refine Ctr_of (own := RX5) (by decide +kernel) rfl rfl (fun Y hX hR hnx => ?_)
  refine z_b hX fo_X5 [.aload_n 0, .aload_n 1, .iload_n 2] 3 (by decide +kernel) rfl ?_
  refine z_cV hX m_X5_isLoaded l_X5_59 p_X5_isLoaded (c_X5_isLoaded hg ⟨by omega, by omega⟩) rfl rfl rfl rfl rfl rfl (by decide +kernel) ?_
  exact z_zret hX hR (zo_nar _) (by decide +kernel) ⟨rfl, rfl⟩
set_option maxHeartbeats 1000000 in
theorem c_X5_againstUnloading {E : zE} {B : Int} {σ : Nat → Nat → Int} {c : Nat → Int} {l : (Nat → Int64) × (Nat → UInt64)} (hg : Rg B c) : Rv E yX5_againstUnloading (Cond.code yX5_againstUnloading cX5_againstUnloading 2 (Option.some FieldType.boolean)) 1 [vr 14, vr 1] ((zs σ 21 c, l)) (vi (zo (rUnload c))) ((zs (zoσ (rUnload c) σ) 21 c, l)) := by
  refine Ctr_of (own := RX5) (by decide +kernel) rfl rfl (fun Y hX hR hnx => ?_)
  have h1 := hg.loaded
  refine z_b hX fo_X5 [.aload_n 0, .aload_n 1, .bipush 12] 4 (by decide +kernel) rfl ?_
  refine z_cV hX m_X6_at l_X5_30 p_X6_at (c_at (j := 12) (by omega) (by omega)) rfl rfl rfl rfl rfl rfl (by decide +kernel) ?_
  refine z_if_ne hX (off := 7) 14 (by decide +kernel) (by decide) ⟨by omega, by omega⟩ (fun c7 => ?_) (fun c7 => ?_)
  · have e1 : rUnload c = none := if_neg (by omega)
    refine z_b hX fo_X5 [.iconst 0, .bipush 17, .iconst 0] 18 (by decide +kernel) rfl ?_
    refine z_cV hX m_X5_tell l_X5_18 p_X5_tell c_tell0 rfl rfl rfl rfl rfl rfl (by decide +kernel) ?_
    exact z_zret hX hR (by decide +kernel) (by decide +kernel) ⟨by rw [e1]; rfl, by rw [e1]; rfl⟩
  · have e1 : rUnload c = some _ := if_pos (by omega)
    refine z_b hX fo_X5 [.iconst 1] 11 (by decide +kernel) rfl ?_
    refine z_goto hX (off := 4) 15 (by decide +kernel) (by decide) ?_
    refine z_b hX fo_X5 [.bipush 17, .iconst 0] 18 (by decide +kernel) rfl ?_
    refine z_cV hX m_X5_tell l_X5_18 p_X5_tell c_tell1 rfl rfl rfl rfl rfl rfl (by decide +kernel) ?_
    exact z_zret hX hR (by decide +kernel) (by decide +kernel) ⟨by rw [e1]; rfl, by rw [e1]; rfl⟩
set_option maxHeartbeats 1000000 in
theorem c_X5_isOpen {E : zE} {k a : Nat} {B : Int} {σ : Nat → Nat → Int} {c : Nat → Int} {l : (Nat → Int64) × (Nat → UInt64)} (hg : Rg B c) (hk : k < 12) (ha : a < 6) : Rv E yX5_isOpen (Cond.code yX5_isOpen cX5_isOpen 4 (Option.some FieldType.boolean)) 2 [vr 14, vr 1, vi (k : Int), vi (a : Int)] ((zs σ 21 c, l)) (vi (zo (rOpen c k a))) ((zs (zoσ (rOpen c k a) σ) 21 c, l)) := by
  refine Ctr_of (own := RX5) (by decide +kernel) rfl rfl (fun Y hX hR hnx => ?_)
  have h1 := hg.rips hk
  refine z_b hX fo_X5 [.aload_n 0, .aload_n 1, .bipush 25, .iload_n 2, .iadd] 6 (by decide +kernel) rfl ?_
  refine z_cV hX m_X6_at l_X5_30 p_X6_at (c_at (j := (25 + k)) (by omega) (by omega)) rfl rfl rfl rfl rfl rfl (by decide +kernel) ?_
  refine z_if_le hX (off := 7) 16 (by decide +kernel) (by decide) ⟨by omega, by omega⟩ (fun c9 => ?_) (fun c9 => ?_)
  · have e12 : rOpen0 c k = none := if_neg (by omega)
    refine z_b hX fo_X5 [.iconst 0, .bipush 14, .iconst 0] 20 (by decide +kernel) rfl ?_
    refine z_cV hX m_X5_tell l_X5_18 p_X5_tell c_tell0 rfl rfl rfl rfl rfl rfl (by decide +kernel) ?_
    refine z_if_ne hX (off := 34) 57 (by decide +kernel) (by decide) ⟨by decide, by decide⟩ (fun c23 => by exact absurd c23 (by decide)) (fun c23 => ?_)
    refine z_b hX fo_X5 [.aload_n 0, .aload_n 1, .iload_n 2] 29 (by decide +kernel) rfl ?_
    refine z_cS hX m_X9_hasGaps l_X5_69 p_X9_hasGaps (c_X9_hasGaps hg hk) rfl rfl rfl rfl (by decide +kernel) ?_
    by_cases hh : 10 < c (37 + k)
    · have e29 : rOpen1 c k = some _ := if_pos hh
      rw [if_pos hh]
      refine z_b hX fo_X5 [.bipush 14, .iconst 1] 35 (by decide +kernel) rfl ?_
      refine z_cV hX m_X5_tell l_X5_18 p_X5_tell c_tell1 rfl rfl rfl rfl rfl rfl (by decide +kernel) ?_
      refine z_if_ne hX (off := 19) 57 (by decide +kernel) (by decide) ⟨by decide, by decide⟩ (fun c38 => ?_) (fun c38 => by exact absurd c38 (by decide))
      refine z_b hX fo_X5 [.iconst 1] 58 (by decide +kernel) rfl ?_
      refine z_goto hX (off := 4) 62 (by decide +kernel) (by decide) ?_
      exact z_zret hX hR (by decide +kernel) (by decide +kernel) ⟨by unfold rOpen; simp only [e12, e29, ror, zo], by unfold rOpen; simp only [e12, e29, ror, zoσ]⟩
    · have e29 : rOpen1 c k = none := if_neg hh
      rw [if_neg hh]
      refine z_b hX fo_X5 [.bipush 14, .iconst 1] 35 (by decide +kernel) rfl ?_
      refine z_cV hX m_X5_tell l_X5_18 p_X5_tell c_tell0 rfl rfl rfl rfl rfl rfl (by decide +kernel) ?_
      refine z_if_ne hX (off := 19) 57 (by decide +kernel) (by decide) ⟨by decide, by decide⟩ (fun c38 => by exact absurd c38 (by decide)) (fun c38 => ?_)
      refine z_b hX fo_X5 [.aload_n 0, .aload_n 1, .iload_n 2, .iload_n 3] 45 (by decide +kernel) rfl ?_
      refine z_cS hX m_X9_isTooSmall l_X5_72 p_X9_isTooSmall (c_X9_isTooSmall hg hk ha) rfl rfl rfl rfl (by decide +kernel) ?_
      by_cases hi : c (13 + k) < c (85 + a)
      · have e45 : rOpen2 c k a = some _ := if_pos hi
        rw [if_pos hi]
        refine z_b hX fo_X5 [.bipush 14, .iconst 2] 51 (by decide +kernel) rfl ?_
        refine z_cV hX m_X5_tell l_X5_18 p_X5_tell c_tell1 rfl rfl rfl rfl rfl rfl (by decide +kernel) ?_
        refine z_if_eq hX (off := 7) 61 (by decide +kernel) (by decide) ⟨by decide, by decide⟩ (fun c54 => by exact absurd c54 (by decide)) (fun c54 => ?_)
        refine z_b hX fo_X5 [.iconst 1] 58 (by decide +kernel) rfl ?_
        refine z_goto hX (off := 4) 62 (by decide +kernel) (by decide) ?_
        exact z_zret hX hR (by decide +kernel) (by decide +kernel) ⟨by unfold rOpen; simp only [e12, e29, e45, ror, zo], by unfold rOpen; simp only [e12, e29, e45, ror, zoσ]⟩
      · have e45 : rOpen2 c k a = none := if_neg hi
        rw [if_neg hi]
        refine z_b hX fo_X5 [.bipush 14, .iconst 2] 51 (by decide +kernel) rfl ?_
        refine z_cV hX m_X5_tell l_X5_18 p_X5_tell c_tell0 rfl rfl rfl rfl rfl rfl (by decide +kernel) ?_
        refine z_if_eq hX (off := 7) 61 (by decide +kernel) (by decide) ⟨by decide, by decide⟩ (fun c54 => ?_) (fun c54 => by exact absurd c54 (by decide))
        refine z_b hX fo_X5 [.iconst 0] 62 (by decide +kernel) rfl ?_
        exact z_zret hX hR (by decide +kernel) (by decide +kernel) ⟨by unfold rOpen; simp only [e12, e29, e45, ror, zo], by unfold rOpen; simp only [e12, e29, e45, ror, zoσ]⟩
  · have e12 : rOpen0 c k = some _ := if_pos (by omega)
    refine z_b hX fo_X5 [.iconst 1] 13 (by decide +kernel) rfl ?_
    refine z_goto hX (off := 4) 17 (by decide +kernel) (by decide) ?_
    refine z_b hX fo_X5 [.bipush 14, .iconst 0] 20 (by decide +kernel) rfl ?_
    refine z_cV hX m_X5_tell l_X5_18 p_X5_tell c_tell1 rfl rfl rfl rfl rfl rfl (by decide +kernel) ?_
    refine z_if_ne hX (off := 34) 57 (by decide +kernel) (by decide) ⟨by decide, by decide⟩ (fun c23 => ?_) (fun c23 => by exact absurd c23 (by decide))
    refine z_b hX fo_X5 [.iconst 1] 58 (by decide +kernel) rfl ?_
    refine z_goto hX (off := 4) 62 (by decide +kernel) (by decide) ?_
    exact z_zret hX hR (by decide +kernel) (by decide +kernel) ⟨by unfold rOpen; simp only [e12, ror, zo], by unfold rOpen; simp only [e12, ror, zoσ]⟩
set_option maxHeartbeats 1000000 in
theorem c_X5_againstGoingOn {E : zE} {a : Nat} {B : Int} {σ : Nat → Nat → Int} {c : Nat → Int} {l : (Nat → Int64) × (Nat → UInt64)} (hg : Rg B c) (ha : a < 6) : Rv E yX5_againstGoingOn (Cond.code yX5_againstGoingOn cX5_againstGoingOn 5 (Option.some FieldType.boolean)) 3 [vr 14, vr 1, vi (a : Int)] ((zs σ 21 c, l)) (vi (zo (rGo c a))) ((zs (zoσ (rGo c a) σ) 21 c, l)) := by
  refine Ctr_of (own := RX5) (by decide +kernel) rfl rfl (fun Y hX hR hnx => ?_)
  have h1 := hg.acoat ha
  have h2 := Rg.tornN hg 32 (by omega)
  refine z_b hX fo_X5 [.aload_n 1, .bipush 97, .iload_n 2, .iadd] 5 (by decide +kernel) rfl ?_
  refine z_cV hX m_X6_at l_X5_30 p_X6_at (c_at (j := (97 + a)) (by omega) (by omega)) rfl rfl rfl rfl rfl rfl (by decide +kernel) ?_
  refine z_b hX fo_X5 [.istore_n 3, .aload_n 1] 10 (by decide +kernel) rfl ?_
  refine z_cV hX m_X6_tornPanels l_X5_55 p_X6_tornPanels c_X6_tornPanels rfl rfl rfl rfl rfl rfl (by decide +kernel) ?_
  refine z_b hX fo_X5 [.istore 4, .aload_n 0, .iload_n 3, .iconst (-1)] 18 (by decide +kernel) rfl ?_
  refine z_ic_ne hX (off := 7) 25 (by decide +kernel) (by decide) ⟨by omega, by omega⟩ ⟨by omega, by omega⟩ (fun c18 => ?_) (fun c18 => ?_)
  · have e21 : rNoCoat c a = none := if_neg (by omega)
    refine z_b hX fo_X5 [.iconst 0, .bipush 13, .iload_n 2] 29 (by decide +kernel) rfl ?_
    refine z_cV hX m_X5_tell l_X5_18 p_X5_tell c_tell0 rfl rfl rfl rfl rfl rfl (by decide +kernel) ?_
    refine z_if_ne hX (off := 45) 77 (by decide +kernel) (by decide) ⟨by decide, by decide⟩ (fun c32 => by exact absurd c32 (by decide)) (fun c32 => ?_)
    obtain ⟨k, hk⟩ : ∃ k : Nat, c (97 + a) = (k : Int) := ⟨(c (97 + a)).toNat, by omega⟩
    have hkk : (c (97 + a)).toNat = k := by omega
    rw [hk]
    refine z_b hX fo_X5 [.aload_n 0, .aload_n 1, .iload_n 3] 38 (by decide +kernel) rfl ?_
    refine z_cV hX m_X5_isPackedAway l_X5_34 p_X5_isPackedAway (c_X5_isPackedAway hg (show k < 12 by omega)) rfl rfl rfl rfl rfl rfl (by decide +kernel) ?_
    rcases h38 : rPacked c k with _ | q38
    · dsimp only [zo]
      refine z_if_ne hX (off := 36) 77 (by decide +kernel) (by decide) ⟨by decide, by decide⟩ (fun c41 => by exact absurd c41 (by decide)) (fun c41 => ?_)
      refine z_b hX fo_X5 [.aload_n 0, .aload_n 1, .iload_n 3, .iload_n 2] 48 (by decide +kernel) rfl ?_
      refine z_cV hX m_X5_isOpen l_X5_66 p_X5_isOpen (c_X5_isOpen hg (show k < 12 by omega) ha) rfl rfl rfl rfl rfl rfl (by decide +kernel) ?_
      rcases h48 : rOpen c k a with _ | q48
      · dsimp only [zo]
        refine z_if_ne hX (off := 26) 77 (by decide +kernel) (by decide) ⟨by decide, by decide⟩ (fun c51 => by exact absurd c51 (by decide)) (fun c51 => ?_)
        refine z_b hX fo_X5 [.aload_n 0, .iload 4, .bipush 8] 59 (by decide +kernel) rfl ?_
        refine z_ic_le hX (off := 7) 66 (by decide +kernel) (by decide) ⟨by omega, by omega⟩ ⟨by omega, by omega⟩ (fun c59 => ?_) (fun c59 => ?_)
        · have e62 : rTorn c = none := if_neg (by omega)
          refine z_b hX fo_X5 [.iconst 0, .bipush 15, .iload 4] 71 (by decide +kernel) rfl ?_
          refine z_cV hX m_X5_tell l_X5_18 p_X5_tell c_tell0 rfl rfl rfl rfl rfl rfl (by decide +kernel) ?_
          refine z_if_eq hX (off := 7) 81 (by decide +kernel) (by decide) ⟨by decide, by decide⟩ (fun c74 => ?_) (fun c74 => by exact absurd c74 (by decide))
          refine z_b hX fo_X5 [.iconst 0] 82 (by decide +kernel) rfl ?_
          exact z_zret hX hR (by decide +kernel) (by decide +kernel) ⟨by unfold rGo; (try rw [hkk]); simp only [e21, h38, h48, e62, ror, zo], by unfold rGo; (try rw [hkk]); simp only [e21, h38, h48, e62, ror, zoσ]⟩
        · have e62 : rTorn c = some _ := if_pos (by omega)
          refine z_b hX fo_X5 [.iconst 1] 63 (by decide +kernel) rfl ?_
          refine z_goto hX (off := 4) 67 (by decide +kernel) (by decide) ?_
          refine z_b hX fo_X5 [.bipush 15, .iload 4] 71 (by decide +kernel) rfl ?_
          refine z_cV hX m_X5_tell l_X5_18 p_X5_tell c_tell1 rfl rfl rfl rfl rfl rfl (by decide +kernel) ?_
          refine z_if_eq hX (off := 7) 81 (by decide +kernel) (by decide) ⟨by decide, by decide⟩ (fun c74 => by exact absurd c74 (by decide)) (fun c74 => ?_)
          refine z_b hX fo_X5 [.iconst 1] 78 (by decide +kernel) rfl ?_
          refine z_goto hX (off := 4) 82 (by decide +kernel) (by decide) ?_
          exact z_zret hX hR (by decide +kernel) (by decide +kernel) ⟨by unfold rGo; (try rw [hkk]); simp only [e21, h38, h48, e62, ror, zo], by unfold rGo; (try rw [hkk]); simp only [e21, h38, h48, e62, ror, zoσ]⟩
      · dsimp only [zo]
        refine z_if_ne hX (off := 26) 77 (by decide +kernel) (by decide) ⟨by decide, by decide⟩ (fun c51 => ?_) (fun c51 => by exact absurd c51 (by decide))
        refine z_b hX fo_X5 [.iconst 1] 78 (by decide +kernel) rfl ?_
        refine z_goto hX (off := 4) 82 (by decide +kernel) (by decide) ?_
        exact z_zret hX hR (by decide +kernel) (by decide +kernel) ⟨by unfold rGo; (try rw [hkk]); simp only [e21, h38, h48, ror, zo], by unfold rGo; (try rw [hkk]); simp only [e21, h38, h48, ror, zoσ]⟩
    · dsimp only [zo]
      refine z_if_ne hX (off := 36) 77 (by decide +kernel) (by decide) ⟨by decide, by decide⟩ (fun c41 => ?_) (fun c41 => by exact absurd c41 (by decide))
      refine z_b hX fo_X5 [.iconst 1] 78 (by decide +kernel) rfl ?_
      refine z_goto hX (off := 4) 82 (by decide +kernel) (by decide) ?_
      exact z_zret hX hR (by decide +kernel) (by decide +kernel) ⟨by unfold rGo; (try rw [hkk]); simp only [e21, h38, ror, zo], by unfold rGo; (try rw [hkk]); simp only [e21, h38, ror, zoσ]⟩
  · have e21 : rNoCoat c a = some _ := if_pos (by omega)
    refine z_b hX fo_X5 [.iconst 1] 22 (by decide +kernel) rfl ?_
    refine z_goto hX (off := 4) 26 (by decide +kernel) (by decide) ?_
    refine z_b hX fo_X5 [.bipush 13, .iload_n 2] 29 (by decide +kernel) rfl ?_
    refine z_cV hX m_X5_tell l_X5_18 p_X5_tell c_tell1 rfl rfl rfl rfl rfl rfl (by decide +kernel) ?_
    refine z_if_ne hX (off := 45) 77 (by decide +kernel) (by decide) ⟨by decide, by decide⟩ (fun c32 => ?_) (fun c32 => by exact absurd c32 (by decide))
    refine z_b hX fo_X5 [.iconst 1] 78 (by decide +kernel) rfl ?_
    refine z_goto hX (off := 4) 82 (by decide +kernel) (by decide) ?_
    exact z_zret hX hR (by decide +kernel) (by decide +kernel) ⟨by unfold rGo; (try rw [hkk]); simp only [e21, ror, zo], by unfold rGo; (try rw [hkk]); simp only [e21, ror, zoσ]⟩
