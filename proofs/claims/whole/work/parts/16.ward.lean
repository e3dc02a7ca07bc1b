/-! ===== Wardrobe ===== -/
def sCoat (c : Nat → Int) (x : Int) (k : Nat) : Nat → Int := ad (va_up (va_up (va_up (va_up (va_up (va_up c (13 + k) x) (25 + k) 0) (37 + k) 0) (49 + k) (-1)) (61 + k) (-1)) (73 + k) 0) 8 1
def sAct (c : Nat → Int) (x y : Int) (a : Nat) : Nat → Int := ad (va_up (va_up (va_up (va_up c (85 + a) x) (91 + a) y) (97 + a) (-1)) (103 + a) 0) 9 1
def sGive (c : Nat → Int) (a k : Nat) : Nat → Int := va_up (va_up (if 0 ≤ c (97 + a) ∧ c (97 + a) < c 8 then va_up c (49 + (c (97 + a)).toNat) (-1) else c) (97 + a) (k : Int)) (49 + k) (a : Int)
def sRip (c : Nat → Int) (k : Nat) (n : Int) : Nat → Int := ad c (25 + k) (zmn n (9 - c (25 + k)))
def sLose (c : Nat → Int) (k : Nat) (n : Int) : Nat → Int := ad (ad c 5 (zmn n (60 - c (37 + k)))) (37 + k) (zmn n (60 - c (37 + k)))
abbrev zopen (c : Nat → Int) (k a : Nat) : Prop := 0 < c (25 + k) ∨ 10 < c (37 + k) ∨ c (13 + k) < c (85 + a)
abbrev zother (c : Nat → Int) (k : Nat) (a : Int) : Prop := c (49 + k) ≠ -1 ∧ c (49 + k) ≠ a
def zbest (c : Nat → Int) (a : Nat) : Nat → Nat → Int → Int
  | _, 0, b => b
  | i, m + 1, b => zbest c a (i + 1) m (if (¬ zother c i (a : Int) ∧ ¬ zopen c i a) ∧ (b = -1 ∨ c (13 + i) < c (13 + b.toNat)) then (i : Int) else b)
/-- the hours of work: rips, what is missing above 10, sizes -/
def zhrs (r m s w : Int) : Int := r * 1 + (zmx 0 (m - 10) + 10 - 1) / 10 + zmx 0 (w - s) * 2
def zsign (c : Nat → Int) (k : Nat) : Int := if c (61 + k) ≠ -1 then 116 else if 0 < c (25 + k) then 114 else if 10 < c (37 + k) then 115 else if c (49 + k) ≠ -1 then 119 else 99
theorem Rg.zi {B lo hi x : Int} (h : lo ≤ x ∧ x ≤ hi) (h1 : -2147483648 ≤ lo) (h2 : hi < 2147483648) : zi x := ⟨by omega, by omega⟩
set_option maxHeartbeats 1000000 in
theorem c_X9_addCoat {E : zE} {x : Int} {k : Nat} {σ : Nat → Nat → Int} {c : Nat → Int} {l : (Nat → Int64) × (Nat → UInt64)} (hk : c 8 = (k : Int)) (h12 : k < 12) : Rv E yX9_addCoat (Cond.code yX9_addCoat cX9_addCoat 3 (Option.some FieldType.int)) 2 [vr 1, vi x] ((zs σ 21 c, l)) (vi (k : Int)) ((zs σ 21 (sCoat c x k), l)) := by
  refine Ctr_of (own := RX9) (by decide +kernel) rfl rfl (fun Y hX hR hnx => ?_)
  refine z_b hX (fo_no RX9) [.aload_n 0, .bipush 8] 3 (by decide +kernel) rfl ?_
  refine z_cV hX m_X6_at l_X9_11 p_X6_at (c_at (j := 8) (by omega) (by omega)) rfl rfl rfl rfl rfl rfl (by decide +kernel) ?_
  rw [hk]
  refine z_b hX (fo_no RX9) [.istore_n 2, .aload_n 0, .bipush 13, .iload_n 2, .iadd, .iload_n 1] 13 (by decide +kernel) rfl ?_
  refine z_cV0 hX m_X6_put l_X9_15 p_X6_put (c_put (j := (13 + k)) (by omega) (by omega)) rfl rfl rfl rfl rfl rfl (by decide +kernel) ?_
  refine z_b hX (fo_no RX9) [.aload_n 0, .bipush 25, .iload_n 2, .iadd, .iconst 0] 22 (by decide +kernel) rfl ?_
  refine z_cV0 hX m_X6_put l_X9_15 p_X6_put (c_put (j := (25 + k)) (by omega) (by omega)) rfl rfl rfl rfl rfl rfl (by decide +kernel) ?_
  refine z_b hX (fo_no RX9) [.aload_n 0, .bipush 37, .iload_n 2, .iadd, .iconst 0] 31 (by decide +kernel) rfl ?_
  refine z_cV0 hX m_X6_put l_X9_15 p_X6_put (c_put (j := (37 + k)) (by omega) (by omega)) rfl rfl rfl rfl rfl rfl (by decide +kernel) ?_
  refine z_b hX (fo_no RX9) [.aload_n 0, .bipush 49, .iload_n 2, .iadd, .iconst (-1)] 40 (by decide +kernel) rfl ?_
  refine z_cV0 hX m_X6_put l_X9_15 p_X6_put (c_put (j := (49 + k)) (by omega) (by omega)) rfl rfl rfl rfl rfl rfl (by decide +kernel) ?_
  refine z_b hX (fo_no RX9) [.aload_n 0, .bipush 61, .iload_n 2, .iadd, .iconst (-1)] 49 (by decide +kernel) rfl ?_
  refine z_cV0 hX m_X6_put l_X9_15 p_X6_put (c_put (j := (61 + k)) (by omega) (by omega)) rfl rfl rfl rfl rfl rfl (by decide +kernel) ?_
  refine z_b hX (fo_no RX9) [.aload_n 0, .bipush 73, .iload_n 2, .iadd, .iconst 0] 58 (by decide +kernel) rfl ?_
  refine z_cV0 hX m_X6_put l_X9_15 p_X6_put (c_put (j := (73 + k)) (by omega) (by omega)) rfl rfl rfl rfl rfl rfl (by decide +kernel) ?_
  refine z_b hX (fo_no RX9) [.aload_n 0, .bipush 8, .iconst 1] 65 (by decide +kernel) rfl ?_
  refine z_cV hX m_X6_add l_X9_19 p_X6_add (c_add (j := 8) (by omega) (by omega)) rfl rfl rfl rfl rfl rfl (by decide +kernel) ?_
  refine z_b hX (fo_no RX9) [.pop, .iload_n 2] 70 (by decide +kernel) rfl ?_
  exact z_iret hX hR (by decide +kernel) ⟨rfl, rfl⟩
set_option maxHeartbeats 1000000 in
theorem c_X9_addAct {E : zE} {x y : Int} {a : Nat} {σ : Nat → Nat → Int} {c : Nat → Int} {l : (Nat → Int64) × (Nat → UInt64)} (ha : c 9 = (a : Int)) (h6 : a < 6) : Rv E yX9_addAct (Cond.code yX9_addAct cX9_addAct 4 (Option.some FieldType.int)) 2 [vr 1, vi x, vi y] ((zs σ 21 c, l)) (vi (a : Int)) ((zs σ 21 (sAct c x y a), l)) := by
  refine Ctr_of (own := RX9) (by decide +kernel) rfl rfl (fun Y hX hR hnx => ?_)
  refine z_b hX (fo_no RX9) [.aload_n 0, .bipush 9] 3 (by decide +kernel) rfl ?_
  refine z_cV hX m_X6_at l_X9_11 p_X6_at (c_at (j := 9) (by omega) (by omega)) rfl rfl rfl rfl rfl rfl (by decide +kernel) ?_
  rw [ha]
  refine z_b hX (fo_no RX9) [.istore_n 3, .aload_n 0, .bipush 85, .iload_n 3, .iadd, .iload_n 1] 13 (by decide +kernel) rfl ?_
  refine z_cV0 hX m_X6_put l_X9_15 p_X6_put (c_put (j := (85 + a)) (by omega) (by omega)) rfl rfl rfl rfl rfl rfl (by decide +kernel) ?_
  refine z_b hX (fo_no RX9) [.aload_n 0, .bipush 91, .iload_n 3, .iadd, .iload_n 2] 22 (by decide +kernel) rfl ?_
  refine z_cV0 hX m_X6_put l_X9_15 p_X6_put (c_put (j := (91 + a)) (by omega) (by omega)) rfl rfl rfl rfl rfl rfl (by decide +kernel) ?_
  refine z_b hX (fo_no RX9) [.aload_n 0, .bipush 97, .iload_n 3, .iadd, .iconst (-1)] 31 (by decide +kernel) rfl ?_
  refine z_cV0 hX m_X6_put l_X9_15 p_X6_put (c_put (j := (97 + a)) (by omega) (by omega)) rfl rfl rfl rfl rfl rfl (by decide +kernel) ?_
  refine z_b hX (fo_no RX9) [.aload_n 0, .bipush 103, .iload_n 3, .iadd, .iconst 0] 40 (by decide +kernel) rfl ?_
  refine z_cV0 hX m_X6_put l_X9_15 p_X6_put (c_put (j := (103 + a)) (by omega) (by omega)) rfl rfl rfl rfl rfl rfl (by decide +kernel) ?_
  refine z_b hX (fo_no RX9) [.aload_n 0, .bipush 9, .iconst 1] 47 (by decide +kernel) rfl ?_
  refine z_cV hX m_X6_add l_X9_19 p_X6_add (c_add (j := 9) (by omega) (by omega)) rfl rfl rfl rfl rfl rfl (by decide +kernel) ?_
  refine z_b hX (fo_no RX9) [.pop, .iload_n 3] 52 (by decide +kernel) rfl ?_
  exact z_iret hX hR (by decide +kernel) ⟨rfl, rfl⟩
set_option maxHeartbeats 1000000 in
theorem c_X9_give {E : zE} {a k : Nat} {B : Int} {σ : Nat → Nat → Int} {c : Nat → Int} {l : (Nat → Int64) × (Nat → UInt64)} (hg : Rg B c) (ha : a < 6) (hk : k < 12) : Rv E yX9_give (Cond.code yX9_give cX9_give 4 (Option.some FieldType.int)) 2 [vr 1, vi (a : Int), vi (k : Int)] (zs σ 21 c, l) (vi (c (97 + a))) (zs σ 21 (sGive c a k), l) := by
  refine Ctr_of (own := RX9) (by decide +kernel) rfl rfl (fun Y hX hR hnx => ?_)
  refine z_b hX (fo_no RX9) [.aload_n 0, .bipush 97, .iload_n 1, .iadd] 5 (by decide +kernel) rfl ?_
  refine z_cV hX m_X6_at l_X9_11 p_X6_at (c_at (j := (97 + a)) (by omega) (by omega)) rfl rfl rfl rfl rfl rfl (by decide +kernel) ?_
  have hb := hg.acoat ha
  have h8 := hg.coats
  refine z_b hX (fo_no RX9) [.istore_n 3, .aload_n 0, .iload_n 3] 11 (by decide +kernel) rfl ?_
  refine z_cV hX m_X6_hasCoat l_X9_23 p_X6_hasCoat (c_X6_hasCoat ⟨by omega, by omega⟩ ⟨by omega, by omega⟩) rfl rfl rfl rfl rfl rfl (by decide +kernel) ?_
  by_cases hh : 0 ≤ c (97 + a) ∧ c (97 + a) < c 8
  · have e1 : sGive c a k = va_up (va_up (va_up c (49 + (c (97 + a)).toNat) (-1)) (97 + a) (k : Int)) (49 + k) (a : Int) := by unfold sGive; rw [if_pos hh]
    rw [if_pos hh]
    refine z_if_eq hX (off := 12) 26 (by decide +kernel) (by decide) ⟨by decide, by decide⟩ (fun c14 => by exact absurd c14 (by decide)) (fun c14 => ?_)
    refine z_b hX (fo_no RX9) [.aload_n 0, .bipush 49, .iload_n 3, .iadd, .iconst (-1)] 23 (by decide +kernel) rfl ?_
    refine z_cV0 hX m_X6_put l_X9_15 p_X6_put (c_put (j := 49 + (c (97 + a)).toNat) (by omega) (by omega)) rfl rfl rfl rfl rfl rfl (by decide +kernel) ?_
    refine z_b hX (fo_no RX9) [.aload_n 0, .bipush 97, .iload_n 1, .iadd, .iload_n 2] 32 (by decide +kernel) rfl ?_
    refine z_cV0 hX m_X6_put l_X9_15 p_X6_put (c_put (j := (97 + a)) (by omega) (by omega)) rfl rfl rfl rfl rfl rfl (by decide +kernel) ?_
    refine z_b hX (fo_no RX9) [.aload_n 0, .bipush 49, .iload_n 2, .iadd, .iload_n 1] 41 (by decide +kernel) rfl ?_
    refine z_cV0 hX m_X6_put l_X9_15 p_X6_put (c_put (j := (49 + k)) (by omega) (by omega)) rfl rfl rfl rfl rfl rfl (by decide +kernel) ?_
    refine z_b hX (fo_no RX9) [.iload_n 3] 45 (by decide +kernel) rfl ?_
    exact z_iret hX hR (by decide +kernel) ⟨rfl, by rw [e1]⟩
  · have e1 : sGive c a k = va_up (va_up c (97 + a) (k : Int)) (49 + k) (a : Int) := by unfold sGive; rw [if_neg hh]
    rw [if_neg hh]
    refine z_if_eq hX (off := 12) 26 (by decide +kernel) (by decide) ⟨by decide, by decide⟩ (fun c14 => ?_) (fun c14 => by exact absurd rfl c14)
    refine z_b hX (fo_no RX9) [.aload_n 0, .bipush 97, .iload_n 1, .iadd, .iload_n 2] 32 (by decide +kernel) rfl ?_
    refine z_cV0 hX m_X6_put l_X9_15 p_X6_put (c_put (j := (97 + a)) (by omega) (by omega)) rfl rfl rfl rfl rfl rfl (by decide +kernel) ?_
    refine z_b hX (fo_no RX9) [.aload_n 0, .bipush 49, .iload_n 2, .iadd, .iload_n 1] 41 (by decide +kernel) rfl ?_
    refine z_cV0 hX m_X6_put l_X9_15 p_X6_put (c_put (j := (49 + k)) (by omega) (by omega)) rfl rfl rfl rfl rfl rfl (by decide +kernel) ?_
    refine z_b hX (fo_no RX9) [.iload_n 3] 45 (by decide +kernel) rfl ?_
    exact z_iret hX hR (by decide +kernel) ⟨rfl, by rw [e1]⟩
set_option maxHeartbeats 1000000 in
theorem c_X9_addRips {E : zE} {k : Nat} {n B : Int} {σ : Nat → Nat → Int} {c : Nat → Int} {l : (Nat → Int64) × (Nat → UInt64)} (hg : Rg B c) (hk : k < 12) (hn : 1 ≤ n ∧ n ≤ 9) : Rv E yX9_addRips (Cond.code yX9_addRips cX9_addRips 4 (Option.some FieldType.int)) 2 [vr 1, vi (k : Int), vi n] ((zs σ 21 c, l)) (vi (c (25 + k) + zmn n (9 - c (25 + k)))) ((zs σ 21 (sRip c k n), l)) := by
  refine Ctr_of (own := RX9) (by decide +kernel) rfl rfl (fun Y hX hR hnx => ?_)
  have hr := hg.rips hk
  refine z_b hX (fo_no RX9) [.iload_n 2, .bipush 9, .aload_n 0, .bipush 25, .iload_n 1, .iadd] 8 (by decide +kernel) rfl ?_
  refine z_cV hX m_X6_at l_X9_11 p_X6_at (c_at (j := (25 + k)) (by omega) (by omega)) rfl rfl rfl rfl rfl rfl (by decide +kernel) ?_
  refine z_b hX (fo_no RX9) [.isub] 12 (by decide +kernel) rfl ?_
  refine z_min hX lm_X9_27 (by decide +kernel) ⟨by omega, by omega⟩ ⟨by omega, by omega⟩ rfl ?_
  refine z_b hX (fo_no RX9) [.istore_n 3, .aload_n 0, .bipush 25, .iload_n 1, .iadd, .iload_n 3] 22 (by decide +kernel) rfl ?_
  refine z_cV hX m_X6_add l_X9_19 p_X6_add (c_add (j := (25 + k)) (by omega) (by omega)) rfl rfl rfl rfl rfl rfl (by decide +kernel) ?_
  exact z_iret hX hR (by decide +kernel) ⟨rfl, rfl⟩
set_option maxHeartbeats 1000000 in
theorem c_X9_takeOff {E : zE} {k : Nat} {n B : Int} {σ : Nat → Nat → Int} {c : Nat → Int} {l : (Nat → Int64) × (Nat → UInt64)} (hg : Rg B c) (hk : k < 12) (hn : 1 ≤ n ∧ n ≤ 60) : Rv E yX9_takeOff (Cond.code yX9_takeOff cX9_takeOff 4 (Option.some FieldType.int)) 2 [vr 1, vi (k : Int), vi n] ((zs σ 21 c, l)) (vi ((ad c 5 (zmn n (60 - c (37 + k)))) (37 + k) + zmn n (60 - c (37 + k)))) ((zs σ 21 (sLose c k n), l)) := by
  refine Ctr_of (own := RX9) (by decide +kernel) rfl rfl (fun Y hX hR hnx => ?_)
  have hr := hg.miss hk
  refine z_b hX (fo_no RX9) [.iload_n 2, .bipush 60, .aload_n 0, .bipush 37, .iload_n 1, .iadd] 8 (by decide +kernel) rfl ?_
  refine z_cV hX m_X6_at l_X9_11 p_X6_at (c_at (j := (37 + k)) (by omega) (by omega)) rfl rfl rfl rfl rfl rfl (by decide +kernel) ?_
  refine z_b hX (fo_no RX9) [.isub] 12 (by decide +kernel) rfl ?_
  refine z_min hX lm_X9_27 (by decide +kernel) ⟨by omega, by omega⟩ ⟨by omega, by omega⟩ rfl ?_
  refine z_b hX (fo_no RX9) [.istore_n 3, .aload_n 0, .iconst 5, .iload_n 3] 19 (by decide +kernel) rfl ?_
  refine z_cV hX m_X6_add l_X9_19 p_X6_add (c_add (j := 5) (by omega) (by omega)) rfl rfl rfl rfl rfl rfl (by decide +kernel) ?_
  refine z_b hX (fo_no RX9) [.pop, .aload_n 0, .bipush 37, .iload_n 1, .iadd, .iload_n 3] 29 (by decide +kernel) rfl ?_
  refine z_cV hX m_X6_add l_X9_19 p_X6_add (c_add (j := (37 + k)) (by omega) (by omega)) rfl rfl rfl rfl rfl rfl (by decide +kernel) ?_
  exact z_iret hX hR (by decide +kernel) ⟨rfl, rfl⟩
set_option maxHeartbeats 1000000 in
theorem c_X9_hasGaps {E : zE} {k : Nat} {B : Int} {σ : Nat → Nat → Int} {c : Nat → Int} {l : (Nat → Int64) × (Nat → UInt64)} (hg : Rg B c) (hk : k < 12) : Rv E yX9_hasGaps (Cond.code yX9_hasGaps cX9_hasGaps 2 (Option.some FieldType.boolean)) 1 [vr 1, vi (k : Int)] ((zs σ 21 c, l)) (vi (if 10 < c (37 + k) then 1 else 0)) ((zs σ 21 c, l)) := by
  refine Ctr_of (own := RX9) (by decide +kernel) rfl rfl (fun Y hX hR hnx => ?_)
  have hr := hg.miss hk
  refine z_b hX (fo_no RX9) [.aload_n 0, .bipush 37, .iload_n 1, .iadd] 5 (by decide +kernel) rfl ?_
  refine z_cV hX m_X6_at l_X9_11 p_X6_at (c_at (j := (37 + k)) (by omega) (by omega)) rfl rfl rfl rfl rfl rfl (by decide +kernel) ?_
  refine z_b hX (fo_no RX9) [.bipush 10] 10 (by decide +kernel) rfl ?_
  refine z_ic_le hX (off := 7) 17 (by decide +kernel) (by decide) ⟨by omega, by omega⟩ ⟨by omega, by omega⟩ (fun c10 => ?_) (fun c10 => ?_)
  · refine z_b hX (fo_no RX9) [.iconst 0] 18 (by decide +kernel) rfl ?_
    exact z_zret hX hR rfl (by decide +kernel) ⟨by first | rw [if_pos (by omega)] | rw [if_neg (by omega)], rfl⟩
  · refine z_b hX (fo_no RX9) [.iconst 1] 14 (by decide +kernel) rfl ?_
    refine z_goto hX (off := 4) 18 (by decide +kernel) (by decide) ?_
    exact z_zret hX hR rfl (by decide +kernel) ⟨by first | rw [if_pos (by omega)] | rw [if_neg (by omega)], rfl⟩
set_option maxHeartbeats 1000000 in
theorem c_X9_isTooSmall {E : zE} {k a : Nat} {B : Int} {σ : Nat → Nat → Int} {c : Nat → Int} {l : (Nat → Int64) × (Nat → UInt64)} (hg : Rg B c) (hk : k < 12) (ha : a < 6) : Rv E yX9_isTooSmall (Cond.code yX9_isTooSmall cX9_isTooSmall 3 (Option.some FieldType.boolean)) 1 [vr 1, vi (k : Int), vi (a : Int)] ((zs σ 21 c, l)) (vi (if c (13 + k) < c (85 + a) then 1 else 0)) ((zs σ 21 c, l)) := by
  refine Ctr_of (own := RX9) (by decide +kernel) rfl rfl (fun Y hX hR hnx => ?_)
  have hr := hg.size hk
  have hs := hg.asize ha
  refine z_b hX (fo_no RX9) [.aload_n 0, .bipush 13, .iload_n 1, .iadd] 5 (by decide +kernel) rfl ?_
  refine z_cV hX m_X6_at l_X9_11 p_X6_at (c_at (j := (13 + k)) (by omega) (by omega)) rfl rfl rfl rfl rfl rfl (by decide +kernel) ?_
  refine z_b hX (fo_no RX9) [.aload_n 0, .bipush 85, .iload_n 2, .iadd] 13 (by decide +kernel) rfl ?_
  refine z_cV hX m_X6_at l_X9_11 p_X6_at (c_at (j := (85 + a)) (by omega) (by omega)) rfl rfl rfl rfl rfl rfl (by decide +kernel) ?_
  refine z_ic_ge hX (off := 7) 23 (by decide +kernel) (by decide) ⟨by omega, by omega⟩ ⟨by omega, by omega⟩ (fun c16 => ?_) (fun c16 => ?_)
  · refine z_b hX (fo_no RX9) [.iconst 0] 24 (by decide +kernel) rfl ?_
    exact z_zret hX hR rfl (by decide +kernel) ⟨by first | rw [if_pos (by omega)] | rw [if_neg (by omega)], rfl⟩
  · refine z_b hX (fo_no RX9) [.iconst 1] 20 (by decide +kernel) rfl ?_
    refine z_goto hX (off := 4) 24 (by decide +kernel) (by decide) ?_
    exact z_zret hX hR rfl (by decide +kernel) ⟨by first | rw [if_pos (by omega)] | rw [if_neg (by omega)], rfl⟩
set_option maxHeartbeats 1000000 in
theorem c_X9_isOpen {E : zE} {k a : Nat} {B : Int} {σ : Nat → Nat → Int} {c : Nat → Int} {l : (Nat → Int64) × (Nat → UInt64)} (hg : Rg B c) (hk : k < 12) (ha : a < 6) : Rv E yX9_isOpen (Cond.code yX9_isOpen cX9_isOpen 3 (Option.some FieldType.boolean)) 2 [vr 1, vi (k : Int), vi (a : Int)] ((zs σ 21 c, l)) (vi (if zopen c k a then 1 else 0)) ((zs σ 21 c, l)) := by
  refine Ctr_of (own := RX9) (by decide +kernel) rfl rfl (fun Y hX hR hnx => ?_)
  have hr := hg.rips hk
  refine z_b hX (fo_no RX9) [.aload_n 0, .bipush 25, .iload_n 1, .iadd] 5 (by decide +kernel) rfl ?_
  refine z_cV hX m_X6_at l_X9_11 p_X6_at (c_at (j := (25 + k)) (by omega) (by omega)) rfl rfl rfl rfl rfl rfl (by decide +kernel) ?_
  refine z_if_gt hX (off := 20) 28 (by decide +kernel) (by decide) ⟨by omega, by omega⟩ (fun c8 => ?_) (fun c8 => ?_)
  · refine z_b hX (fo_no RX9) [.iconst 1] 29 (by decide +kernel) rfl ?_
    refine z_goto hX (off := 4) 33 (by decide +kernel) (by decide) ?_
    exact z_zret hX hR rfl (by decide +kernel) ⟨by unfold zopen; first | rw [if_pos (by omega)] | (rw [if_pos (Or.inr (Or.inl (by by_cases q : 10 < c (37 + k); exact q; rw [if_neg q] at c16; exact absurd rfl c16)))]) | (rw [if_pos (Or.inr (Or.inr (by by_cases q : c (13 + k) < c (85 + a); exact q; rw [if_neg q] at c25; exact absurd rfl c25)))]) | (rw [if_neg (by intro z; rcases z with z | z | z; omega; rw [if_pos z] at c16; exact absurd c16 (by decide); rw [if_pos z] at c25; exact absurd c25 (by decide))]), rfl⟩
  · refine z_b hX (fo_no RX9) [.aload_n 0, .iload_n 1] 13 (by decide +kernel) rfl ?_
    refine z_cS hX m_X9_hasGaps l_X9_32 p_X9_hasGaps (c_X9_hasGaps hg hk) rfl rfl rfl rfl (by decide +kernel) ?_
    refine z_if_ne hX (off := 12) 28 (by decide +kernel) (by decide) ⟨by split <;> decide, by split <;> decide⟩ (fun c16 => ?_) (fun c16 => ?_)
    · refine z_b hX (fo_no RX9) [.iconst 1] 29 (by decide +kernel) rfl ?_
      refine z_goto hX (off := 4) 33 (by decide +kernel) (by decide) ?_
      exact z_zret hX hR rfl (by decide +kernel) ⟨by unfold zopen; first | rw [if_pos (by omega)] | (rw [if_pos (Or.inr (Or.inl (by by_cases q : 10 < c (37 + k); exact q; rw [if_neg q] at c16; exact absurd rfl c16)))]) | (rw [if_pos (Or.inr (Or.inr (by by_cases q : c (13 + k) < c (85 + a); exact q; rw [if_neg q] at c25; exact absurd rfl c25)))]) | (rw [if_neg (by intro z; rcases z with z | z | z; omega; rw [if_pos z] at c16; exact absurd c16 (by decide); rw [if_pos z] at c25; exact absurd c25 (by decide))]), rfl⟩
    · refine z_b hX (fo_no RX9) [.aload_n 0, .iload_n 1, .iload_n 2] 22 (by decide +kernel) rfl ?_
      refine z_cS hX m_X9_isTooSmall l_X9_38 p_X9_isTooSmall (c_X9_isTooSmall hg hk ha) rfl rfl rfl rfl (by decide +kernel) ?_
      refine z_if_eq hX (off := 7) 32 (by decide +kernel) (by decide) ⟨by split <;> decide, by split <;> decide⟩ (fun c25 => ?_) (fun c25 => ?_)
      · refine z_b hX (fo_no RX9) [.iconst 0] 33 (by decide +kernel) rfl ?_
        exact z_zret hX hR rfl (by decide +kernel) ⟨by unfold zopen; first | rw [if_pos (by omega)] | (rw [if_pos (Or.inr (Or.inl (by by_cases q : 10 < c (37 + k); exact q; rw [if_neg q] at c16; exact absurd rfl c16)))]) | (rw [if_pos (Or.inr (Or.inr (by by_cases q : c (13 + k) < c (85 + a); exact q; rw [if_neg q] at c25; exact absurd rfl c25)))]) | (rw [if_neg (by intro z; rcases z with z | z | z; omega; rw [if_pos z] at c16; exact absurd c16 (by decide); rw [if_pos z] at c25; exact absurd c25 (by decide))]), rfl⟩
      · refine z_b hX (fo_no RX9) [.iconst 1] 29 (by decide +kernel) rfl ?_
        refine z_goto hX (off := 4) 33 (by decide +kernel) (by decide) ?_
        exact z_zret hX hR rfl (by decide +kernel) ⟨by unfold zopen; first | rw [if_pos (by omega)] | (rw [if_pos (Or.inr (Or.inl (by by_cases q : 10 < c (37 + k); exact q; rw [if_neg q] at c16; exact absurd rfl c16)))]) | (rw [if_pos (Or.inr (Or.inr (by by_cases q : c (13 + k) < c (85 + a); exact q; rw [if_neg q] at c25; exact absurd rfl c25)))]) | (rw [if_neg (by intro z; rcases z with z | z | z; omega; rw [if_pos z] at c16; exact absurd c16 (by decide); rw [if_pos z] at c25; exact absurd c25 (by decide))]), rfl⟩
set_option maxHeartbeats 1000000 in
theorem c_X9_isOfAnother {E : zE} {k : Nat} {a B : Int} {σ : Nat → Nat → Int} {c : Nat → Int} {l : (Nat → Int64) × (Nat → UInt64)} (hg : Rg B c) (hk : k < 12) (ha : zi a) : Rv E yX9_isOfAnother (Cond.code yX9_isOfAnother cX9_isOfAnother 4 (Option.some FieldType.boolean)) 1 [vr 1, vi (k : Int), vi a] ((zs σ 21 c, l)) (vi (if zother c k a then 1 else 0)) ((zs σ 21 c, l)) := by
  refine Ctr_of (own := RX9) (by decide +kernel) rfl rfl (fun Y hX hR hnx => ?_)
  have hr := hg.own hk
  refine z_b hX (fo_no RX9) [.aload_n 0, .bipush 49, .iload_n 1, .iadd] 5 (by decide +kernel) rfl ?_
  refine z_cV hX m_X6_at l_X9_11 p_X6_at (c_at (j := (49 + k)) (by omega) (by omega)) rfl rfl rfl rfl rfl rfl (by decide +kernel) ?_
  refine z_b hX (fo_no RX9) [.istore_n 3, .iload_n 3, .iconst (-1)] 11 (by decide +kernel) rfl ?_
  refine z_ic_eq hX (off := 12) 23 (by decide +kernel) (by decide) ⟨by omega, by omega⟩ ⟨by omega, by omega⟩ (fun c11 => ?_) (fun c11 => ?_)
  · refine z_b hX (fo_no RX9) [.iconst 0] 24 (by decide +kernel) rfl ?_
    exact z_zret hX hR rfl (by decide +kernel) ⟨by first | rw [if_pos ⟨by assumption, by assumption⟩] | (rw [if_neg (fun z => z.1 (by assumption))]) | rw [if_neg (fun z => z.2 (by assumption))], rfl⟩
  · refine z_b hX (fo_no RX9) [.iload_n 3, .iload_n 2] 16 (by decide +kernel) rfl ?_
    refine z_ic_eq hX (off := 7) 23 (by decide +kernel) (by decide) ⟨by omega, by omega⟩ ⟨by omega, by omega⟩ (fun c16 => ?_) (fun c16 => ?_)
    · refine z_b hX (fo_no RX9) [.iconst 0] 24 (by decide +kernel) rfl ?_
      exact z_zret hX hR rfl (by decide +kernel) ⟨by first | rw [if_pos ⟨by assumption, by assumption⟩] | (rw [if_neg (fun z => z.1 (by assumption))]) | rw [if_neg (fun z => z.2 (by assumption))], rfl⟩
    · refine z_b hX (fo_no RX9) [.iconst 1] 20 (by decide +kernel) rfl ?_
      refine z_goto hX (off := 4) 24 (by decide +kernel) (by decide) ?_
      exact z_zret hX hR rfl (by decide +kernel) ⟨by first | rw [if_pos ⟨by assumption, by assumption⟩] | (rw [if_neg (fun z => z.1 (by assumption))]) | rw [if_neg (fun z => z.2 (by assumption))], rfl⟩
