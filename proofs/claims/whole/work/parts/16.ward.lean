/-! ===== Wardrobe ===== -/
def sCoat (c : Nat → Int) (x : Int) (k : Nat) : Nat → Int := ad (va_up (va_up (va_up (va_up (va_up (va_up c (13 + k) x) (25 + k) 0) (37 + k) 0) (49 + k) (-1)) (61 + k) (-1)) (73 + k) 0) 8 1
def sAct (c : Nat → Int) (x y : Int) (a : Nat) : Nat → Int := ad (va_up (va_up (va_up (va_up c (85 + a) x) (91 + a) y) (97 + a) (-1)) (103 + a) 0) 9 1
def sGive (c : Nat → Int) (a k : Nat) : Nat → Int := va_up (va_up (if 0 ≤ c (97 + a) ∧ c (97 + a) < c 8 then va_up c (49 + (c (97 + a)).toNat) (-1) else c) (97 + a) (k : Int)) (49 + k) (a : Int)
def sRip (c : Nat → Int) (k : Nat) (n : Int) : Nat → Int := ad c (25 + k) (zmn n (9 - c (25 + k)))
def sLose (c : Nat → Int) (k : Nat) (n : Int) : Nat → Int := ad (ad c 5 (zmn n (60 - c (37 + k)))) (37 + k) (zmn n (60 - c (37 + k)))
abbrev zopen (c : Nat → Int) (k a : Nat) : Prop := 0 < c (25 + k) ∨ 10 < c (37 + k) ∨ c (13 + k) < c (85 + a)
abbrev zother (c : Nat → Int) (k : Nat) (a : Int) : Prop := c (49 + k) ≠ -1 ∧ c (49 + k) ≠ a
def zbest (c : Nat → Int) (a : Nat) : Nat → Nat → Int → Int
  | _, 0, b => b
  | i, m + 1, b => zbest c a (i + 1) m (if (¬ zother c i (a : Int) ∧ ¬ zopen c i a) ∧ (b = -1 ∨ c (13 + i) < c (13 + b.toNat)) then (i : Int) else b)
/-- the hours of work: rips, what is missing above 10, sizes -/
def zhrs (r m s w : Int) : Int := r * 1 + (zmx 0 (m - 10) + 10 - 1) / 10 + zmx 0 (w - s) * 2
def zsign (c : Nat → Int) (k : Nat) : Int := if c (61 + k) ≠ -1 then 116 else if 0 < c (25 + k) then 114 else if 10 < c (37 + k) then 115 else if c (49 + k) ≠ -1 then 119 else 99
theorem Rg.zi {lo hi x : Int} (h : lo ≤ x ∧ x ≤ hi) (h1 : -2147483648 ≤ lo) (h2 : hi < 2147483648) : zi x := ⟨by omega, by omega⟩
set_option maxHeartbeats 1000000 in
theorem c_X9_addCoat {E : zE} {x : Int} {k : Nat} {σ : Nat → Nat → Int} {c : Nat → Int} {l : (Nat → Int64) × (Nat → UInt64)} (hk : c 8 = (k : Int)) (h12 : k < 12) : Rv E yX9_addCoat (Cond.code yX9_addCoat cX9_addCoat 3 (Option.some FieldType.int)) 2 [vr 1, vi x] ((zs σ 21 c, l)) (vi (k : Int)) ((zs σ 21 (sCoat c x k), l)) := by
  refine Ctr_of (own := RX9) (by decide +kernel) rfl rfl (fun Y hX hR hnx => ?_)
  refine z_b hX (fo_no RX9) [.aload_n 0, .bipush 8] 3 (by decide +kernel) rfl ?_
  refine z_cV hX m_X6_at l_X9_11 p_X6_at (c_at (j := 8) (by omega) (by omega)) rfl rfl rfl rfl rfl rfl (by decide +kernel) ?_
  rw [hk]
  refine z_b hX (fo_no RX9) [.istore_n 2, .aload_n 0, .bipush 13, .iload_n 2, .iadd, .iload_n 1] 13 (by decide +kernel) rfl ?_
  refine z_cV0 hX m_X6_put l_X9_15 p_X6_put (c_put (j := (13 + k)) (by omega) (by omega)) rfl rfl rfl rfl rfl rfl (by decide +kernel) ?_
  refine z_b hX (fo_no RX9) [.aload_n 0, .bipush 25, .iload_n 2, .iadd, .iconst 0] 22 (by decide +kernel) rfl ?_
  refine z_cV0 hX m_X6_put l_X9_15 p_X6_put (c_put (j := (25 + k)) (by omega) (by omega)) rfl rfl rfl rfl rfl rfl (by decide +kernel) ?_
  refine z_b hX (fo_no RX9) [.aload_n 0, .bipush 37, .iload_n 2, .iadd, .iconst 0] 31 (by decide +kernel) rfl ?_
  refine z_cV0 hX m_X6_put l_X9_15 p_X6_put (c_put (j := (37 + k)) (by omega) (by omega)) rfl rfl rfl rfl rfl rfl (by decide +kernel) ?_
  refine z_b hX (fo_no RX9) [.aload_n 0, .bipush 49, .iload_n 2, .iadd, .iconst (-1)] 40 (by decide +kernel) rfl ?_
  refine z_cV0 hX m_X6_put l_X9_15 p_X6_put (c_put (j := (49 + k)) (by omega) (by omega)) rfl rfl rfl rfl rfl rfl (by decide +kernel) ?_
  refine z_b hX (fo_no RX9) [.aload_n 0, .bipush 61, .iload_n 2, .iadd, .iconst (-1)] 49 (by decide +kernel) rfl ?_
  refine z_cV0 hX m_X6_put l_X9_15 p_X6_put (c_put (j := (61 + k)) (by omega) (by omega)) rfl rfl rfl rfl rfl rfl (by decide +kernel) ?_
  refine z_b hX (fo_no RX9) [.aload_n 0, .bipush 73, .iload_n 2, .iadd, .iconst 0] 58 (by decide +kernel) rfl ?_
  refine z_cV0 hX m_X6_put l_X9_15 p_X6_put (c_put (j := (73 + k)) (by omega) (by omega)) rfl rfl rfl rfl rfl rfl (by decide +kernel) ?_
  refine z_b hX (fo_no RX9) [.aload_n 0, .bipush 8, .iconst 1] 65 (by decide +kernel) rfl ?_
  refine z_cV hX m_X6_add l_X9_19 p_X6_add (c_add (j := 8) (by omega) (by omega)) rfl rfl rfl rfl rfl rfl (by decide +kernel) ?_
  refine z_b hX (fo_no RX9) [.pop, .iload_n 2] 70 (by decide +kernel) rfl ?_
  exact z_iret hX hR (by decide +kernel) ⟨rfl, rfl⟩
set_option maxHeartbeats 1000000 in
theorem c_X9_addAct {E : zE} {x y : Int} {a : Nat} {σ : Nat → Nat → Int} {c : Nat → Int} {l : (Nat → Int64) × (Nat → UInt64)} (ha : c 9 = (a : Int)) (h6 : a < 6) : Rv E yX9_addAct (Cond.code yX9_addAct cX9_addAct 4 (Option.some FieldType.int)) 2 [vr 1, vi x, vi y] ((zs σ 21 c, l)) (vi (a : Int)) ((zs σ 21 (sAct c x y a), l)) := by
  refine Ctr_of (own := RX9) (by decide +kernel) rfl rfl (fun Y hX hR hnx => ?_)
  refine z_b hX (fo_no RX9) [.aload_n 0, .bipush 9] 3 (by decide +kernel) rfl ?_
  refine z_cV hX m_X6_at l_X9_11 p_X6_at (c_at (j := 9) (by omega) (by omega)) rfl rfl rfl rfl rfl rfl (by decide +kernel) ?_
  rw [ha]
  refine z_b hX (fo_no RX9) [.istore_n 3, .aload_n 0, .bipush 85, .iload_n 3, .iadd, .iload_n 1] 13 (by decide +kernel) rfl ?_
  refine z_cV0 hX m_X6_put l_X9_15 p_X6_put (c_put (j := (85 + a)) (by omega) (by omega)) rfl rfl rfl rfl rfl rfl (by decide +kernel) ?_
  refine z_b hX (fo_no RX9) [.aload_n 0, .bipush 91, .iload_n 3, .iadd, .iload_n 2] 22 (by decide +kernel) rfl ?_
  refine z_cV0 hX m_X6_put l_X9_15 p_X6_put (c_put (j := (91 + a)) (by omega) (by omega)) rfl rfl rfl rfl rfl rfl (by decide +kernel) ?_
  refine z_b hX (fo_no RX9) [.aload_n 0, .bipush 97, .iload_n 3, .iadd, .iconst (-1)] 31 (by decide +kernel) rfl ?_
  refine z_cV0 hX m_X6_put l_X9_15 p_X6_put (c_put (j := (97 + a)) (by omega) (by omega)) rfl rfl rfl rfl rfl rfl (by decide +kernel) ?_
  refine z_b hX (fo_no RX9) [.aload_n 0, .bipush 103, .iload_n 3, .iadd, .iconst 0] 40 (by decide +kernel) rfl ?_
  refine z_cV0 hX m_X6_put l_X9_15 p_X6_put (c_put (j := (103 + a)) (by omega) (by omega)) rfl rfl rfl rfl rfl rfl (by decide +kernel) ?_
  refine z_b hX (fo_no RX9) [.aload_n 0, .bipush 9, .iconst 1] 47 (by decide +kernel) rfl ?_
  refine z_cV hX m_X6_add l_X9_19 p_X6_add (c_add (j := 9) (by omega) (by omega)) rfl rfl rfl rfl rfl rfl (by decide +kernel) ?_
  refine z_b hX (fo_no RX9) [.pop, .iload_n 3] 52 (by decide +kernel) rfl ?_
  exact z_iret hX hR (by decide +kernel) ⟨rfl, rfl⟩
set_option maxHeartbeats 1000000 in
theorem c_X9_give {E : zE} {a k : Nat} {B : Int} {σ : Nat → Nat → Int} {c : Nat → Int} {l : (Nat → Int64) × (Nat → UInt64)} (hg : Rg B c) (ha : a < 6) (hk : k < 12) : Rv E yX9_give (Cond.code yX9_give cX9_give 4 (Option.some FieldType.int)) 2 [vr 1, vi (a : Int), vi (k : Int)] (zs σ 21 c, l) (vi (c (97 + a))) (zs σ 21 (sGive c a k), l) := by
  refine Ctr_of (own := RX9) (by decide +kernel) rfl rfl (fun Y hX hR hnx => ?_)
  refine z_b hX (fo_no RX9) [.aload_n 0, .bipush 97, .iload_n 1, .iadd] 5 (by decide +kernel) rfl ?_
  refine z_cV hX m_X6_at l_X9_11 p_X6_at (c_at (j := (97 + a)) (by omega) (by omega)) rfl rfl rfl rfl rfl rfl (by decide +kernel) ?_
  have hb := hg.acoat ha
  have h8 := hg.coats
  refine z_b hX (fo_no RX9) [.istore_n 3, .aload_n 0, .iload_n 3] 11 (by decide +kernel) rfl ?_
  refine z_cV hX m_X6_hasCoat l_X9_23 p_X6_hasCoat (c_X6_hasCoat ⟨by omega, by omega⟩ ⟨by omega, by omega⟩) rfl rfl rfl rfl rfl rfl (by decide +kernel) ?_
  by_cases hh : 0 ≤ c (97 + a) ∧ c (97 + a) < c 8
  · have e1 : sGive c a k = va_up (va_up (va_up c (49 + (c (97 + a)).toNat) (-1)) (97 + a) (k : Int)) (49 + k) (a : Int) := by unfold sGive; rw [if_pos hh]
    rw [if_pos hh]
    refine z_if_eq hX (off := 12) 26 (by decide +kernel) (by decide) ⟨by decide, by decide⟩ (fun c14 => by exact absurd c14 (by decide)) (fun c14 => ?_)
    refine z_b hX (fo_no RX9) [.aload_n 0, .bipush 49, .iload_n 3, .iadd, .iconst (-1)] 23 (by decide +kernel) rfl ?_
    refine z_cV0 hX m_X6_put l_X9_15 p_X6_put (c_put (j := 49 + (c (97 + a)).toNat) (by omega) (by omega)) rfl rfl rfl rfl rfl rfl (by decide +kernel) ?_
    refine z_b hX (fo_no RX9) [.aload_n 0, .bipush 97, .iload_n 1, .iadd, .iload_n 2] 32 (by decide +kernel) rfl ?_
    refine z_cV0 hX m_X6_put l_X9_15 p_X6_put (c_put (j := (97 + a)) (by omega) (by omega)) rfl rfl rfl rfl rfl rfl (by decide +kernel) ?_
    refine z_b hX (fo_no RX9) [.aload_n 0, .bipush 49, .iload_n 2, .iadd, .iload_n 1] 41 (by decide +kernel) rfl ?_
    refine z_cV0 hX m_X6_put l_X9_15 p_X6_put (c_put (j := (49 + k)) (by omega) (by omega)) rfl rfl rfl rfl rfl rfl (by decide +kernel) ?_
    refine z_b hX (fo_no RX9) [.iload_n 3] 45 (by decide +kernel) rfl ?_
    exact z_iret hX hR (by decide +kernel) ⟨rfl, by rw [e1]⟩
  · have e1 : sGive c a k = va_up (va_up c (97 + a) (k : Int)) (49 + k) (a : Int) := by unfold sGive; rw [if_neg hh]
    rw [if_neg hh]
    refine z_if_eq hX (off := 12) 26 (by decide +kernel) (by decide) ⟨by decide, by decide⟩ (fun c14 => ?_) (fun c14 => by exact absurd rfl c14)
    refine z_b hX (fo_no RX9) [.aload_n 0, .bipush 97, .iload_n 1, .iadd, .iload_n 2] 32 (by decide +kernel) rfl ?_
    refine z_cV0 hX m_X6_put l_X9_15 p_X6_put (c_put (j := (97 + a)) (by omega) (by omega)) rfl rfl rfl rfl rfl rfl (by decide +kernel) ?_
    refine z_b hX (fo_no RX9) [.aload_n 0, .bipush 49, .iload_n 2, .iadd, .iload_n 1] 41 (by decide +kernel) rfl ?_
    refine z_cV0 hX m_X6_put l_X9_15 p_X6_put (c_put (j := (49 + k)) (by omega) (by omega)) rfl rfl rfl rfl rfl rfl (by decide +kernel) ?_
    refine z_b hX (fo_no RX9) [.iload_n 3] 45 (by decide +kernel) rfl ?_
    exact z_iret hX hR (by decide +kernel) ⟨rfl, by rw [e1]⟩
set_option maxHeartbeats 1000000 in
theorem c_X9_addRips {E : zE} {k : Nat} {n B : Int} {σ : Nat → Nat → Int} {c : Nat → Int} {l : (Nat → Int64) × (Nat → UInt64)} (hg : Rg B c) (hk : k < 12) (hn : 1 ≤ n ∧ n ≤ 9) : Rv E yX9_addRips (Cond.code yX9_addRips cX9_addRips 4 (Option.some FieldType.int)) 2 [vr 1, vi (k : Int), vi n] ((zs σ 21 c, l)) (vi (c (25 + k) + zmn n (9 - c (25 + k)))) ((zs σ 21 (sRip c k n), l)) := by
  refine Ctr_of (own := RX9) (by decide +kernel) rfl rfl (fun Y hX hR hnx => ?_)
  have hr := hg.rips hk
  refine z_b hX (fo_no RX9) [.iload_n 2, .bipush 9, .aload_n 0, .bipush 25, .iload_n 1, .iadd] 8 (by decide +kernel) rfl ?_
  refine z_cV hX m_X6_at l_X9_11 p_X6_at (c_at (j := (25 + k)) (by omega) (by omega)) rfl rfl rfl rfl rfl rfl (by decide +kernel) ?_
  refine z_b hX (fo_no RX9) [.isub] 12 (by decide +kernel) rfl ?_
  refine z_min hX lm_X9_27 (by decide +kernel) ⟨by omega, by omega⟩ ⟨by omega, by omega⟩ rfl ?_
  refine z_b hX (fo_no RX9) [.istore_n 3, .aload_n 0, .bipush 25, .iload_n 1, .iadd, .iload_n 3] 22 (by decide +kernel) rfl ?_
  refine z_cV hX m_X6_add l_X9_19 p_X6_add (c_add (j := (25 + k)) (by omega) (by omega)) rfl rfl rfl rfl rfl rfl (by decide +kernel) ?_
  exact z_iret hX hR (by decide +kernel) ⟨rfl, rfl⟩
set_option maxHeartbeats 1000000 in
theorem c_X9_takeOff {E : zE} {k : Nat} {n B : Int} {σ : Nat → Nat → Int} {c : Nat → Int} {l : (Nat → Int64) × (Nat → UInt64)} (hg : Rg B c) (hk : k < 12) (hn : 1 ≤ n ∧ n ≤ 60) : Rv E yX9_takeOff (Cond.code yX9_takeOff cX9_takeOff 4 (Option.some FieldType.int)) 2 [vr 1, vi (k : Int), vi n] ((zs σ 21 c, l)) (vi ((ad c 5 (zmn n (60 - c (37 + k)))) (37 + k) + zmn n (60 - c (37 + k)))) ((zs σ 21 (sLose c k n), l)) := by
  refine Ctr_of (own := RX9) (by decide +kernel) rfl rfl (fun Y hX hR hnx => ?_)
  have hr := hg.miss hk
  refine z_b hX (fo_no RX9) [.iload_n 2, .bipush 60, .aload_n 0, .bipush 37, .iload_n 1, .iadd] 8 (by decide +kernel) rfl ?_
  refine z_cV hX m_X6_at l_X9_11 p_X6_at (c_at (j := (37 + k)) (by omega) (by omega)) rfl rfl rfl rfl rfl rfl (by decide +kernel) ?_
  refine z_b hX (fo_no RX9) [.isub] 12 (by decide +kernel) rfl ?_
  refine z_min hX lm_X9_27 (by decide +kernel) ⟨by omega, by omega⟩ ⟨by omega, by omega⟩ rfl ?_
  refine z_b hX (fo_no RX9) [.istore_n 3, .aload_n 0, .iconst 5, .iload_n 3] 19 (by decide +kernel) rfl ?_
  refine z_cV hX m_X6_add l_X9_19 p_X6_add (c_add (j := 5) (by omega) (by omega)) rfl rfl rfl rfl rfl rfl (by decide +kernel) ?_
  refine z_b hX (fo_no RX9) [.pop, .aload_n 0, .bipush 37, .iload_n 1, .iadd, .iload_n 3] 29 (by decide +kernel) rfl ?_
  refine z_cV hX m_X6_add l_X9_19 p_X6_add (c_add (j := (37 + k)) (by omega) (by omega)) rfl rfl rfl rfl rfl rfl (by decide +kernel) ?_
  exact z_iret hX hR (by decide +kernel) ⟨rfl, rfl⟩
set_option maxHeartbeats 1000000 in
theorem c_X9_hasGaps {E : zE} {k : Nat} {B : Int} {σ : Nat → Nat → Int} {c : Nat → Int} {l : (Nat → Int64) × (Nat → UInt64)} (hg : Rg B c) (hk : k < 12) : Rv E yX9_hasGaps (Cond.code yX9_hasGaps cX9_hasGaps 2 (Option.some FieldType.boolean)) 1 [vr 1, vi (k : Int)] ((zs σ 21 c, l)) (vi (if 10 < c (37 + k) then 1 else 0)) ((zs σ 21 c, l)) := by
  refine Ctr_of (own := RX9) (by decide +kernel) rfl rfl (fun Y hX hR hnx => ?_)
  have hr := hg.miss hk
  refine z_b hX (fo_no RX9) [.aload_n 0, .bipush 37, .iload_n 1, .iadd] 5 (by decide +kernel) rfl ?_
  refine z_cV hX m_X6_at l_X9_11 p_X6_at (c_at (j := (37 + k)) (by omega) (by omega)) rfl rfl rfl rfl rfl rfl (by decide +kernel) ?_
  refine z_b hX (fo_no RX9) [.bipush 10] 10 (by decide +kernel) rfl ?_
  refine z_ic_le hX (off := 7) 17 (by decide +kernel) (by decide) ⟨by omega, by omega⟩ ⟨by omega, by omega⟩ (fun c10 => ?_) (fun c10 => ?_)
  · refine z_b hX (fo_no RX9) [.iconst 0] 18 (by decide +kernel) rfl ?_
    exact z_zret hX hR rfl (by decide +kernel) ⟨by first | rw [if_pos (by omega)] | rw [if_neg (by omega)], rfl⟩
  · refine z_b hX (fo_no RX9) [.iconst 1] 14 (by decide +kernel) rfl ?_
    refine z_goto hX (off := 4) 18 (by decide +kernel) (by decide) ?_
    exact z_zret hX hR rfl (by decide +kernel) ⟨by first | rw [if_pos (by omega)] | rw [if_neg (by omega)], rfl⟩
set_option maxHeartbeats 1000000 in
theorem c_X9_isTooSmall {E : zE} {k a : Nat} {B : Int} {σ : Nat → Nat → Int} {c : Nat → Int} {l : (Nat → Int64) × (Nat → UInt64)} (hg : Rg B c) (hk : k < 12) (ha : a < 6) : Rv E yX9_isTooSmall (Cond.code yX9_isTooSmall cX9_isTooSmall 3 (Option.some FieldType.boolean)) 1 [vr 1, vi (k : Int), vi (a : Int)] ((zs σ 21 c, l)) (vi (if c (13 + k) < c (85 + a) then 1 else 0)) ((zs σ 21 c, l)) := by
  refine Ctr_of (own := RX9) (by decide +kernel) rfl rfl (fun Y hX hR hnx => ?_)
  have hr := hg.size hk
  have hs := hg.asize ha
  refine z_b hX (fo_no RX9) [.aload_n 0, .bipush 13, .iload_n 1, .iadd] 5 (by decide +kernel) rfl ?_
  refine z_cV hX m_X6_at l_X9_11 p_X6_at (c_at (j := (13 + k)) (by omega) (by omega)) rfl rfl rfl rfl rfl rfl (by decide +kernel) ?_
  refine z_b hX (fo_no RX9) [.aload_n 0, .bipush 85, .iload_n 2, .iadd] 13 (by decide +kernel) rfl ?_
  refine z_cV hX m_X6_at l_X9_11 p_X6_at (c_at (j := (85 + a)) (by omega) (by omega)) rfl rfl rfl rfl rfl rfl (by decide +kernel) ?_
  refine z_ic_ge hX (off := 7) 23 (by decide +kernel) (by decide) ⟨by omega, by omega⟩ ⟨by omega, by omega⟩ (fun c16 => ?_) (fun c16 => ?_)
  · refine z_b hX (fo_no RX9) [.iconst 0] 24 (by decide +kernel) rfl ?_
    exact z_zret hX hR rfl (by decide +kernel) ⟨by first | rw [if_pos (by omega)] | rw [if_neg (by omega)], rfl⟩
  · refine z_b hX (fo_no RX9) [.iconst 1] 20 (by decide +kernel) rfl ?_
    refine z_goto hX (off := 4) 24 (by decide +kernel) (by decide) ?_
    exact z_zret hX hR rfl (by decide +kernel) ⟨by first | rw [if_pos (by omega)] | rw [if_neg (by omega)], rfl⟩
set_option maxHeartbeats 1000000 in
theorem c_X9_isOpen {E : zE} {k a : Nat} {B : Int} {σ : Nat → Nat → Int} {c : Nat → Int} {l : (Nat → Int64) × (Nat → UInt64)} (hg : Rg B c) (hk : k < 12) (ha : a < 6) : Rv E yX9_isOpen (Cond.code yX9_isOpen cX9_isOpen 3 (Option.some FieldType.boolean)) 2 [vr 1, vi (k : Int), vi (a : Int)] ((zs σ 21 c, l)) (vi (if zopen c k a then 1 else 0)) ((zs σ 21 c, l)) := by
  refine Ctr_of (own := RX9) (by decide +kernel) rfl rfl (fun Y hX hR hnx => ?_)
  have hr := hg.rips hk
  refine z_b hX (fo_no RX9) [.aload_n 0, .bipush 25, .iload_n 1, .iadd] 5 (by decide +kernel) rfl ?_
  refine z_cV hX m_X6_at l_X9_11 p_X6_at (c_at (j := (25 + k)) (by omega) (by omega)) rfl rfl rfl rfl rfl rfl (by decide +kernel) ?_
  refine z_if_gt hX (off := 20) 28 (by decide +kernel) (by decide) ⟨by omega, by omega⟩ (fun c8 => ?_) (fun c8 => ?_)
  · refine z_b hX (fo_no RX9) [.iconst 1] 29 (by decide +kernel) rfl ?_
    refine z_goto hX (off := 4) 33 (by decide +kernel) (by decide) ?_
    exact z_zret hX hR rfl (by decide +kernel) ⟨by unfold zopen; first | rw [if_pos (by omega)] | (rw [if_pos (Or.inr (Or.inl (by by_cases q : 10 < c (37 + k); exact q; rw [if_neg q] at c16; exact absurd rfl c16)))]) | (rw [if_pos (Or.inr (Or.inr (by by_cases q : c (13 + k) < c (85 + a); exact q; rw [if_neg q] at c25; exact absurd rfl c25)))]) | (rw [if_neg (by intro z; rcases z with z | z | z; omega; rw [if_pos z] at c16; exact absurd c16 (by decide); rw [if_pos z] at c25; exact absurd c25 (by decide))]), rfl⟩
  · refine z_b hX (fo_no RX9) [.aload_n 0, .iload_n 1] 13 (by decide +kernel) rfl ?_
    refine z_cS hX m_X9_hasGaps l_X9_32 p_X9_hasGaps (c_X9_hasGaps hg hk) rfl rfl rfl rfl (by decide +kernel) ?_
    refine z_if_ne hX (off := 12) 28 (by decide +kernel) (by decide) ⟨by split <;> decide, by split <;> decide⟩ (fun c16 => ?_) (fun c16 => ?_)
    · refine z_b hX (fo_no RX9) [.iconst 1] 29 (by decide +kernel) rfl ?_
      refine z_goto hX (off := 4) 33 (by decide +kernel) (by decide) ?_
      exact z_zret hX hR rfl (by decide +kernel) ⟨by unfold zopen; first | rw [if_pos (by omega)] | (rw [if_pos (Or.inr (Or.inl (by by_cases q : 10 < c (37 + k); exact q; rw [if_neg q] at c16; exact absurd rfl c16)))]) | (rw [if_pos (Or.inr (Or.inr (by by_cases q : c (13 + k) < c (85 + a); exact q; rw [if_neg q] at c25; exact absurd rfl c25)))]) | (rw [if_neg (by intro z; rcases z with z | z | z; omega; rw [if_pos z] at c16; exact absurd c16 (by decide); rw [if_pos z] at c25; exact absurd c25 (by decide))]), rfl⟩
    · refine z_b hX (fo_no RX9) [.aload_n 0, .iload_n 1, .iload_n 2] 22 (by decide +kernel) rfl ?_
      refine z_cS hX m_X9_isTooSmall l_X9_38 p_X9_isTooSmall (c_X9_isTooSmall hg hk ha) rfl rfl rfl rfl (by decide +kernel) ?_
      refine z_if_eq hX (off := 7) 32 (by decide +kernel) (by decide) ⟨by split <;> decide, by split <;> decide⟩ (fun c25 => ?_) (fun c25 => ?_)
      · refine z_b hX (fo_no RX9) [.iconst 0] 33 (by decide +kernel) rfl ?_
        exact z_zret hX hR rfl (by decide +kernel) ⟨by unfold zopen; first | rw [if_pos (by omega)] | (rw [if_pos (Or.inr (Or.inl (by by_cases q : 10 < c (37 + k); exact q; rw [if_neg q] at c16; exact absurd rfl c16)))]) | (rw [if_pos (Or.inr (Or.inr (by by_cases q : c (13 + k) < c (85 + a); exact q; rw [if_neg q] at c25; exact absurd rfl c25)))]) | (rw [if_neg (by intro z; rcases z with z | z | z; omega; rw [if_pos z] at c16; exact absurd c16 (by decide); rw [if_pos z] at c25; exact absurd c25 (by decide))]), rfl⟩
      · refine z_b hX (fo_no RX9) [.iconst 1] 29 (by decide +kernel) rfl ?_
        refine z_goto hX (off := 4) 33 (by decide +kernel) (by decide) ?_
        exact z_zret hX hR rfl (by decide +kernel) ⟨by unfold zopen; first | rw [if_pos (by omega)] | (rw [if_pos (Or.inr (Or.inl (by by_cases q : 10 < c (37 + k); exact q; rw [if_neg q] at c16; exact absurd rfl c16)))]) | (rw [if_pos (Or.inr (Or.inr (by by_cases q : c (13 + k) < c (85 + a); exact q; rw [if_neg q] at c25; exact absurd rfl c25)))]) | (rw [if_neg (by intro z; rcases z with z | z | z; omega; rw [if_pos z] at c16; exact absurd c16 (by decide); rw [if_pos z] at c25; exact absurd c25 (by decide))]), rfl⟩
set_option maxHeartbeats 1000000 in
theorem c_X9_isOfAnother {E : zE} {k : Nat} {a B : Int} {σ : Nat → Nat → Int} {c : Nat → Int} {l : (Nat → Int64) × (Nat → UInt64)} (hg : Rg B c) (hk : k < 12) (ha : zi a) : Rv E yX9_isOfAnother (Cond.code yX9_isOfAnother cX9_isOfAnother 4 (Option.some FieldType.boolean)) 1 [vr 1, vi (k : Int), vi a] ((zs σ 21 c, l)) (vi (if zother c k a then 1 else 0)) ((zs σ 21 c, l)) := by
  refine Ctr_of (own := RX9) (by decide +kernel) rfl rfl (fun Y hX hR hnx => ?_)
  have hr := hg.own hk
  refine z_b hX (fo_no RX9) [.aload_n 0, .bipush 49, .iload_n 1, .iadd] 5 (by decide +kernel) rfl ?_
  refine z_cV hX m_X6_at l_X9_11 p_X6_at (c_at (j := (49 + k)) (by omega) (by omega)) rfl rfl rfl rfl rfl rfl (by decide +kernel) ?_
  refine z_b hX (fo_no RX9) [.istore_n 3, .iload_n 3, .iconst (-1)] 11 (by decide +kernel) rfl ?_
  refine z_ic_eq hX (off := 12) 23 (by decide +kernel) (by decide) ⟨by omega, by omega⟩ ⟨by omega, by omega⟩ (fun c11 => ?_) (fun c11 => ?_)
  · refine z_b hX (fo_no RX9) [.iconst 0] 24 (by decide +kernel) rfl ?_
    exact z_zret hX hR rfl (by decide +kernel) ⟨by first | rw [if_pos ⟨by assumption, by assumption⟩] | (rw [if_neg (fun z => z.1 (by assumption))]) | rw [if_neg (fun z => z.2 (by assumption))], rfl⟩
  · refine z_b hX (fo_no RX9) [.iload_n 3, .iload_n 2] 16 (by decide +kernel) rfl ?_
    refine z_ic_eq hX (off := 7) 23 (by decide +kernel) (by decide) ⟨by omega, by omega⟩ ⟨by omega, by omega⟩ (fun c16 => ?_) (fun c16 => ?_)
    · refine z_b hX (fo_no RX9) [.iconst 0] 24 (by decide +kernel) rfl ?_
      exact z_zret hX hR rfl (by decide +kernel) ⟨by first | rw [if_pos ⟨by assumption, by assumption⟩] | (rw [if_neg (fun z => z.1 (by assumption))]) | rw [if_neg (fun z => z.2 (by assumption))], rfl⟩
    · refine z_b hX (fo_no RX9) [.iconst 1] 20 (by decide +kernel) rfl ?_
      refine z_goto hX (off := 4) 24 (by decide +kernel) (by decide) ?_
      exact z_zret hX hR rfl (by decide +kernel) ⟨by first | rw [if_pos ⟨by assumption, by assumption⟩] | (rw [if_neg (fun z => z.1 (by assumption))]) | rw [if_neg (fun z => z.2 (by assumption))], rfl⟩
theorem zif0 {P : Prop} [Decidable P] (h : (if P then (1 : Int) else 0) = 0) : ¬ P := fun q => by rw [if_pos q] at h; exact absurd h (by decide)
theorem zif1 {P : Prop} [Decidable P] (h : (if P then (1 : Int) else 0) ≠ 0) : P := by
  by_cases q : P
  · exact q
  · rw [if_neg q] at h; exact absurd rfl h
set_option maxHeartbeats 1000000 in
theorem c_X9_bestFor {E : zE} {a n : Nat} {B : Int} {σ : Nat → Nat → Int} {c : Nat → Int} {l : (Nat → Int64) × (Nat → UInt64)} (hg : Rg B c) (ha : a < 6) (hn : c 8 = (n : Int)) : Rv E yX9_bestFor (Cond.code yX9_bestFor cX9_bestFor 5 (Option.some FieldType.int)) 3 [vr 1, vi (a : Int)] ((zs σ 21 c, l)) (vi (zbest c a 0 n (-1))) ((zs σ 21 c, l)) := by
  refine Ctr_of (own := RX9) (by decide +kernel) rfl rfl (fun Y hX hR hnx => ?_)
  have h8 := hg.coats
  refine z_b hX (fo_no RX9) [.iconst (-1), .istore_n 2, .iconst 0, .istore_n 3] 4 (by decide +kernel) rfl ?_
  have loop : ∀ (m : Nat) (i : Nat) (x bb : Int), x = (i : Int) → (bb = -1 ∨ (0 ≤ bb ∧ bb < x)) → i + m = n → zbest c a i m bb = zbest c a 0 n (-1) → Z (E, Y) 0 4 [(3, vi x), (2, vi bb), (0, vr 1), (1, vi (a : Int))] [] (zs σ 21 c, l) := by
    intro m
    induction m with
    | zero =>
      intro i x bb hi hb hm hr
      subst hi
      refine z_b hX (fo_no RX9) [.iload_n 3, .bipush 12] 7 (by decide +kernel) rfl ?_
      refine z_ic_ge hX (off := 75) 82 (by decide +kernel) (by decide) ⟨by omega, by omega⟩ ⟨by omega, by omega⟩ (fun c7 => ?_) (fun c7 => ?_)
      · refine z_b hX (fo_no RX9) [.iload_n 2] 83 (by decide +kernel) rfl ?_
        exact z_iret hX hR (by decide +kernel) ⟨by rw [← hr]; rfl, rfl⟩
      · refine z_b hX (fo_no RX9) [.iload_n 3, .aload_n 0, .bipush 8] 14 (by decide +kernel) rfl ?_
        refine z_cV hX m_X6_at l_X9_11 p_X6_at (c_at (j := 8) (by omega) (by omega)) rfl rfl rfl rfl rfl rfl (by decide +kernel) ?_
        refine z_ic_ge hX (off := 65) 82 (by decide +kernel) (by decide) ⟨by omega, by omega⟩ ⟨by omega, by omega⟩ (fun c17 => ?_) (fun c17 => by exfalso; omega)
        refine z_b hX (fo_no RX9) [.iload_n 2] 83 (by decide +kernel) rfl ?_
        exact z_iret hX hR (by decide +kernel) ⟨by rw [← hr]; rfl, rfl⟩
    | succ m ih =>
      intro i x bb hi hb hm hr
      subst hi
      refine z_b hX (fo_no RX9) [.iload_n 3, .bipush 12] 7 (by decide +kernel) rfl ?_
      refine z_ic_ge hX (off := 75) 82 (by decide +kernel) (by decide) ⟨by omega, by omega⟩ ⟨by omega, by omega⟩ (fun c7 => by exfalso; omega) (fun c7 => ?_)
      refine z_b hX (fo_no RX9) [.iload_n 3, .aload_n 0, .bipush 8] 14 (by decide +kernel) rfl ?_
      refine z_cV hX m_X6_at l_X9_11 p_X6_at (c_at (j := 8) (by omega) (by omega)) rfl rfl rfl rfl rfl rfl (by decide +kernel) ?_
      refine z_ic_ge hX (off := 65) 82 (by decide +kernel) (by decide) ⟨by omega, by omega⟩ ⟨by omega, by omega⟩ (fun c17 => by exfalso; omega) (fun c17 => ?_)
      refine z_b hX (fo_no RX9) [.aload_n 0, .iload_n 3, .iload_n 1] 23 (by decide +kernel) rfl ?_
      refine z_cS hX m_X9_isOfAnother l_X9_42 p_X9_isOfAnother (c_X9_isOfAnother hg (show i < 12 by omega) ⟨by omega, by omega⟩) rfl rfl rfl rfl (by decide +kernel) ?_
      refine z_if_ne hX (off := 16) 42 (by decide +kernel) (by decide) ⟨by split <;> decide, by split <;> decide⟩ (fun c26 => ?_) (fun c26 => ?_)
      · refine z_b hX (fo_no RX9) [.iconst 0, .istore 4, .iload 4] 47 (by decide +kernel) rfl ?_
        refine z_if_eq hX (off := 29) 76 (by decide +kernel) (by decide) ⟨by decide, by decide⟩ (fun c47 => ?_) (fun c47 => by exact absurd c47 (by decide))
        refine z_b hX (fo_no RX9) [.iinc 3 1] 79 (by decide +kernel) rfl ?_
        refine z_goto hX (off := (-75)) 4 (by decide +kernel) (by decide) ?_
        exact z_lo [0, 2, 3, 4] (ih (i + 1) _ _ (by omega) (by omega) (by omega) (by rw [← hr]; exact congrArg (zbest c a (i + 1) m) (by clear ih hX hR hnx hr; grind))) rfl
      · refine z_b hX (fo_no RX9) [.aload_n 0, .iload_n 3, .iload_n 1] 32 (by decide +kernel) rfl ?_
        refine z_cS hX m_X9_isOpen l_X9_45 p_X9_isOpen (c_X9_isOpen hg (show i < 12 by omega) ha) rfl rfl rfl rfl (by decide +kernel) ?_
        refine z_if_ne hX (off := 7) 42 (by decide +kernel) (by decide) ⟨by split <;> decide, by split <;> decide⟩ (fun c35 => ?_) (fun c35 => ?_)
        · refine z_b hX (fo_no RX9) [.iconst 0, .istore 4, .iload 4] 47 (by decide +kernel) rfl ?_
          refine z_if_eq hX (off := 29) 76 (by decide +kernel) (by decide) ⟨by decide, by decide⟩ (fun c47 => ?_) (fun c47 => by exact absurd c47 (by decide))
          refine z_b hX (fo_no RX9) [.iinc 3 1] 79 (by decide +kernel) rfl ?_
          refine z_goto hX (off := (-75)) 4 (by decide +kernel) (by decide) ?_
          exact z_lo [0, 2, 3, 4] (ih (i + 1) _ _ (by omega) (by omega) (by omega) (by rw [← hr]; exact congrArg (zbest c a (i + 1) m) (by clear ih hX hR hnx hr; grind))) rfl
        · refine z_b hX (fo_no RX9) [.iconst 1] 39 (by decide +kernel) rfl ?_
          refine z_goto hX (off := 4) 43 (by decide +kernel) (by decide) ?_
          refine z_b hX (fo_no RX9) [.istore 4, .iload 4] 47 (by decide +kernel) rfl ?_
          refine z_if_eq hX (off := 29) 76 (by decide +kernel) (by decide) ⟨by decide, by decide⟩ (fun c47 => by exact absurd c47 (by decide)) (fun c47 => ?_)
          refine z_b hX (fo_no RX9) [.iload_n 2, .iconst (-1)] 52 (by decide +kernel) rfl ?_
          refine z_ic_eq hX (off := 22) 74 (by decide +kernel) (by decide) ⟨by omega, by omega⟩ ⟨by omega, by omega⟩ (fun c52 => ?_) (fun c52 => ?_)
          · refine z_b hX (fo_no RX9) [.iload_n 3, .istore_n 2, .iinc 3 1] 79 (by decide +kernel) rfl ?_
            refine z_goto hX (off := (-75)) 4 (by decide +kernel) (by decide) ?_
            exact z_lo [0, 1, 3, 4] (ih (i + 1) _ _ (by omega) (by omega) (by omega) (by rw [← hr]; exact congrArg (zbest c a (i + 1) m) (by clear ih hX hR hnx hr; grind))) rfl
          · refine z_b hX (fo_no RX9) [.aload_n 0, .bipush 13, .iload_n 3, .iadd] 60 (by decide +kernel) rfl ?_
            refine z_cV hX m_X6_at l_X9_11 p_X6_at (c_at (j := (13 + i)) (by omega) (by omega)) rfl rfl rfl rfl rfl rfl (by decide +kernel) ?_
            refine z_b hX (fo_no RX9) [.aload_n 0, .bipush 13, .iload_n 2, .iadd] 68 (by decide +kernel) rfl ?_
            refine z_cV hX m_X6_at l_X9_11 p_X6_at (c_at (j := 13 + bb.toNat) (by omega) (by omega)) rfl rfl rfl rfl rfl rfl (by decide +kernel) ?_
            refine z_ic_ge hX (off := 5) 76 (by decide +kernel) (by decide) (Rg.zi (hg.size (show i < 12 by omega)) (by omega) (by omega)) (Rg.zi (hg.size (show bb.toNat < 12 by omega)) (by omega) (by omega)) (fun c71 => ?_) (fun c71 => ?_)
            · refine z_b hX (fo_no RX9) [.iinc 3 1] 79 (by decide +kernel) rfl ?_
              refine z_goto hX (off := (-75)) 4 (by decide +kernel) (by decide) ?_
              exact z_lo [0, 2, 3, 4] (ih (i + 1) _ _ (by omega) (by omega) (by omega) (by rw [← hr]; exact congrArg (zbest c a (i + 1) m) (by clear ih hX hR hnx hr; grind))) rfl
            · refine z_b hX (fo_no RX9) [.iload_n 3, .istore_n 2, .iinc 3 1] 79 (by decide +kernel) rfl ?_
              refine z_goto hX (off := (-75)) 4 (by decide +kernel) (by decide) ?_
              exact z_lo [0, 1, 3, 4] (ih (i + 1) _ _ (by omega) (by omega) (by omega) (by rw [← hr]; exact congrArg (zbest c a (i + 1) m) (by clear ih hX hR hnx hr; grind))) rfl
  exact loop n 0 _ _ rfl (Or.inl rfl) (by omega) rfl
set_option maxHeartbeats 1000000 in
theorem c_X9_hoursByCount {E : zE} {k a : Nat} {B : Int} {σ : Nat → Nat → Int} {c : Nat → Int} {l : (Nat → Int64) × (Nat → UInt64)} (hg : Rg B c) (hk : k < 12) (ha : a < 6) : Rv E yX9_hoursByCount (Cond.code yX9_hoursByCount cX9_hoursByCount 6 (Option.some FieldType.int)) 1 [vr 1, vi (k : Int), vi (a : Int)] ((zs σ 21 c, l)) (vi (if 70 < c (85 + a) then -1 else zhrs (c (25 + k)) (c (37 + k)) (c (13 + k)) (c (85 + a)))) ((zs σ 21 c, l)) := by
  refine Ctr_of (own := RX9) (by decide +kernel) rfl rfl (fun Y hX hR hnx => ?_)
  have h1 := hg.rips hk
  have h2 := hg.miss hk
  have h3 := hg.size hk
  have h4 := hg.asize ha
  refine z_b hX (fo_no RX9) [.aload_n 0, .bipush 85, .iload_n 2, .iadd] 5 (by decide +kernel) rfl ?_
  refine z_cV hX m_X6_at l_X9_11 p_X6_at (c_at (j := (85 + a)) (by omega) (by omega)) rfl rfl rfl rfl rfl rfl (by decide +kernel) ?_
  refine z_b hX (fo_no RX9) [.istore_n 3, .iload_n 3, .bipush 70] 12 (by decide +kernel) rfl ?_
  refine z_ic_le hX (off := 5) 17 (by decide +kernel) (by decide) ⟨by omega, by omega⟩ ⟨by omega, by omega⟩ (fun c12 => ?_) (fun c12 => ?_)
  · refine z_b hX (fo_no RX9) [.iconst 0, .aload_n 0, .bipush 37, .iload_n 1, .iadd] 23 (by decide +kernel) rfl ?_
    refine z_cV hX m_X6_at l_X9_11 p_X6_at (c_at (j := (37 + k)) (by omega) (by omega)) rfl rfl rfl rfl rfl rfl (by decide +kernel) ?_
    refine z_b hX (fo_no RX9) [.bipush 10, .isub] 29 (by decide +kernel) rfl ?_
    refine z_max hX lm_X9_48 (by decide +kernel) ⟨by omega, by omega⟩ ⟨by omega, by omega⟩ rfl ?_
    refine z_b hX (fo_no RX9) [.istore 4, .iconst 0, .iload_n 3, .aload_n 0, .bipush 13, .iload_n 1, .iadd] 41 (by decide +kernel) rfl ?_
    refine z_cV hX m_X6_at l_X9_11 p_X6_at (c_at (j := (13 + k)) (by omega) (by omega)) rfl rfl rfl rfl rfl rfl (by decide +kernel) ?_
    refine z_b hX (fo_no RX9) [.isub] 45 (by decide +kernel) rfl ?_
    refine z_max hX lm_X9_48 (by decide +kernel) ⟨by omega, by omega⟩ ⟨by omega, by omega⟩ rfl ?_
    refine z_b hX (fo_no RX9) [.istore 5, .aload_n 0, .bipush 25, .iload_n 1, .iadd] 55 (by decide +kernel) rfl ?_
    refine z_cV hX m_X6_at l_X9_11 p_X6_at (c_at (j := (25 + k)) (by omega) (by omega)) rfl rfl rfl rfl rfl rfl (by decide +kernel) ?_
    refine z_b hX (fo_no RX9) [.iconst 1, .imul, .iload 4] 62 (by decide +kernel) rfl ?_
    refine z_cS hX m_X7_hoursFor l_X9_51 p_X7_hoursFor (c_X7_hoursFor ⟨by split <;> omega, by split <;> omega⟩) rfl rfl rfl rfl (by decide +kernel) ?_
    refine z_b hX (fo_no RX9) [.iadd, .iload 5, .iconst 2, .imul, .iadd] 71 (by decide +kernel) rfl ?_
    exact z_iret hX hR (by decide +kernel) ⟨by rw [if_neg (show ¬ 70 < c (85 + a) by omega)]; rfl, rfl⟩
  · refine z_b hX (fo_no RX9) [.iconst (-1)] 16 (by decide +kernel) rfl ?_
    exact z_iret hX hR (by decide +kernel) ⟨by rw [if_pos (by omega)], rfl⟩
theorem zh1 {r m s w : Int} (q : 0 < r) : zhrs (r + (-1)) m s w = zhrs r m s w - 1 := by unfold zhrs; omega
theorem zh2 {r m s w : Int} (q : 10 < m) : zhrs r (zmx 10 (m - 10)) s w = zhrs r m s w - 1 := by
  unfold zhrs
  have e1 : zmx 0 (m - 10) = m - 10 := if_pos (by omega)
  by_cases h : 10 < m - 10
  · have e3 : zmx 10 (m - 10) = m - 10 := if_pos h
    have e4 : zmx 0 (m - 10 - 10) = m - 10 - 10 := if_pos (by omega)
    rw [e3, e1, e4]; omega
  · have e3 : zmx 10 (m - 10) = 10 := if_neg h
    have e4 : zmx 0 ((10 : Int) - 10) = 0 := rfl
    rw [e3, e1, e4]; omega
theorem zh3 {r m s w : Int} (q : s < w) : zhrs r m (s + 1) w = zhrs r m s w - 2 := by
  unfold zhrs; simp only [zmx]
  rw [if_pos (show 0 < w - s by omega)]
  by_cases h : 0 < w - (s + 1)
  · rw [if_pos h]; omega
  · rw [if_neg h]; omega
theorem zh4 {r m s w : Int} (h1 : 0 ≤ r) : 0 ≤ zhrs r m s w ∧ (r ≤ 0 → m ≤ 10 → w ≤ s → zhrs r m s w = 0) ∧ (0 < r → 1 ≤ zhrs r m s w) ∧ (10 < m → 1 ≤ zhrs r m s w) ∧ (s < w → 2 ≤ zhrs r m s w) ∧ (r ≤ 9 → m ≤ 60 → w ≤ 70 → 0 ≤ s → zhrs r m s w ≤ 200) := by
  unfold zhrs; simp only [zmx]
  split <;> split <;> omega
set_option maxHeartbeats 1000000 in
theorem c_X9_hoursOneByOne {E : zE} {k a : Nat} {B : Int} {σ : Nat → Nat → Int} {c : Nat → Int} {l : (Nat → Int64) × (Nat → UInt64)} (hg : Rg B c) (hk : k < 12) (ha : a < 6) : Rv E yX9_hoursOneByOne (Cond.code yX9_hoursOneByOne cX9_hoursOneByOne 9 (Option.some FieldType.int)) 1 [vr 1, vi (k : Int), vi (a : Int)] ((zs σ 21 c, l)) (vi (if 70 < c (85 + a) then -1 else zhrs (c (25 + k)) (c (37 + k)) (c (13 + k)) (c (85 + a)))) ((zs σ 21 c, l)) := by
  refine Ctr_of (own := RX9) (by decide +kernel) rfl rfl (fun Y hX hR hnx => ?_)
  have h1 := hg.rips hk
  have h2 := hg.miss hk
  have h3 := hg.size hk
  have h4 := hg.asize ha
  refine z_b hX (fo_no RX9) [.aload_n 0, .bipush 85, .iload_n 2, .iadd] 5 (by decide +kernel) rfl ?_
  refine z_cV hX m_X6_at l_X9_11 p_X6_at (c_at (j := (85 + a)) (by omega) (by omega)) rfl rfl rfl rfl rfl rfl (by decide +kernel) ?_
  refine z_b hX (fo_no RX9) [.istore_n 3, .iload_n 3, .bipush 70] 12 (by decide +kernel) rfl ?_
  refine z_ic_le hX (off := 5) 17 (by decide +kernel) (by decide) ⟨by omega, by omega⟩ ⟨by omega, by omega⟩ (fun c12 => ?_) (fun c12 => ?_)
  · rw [if_neg (show ¬ 70 < c (85 + a) by omega)] at hR
    obtain ⟨R, hRR⟩ : ∃ R, R = zhrs (c (25 + k)) (c (37 + k)) (c (13 + k)) (c (85 + a)) := ⟨_, rfl⟩
    have hR4 := zh4 (r := c (25 + k)) (m := c (37 + k)) (s := c (13 + k)) (w := c (85 + a)) (by omega)
    rw [← hRR] at hR hR4
    refine z_b hX (fo_no RX9) [.aload_n 0, .bipush 25, .iload_n 1, .iadd] 22 (by decide +kernel) rfl ?_
    refine z_cV hX m_X6_at l_X9_11 p_X6_at (c_at (j := (25 + k)) (by omega) (by omega)) rfl rfl rfl rfl rfl rfl (by decide +kernel) ?_
    refine z_b hX (fo_no RX9) [.istore 4, .aload_n 0, .bipush 37, .iload_n 1, .iadd] 32 (by decide +kernel) rfl ?_
    refine z_cV hX m_X6_at l_X9_11 p_X6_at (c_at (j := (37 + k)) (by omega) (by omega)) rfl rfl rfl rfl rfl rfl (by decide +kernel) ?_
    refine z_b hX (fo_no RX9) [.istore 5, .aload_n 0, .bipush 13, .iload_n 1, .iadd] 42 (by decide +kernel) rfl ?_
    refine z_cV hX m_X6_at l_X9_11 p_X6_at (c_at (j := (13 + k)) (by omega) (by omega)) rfl rfl rfl rfl rfl rfl (by decide +kernel) ?_
    refine z_b hX (fo_no RX9) [.istore 6, .iconst 0, .istore 7, .iconst 0, .istore 8] 53 (by decide +kernel) rfl ?_
    have loop : ∀ (M : Nat) (r m s bb h : Int), (0 ≤ r ∧ r ≤ 9) → (0 ≤ m ∧ m ≤ 60) → (0 ≤ s ∧ s ≤ 70) → (bb = 0 ∨ (bb = 1 ∧ s < c (85 + a))) → 0 ≤ h → zhrs r m s (c (85 + a)) - bb = (M : Int) → h + (M : Int) = R → Z (E, Y) 0 53 [(8, vi h), (7, vi bb), (6, vi s), (5, vi m), (4, vi r), (3, vi (c (85 + a))), (0, vr 1), (1, vi (k : Int)), (2, vi (a : Int))] [] (zs σ 21 c, l) := by
      intro M
      induction M with
      | zero =>
        intro r m s bb h g1 g2 g3 g4 g5 g6 g7
        have f1 := @zh1 r m s (c (85 + a))
        have f2 : 10 < m → zhrs r (if 10 < m - 10 then m - 10 else 10) s (c (85 + a)) = zhrs r m s (c (85 + a)) - 1 := fun q => zh2 q
        have f3 := @zh3 r m s (c (85 + a))
        have f4 := zh4 (r := r) (m := m) (s := s) (w := c (85 + a)) (by omega)
        refine z_b hX (fo_no RX9) [.iload 8, .sipush 1000] 58 (by decide +kernel) rfl ?_
        refine z_ic_ge hX (off := 80) 138 (by decide +kernel) (by decide) ⟨by omega, by omega⟩ ⟨by omega, by omega⟩ (fun c58 => by exfalso; omega) (fun c58 => ?_)
        refine z_b hX (fo_no RX9) [.iload 4] 63 (by decide +kernel) rfl ?_
        refine z_if_gt hX (off := 16) 79 (by decide +kernel) (by decide) ⟨by omega, by omega⟩ (fun c63 => by exfalso; omega) (fun c63 => ?_)
        refine z_b hX (fo_no RX9) [.iload 5, .bipush 10] 70 (by decide +kernel) rfl ?_
        refine z_ic_gt hX (off := 9) 79 (by decide +kernel) (by decide) ⟨by omega, by omega⟩ ⟨by omega, by omega⟩ (fun c70 => by exfalso; omega) (fun c70 => ?_)
        refine z_b hX (fo_no RX9) [.iload 6, .iload_n 3] 76 (by decide +kernel) rfl ?_
        refine z_ic_ge hX (off := 62) 138 (by decide +kernel) (by decide) ⟨by omega, by omega⟩ ⟨by omega, by omega⟩ (fun c76 => ?_) (fun c76 => by exfalso; omega)
        refine z_b hX (fo_no RX9) [.iload 8] 140 (by decide +kernel) rfl ?_
        exact z_iret hX hR (by decide +kernel) ⟨congrArg (fun z => Sum.inl (some (vi z))) (by omega), rfl⟩
      | succ M ih =>
        intro r m s bb h g1 g2 g3 g4 g5 g6 g7
        have f1 := @zh1 r m s (c (85 + a))
        have f2 : 10 < m → zhrs r (if 10 < m - 10 then m - 10 else 10) s (c (85 + a)) = zhrs r m s (c (85 + a)) - 1 := fun q => zh2 q
        have f3 := @zh3 r m s (c (85 + a))
        have f4 := zh4 (r := r) (m := m) (s := s) (w := c (85 + a)) (by omega)
        refine z_b hX (fo_no RX9) [.iload 8, .sipush 1000] 58 (by decide +kernel) rfl ?_
        refine z_ic_ge hX (off := 80) 138 (by decide +kernel) (by decide) ⟨by omega, by omega⟩ ⟨by omega, by omega⟩ (fun c58 => by exfalso; omega) (fun c58 => ?_)
        refine z_b hX (fo_no RX9) [.iload 4] 63 (by decide +kernel) rfl ?_
        refine z_if_gt hX (off := 16) 79 (by decide +kernel) (by decide) ⟨by omega, by omega⟩ (fun c63 => ?_) (fun c63 => ?_)
        · refine z_b hX (fo_no RX9) [.iinc 8 1, .iload 4] 84 (by decide +kernel) rfl ?_
          refine z_if_le hX (off := 9) 93 (by decide +kernel) (by decide) ⟨by omega, by omega⟩ (fun c84 => ?_) (fun c84 => ?_)
          · refine z_b hX (fo_no RX9) [.iload 5, .bipush 10] 97 (by decide +kernel) rfl ?_
            refine z_ic_le hX (off := 18) 115 (by decide +kernel) (by decide) ⟨by omega, by omega⟩ ⟨by omega, by omega⟩ (fun c97 => ?_) (fun c97 => ?_)
            · refine z_b hX (fo_no RX9) [.iload 7, .iconst 1, .iadd, .iconst 2] 120 (by decide +kernel) rfl ?_
              refine z_ic_ge hX (off := 9) 129 (by decide +kernel) (by decide) ⟨by omega, by omega⟩ ⟨by omega, by omega⟩ (fun c120 => ?_) (fun c120 => ?_)
              · refine z_b hX (fo_no RX9) [.iconst 0, .istore 7, .iinc 6 1] 135 (by decide +kernel) rfl ?_
                refine z_goto hX (off := (-82)) 53 (by decide +kernel) (by decide) ?_
                exact z_lo [2, 1, 0, 3, 4, 5, 6, 7, 8] (ih _ _ _ _ _ (by omega) (by first | omega | (split <;> omega)) (by omega) (by omega) (by omega) (by omega) (by omega)) rfl
              · refine z_b hX (fo_no RX9) [.iinc 7 1] 126 (by decide +kernel) rfl ?_
                refine z_goto hX (off := (-73)) 53 (by decide +kernel) (by decide) ?_
                exact z_lo [1, 0, 2, 3, 4, 5, 6, 7, 8] (ih _ _ _ _ _ (by omega) (by first | omega | (split <;> omega)) (by omega) (by omega) (by omega) (by omega) (by omega)) rfl
            · refine z_b hX (fo_no RX9) [.bipush 10, .iload 5, .bipush 10, .isub] 107 (by decide +kernel) rfl ?_
              refine z_max hX lm_X9_48 (by decide +kernel) ⟨by omega, by omega⟩ ⟨by omega, by omega⟩ rfl ?_
              refine z_b hX (fo_no RX9) [.istore 5] 112 (by decide +kernel) rfl ?_
              refine z_goto hX (off := (-59)) 53 (by decide +kernel) (by decide) ?_
              exact z_lo [1, 2, 3, 0, 4, 5, 6, 7, 8] (ih _ _ _ _ _ (by omega) (by first | omega | (split <;> omega)) (by omega) (by omega) (by omega) (by omega) (by omega)) rfl
          · refine z_b hX (fo_no RX9) [.iinc 4 (-1)] 90 (by decide +kernel) rfl ?_
            refine z_goto hX (off := (-37)) 53 (by decide +kernel) (by decide) ?_
            exact z_lo [1, 2, 3, 4, 0, 5, 6, 7, 8] (ih _ _ _ _ _ (by omega) (by first | omega | (split <;> omega)) (by omega) (by omega) (by omega) (by omega) (by omega)) rfl
        · refine z_b hX (fo_no RX9) [.iload 5, .bipush 10] 70 (by decide +kernel) rfl ?_
          refine z_ic_gt hX (off := 9) 79 (by decide +kernel) (by decide) ⟨by omega, by omega⟩ ⟨by omega, by omega⟩ (fun c70 => ?_) (fun c70 => ?_)
          · refine z_b hX (fo_no RX9) [.iinc 8 1, .iload 4] 84 (by decide +kernel) rfl ?_
            refine z_if_le hX (off := 9) 93 (by decide +kernel) (by decide) ⟨by omega, by omega⟩ (fun c84 => ?_) (fun c84 => ?_)
            · refine z_b hX (fo_no RX9) [.iload 5, .bipush 10] 97 (by decide +kernel) rfl ?_
              refine z_ic_le hX (off := 18) 115 (by decide +kernel) (by decide) ⟨by omega, by omega⟩ ⟨by omega, by omega⟩ (fun c97 => ?_) (fun c97 => ?_)
              · refine z_b hX (fo_no RX9) [.iload 7, .iconst 1, .iadd, .iconst 2] 120 (by decide +kernel) rfl ?_
                refine z_ic_ge hX (off := 9) 129 (by decide +kernel) (by decide) ⟨by omega, by omega⟩ ⟨by omega, by omega⟩ (fun c120 => ?_) (fun c120 => ?_)
                · refine z_b hX (fo_no RX9) [.iconst 0, .istore 7, .iinc 6 1] 135 (by decide +kernel) rfl ?_
                  refine z_goto hX (off := (-82)) 53 (by decide +kernel) (by decide) ?_
                  exact z_lo [2, 1, 0, 3, 4, 5, 6, 7, 8] (ih _ _ _ _ _ (by omega) (by first | omega | (split <;> omega)) (by omega) (by omega) (by omega) (by omega) (by omega)) rfl
                · refine z_b hX (fo_no RX9) [.iinc 7 1] 126 (by decide +kernel) rfl ?_
                  refine z_goto hX (off := (-73)) 53 (by decide +kernel) (by decide) ?_
                  exact z_lo [1, 0, 2, 3, 4, 5, 6, 7, 8] (ih _ _ _ _ _ (by omega) (by first | omega | (split <;> omega)) (by omega) (by omega) (by omega) (by omega) (by omega)) rfl
              · refine z_b hX (fo_no RX9) [.bipush 10, .iload 5, .bipush 10, .isub] 107 (by decide +kernel) rfl ?_
                refine z_max hX lm_X9_48 (by decide +kernel) ⟨by omega, by omega⟩ ⟨by omega, by omega⟩ rfl ?_
                refine z_b hX (fo_no RX9) [.istore 5] 112 (by decide +kernel) rfl ?_
                refine z_goto hX (off := (-59)) 53 (by decide +kernel) (by decide) ?_
                exact z_lo [1, 2, 3, 0, 4, 5, 6, 7, 8] (ih _ _ _ _ _ (by omega) (by first | omega | (split <;> omega)) (by omega) (by omega) (by omega) (by omega) (by omega)) rfl
            · refine z_b hX (fo_no RX9) [.iinc 4 (-1)] 90 (by decide +kernel) rfl ?_
              refine z_goto hX (off := (-37)) 53 (by decide +kernel) (by decide) ?_
              exact z_lo [1, 2, 3, 4, 0, 5, 6, 7, 8] (ih _ _ _ _ _ (by omega) (by first | omega | (split <;> omega)) (by omega) (by omega) (by omega) (by omega) (by omega)) rfl
          · refine z_b hX (fo_no RX9) [.iload 6, .iload_n 3] 76 (by decide +kernel) rfl ?_
            refine z_ic_ge hX (off := 62) 138 (by decide +kernel) (by decide) ⟨by omega, by omega⟩ ⟨by omega, by omega⟩ (fun c76 => by exfalso; omega) (fun c76 => ?_)
            refine z_b hX (fo_no RX9) [.iinc 8 1, .iload 4] 84 (by decide +kernel) rfl ?_
            refine z_if_le hX (off := 9) 93 (by decide +kernel) (by decide) ⟨by omega, by omega⟩ (fun c84 => ?_) (fun c84 => ?_)
            · refine z_b hX (fo_no RX9) [.iload 5, .bipush 10] 97 (by decide +kernel) rfl ?_
              refine z_ic_le hX (off := 18) 115 (by decide +kernel) (by decide) ⟨by omega, by omega⟩ ⟨by omega, by omega⟩ (fun c97 => ?_) (fun c97 => ?_)
              · refine z_b hX (fo_no RX9) [.iload 7, .iconst 1, .iadd, .iconst 2] 120 (by decide +kernel) rfl ?_
                refine z_ic_ge hX (off := 9) 129 (by decide +kernel) (by decide) ⟨by omega, by omega⟩ ⟨by omega, by omega⟩ (fun c120 => ?_) (fun c120 => ?_)
                · refine z_b hX (fo_no RX9) [.iconst 0, .istore 7, .iinc 6 1] 135 (by decide +kernel) rfl ?_
                  refine z_goto hX (off := (-82)) 53 (by decide +kernel) (by decide) ?_
                  exact z_lo [2, 1, 0, 3, 4, 5, 6, 7, 8] (ih _ _ _ _ _ (by omega) (by first | omega | (split <;> omega)) (by omega) (by omega) (by omega) (by omega) (by omega)) rfl
                · refine z_b hX (fo_no RX9) [.iinc 7 1] 126 (by decide +kernel) rfl ?_
                  refine z_goto hX (off := (-73)) 53 (by decide +kernel) (by decide) ?_
                  exact z_lo [1, 0, 2, 3, 4, 5, 6, 7, 8] (ih _ _ _ _ _ (by omega) (by first | omega | (split <;> omega)) (by omega) (by omega) (by omega) (by omega) (by omega)) rfl
              · refine z_b hX (fo_no RX9) [.bipush 10, .iload 5, .bipush 10, .isub] 107 (by decide +kernel) rfl ?_
                refine z_max hX lm_X9_48 (by decide +kernel) ⟨by omega, by omega⟩ ⟨by omega, by omega⟩ rfl ?_
                refine z_b hX (fo_no RX9) [.istore 5] 112 (by decide +kernel) rfl ?_
                refine z_goto hX (off := (-59)) 53 (by decide +kernel) (by decide) ?_
                exact z_lo [1, 2, 3, 0, 4, 5, 6, 7, 8] (ih _ _ _ _ _ (by omega) (by first | omega | (split <;> omega)) (by omega) (by omega) (by omega) (by omega) (by omega)) rfl
            · refine z_b hX (fo_no RX9) [.iinc 4 (-1)] 90 (by decide +kernel) rfl ?_
              refine z_goto hX (off := (-37)) 53 (by decide +kernel) (by decide) ?_
              exact z_lo [1, 2, 3, 4, 0, 5, 6, 7, 8] (ih _ _ _ _ _ (by omega) (by first | omega | (split <;> omega)) (by omega) (by omega) (by omega) (by omega) (by omega)) rfl
    exact loop R.toNat _ _ _ 0 0 h1 h2 h3 (Or.inl rfl) (by omega) (by omega) (by omega)
  · refine z_b hX (fo_no RX9) [.iconst (-1)] 16 (by decide +kernel) rfl ?_
    exact z_iret hX hR (by decide +kernel) ⟨by rw [if_pos (by omega)], rfl⟩
set_option maxHeartbeats 1000000 in
theorem c_X9_signOf {E : zE} {k : Nat} {B : Int} {σ : Nat → Nat → Int} {c : Nat → Int} {l : (Nat → Int64) × (Nat → UInt64)} (hg : Rg B c) (hk : k < 12) : Rv E yX9_signOf (Cond.code yX9_signOf cX9_signOf 2 (Option.some FieldType.char)) 2 [vr 1, vi (k : Int)] ((zs σ 21 c, l)) (vi (zsign c k)) ((zs σ 21 c, l)) := by
  refine Ctr_of (own := RX9) (by decide +kernel) rfl rfl (fun Y hX hR hnx => ?_)
  have h1 := hg.rips hk
  have h2 := hg.tr hk
  have h3 := hg.own hk
  refine z_b hX (fo_no RX9) [.aload_n 0, .bipush 61, .iload_n 1, .iadd] 5 (by decide +kernel) rfl ?_
  refine z_cV hX m_X6_at l_X9_11 p_X6_at (c_at (j := (61 + k)) (by omega) (by omega)) rfl rfl rfl rfl rfl rfl (by decide +kernel) ?_
  refine z_b hX (fo_no RX9) [.iconst (-1)] 9 (by decide +kernel) rfl ?_
  refine z_ic_eq hX (off := 6) 15 (by decide +kernel) (by decide) ⟨by omega, by omega⟩ ⟨by omega, by omega⟩ (fun c9 => ?_) (fun c9 => ?_)
  · refine z_b hX (fo_no RX9) [.aload_n 0, .bipush 25, .iload_n 1, .iadd] 20 (by decide +kernel) rfl ?_
    refine z_cV hX m_X6_at l_X9_11 p_X6_at (c_at (j := (25 + k)) (by omega) (by omega)) rfl rfl rfl rfl rfl rfl (by decide +kernel) ?_
    refine z_if_le hX (off := 6) 29 (by decide +kernel) (by decide) ⟨by omega, by omega⟩ (fun c23 => ?_) (fun c23 => ?_)
    · refine z_b hX (fo_no RX9) [.aload_n 0, .iload_n 1] 31 (by decide +kernel) rfl ?_
      refine z_cS hX m_X9_hasGaps l_X9_32 p_X9_hasGaps (c_X9_hasGaps hg hk) rfl rfl rfl rfl (by decide +kernel) ?_
      refine z_if_eq hX (off := 6) 40 (by decide +kernel) (by decide) ⟨by split <;> decide, by split <;> decide⟩ (fun c34 => ?_) (fun c34 => ?_)
      · refine z_b hX (fo_no RX9) [.aload_n 0, .bipush 49, .iload_n 1, .iadd] 45 (by decide +kernel) rfl ?_
        refine z_cV hX m_X6_at l_X9_11 p_X6_at (c_at (j := (49 + k)) (by omega) (by omega)) rfl rfl rfl rfl rfl rfl (by decide +kernel) ?_
        refine z_b hX (fo_no RX9) [.iconst (-1)] 49 (by decide +kernel) rfl ?_
        refine z_ic_eq hX (off := 8) 57 (by decide +kernel) (by decide) ⟨by omega, by omega⟩ ⟨by omega, by omega⟩ (fun c49 => ?_) (fun c49 => ?_)
        · refine z_b hX (fo_no RX9) [.bipush 99] 59 (by decide +kernel) rfl ?_
          exact z_zret hX hR (by decide +kernel) (by decide +kernel) ⟨congrArg (fun z => Sum.inl (some (vi z))) (by clear hX hR hnx; unfold zsign; grind), rfl⟩
        · refine z_b hX (fo_no RX9) [.bipush 119] 54 (by decide +kernel) rfl ?_
          refine z_goto hX (off := 5) 59 (by decide +kernel) (by decide) ?_
          exact z_zret hX hR (by decide +kernel) (by decide +kernel) ⟨congrArg (fun z => Sum.inl (some (vi z))) (by clear hX hR hnx; unfold zsign; grind), rfl⟩
      · refine z_b hX (fo_no RX9) [.bipush 115] 39 (by decide +kernel) rfl ?_
        exact z_zret hX hR (by decide +kernel) (by decide +kernel) ⟨congrArg (fun z => Sum.inl (some (vi z))) (by clear hX hR hnx; unfold zsign; grind), rfl⟩
    · refine z_b hX (fo_no RX9) [.bipush 114] 28 (by decide +kernel) rfl ?_
      exact z_zret hX hR (by decide +kernel) (by decide +kernel) ⟨congrArg (fun z => Sum.inl (some (vi z))) (by clear hX hR hnx; unfold zsign; grind), rfl⟩
  · refine z_b hX (fo_no RX9) [.bipush 116] 14 (by decide +kernel) rfl ?_
    exact z_zret hX hR (by decide +kernel) (by decide +kernel) ⟨congrArg (fun z => Sum.inl (some (vi z))) (by clear hX hR hnx; unfold zsign; grind), rfl⟩
