/-! ===== Sewing ===== -/
def ad (c : Nat → Int) (j : Nat) (v : Int) : Nat → Int := va_up c j (c j + v)
theorem c_add {E : zE} {j : Nat} {i v : Int} {σ : Nat → Nat → Int} {c : Nat → Int} {l : (Nat → Int64) × (Nat → UInt64)} (hi : i = (j : Int)) (hj : j < 181) : Rv E yX6_add (Cond.code yX6_add cX6_add 3 (Option.some FieldType.int)) 1 [vr 1, vi i, vi v] (zs σ 21 c, l) (vi (c j + v)) (zs σ 21 (ad c j v), l) := c_X6_add hi hj
def sSpend (c : Nat → Int) (w : Nat) (h : Int) : Nat → Int :=
  va_up (ad (ad c (109 + w) (-h)) (117 + w) h) (113 + w) (if (ad (ad c (109 + w) (-h)) (117 + w) h) (113 + w) + 1 < 9 then (ad (ad c (109 + w) (-h)) (117 + w) h) (113 + w) + 1 else 9)
def sMend0 (c : Nat → Int) (w : Nat) : Nat → Int := ad (sSpend c w 1) 2 (-1)
def sMend (c : Nat → Int) (w k : Nat) : Nat → Int := ad (sMend0 c w) (25 + k) (-1)
def sSew0 (c : Nat → Int) (w : Nat) (n : Int) : Nat → Int := ad (ad (ad (sSpend c w ((n + 10 - 1) / 10)) 2 (-((n + 5 - 1) / 5))) 1 (-n)) 4 n
def sSew (c : Nat → Int) (w k : Nat) (n : Int) : Nat → Int := ad (sSew0 c w n) (37 + k) (-n)
def sWiden0 (c : Nat → Int) (w : Nat) : Nat → Int := ad (sSpend c w 2) 2 (-3)
def sWiden (c : Nat → Int) (w k : Nat) : Nat → Int := ad (sWiden0 c w) (13 + k) 1
def sPatch (c : Nat → Int) (w p : Nat) : Nat → Int := va_up (ad (sSpend c w 1) 3 (-1)) (149 + p) 0
def sWoman (c : Nat → Int) (w : Nat) : Nat → Int := ad (va_up (va_up (va_up c (109 + w) 8) (113 + w) 0) (117 + w) 0) 10 1
def sStore (c : Nat → Int) (k : Nat) (b : Int) : Nat → Int := ad (if k = 0 then ad c 6 b else c) (1 + k) b
theorem zsnd (c : Nat → Int) {w : Nat} (hw : w < 4) (h : Int) : (ad (ad c (109 + w) (-h)) (117 + w) h) (113 + w) = c (113 + w) := by
  simp only [ad, va_up]
  rw [if_neg (by omega), if_neg (by omega)]
set_option maxHeartbeats 1000000 in
theorem c_X7_hoursFor {E : zE} {x : Int} {st : zT} (hx : 0 ≤ x ∧ x ≤ 100000) : Rv E yX7_hoursFor (Cond.code yX7_hoursFor cX7_hoursFor 1 (Option.some FieldType.int)) 0 [vi x] (st) (vi ((x + 10 - 1) / 10)) (st) := by
  refine Ctr_of (own := RX7) (by decide +kernel) rfl rfl (fun Y hX hR hnx => ?_)
  refine z_b hX (fo_no RX7) [.iload_n 0, .bipush 10, .iadd, .iconst 1, .isub, .bipush 10] 8 (by decide +kernel) rfl ?_
  refine z_idiv hX (by decide +kernel) (by omega) (by omega) ?_
  exact z_iret hX hR (by decide +kernel) ⟨rfl, rfl⟩
set_option maxHeartbeats 1000000 in
theorem c_X7_threadFor {E : zE} {x : Int} {st : zT} (hx : 0 ≤ x ∧ x ≤ 100000) : Rv E yX7_threadFor (Cond.code yX7_threadFor cX7_threadFor 1 (Option.some FieldType.int)) 0 [vi x] (st) (vi ((x + 5 - 1) / 5)) (st) := by
  refine Ctr_of (own := RX7) (by decide +kernel) rfl rfl (fun Y hX hR hnx => ?_)
  refine z_b hX (fo_no RX7) [.iload_n 0, .iconst 5, .iadd, .iconst 1, .isub, .iconst 5] 6 (by decide +kernel) rfl ?_
  refine z_idiv hX (by decide +kernel) (by omega) (by omega) ?_
  exact z_iret hX hR (by decide +kernel) ⟨rfl, rfl⟩
set_option maxHeartbeats 1000000 in
theorem c_X7_spend {E : zE} {w : Nat} {h : Int} {σ : Nat → Nat → Int} {c : Nat → Int} {l : (Nat → Int64) × (Nat → UInt64)} (hw : w < 4) (hs : 0 ≤ c (113 + w) ∧ c (113 + w) ≤ 9) : Rn E yX7_spend (Cond.code yX7_spend cX7_spend 3 (Option.none : Option FieldType)) 2 [vr 1, vi (w : Int), vi h] ((zs σ 21 c, l)) ((zs σ 21 (sSpend c w h), l)) := by
  refine Ctr_of (own := RX7) (by decide +kernel) rfl rfl (fun Y hX hR hnx => ?_)
  refine z_b hX (fo_no RX7) [.aload_n 0, .bipush 109, .iload_n 1, .iadd, .iload_n 2, .ineg] 7 (by decide +kernel) rfl ?_
  refine z_cV hX m_X6_add l_X7_19 p_X6_add (c_add (j := (109 + w)) (by omega) (by omega)) rfl rfl rfl rfl rfl rfl (by decide +kernel) ?_
  refine z_b hX (fo_no RX7) [.pop, .aload_n 0, .bipush 117, .iload_n 1, .iadd, .iload_n 2] 17 (by decide +kernel) rfl ?_
  refine z_cV hX m_X6_add l_X7_19 p_X6_add (c_add (j := (117 + w)) (by omega) (by omega)) rfl rfl rfl rfl rfl rfl (by decide +kernel) ?_
  refine z_b hX (fo_no RX7) [.pop, .aload_n 0, .bipush 113, .iload_n 1, .iadd, .bipush 9, .aload_n 0, .bipush 113, .iload_n 1, .iadd] 33 (by decide +kernel) rfl ?_
  refine z_cV hX m_X6_at l_X7_11 p_X6_at (c_at (j := (113 + w)) (by omega) (by omega)) rfl rfl rfl rfl rfl rfl (by decide +kernel) ?_
  refine z_b hX (fo_no RX7) [.iconst 1, .iadd] 38 (by decide +kernel) rfl ?_
  refine z_min hX lm_X7_23 (by decide +kernel) ⟨by omega, by omega⟩ (by rw [zsnd c hw h]; exact ⟨by omega, by omega⟩) rfl ?_
  refine z_cV0 hX m_X6_put l_X7_15 p_X6_put (c_put (j := (113 + w)) (by omega) (by omega)) rfl rfl rfl rfl rfl rfl (by decide +kernel) ?_
  exact z_vret hX hR (by decide +kernel) ⟨rfl, rfl⟩
set_option maxHeartbeats 1000000 in
theorem c_X7_mend {E : zE} {w k : Nat} {σ : Nat → Nat → Int} {c : Nat → Int} {l : (Nat → Int64) × (Nat → UInt64)} (hk : k < 12) (hw : w < 4) (hs : 0 ≤ c (113 + w) ∧ c (113 + w) ≤ 9) : Rv E yX7_mend (Cond.code yX7_mend cX7_mend 3 (Option.some FieldType.int)) 3 [vr 1, vi (w : Int), vi (k : Int)] ((zs σ 21 c, l)) (vi ((sMend0 c w) (25 + k) + (-1))) ((zs σ 21 (sMend c w k), l)) := by
  refine Ctr_of (own := RX7) (by decide +kernel) rfl rfl (fun Y hX hR hnx => ?_)
  refine z_b hX (fo_no RX7) [.aload_n 0, .iload_n 1, .iconst 1] 3 (by decide +kernel) rfl ?_
  refine z_cS0 hX m_X7_spend l_X7_28 p_X7_spend (c_X7_spend (w := w) hw hs) rfl rfl rfl rfl (by decide +kernel) ?_
  refine z_b hX (fo_no RX7) [.aload_n 0, .iconst 2, .iconst (-1)] 9 (by decide +kernel) rfl ?_
  refine z_cV hX m_X6_add l_X7_19 p_X6_add (c_add (j := 2) (by omega) (by omega)) rfl rfl rfl rfl rfl rfl (by decide +kernel) ?_
  refine z_b hX (fo_no RX7) [.pop, .aload_n 0, .bipush 25, .iload_n 2, .iadd, .iconst (-1)] 19 (by decide +kernel) rfl ?_
  refine z_cV hX m_X6_add l_X7_19 p_X6_add (c_add (j := (25 + k)) (by omega) (by omega)) rfl rfl rfl rfl rfl rfl (by decide +kernel) ?_
  exact z_iret hX hR (by decide +kernel) ⟨rfl, rfl⟩
set_option maxHeartbeats 1000000 in
theorem c_X7_sewOn {E : zE} {w k : Nat} {n : Int} {σ : Nat → Nat → Int} {c : Nat → Int} {l : (Nat → Int64) × (Nat → UInt64)} (hk : k < 12) (hn : 1 ≤ n ∧ n ≤ 60) (hw : w < 4) (hs : 0 ≤ c (113 + w) ∧ c (113 + w) ≤ 9) : Rv E yX7_sewOn (Cond.code yX7_sewOn cX7_sewOn 4 (Option.some FieldType.int)) 3 [vr 1, vi (w : Int), vi (k : Int), vi n] ((zs σ 21 c, l)) (vi ((sSew0 c w n) (37 + k) + (-n))) ((zs σ 21 (sSew c w k n), l)) := by
  refine Ctr_of (own := RX7) (by decide +kernel) rfl rfl (fun Y hX hR hnx => ?_)
  refine z_b hX (fo_no RX7) [.aload_n 0, .iload_n 1, .iload_n 3] 3 (by decide +kernel) rfl ?_
  refine z_cS hX m_X7_hoursFor l_X7_34 p_X7_hoursFor (c_X7_hoursFor (by omega)) rfl rfl rfl rfl (by decide +kernel) ?_
  refine z_cS0 hX m_X7_spend l_X7_28 p_X7_spend (c_X7_spend (w := w) hw hs) rfl rfl rfl rfl (by decide +kernel) ?_
  refine z_b hX (fo_no RX7) [.aload_n 0, .iconst 2, .iload_n 3] 12 (by decide +kernel) rfl ?_
  refine z_cS hX m_X7_threadFor l_X7_37 p_X7_threadFor (c_X7_threadFor (by omega)) rfl rfl rfl rfl (by decide +kernel) ?_
  refine z_b hX (fo_no RX7) [.ineg] 16 (by decide +kernel) rfl ?_
  refine z_cV hX m_X6_add l_X7_19 p_X6_add (c_add (j := 2) (by omega) (by omega)) rfl rfl rfl rfl rfl rfl (by decide +kernel) ?_
  refine z_b hX (fo_no RX7) [.pop, .aload_n 0, .iconst 1, .iload_n 3, .ineg] 24 (by decide +kernel) rfl ?_
  refine z_cV hX m_X6_add l_X7_19 p_X6_add (c_add (j := 1) (by omega) (by omega)) rfl rfl rfl rfl rfl rfl (by decide +kernel) ?_
  refine z_b hX (fo_no RX7) [.pop, .aload_n 0, .iconst 4, .iload_n 3] 31 (by decide +kernel) rfl ?_
  refine z_cV hX m_X6_add l_X7_19 p_X6_add (c_add (j := 4) (by omega) (by omega)) rfl rfl rfl rfl rfl rfl (by decide +kernel) ?_
  refine z_b hX (fo_no RX7) [.pop, .aload_n 0, .bipush 37, .iload_n 2, .iadd, .iload_n 3, .ineg] 42 (by decide +kernel) rfl ?_
  refine z_cV hX m_X6_add l_X7_19 p_X6_add (c_add (j := (37 + k)) (by omega) (by omega)) rfl rfl rfl rfl rfl rfl (by decide +kernel) ?_
  exact z_iret hX hR (by decide +kernel) ⟨rfl, rfl⟩
set_option maxHeartbeats 1000000 in
theorem c_X7_widen {E : zE} {w k : Nat} {σ : Nat → Nat → Int} {c : Nat → Int} {l : (Nat → Int64) × (Nat → UInt64)} (hk : k < 12) (hw : w < 4) (hs : 0 ≤ c (113 + w) ∧ c (113 + w) ≤ 9) : Rv E yX7_widen (Cond.code yX7_widen cX7_widen 3 (Option.some FieldType.int)) 3 [vr 1, vi (w : Int), vi (k : Int)] ((zs σ 21 c, l)) (vi ((sWiden0 c w) (13 + k) + 1)) ((zs σ 21 (sWiden c w k), l)) := by
  refine Ctr_of (own := RX7) (by decide +kernel) rfl rfl (fun Y hX hR hnx => ?_)
  refine z_b hX (fo_no RX7) [.aload_n 0, .iload_n 1, .iconst 2] 3 (by decide +kernel) rfl ?_
  refine z_cS0 hX m_X7_spend l_X7_28 p_X7_spend (c_X7_spend (w := w) hw hs) rfl rfl rfl rfl (by decide +kernel) ?_
  refine z_b hX (fo_no RX7) [.aload_n 0, .iconst 2, .bipush (-3)] 10 (by decide +kernel) rfl ?_
  refine z_cV hX m_X6_add l_X7_19 p_X6_add (c_add (j := 2) (by omega) (by omega)) rfl rfl rfl rfl rfl rfl (by decide +kernel) ?_
  refine z_b hX (fo_no RX7) [.pop, .aload_n 0, .bipush 13, .iload_n 2, .iadd, .iconst 1] 20 (by decide +kernel) rfl ?_
  refine z_cV hX m_X6_add l_X7_19 p_X6_add (c_add (j := (13 + k)) (by omega) (by omega)) rfl rfl rfl rfl rfl rfl (by decide +kernel) ?_
  exact z_iret hX hR (by decide +kernel) ⟨rfl, rfl⟩
set_option maxHeartbeats 1000000 in
theorem c_X7_patchLowest {E : zE} {w p : Nat} {σ : Nat → Nat → Int} {c : Nat → Int} {l : (Nat → Int64) × (Nat → UInt64)} (hp : zfst (fun p => c (149 + p)) 0 32 = (p : Int)) (hp2 : p < 32) (hz : ∀ p, p < 32 → zi (c (149 + p))) (hw : w < 4) (hs : 0 ≤ c (113 + w) ∧ c (113 + w) ≤ 9) : Rv E yX7_patchLowest (Cond.code yX7_patchLowest cX7_patchLowest 3 (Option.some FieldType.int)) 3 [vr 1, vi (w : Int)] ((zs σ 21 c, l)) (vi (p : Int)) ((zs σ 21 (sPatch c w p), l)) := by
  refine Ctr_of (own := RX7) (by decide +kernel) rfl rfl (fun Y hX hR hnx => ?_)
  refine z_b hX (fo_no RX7) [.aload_n 0, .iconst 0] 2 (by decide +kernel) rfl ?_
  refine z_cV hX m_X6_tornFrom l_X7_40 p_X6_tornFrom (c_X6_tornFrom (a := 0) (by omega) hz) rfl rfl rfl rfl rfl rfl (by decide +kernel) ?_
  rw [hp]
  refine z_b hX (fo_no RX7) [.istore_n 2, .aload_n 0, .iload_n 1, .iconst 1] 9 (by decide +kernel) rfl ?_
  refine z_cS0 hX m_X7_spend l_X7_28 p_X7_spend (c_X7_spend (w := w) hw hs) rfl rfl rfl rfl (by decide +kernel) ?_
  refine z_b hX (fo_no RX7) [.aload_n 0, .iconst 3, .iconst (-1)] 15 (by decide +kernel) rfl ?_
  refine z_cV hX m_X6_add l_X7_19 p_X6_add (c_add (j := 3) (by omega) (by omega)) rfl rfl rfl rfl rfl rfl (by decide +kernel) ?_
  refine z_b hX (fo_no RX7) [.pop, .iload_n 2, .iconst (-1)] 21 (by decide +kernel) rfl ?_
  refine z_ic_eq hX (off := 13) 34 (by decide +kernel) (by decide) ⟨by omega, by omega⟩ ⟨by omega, by omega⟩ (fun c21 => by exfalso; omega) (fun c21 => ?_)
  refine z_b hX (fo_no RX7) [.aload_n 0, .sipush 149, .iload_n 2, .iadd, .iconst 0] 31 (by decide +kernel) rfl ?_
  refine z_cV0 hX m_X6_put l_X7_15 p_X6_put (c_put (j := (149 + p)) (by omega) (by omega)) rfl rfl rfl rfl rfl rfl (by decide +kernel) ?_
  refine z_b hX (fo_no RX7) [.iload_n 2] 35 (by decide +kernel) rfl ?_
  exact z_iret hX hR (by decide +kernel) ⟨rfl, rfl⟩
set_option maxHeartbeats 1000000 in
theorem c_X7_addSeamstress {E : zE} {w : Nat} {σ : Nat → Nat → Int} {c : Nat → Int} {l : (Nat → Int64) × (Nat → UInt64)} (hc : c 10 = (w : Int)) (hw : w < 4) : Rv E yX7_addSeamstress (Cond.code yX7_addSeamstress cX7_addSeamstress 2 (Option.some FieldType.int)) 2 [vr 1] ((zs σ 21 c, l)) (vi (w : Int)) ((zs σ 21 (sWoman c w), l)) := by
  refine Ctr_of (own := RX7) (by decide +kernel) rfl rfl (fun Y hX hR hnx => ?_)
  refine z_b hX (fo_no RX7) [.aload_n 0, .bipush 10] 3 (by decide +kernel) rfl ?_
  refine z_cV hX m_X6_at l_X7_11 p_X6_at (c_at (j := 10) (by omega) (by omega)) rfl rfl rfl rfl rfl rfl (by decide +kernel) ?_
  rw [hc]
  refine z_b hX (fo_no RX7) [.istore_n 1, .aload_n 0, .bipush 109, .iload_n 1, .iadd, .bipush 8] 14 (by decide +kernel) rfl ?_
  refine z_cV0 hX m_X6_put l_X7_15 p_X6_put (c_put (j := (109 + w)) (by omega) (by omega)) rfl rfl rfl rfl rfl rfl (by decide +kernel) ?_
  refine z_b hX (fo_no RX7) [.aload_n 0, .bipush 113, .iload_n 1, .iadd, .iconst 0] 23 (by decide +kernel) rfl ?_
  refine z_cV0 hX m_X6_put l_X7_15 p_X6_put (c_put (j := (113 + w)) (by omega) (by omega)) rfl rfl rfl rfl rfl rfl (by decide +kernel) ?_
  refine z_b hX (fo_no RX7) [.aload_n 0, .bipush 117, .iload_n 1, .iadd, .iconst 0] 32 (by decide +kernel) rfl ?_
  refine z_cV0 hX m_X6_put l_X7_15 p_X6_put (c_put (j := (117 + w)) (by omega) (by omega)) rfl rfl rfl rfl rfl rfl (by decide +kernel) ?_
  refine z_b hX (fo_no RX7) [.aload_n 0, .bipush 10, .iconst 1] 39 (by decide +kernel) rfl ?_
  refine z_cV hX m_X6_add l_X7_19 p_X6_add (c_add (j := 10) (by omega) (by omega)) rfl rfl rfl rfl rfl rfl (by decide +kernel) ?_
  refine z_b hX (fo_no RX7) [.pop, .iload_n 1] 44 (by decide +kernel) rfl ?_
  exact z_iret hX hR (by decide +kernel) ⟨rfl, rfl⟩
set_option maxHeartbeats 1000000 in
theorem c_X7_store0 {E : zE} {n : Int} {σ : Nat → Nat → Int} {c : Nat → Int} {l : (Nat → Int64) × (Nat → UInt64)} (hn : 1 ≤ n ∧ n ≤ 99) (hc : 0 ≤ c 1 ∧ c 1 ≤ 999) : Rv E yX7_store (Cond.code yX7_store cX7_store 5 (Option.some FieldType.int)) 2 [vr 1, vi 0, vi n] ((zs σ 21 c, l)) (vi ((if 0 = 0 then ad c 6 (if 999 - c 1 < n then 999 - c 1 else n) else c) 1 + (if 999 - c 1 < n then 999 - c 1 else n))) ((zs σ 21 (sStore c 0 (if 999 - c 1 < n then 999 - c 1 else n)), l)) := by
  refine Ctr_of (own := RX7) (by decide +kernel) rfl rfl (fun Y hX hR hnx => ?_)
  refine z_b hX (fo_no RX7) [.iconst 1, .iload_n 1, .iadd, .istore_n 3, .iload_n 2, .sipush 999, .aload_n 0, .iload_n 3] 10 (by decide +kernel) rfl ?_
  refine z_cV hX m_X6_at l_X7_11 p_X6_at (c_at (j := 1) (by omega) (by omega)) rfl rfl rfl rfl rfl rfl (by decide +kernel) ?_
  refine z_b hX (fo_no RX7) [.isub] 14 (by decide +kernel) rfl ?_
  refine z_min hX lm_X7_23 (by decide +kernel) ⟨by omega, by omega⟩ ⟨by omega, by omega⟩ rfl ?_
  refine z_b hX (fo_no RX7) [.istore 4, .iload_n 3, .iconst 1] 21 (by decide +kernel) rfl ?_
  refine z_ic_ne hX (off := 12) 33 (by decide +kernel) (by decide) ⟨by decide, by decide⟩ ⟨by decide, by decide⟩ (fun c21 => by exact absurd rfl c21) (fun c21 => ?_)
  refine z_b hX (fo_no RX7) [.aload_n 0, .bipush 6, .iload 4] 29 (by decide +kernel) rfl ?_
  refine z_cV hX m_X6_add l_X7_19 p_X6_add (c_add (j := 6) (by omega) (by omega)) rfl rfl rfl rfl rfl rfl (by decide +kernel) ?_
  refine z_b hX (fo_no RX7) [.pop, .aload_n 0, .iload_n 3, .iload 4] 37 (by decide +kernel) rfl ?_
  refine z_cV hX m_X6_add l_X7_19 p_X6_add (c_add (j := 1) (by omega) (by omega)) rfl rfl rfl rfl rfl rfl (by decide +kernel) ?_
  exact z_iret hX hR (by decide +kernel) ⟨rfl, rfl⟩
set_option maxHeartbeats 1000000 in
theorem c_X7_store1 {E : zE} {n : Int} {σ : Nat → Nat → Int} {c : Nat → Int} {l : (Nat → Int64) × (Nat → UInt64)} (hn : 1 ≤ n ∧ n ≤ 99) (hc : 0 ≤ c 2 ∧ c 2 ≤ 999) : Rv E yX7_store (Cond.code yX7_store cX7_store 5 (Option.some FieldType.int)) 2 [vr 1, vi 1, vi n] ((zs σ 21 c, l)) (vi ((if 1 = 0 then ad c 6 (if 999 - c 2 < n then 999 - c 2 else n) else c) 2 + (if 999 - c 2 < n then 999 - c 2 else n))) ((zs σ 21 (sStore c 1 (if 999 - c 2 < n then 999 - c 2 else n)), l)) := by
  refine Ctr_of (own := RX7) (by decide +kernel) rfl rfl (fun Y hX hR hnx => ?_)
  refine z_b hX (fo_no RX7) [.iconst 1, .iload_n 1, .iadd, .istore_n 3, .iload_n 2, .sipush 999, .aload_n 0, .iload_n 3] 10 (by decide +kernel) rfl ?_
  refine z_cV hX m_X6_at l_X7_11 p_X6_at (c_at (j := 2) (by omega) (by omega)) rfl rfl rfl rfl rfl rfl (by decide +kernel) ?_
  refine z_b hX (fo_no RX7) [.isub] 14 (by decide +kernel) rfl ?_
  refine z_min hX lm_X7_23 (by decide +kernel) ⟨by omega, by omega⟩ ⟨by omega, by omega⟩ rfl ?_
  refine z_b hX (fo_no RX7) [.istore 4, .iload_n 3, .iconst 1] 21 (by decide +kernel) rfl ?_
  refine z_ic_ne hX (off := 12) 33 (by decide +kernel) (by decide) ⟨by decide, by decide⟩ ⟨by decide, by decide⟩ (fun c21 => ?_) (fun c21 => by exact absurd c21 (by decide))
  refine z_b hX (fo_no RX7) [.aload_n 0, .iload_n 3, .iload 4] 37 (by decide +kernel) rfl ?_
  refine z_cV hX m_X6_add l_X7_19 p_X6_add (c_add (j := 2) (by omega) (by omega)) rfl rfl rfl rfl rfl rfl (by decide +kernel) ?_
  exact z_iret hX hR (by decide +kernel) ⟨rfl, rfl⟩
set_option maxHeartbeats 1000000 in
theorem c_X7_store2 {E : zE} {n : Int} {σ : Nat → Nat → Int} {c : Nat → Int} {l : (Nat → Int64) × (Nat → UInt64)} (hn : 1 ≤ n ∧ n ≤ 99) (hc : 0 ≤ c 3 ∧ c 3 ≤ 999) : Rv E yX7_store (Cond.code yX7_store cX7_store 5 (Option.some FieldType.int)) 2 [vr 1, vi 2, vi n] ((zs σ 21 c, l)) (vi ((if 2 = 0 then ad c 6 (if 999 - c 3 < n then 999 - c 3 else n) else c) 3 + (if 999 - c 3 < n then 999 - c 3 else n))) ((zs σ 21 (sStore c 2 (if 999 - c 3 < n then 999 - c 3 else n)), l)) := by
  refine Ctr_of (own := RX7) (by decide +kernel) rfl rfl (fun Y hX hR hnx => ?_)
  refine z_b hX (fo_no RX7) [.iconst 1, .iload_n 1, .iadd, .istore_n 3, .iload_n 2, .sipush 999, .aload_n 0, .iload_n 3] 10 (by decide +kernel) rfl ?_
  refine z_cV hX m_X6_at l_X7_11 p_X6_at (c_at (j := 3) (by omega) (by omega)) rfl rfl rfl rfl rfl rfl (by decide +kernel) ?_
  refine z_b hX (fo_no RX7) [.isub] 14 (by decide +kernel) rfl ?_
  refine z_min hX lm_X7_23 (by decide +kernel) ⟨by omega, by omega⟩ ⟨by omega, by omega⟩ rfl ?_
  refine z_b hX (fo_no RX7) [.istore 4, .iload_n 3, .iconst 1] 21 (by decide +kernel) rfl ?_
  refine z_ic_ne hX (off := 12) 33 (by decide +kernel) (by decide) ⟨by decide, by decide⟩ ⟨by decide, by decide⟩ (fun c21 => ?_) (fun c21 => by exact absurd c21 (by decide))
  refine z_b hX (fo_no RX7) [.aload_n 0, .iload_n 3, .iload 4] 37 (by decide +kernel) rfl ?_
  refine z_cV hX m_X6_add l_X7_19 p_X6_add (c_add (j := 3) (by omega) (by omega)) rfl rfl rfl rfl rfl rfl (by decide +kernel) ?_
  exact z_iret hX hR (by decide +kernel) ⟨rfl, rfl⟩
