/-! ===== Packing ===== -/
def sTrunk (c : Nat → Int) (t : Nat) : Nat → Int := ad (va_up c (121 + t) 0) 11 1
def sPack0 (c : Nat → Int) (k t p : Nat) : Nat → Int := va_up (va_up c (129 + t * 5 + p) (k : Int)) (61 + k) (t : Int)
def sPack (c : Nat → Int) (k t p : Nat) : Nat → Int := ad (sPack0 c k t p) (121 + t) 1
/-- a trunk's coat at a place, or -1 -/
def zcoat (c : Nat → Int) (t : Nat) (y : Int) : Int := if 0 ≤ y ∧ y < c (121 + t) then c (129 + t * 5 + y.toNat) else -1
/-- the first of m places from i on where k stands, or -1 -/
def zfnd (f : Nat → Int) (k : Int) : Nat → Nat → Int
  | _, 0 => -1
  | i, m + 1 => if f i = k then (i : Int) else zfnd f k (i + 1) m
/-- m places from i on move down by one -/
def zshf (b : Nat) : Nat → Nat → (Nat → Int) → (Nat → Int)
  | _, 0, c => c
  | i, m + 1, c => zshf b (i + 1) m (va_up c (b + i) (c (b + i + 1)))
def sOut (c : Nat → Int) (k t p q : Nat) : Nat → Int := va_up (zshf (129 + t * 5) p (q - p) (ad c (121 + t) (-1))) (61 + k) (-1)
def sLoad (c : Nat → Int) (t n : Nat) : Nat → Int := ad (va_up c (125 + n) (t : Int)) 12 1
def sUnload (c : Nat → Int) (q : Nat) : Nat → Int := zshf 125 0 q (ad c 12 (-1))
set_option maxHeartbeats 1000000 in
theorem c_X4_addTrunk {E : zE} {t : Nat} {σ : Nat → Nat → Int} {c : Nat → Int} {l : (Nat → Int64) × (Nat → UInt64)} (hc : c 11 = (t : Int)) (ht : t < 4) : Rv E yX4_addTrunk (Cond.code yX4_addTrunk cX4_addTrunk 2 (Option.some FieldType.int)) 2 [vr 1] ((zs σ 21 c, l)) (vi (t : Int)) ((zs σ 21 (sTrunk c t), l)) := by
  refine Ctr_of (own := RX4) (by decide +kernel) rfl rfl (fun Y hX hR hnx => ?_)
  refine z_b hX (fo_no RX4) [.aload_n 0, .bipush 11] 3 (by decide +kernel) rfl ?_
  refine z_cV hX m_X6_at l_X4_11 p_X6_at (c_at (j := 11) (by omega) (by omega)) rfl rfl rfl rfl rfl rfl (by decide +kernel) ?_
  rw [hc]
  refine z_b hX (fo_no RX4) [.istore_n 1, .aload_n 0, .bipush 121, .iload_n 1, .iadd, .iconst 0] 13 (by decide +kernel) rfl ?_
  refine z_cV0 hX m_X6_put l_X4_15 p_X6_put (c_put (j := (121 + t)) (by omega) (by omega)) rfl rfl rfl rfl rfl rfl (by decide +kernel) ?_
  refine z_b hX (fo_no RX4) [.aload_n 0, .bipush 11, .iconst 1] 20 (by decide +kernel) rfl ?_
  refine z_cV hX m_X6_add l_X4_19 p_X6_add (c_add (j := 11) (by omega) (by omega)) rfl rfl rfl rfl rfl rfl (by decide +kernel) ?_
  refine z_b hX (fo_no RX4) [.pop, .iload_n 1] 25 (by decide +kernel) rfl ?_
  exact z_iret hX hR (by decide +kernel) ⟨rfl, rfl⟩
set_option maxHeartbeats 1000000 in
theorem c_X4_cellOf {E : zE} {t p : Nat} {st : zT} : Rv E yX4_cellOf (Cond.code yX4_cellOf cX4_cellOf 2 (Option.some FieldType.int)) 0 [vi (t : Int), vi (p : Int)] (st) (vi (129 + (t : Int) * 5 + (p : Int))) (st) := by
  refine Ctr_of (own := RX4) (by decide +kernel) rfl rfl (fun Y hX hR hnx => ?_)
  refine z_b hX (fo_no RX4) [.sipush 129, .iload_n 0, .iconst 5, .imul, .iadd, .iload_n 1, .iadd] 9 (by decide +kernel) rfl ?_
  exact z_iret hX hR (by decide +kernel) ⟨rfl, rfl⟩
set_option maxHeartbeats 1000000 in
theorem c_X4_putInto {E : zE} {k t p : Nat} {σ : Nat → Nat → Int} {c : Nat → Int} {l : (Nat → Int64) × (Nat → UInt64)} (hk : k < 12) (ht : t < 4) (hp : c (121 + t) = (p : Int)) (hp5 : p < 5) : Rv E yX4_putInto (Cond.code yX4_putInto cX4_putInto 3 (Option.some FieldType.int)) 2 [vr 1, vi (k : Int), vi (t : Int)] ((zs σ 21 c, l)) (vi ((sPack0 c k t p) (121 + t) + 1)) ((zs σ 21 (sPack c k t p), l)) := by
  refine Ctr_of (own := RX4) (by decide +kernel) rfl rfl (fun Y hX hR hnx => ?_)
  refine z_b hX (fo_no RX4) [.aload_n 0, .iload_n 2, .aload_n 0, .bipush 121, .iload_n 2, .iadd] 7 (by decide +kernel) rfl ?_
  refine z_cV hX m_X6_at l_X4_11 p_X6_at (c_at (j := (121 + t)) (by omega) (by omega)) rfl rfl rfl rfl rfl rfl (by decide +kernel) ?_
  rw [hp]
  refine z_cS hX m_X4_cellOf l_X4_23 p_X4_cellOf (c_X4_cellOf (t := t) (p := p)) rfl rfl rfl rfl (by decide +kernel) ?_
  refine z_b hX (fo_no RX4) [.iload_n 1] 14 (by decide +kernel) rfl ?_
  refine z_cV0 hX m_X6_put l_X4_15 p_X6_put (c_put (j := (129 + t * 5 + p)) (by omega) (by omega)) rfl rfl rfl rfl rfl rfl (by decide +kernel) ?_
  refine z_b hX (fo_no RX4) [.aload_n 0, .bipush 61, .iload_n 1, .iadd, .iload_n 2] 23 (by decide +kernel) rfl ?_
  refine z_cV0 hX m_X6_put l_X4_15 p_X6_put (c_put (j := (61 + k)) (by omega) (by omega)) rfl rfl rfl rfl rfl rfl (by decide +kernel) ?_
  refine z_b hX (fo_no RX4) [.aload_n 0, .bipush 121, .iload_n 2, .iadd, .iconst 1] 32 (by decide +kernel) rfl ?_
  refine z_cV hX m_X6_add l_X4_19 p_X6_add (c_add (j := (121 + t)) (by omega) (by omega)) rfl rfl rfl rfl rfl rfl (by decide +kernel) ?_
  exact z_iret hX hR (by decide +kernel) ⟨rfl, rfl⟩
set_option maxHeartbeats 1000000 in
theorem c_X4_coatAt {E : zE} {t : Nat} {y : Int} {σ : Nat → Nat → Int} {c : Nat → Int} {l : (Nat → Int64) × (Nat → UInt64)} (ht : (t : Int) < c 11) (h11 : c 11 ≤ 4) (hn : 0 ≤ c (121 + t) ∧ c (121 + t) ≤ 5) (hy : zi y) : Rv E yX4_coatAt (Cond.code yX4_coatAt cX4_coatAt 3 (Option.some FieldType.int)) 2 [vr 1, vi (t : Int), vi y] ((zs σ 21 c, l)) (vi (zcoat c t y)) ((zs σ 21 c, l)) := by
  refine Ctr_of (own := RX4) (by decide +kernel) rfl rfl (fun Y hX hR hnx => ?_)
  refine z_b hX (fo_no RX4) [.aload_n 0, .iload_n 1] 2 (by decide +kernel) rfl ?_
  refine z_cV hX m_X6_hasTrunk l_X4_36 p_X6_hasTrunk (c_X6_hasTrunk ⟨by omega, by omega⟩ ⟨by omega, by omega⟩) rfl rfl rfl rfl rfl rfl (by decide +kernel) ?_
  rw [if_pos ⟨by omega, ht⟩]
  refine z_if_eq hX (off := 19) 24 (by decide +kernel) (by decide) ⟨by decide, by decide⟩ (fun c5 => by exact absurd c5 (by decide)) (fun c5 => ?_)
  refine z_b hX (fo_no RX4) [.iload_n 2] 9 (by decide +kernel) rfl ?_
  refine z_if_lt hX (off := 15) 24 (by decide +kernel) (by decide) ⟨by omega, by omega⟩ (fun c9 => ?_) (fun c9 => ?_)
  · refine z_b hX (fo_no RX4) [.iconst (-1)] 25 (by decide +kernel) rfl ?_
    exact z_iret hX hR (by decide +kernel) ⟨by unfold zcoat; rw [if_neg (by omega)], rfl⟩
  · refine z_b hX (fo_no RX4) [.iload_n 2, .aload_n 0, .bipush 121, .iload_n 1, .iadd] 18 (by decide +kernel) rfl ?_
    refine z_cV hX m_X6_at l_X4_11 p_X6_at (c_at (j := (121 + t)) (by omega) (by omega)) rfl rfl rfl rfl rfl rfl (by decide +kernel) ?_
    refine z_ic_lt hX (off := 5) 26 (by decide +kernel) (by decide) ⟨by omega, by omega⟩ ⟨by omega, by omega⟩ (fun c21 => ?_) (fun c21 => ?_)
    · obtain ⟨p, rfl⟩ : ∃ p : Nat, y = (p : Int) := ⟨y.toNat, by omega⟩
      refine z_b hX (fo_no RX4) [.aload_n 0, .iload_n 1, .iload_n 2] 29 (by decide +kernel) rfl ?_
      refine z_cS hX m_X4_cellOf l_X4_23 p_X4_cellOf (c_X4_cellOf (t := t) (p := p)) rfl rfl rfl rfl (by decide +kernel) ?_
      refine z_cV hX m_X6_at l_X4_11 p_X6_at (c_at (j := (129 + t * 5 + p)) (by omega) (by omega)) rfl rfl rfl rfl rfl rfl (by decide +kernel) ?_
      exact z_iret hX hR (by decide +kernel) ⟨by unfold zcoat; rw [if_pos (by omega)]; rfl, rfl⟩
    · refine z_b hX (fo_no RX4) [.iconst (-1)] 25 (by decide +kernel) rfl ?_
      exact z_iret hX hR (by decide +kernel) ⟨by unfold zcoat; rw [if_neg (by omega)], rfl⟩
theorem zcoat_zi {c : Nat → Int} {t i : Nat} (hn : 0 ≤ c (121 + t) ∧ c (121 + t) ≤ 5) (hz : ∀ p, p < 5 → zi (c (129 + t * 5 + p))) : zi (zcoat c t (i : Int)) := by
  unfold zcoat
  split
  · exact hz _ (by omega)
  · exact ⟨by decide, by decide⟩
set_option maxHeartbeats 1000000 in
theorem c_X4_placeInTrunk {E : zE} {k t : Nat} {σ : Nat → Nat → Int} {c : Nat → Int} {l : (Nat → Int64) × (Nat → UInt64)} (hk : k < 12) (hkt : c (61 + k) = (t : Int)) (ht : (t : Int) < c 11) (h11 : c 11 ≤ 4) (hn : 0 ≤ c (121 + t) ∧ c (121 + t) ≤ 5) (hz : ∀ p, p < 5 → zi (c (129 + t * 5 + p))) : Rv E yX4_placeInTrunk (Cond.code yX4_placeInTrunk cX4_placeInTrunk 4 (Option.some FieldType.int)) 3 [vr 1, vi (k : Int)] ((zs σ 21 c, l)) (vi (zfnd (fun p => zcoat c t (p : Int)) (k : Int) 0 5)) ((zs σ 21 c, l)) := by
  refine Ctr_of (own := RX4) (by decide +kernel) rfl rfl (fun Y hX hR hnx => ?_)
  refine z_b hX (fo_no RX4) [.aload_n 0, .bipush 61, .iload_n 1, .iadd] 5 (by decide +kernel) rfl ?_
  refine z_cV hX m_X6_at l_X4_11 p_X6_at (c_at (j := (61 + k)) (by omega) (by omega)) rfl rfl rfl rfl rfl rfl (by decide +kernel) ?_
  rw [hkt]
  refine z_b hX (fo_no RX4) [.istore_n 2, .iconst 0, .istore_n 3] 11 (by decide +kernel) rfl ?_
  have loop : ∀ (m : Nat) (i : Nat) (x : Int), x = (i : Int) → i + m = 5 → zfnd (fun p => zcoat c t (p : Int)) (k : Int) i m = zfnd (fun p => zcoat c t (p : Int)) (k : Int) 0 5 → Z (E, Y) 0 11 [(3, vi x), (2, vi (t : Int)), (0, vr 1), (1, vi (k : Int))] [] (zs σ 21 c, l) := by
    intro m
    induction m with
    | zero =>
      intro i x hi hm hr
      refine z_b hX (fo_no RX4) [.iload_n 3, .iconst 5] 13 (by decide +kernel) rfl ?_
      refine z_ic_ge hX (off := 21) 34 (by decide +kernel) (by decide) ⟨by omega, by omega⟩ ⟨by omega, by omega⟩ (fun c13 => ?_) (fun c13 => by exfalso; omega)
      refine z_b hX (fo_no RX4) [.iconst (-1)] 35 (by decide +kernel) rfl ?_
      exact z_iret hX hR (by decide +kernel) ⟨by rw [← hr]; rfl, rfl⟩
    | succ m ih =>
      intro i x hi hm hr
      refine z_b hX (fo_no RX4) [.iload_n 3, .iconst 5] 13 (by decide +kernel) rfl ?_
      refine z_ic_ge hX (off := 21) 34 (by decide +kernel) (by decide) ⟨by omega, by omega⟩ ⟨by omega, by omega⟩ (fun c13 => by exfalso; omega) (fun c13 => ?_)
      refine z_b hX (fo_no RX4) [.aload_n 0, .iload_n 2, .iload_n 3] 19 (by decide +kernel) rfl ?_
      refine z_cS hX m_X4_coatAt l_X4_32 p_X4_coatAt (c_X4_coatAt (t := t) ht h11 hn ⟨by omega, by omega⟩) rfl rfl rfl rfl (by decide +kernel) ?_
      subst hi
      refine z_b hX (fo_no RX4) [.iload_n 1] 23 (by decide +kernel) rfl ?_
      refine z_ic_ne hX (off := 5) 28 (by decide +kernel) (by decide) (zcoat_zi hn hz) ⟨by omega, by omega⟩ (fun c23 => ?_) (fun c23 => ?_)
      · refine z_b hX (fo_no RX4) [.iinc 3 1] 31 (by decide +kernel) rfl ?_
        refine z_goto hX (off := (-20)) 11 (by decide +kernel) (by decide) ?_
        exact ih (i + 1) _ (by omega) (by omega) (by rw [← hr]; show _ = if _ then _ else _; rw [if_neg c23])
      · refine z_b hX (fo_no RX4) [.iload_n 3] 27 (by decide +kernel) rfl ?_
        exact z_iret hX hR (by decide +kernel) ⟨by rw [← hr]; show _ = Sum.inl (some (vi (if _ then _ else _))); rw [if_pos c23], rfl⟩
  exact loop 5 0 _ rfl (by omega) rfl
set_option maxHeartbeats 1000000 in
theorem c_X4_takeOut {E : zE} {k t p q : Nat} {σ : Nat → Nat → Int} {c : Nat → Int} {l : (Nat → Int64) × (Nat → UInt64)} (hk : k < 12) (hkt : c (61 + k) = (t : Int)) (ht : (t : Int) < c 11) (h11 : c 11 ≤ 4) (hn : 0 ≤ c (121 + t) ∧ c (121 + t) ≤ 5) (hz : ∀ p, p < 5 → zi (c (129 + t * 5 + p))) (hp : zfnd (fun p => zcoat c t (p : Int)) (k : Int) 0 5 = (p : Int)) (hq : c (121 + t) + (-1) = (q : Int)) (hpq : p ≤ q) : Rv E yX4_takeOut (Cond.code yX4_takeOut cX4_takeOut 6 (Option.some FieldType.int)) 4 [vr 1, vi (k : Int)] ((zs σ 21 c, l)) (vi (p : Int)) ((zs σ 21 (sOut c k t p q), l)) := by
  refine Ctr_of (own := RX4) (by decide +kernel) rfl rfl (fun Y hX hR hnx => ?_)
  refine z_b hX (fo_no RX4) [.aload_n 0, .bipush 61, .iload_n 1, .iadd] 5 (by decide +kernel) rfl ?_
  refine z_cV hX m_X6_at l_X4_11 p_X6_at (c_at (j := (61 + k)) (by omega) (by omega)) rfl rfl rfl rfl rfl rfl (by decide +kernel) ?_
  rw [hkt]
  refine z_b hX (fo_no RX4) [.istore_n 2, .aload_n 0, .iload_n 1] 11 (by decide +kernel) rfl ?_
  refine z_cS hX m_X4_placeInTrunk l_X4_28 p_X4_placeInTrunk (c_X4_placeInTrunk hk hkt ht h11 hn hz) rfl rfl rfl rfl (by decide +kernel) ?_
  rw [hp]
  refine z_b hX (fo_no RX4) [.istore_n 3, .aload_n 0, .bipush 121, .iload_n 2, .iadd, .iconst (-1)] 21 (by decide +kernel) rfl ?_
  refine z_cV hX m_X6_add l_X4_19 p_X6_add (c_add (j := (121 + t)) (by omega) (by omega)) rfl rfl rfl rfl rfl rfl (by decide +kernel) ?_
  rw [hq]
  refine z_b hX (fo_no RX4) [.istore 4, .iload_n 3, .istore 5] 29 (by decide +kernel) rfl ?_
  have loop : ∀ (m : Nat) (i : Nat) (x : Int) (d : Nat → Int), x = (i : Int) → i + m = p + (q - p) → va_up (zshf (129 + t * 5) i m d) (61 + k) (-1) = sOut c k t p q → Z (E, Y) 0 29 [(5, vi x), (4, vi (q : Int)), (3, vi (p : Int)), (2, vi (t : Int)), (0, vr 1), (1, vi (k : Int))] [] (zs σ 21 d, l) := by
    intro m
    induction m with
    | zero =>
      intro i x d hi hm hr
      subst hi
      refine z_b hX (fo_no RX4) [.iload 5, .iload 4] 33 (by decide +kernel) rfl ?_
      refine z_ic_ge hX (off := 37) 70 (by decide +kernel) (by decide) ⟨by omega, by omega⟩ ⟨by omega, by omega⟩ (fun c33 => ?_) (fun c33 => by exfalso; omega)
      refine z_b hX (fo_no RX4) [.aload_n 0, .bipush 61, .iload_n 1, .iadd, .iconst (-1)] 76 (by decide +kernel) rfl ?_
      refine z_cV0 hX m_X6_put l_X4_15 p_X6_put (c_put (j := (61 + k)) (by omega) (by omega)) rfl rfl rfl rfl rfl rfl (by decide +kernel) ?_
      refine z_b hX (fo_no RX4) [.iload_n 3] 80 (by decide +kernel) rfl ?_
      exact z_iret hX hR (by decide +kernel) ⟨rfl, by rw [← hr]; rfl⟩
    | succ m ih =>
      intro i x d hi hm hr
      subst hi
      refine z_b hX (fo_no RX4) [.iload 5, .iload 4] 33 (by decide +kernel) rfl ?_
      refine z_ic_ge hX (off := 37) 70 (by decide +kernel) (by decide) ⟨by omega, by omega⟩ ⟨by omega, by omega⟩ (fun c33 => by exfalso; omega) (fun c33 => ?_)
      refine z_b hX (fo_no RX4) [.iload 5, .iconst 5] 39 (by decide +kernel) rfl ?_
      refine z_ic_ge hX (off := 31) 70 (by decide +kernel) (by decide) ⟨by omega, by omega⟩ ⟨by omega, by omega⟩ (fun c39 => by exfalso; omega) (fun c39 => ?_)
      refine z_b hX (fo_no RX4) [.aload_n 0, .iload_n 2, .iload 5] 46 (by decide +kernel) rfl ?_
      refine z_cS hX m_X4_cellOf l_X4_23 p_X4_cellOf (c_X4_cellOf (t := t) (p := i)) rfl rfl rfl rfl (by decide +kernel) ?_
      refine z_b hX (fo_no RX4) [.aload_n 0, .iload_n 2, .iload 5, .iconst 1, .iadd] 55 (by decide +kernel) rfl ?_
      refine z_cS hX m_X4_cellOf l_X4_23 p_X4_cellOf (c_X4_cellOf (t := t) (p := i + 1)) rfl rfl rfl rfl (by decide +kernel) ?_
      refine z_cV hX m_X6_at l_X4_11 p_X6_at (c_at (j := (129 + t * 5 + (i + 1))) (by omega) (by omega)) rfl rfl rfl rfl rfl rfl (by decide +kernel) ?_
      refine z_cV0 hX m_X6_put l_X4_15 p_X6_put (c_put (j := (129 + t * 5 + i)) (by omega) (by omega)) rfl rfl rfl rfl rfl rfl (by decide +kernel) ?_
      refine z_b hX (fo_no RX4) [.iinc 5 1] 67 (by decide +kernel) rfl ?_
      refine z_goto hX (off := (-38)) 29 (by decide +kernel) (by decide) ?_
      exact ih (i + 1) _ _ (by omega) (by omega) (by rw [← hr]; rfl)
  exact loop (q - p) p _ _ rfl (by omega) rfl
set_option maxHeartbeats 1000000 in
theorem c_X4_takeOffTrain {E : zE} {q : Nat} {σ : Nat → Nat → Int} {c : Nat → Int} {l : (Nat → Int64) × (Nat → UInt64)} (hq : c 12 + (-1) = (q : Int)) (h4 : q < 4) : Rv E yX4_takeOffTrain (Cond.code yX4_takeOffTrain cX4_takeOffTrain 4 (Option.some FieldType.int)) 2 [vr 1] ((zs σ 21 c, l)) (vi (c 125)) ((zs σ 21 (sUnload c q), l)) := by
  refine Ctr_of (own := RX4) (by decide +kernel) rfl rfl (fun Y hX hR hnx => ?_)
  refine z_b hX (fo_no RX4) [.aload_n 0, .bipush 125] 3 (by decide +kernel) rfl ?_
  refine z_cV hX m_X6_at l_X4_11 p_X6_at (c_at (j := 125) (by omega) (by omega)) rfl rfl rfl rfl rfl rfl (by decide +kernel) ?_
  refine z_b hX (fo_no RX4) [.istore_n 1, .aload_n 0, .bipush 12, .iconst (-1)] 11 (by decide +kernel) rfl ?_
  refine z_cV hX m_X6_add l_X4_19 p_X6_add (c_add (j := 12) (by omega) (by omega)) rfl rfl rfl rfl rfl rfl (by decide +kernel) ?_
  rw [hq]
  refine z_b hX (fo_no RX4) [.istore_n 2, .iconst 0, .istore_n 3] 17 (by decide +kernel) rfl ?_
  have loop : ∀ (m : Nat) (i : Nat) (x : Int) (d : Nat → Int), x = (i : Int) → i + m = q → zshf 125 i m d = sUnload c q → Z (E, Y) 0 17 [(3, vi x), (2, vi (q : Int)), (1, vi (c 125)), (0, vr 1)] [] (zs σ 21 d, l) := by
    intro m
    induction m with
    | zero =>
      intro i x d hi hm hr
      refine z_b hX (fo_no RX4) [.iload_n 3, .iload_n 2] 19 (by decide +kernel) rfl ?_
      refine z_ic_ge hX (off := 32) 51 (by decide +kernel) (by decide) ⟨by omega, by omega⟩ ⟨by omega, by omega⟩ (fun c19 => ?_) (fun c19 => by exfalso; omega)
      refine z_b hX (fo_no RX4) [.iload_n 1] 52 (by decide +kernel) rfl ?_
      exact z_iret hX hR (by decide +kernel) ⟨rfl, by rw [← hr]; rfl⟩
    | succ m ih =>
      intro i x d hi hm hr
      refine z_b hX (fo_no RX4) [.iload_n 3, .iload_n 2] 19 (by decide +kernel) rfl ?_
      refine z_ic_ge hX (off := 32) 51 (by decide +kernel) (by decide) ⟨by omega, by omega⟩ ⟨by omega, by omega⟩ (fun c19 => by exfalso; omega) (fun c19 => ?_)
      refine z_b hX (fo_no RX4) [.iload_n 3, .iconst 4] 24 (by decide +kernel) rfl ?_
      refine z_ic_ge hX (off := 27) 51 (by decide +kernel) (by decide) ⟨by omega, by omega⟩ ⟨by omega, by omega⟩ (fun c24 => by exfalso; omega) (fun c24 => ?_)
      refine z_b hX (fo_no RX4) [.aload_n 0, .bipush 125, .iload_n 3, .iadd, .aload_n 0, .bipush 125, .iload_n 3, .iadd, .iconst 1, .iadd] 39 (by decide +kernel) rfl ?_
      refine z_cV hX m_X6_at l_X4_11 p_X6_at (c_at (j := ((125 + i) + 1)) (by omega) (by omega)) rfl rfl rfl rfl rfl rfl (by decide +kernel) ?_
      refine z_cV0 hX m_X6_put l_X4_15 p_X6_put (c_put (j := (125 + i)) (by omega) (by omega)) rfl rfl rfl rfl rfl rfl (by decide +kernel) ?_
      refine z_b hX (fo_no RX4) [.iinc 3 1] 48 (by decide +kernel) rfl ?_
      refine z_goto hX (off := (-31)) 17 (by decide +kernel) (by decide) ?_
      exact ih (i + 1) _ _ (by omega) (by omega) (by rw [← hr]; rfl)
  exact loop q 0 _ _ rfl (by omega) rfl
set_option maxHeartbeats 1000000 in
theorem c_X4_putOnTrain {E : zE} {t n : Nat} {σ : Nat → Nat → Int} {c : Nat → Int} {l : (Nat → Int64) × (Nat → UInt64)} (hn : c 12 = (n : Int)) (h4 : n < 4) : Rv E yX4_putOnTrain (Cond.code yX4_putOnTrain cX4_putOnTrain 2 (Option.some FieldType.int)) 2 [vr 1, vi (t : Int)] ((zs σ 21 c, l)) (vi (va_up c (125 + n) (t : Int) 12 + 1)) ((zs σ 21 (sLoad c t n), l)) := by
  refine Ctr_of (own := RX4) (by decide +kernel) rfl rfl (fun Y hX hR hnx => ?_)
  refine z_b hX (fo_no RX4) [.aload_n 0, .bipush 125, .aload_n 0, .bipush 12] 6 (by decide +kernel) rfl ?_
  refine z_cV hX m_X6_at l_X4_11 p_X6_at (c_at (j := 12) (by omega) (by omega)) rfl rfl rfl rfl rfl rfl (by decide +kernel) ?_
  rw [hn]
  refine z_b hX (fo_no RX4) [.iadd, .iload_n 1] 11 (by decide +kernel) rfl ?_
  refine z_cV0 hX m_X6_put l_X4_15 p_X6_put (c_put (j := (125 + n)) (by omega) (by omega)) rfl rfl rfl rfl rfl rfl (by decide +kernel) ?_
  refine z_b hX (fo_no RX4) [.aload_n 0, .bipush 12, .iconst 1] 18 (by decide +kernel) rfl ?_
  refine z_cV hX m_X6_add l_X4_19 p_X6_add (c_add (j := 12) (by omega) (by omega)) rfl rfl rfl rfl rfl rfl (by decide +kernel) ?_
  exact z_iret hX hR (by decide +kernel) ⟨rfl, rfl⟩
/-- a trunk of the train, or -1 -/
def ztrain (c : Nat → Int) (y : Int) : Int := if 0 ≤ y ∧ y < c 12 then c (125 + y.toNat) else -1
set_option maxHeartbeats 1000000 in
theorem c_X4_trunkAt {E : zE} {y : Int} {σ : Nat → Nat → Int} {c : Nat → Int} {l : (Nat → Int64) × (Nat → UInt64)} (h12 : 0 ≤ c 12 ∧ c 12 ≤ 4) (hy : zi y) : Rv E yX4_trunkAt (Cond.code yX4_trunkAt cX4_trunkAt 2 (Option.some FieldType.int)) 1 [vr 1, vi y] ((zs σ 21 c, l)) (vi (ztrain c y)) ((zs σ 21 c, l)) := by
  refine Ctr_of (own := RX4) (by decide +kernel) rfl rfl (fun Y hX hR hnx => ?_)
  refine z_b hX (fo_no RX4) [.iload_n 1] 1 (by decide +kernel) rfl ?_
  refine z_if_lt hX (off := 24) 25 (by decide +kernel) (by decide) ⟨by omega, by omega⟩ (fun c1 => ?_) (fun c1 => ?_)
  · refine z_b hX (fo_no RX4) [.iconst (-1)] 26 (by decide +kernel) rfl ?_
    exact z_iret hX hR (by decide +kernel) ⟨by first | (unfold ztrain; rw [if_pos (by omega)]; rfl) | (unfold ztrain; rw [if_neg (by omega)]), rfl⟩
  · refine z_b hX (fo_no RX4) [.iload_n 1, .aload_n 0, .bipush 12] 8 (by decide +kernel) rfl ?_
    refine z_cV hX m_X6_at l_X4_11 p_X6_at (c_at (j := 12) (by omega) (by omega)) rfl rfl rfl rfl rfl rfl (by decide +kernel) ?_
    refine z_ic_ge hX (off := 14) 25 (by decide +kernel) (by decide) ⟨by omega, by omega⟩ ⟨by omega, by omega⟩ (fun c11 => ?_) (fun c11 => ?_)
    · refine z_b hX (fo_no RX4) [.iconst (-1)] 26 (by decide +kernel) rfl ?_
      exact z_iret hX hR (by decide +kernel) ⟨by first | (unfold ztrain; rw [if_pos (by omega)]; rfl) | (unfold ztrain; rw [if_neg (by omega)]), rfl⟩
    · obtain ⟨p, rfl⟩ : ∃ p : Nat, y = (p : Int) := ⟨y.toNat, by omega⟩
      refine z_b hX (fo_no RX4) [.aload_n 0, .bipush 125, .iload_n 1, .iadd] 19 (by decide +kernel) rfl ?_
      refine z_cV hX m_X6_at l_X4_11 p_X6_at (c_at (j := 125 + p) (by omega) (by omega)) rfl rfl rfl rfl rfl rfl (by decide +kernel) ?_
      refine z_goto hX (off := 4) 26 (by decide +kernel) (by decide) ?_
      exact z_iret hX hR (by decide +kernel) ⟨by first | (unfold ztrain; rw [if_pos (by omega)]; rfl) | (unfold ztrain; rw [if_neg (by omega)]), rfl⟩
set_option maxHeartbeats 1000000 in
theorem c_X4_placeOnTrain {E : zE} {n : Nat} {t : Int} {σ : Nat → Nat → Int} {c : Nat → Int} {l : (Nat → Int64) × (Nat → UInt64)} (hn : c 12 = (n : Int)) (h4 : n ≤ 4) (hz : ∀ p, p < n → zi (c (125 + p))) (ht : zi t) : Rv E yX4_placeOnTrain (Cond.code yX4_placeOnTrain cX4_placeOnTrain 3 (Option.some FieldType.int)) 1 [vr 1, vi t] ((zs σ 21 c, l)) (vi (zfnd (fun p => c (125 + p)) t 0 n)) ((zs σ 21 c, l)) := by
  refine Ctr_of (own := RX4) (by decide +kernel) rfl rfl (fun Y hX hR hnx => ?_)
  refine z_b hX (fo_no RX4) [.iconst 0, .istore_n 2] 2 (by decide +kernel) rfl ?_
  have loop : ∀ (m : Nat) (i : Nat) (x : Int), x = (i : Int) → i + m = n → zfnd (fun p => c (125 + p)) t i m = zfnd (fun p => c (125 + p)) t 0 n → Z (E, Y) 0 2 [(2, vi x), (0, vr 1), (1, vi t)] [] (zs σ 21 c, l) := by
    intro m
    induction m with
    | zero =>
      intro i x hi hm hr
      refine z_b hX (fo_no RX4) [.iload_n 2, .iconst 4] 4 (by decide +kernel) rfl ?_
      refine z_ic_ge hX (off := 33) 37 (by decide +kernel) (by decide) ⟨by omega, by omega⟩ ⟨by omega, by omega⟩ (fun c4 => ?_) (fun c4 => ?_)
      · refine z_b hX (fo_no RX4) [.iconst (-1)] 38 (by decide +kernel) rfl ?_
        exact z_iret hX hR (by decide +kernel) ⟨by rw [← hr]; rfl, rfl⟩
      · refine z_b hX (fo_no RX4) [.iload_n 2, .aload_n 0, .bipush 12] 11 (by decide +kernel) rfl ?_
        refine z_cV hX m_X6_at l_X4_11 p_X6_at (c_at (j := 12) (by omega) (by omega)) rfl rfl rfl rfl rfl rfl (by decide +kernel) ?_
        refine z_ic_ge hX (off := 23) 37 (by decide +kernel) (by decide) ⟨by omega, by omega⟩ ⟨by omega, by omega⟩ (fun c14 => ?_) (fun c14 => by exfalso; omega)
        refine z_b hX (fo_no RX4) [.iconst (-1)] 38 (by decide +kernel) rfl ?_
        exact z_iret hX hR (by decide +kernel) ⟨by rw [← hr]; rfl, rfl⟩
    | succ m ih =>
      intro i x hi hm hr
      refine z_b hX (fo_no RX4) [.iload_n 2, .iconst 4] 4 (by decide +kernel) rfl ?_
      refine z_ic_ge hX (off := 33) 37 (by decide +kernel) (by decide) ⟨by omega, by omega⟩ ⟨by omega, by omega⟩ (fun c4 => by exfalso; omega) (fun c4 => ?_)
      refine z_b hX (fo_no RX4) [.iload_n 2, .aload_n 0, .bipush 12] 11 (by decide +kernel) rfl ?_
      refine z_cV hX m_X6_at l_X4_11 p_X6_at (c_at (j := 12) (by omega) (by omega)) rfl rfl rfl rfl rfl rfl (by decide +kernel) ?_
      refine z_ic_ge hX (off := 23) 37 (by decide +kernel) (by decide) ⟨by omega, by omega⟩ ⟨by omega, by omega⟩ (fun c14 => by exfalso; omega) (fun c14 => ?_)
      refine z_b hX (fo_no RX4) [.aload_n 0, .bipush 125, .iload_n 2, .iadd] 22 (by decide +kernel) rfl ?_
      refine z_cV hX m_X6_at l_X4_11 p_X6_at (c_at (j := 125 + i) (by omega) (by omega)) rfl rfl rfl rfl rfl rfl (by decide +kernel) ?_
      refine z_b hX (fo_no RX4) [.iload_n 1] 26 (by decide +kernel) rfl ?_
      refine z_ic_ne hX (off := 5) 31 (by decide +kernel) (by decide) (hz i (by omega)) ⟨by omega, by omega⟩ (fun c26 => ?_) (fun c26 => ?_)
      · refine z_b hX (fo_no RX4) [.iinc 2 1] 34 (by decide +kernel) rfl ?_
        refine z_goto hX (off := (-32)) 2 (by decide +kernel) (by decide) ?_
        exact ih (i + 1) _ (by omega) (by omega) (by rw [← hr]; show _ = if _ then _ else _; rw [if_neg c26])
      · refine z_b hX (fo_no RX4) [.iload_n 2] 30 (by decide +kernel) rfl ?_
        exact z_iret hX hR (by decide +kernel) ⟨by rw [← hr]; show _ = Sum.inl (some (vi (if _ then _ else _))); rw [if_pos c26, hi], rfl⟩
  exact loop n 0 _ rfl (by omega) rfl
