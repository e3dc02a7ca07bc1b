/-! ===== CircusCoats: what its methods ask first ===== -/
set_option maxHeartbeats 1000000 in
theorem c_range1 {E : zE} {x a b : Int} {st : zT} (hx : zi x) (ha : zi a) (hb : zi b) (h : a ≤ x ∧ x ≤ b) : Rn E yX10_needRange (Cond.code yX10_needRange cX10_needRange 3 (Option.none : Option FieldType)) 0 [vi x, vi a, vi b] (st) (st) := by
  refine Ctr_of (own := RX10) (by decide +kernel) rfl rfl (fun Y hX hR hnx => ?_)
  refine z_b hX fo_X10 [.iload_n 0, .iload_n 1] 2 (by decide +kernel) rfl ?_
  refine z_ic_lt hX (off := 8) 10 (by decide +kernel) (by decide) hx ha (fun c2 => by exfalso; omega) (fun c2 => ?_)
  refine z_b hX fo_X10 [.iload_n 0, .iload_n 2] 7 (by decide +kernel) rfl ?_
  refine z_ic_le hX (off := 14) 21 (by decide +kernel) (by decide) hx hb (fun c7 => ?_) (fun c7 => by exfalso; omega)
  exact z_vret hX hR (by decide +kernel) ⟨rfl, rfl⟩
set_option maxHeartbeats 1000000 in
theorem c_range0 {E : zE} {x a b : Int} {st : zT} (hx : zi x) (ha : zi a) (hb : zi b) (h : ¬ (a ≤ x ∧ x ≤ b)) : Tx E yX10_needRange (Cond.code yX10_needRange cX10_needRange 3 (Option.none : Option FieldType)) 0 [vi x, vi a, vi b] (st) (eIA) (st) := by
  refine Ctr_of (own := RX10) (by decide +kernel) rfl rfl (fun Y hX hR hnx => ?_)
  refine z_b hX fo_X10 [.iload_n 0, .iload_n 1] 2 (by decide +kernel) rfl ?_
  refine z_ic_lt hX (off := 8) 10 (by decide +kernel) (by decide) hx ha (fun c2 => ?_) (fun c2 => ?_)
  · exact z_throwW (is := 331) (text := "a number is out of range") hX hR hnx a_IA k_X10_97 (by decide +kernel) (by decide +kernel) (by decide +kernel) (by decide +kernel) (by decide +kernel) (by decide +kernel) (by decide) (by decide) ⟨rfl, rfl⟩
  · refine z_b hX fo_X10 [.iload_n 0, .iload_n 2] 7 (by decide +kernel) rfl ?_
    refine z_ic_le hX (off := 14) 21 (by decide +kernel) (by decide) hx hb (fun c7 => by exfalso; omega) (fun c7 => ?_)
    exact z_throwW (is := 331) (text := "a number is out of range") hX hR hnx a_IA k_X10_97 (by decide +kernel) (by decide +kernel) (by decide +kernel) (by decide +kernel) (by decide +kernel) (by decide +kernel) (by decide) (by decide) ⟨rfl, rfl⟩
set_option maxHeartbeats 1000000 in
theorem c_there1 {E : zE} {x : Int} {st : zT} (h : x = 1) : Rn E yX10_needThere (Cond.code yX10_needThere cX10_needThere 1 (Option.none : Option FieldType)) 0 [vi x] (st) (st) := by
  refine Ctr_of (own := RX10) (by decide +kernel) rfl rfl (fun Y hX hR hnx => ?_)
  refine z_b hX fo_X10 [.iload_n 0] 1 (by decide +kernel) rfl ?_
  refine z_if_ne hX (off := 14) 15 (by decide +kernel) (by decide) ⟨by omega, by omega⟩ (fun c1 => ?_) (fun c1 => by exfalso; omega)
  exact z_vret hX hR (by decide +kernel) ⟨rfl, rfl⟩
set_option maxHeartbeats 1000000 in
theorem c_there0 {E : zE} {x : Int} {st : zT} (h : x = 0) : Tx E yX10_needThere (Cond.code yX10_needThere cX10_needThere 1 (Option.none : Option FieldType)) 0 [vi x] (st) (eIB) (st) := by
  refine Ctr_of (own := RX10) (by decide +kernel) rfl rfl (fun Y hX hR hnx => ?_)
  refine z_b hX fo_X10 [.iload_n 0] 1 (by decide +kernel) rfl ?_
  refine z_if_ne hX (off := 14) 15 (by decide +kernel) (by decide) ⟨by omega, by omega⟩ (fun c1 => by exfalso; omega) (fun c1 => ?_)
  exact z_throwW (is := 335) (text := "there is no such number") hX hR hnx a_IB k_X10_333 (by decide +kernel) (by decide +kernel) (by decide +kernel) (by decide +kernel) (by decide +kernel) (by decide +kernel) (by decide) (by decide) ⟨rfl, rfl⟩
set_option maxHeartbeats 1000000 in
theorem c_heed1 {E : zE} {x : Int} {st : zT} (h : x = 0) : Rn E yX10_heed (Cond.code yX10_heed cX10_heed 1 (Option.none : Option FieldType)) 0 [vi x] (st) (st) := by
  refine Ctr_of (own := RX10) (by decide +kernel) rfl rfl (fun Y hX hR hnx => ?_)
  refine z_b hX fo_X10 [.iload_n 0] 1 (by decide +kernel) rfl ?_
  refine z_if_eq hX (off := 14) 15 (by decide +kernel) (by decide) ⟨by omega, by omega⟩ (fun c1 => ?_) (fun c1 => by exfalso; omega)
  exact z_vret hX hR (by decide +kernel) ⟨rfl, rfl⟩
set_option maxHeartbeats 1000000 in
theorem c_heed0 {E : zE} {x : Int} {st : zT} (h : x = 1) : Tx E yX10_heed (Cond.code yX10_heed cX10_heed 1 (Option.none : Option FieldType)) 0 [vi x] (st) (eUO) (st) := by
  refine Ctr_of (own := RX10) (by decide +kernel) rfl rfl (fun Y hX hR hnx => ?_)
  refine z_b hX fo_X10 [.iload_n 0] 1 (by decide +kernel) rfl ?_
  refine z_if_eq hX (off := 14) 15 (by decide +kernel) (by decide) ⟨by omega, by omega⟩ (fun c1 => by exfalso; omega) (fun c1 => ?_)
  exact z_throwW (is := 340) (text := "refused") hX hR hnx a_UO k_X10_338 (by decide +kernel) (by decide +kernel) (by decide +kernel) (by decide +kernel) (by decide +kernel) (by decide +kernel) (by decide) (by decide) ⟨rfl, rfl⟩
set_option maxHeartbeats 1000000 in
theorem c_found1 {E : zE} {x : Int} {st : zT} (hx : zi x) (h : x ≠ -1) : Rv E yX10_found (Cond.code yX10_found cX10_found 1 (Option.some FieldType.int)) 0 [vi x] (st) (vi x) (st) := by
  refine Ctr_of (own := RX10) (by decide +kernel) rfl rfl (fun Y hX hR hnx => ?_)
  refine z_b hX fo_X10 [.iload_n 0, .iconst (-1)] 2 (by decide +kernel) rfl ?_
  refine z_ic_ne hX (off := 14) 16 (by decide +kernel) (by decide) hx ⟨by omega, by omega⟩ (fun c2 => ?_) (fun c2 => by exfalso; omega)
  refine z_b hX fo_X10 [.iload_n 0] 17 (by decide +kernel) rfl ?_
  exact z_iret hX hR (by decide +kernel) ⟨rfl, rfl⟩
set_option maxHeartbeats 1000000 in
theorem c_found0 {E : zE} {x : Int} {st : zT} (h : x = -1) : Tx E yX10_found (Cond.code yX10_found cX10_found 1 (Option.some FieldType.int)) 0 [vi x] (st) (eNS) (st) := by
  refine Ctr_of (own := RX10) (by decide +kernel) rfl rfl (fun Y hX hR hnx => ?_)
  refine z_b hX fo_X10 [.iload_n 0, .iconst (-1)] 2 (by decide +kernel) rfl ?_
  refine z_ic_ne hX (off := 14) 16 (by decide +kernel) (by decide) ⟨by omega, by omega⟩ ⟨by omega, by omega⟩ (fun c2 => by exfalso; omega) (fun c2 => ?_)
  exact z_throwN (is := 343) (text := "there is none") hX hR hnx a_NS k_X10_276 (by decide +kernel) (by decide +kernel) (by decide +kernel) (by decide +kernel) (by decide +kernel) (by decide +kernel) (by decide) (by decide) ⟨rfl, rfl⟩
set_option maxHeartbeats 1000000 in
theorem c_X10_isPanel {E : zE} {x : Int} {st : zT} (hx : zi x) : Rv E yX10_isPanel (Cond.code yX10_isPanel cX10_isPanel 1 (Option.some FieldType.boolean)) 0 [vi x] (st) (vi (if 0 ≤ x ∧ x < 32 then 1 else 0)) (st) := by
  refine Ctr_of (own := RX10) (by decide +kernel) rfl rfl (fun Y hX hR hnx => ?_)
  refine z_b hX fo_X10 [.iload_n 0] 1 (by decide +kernel) rfl ?_
  refine z_if_lt hX (off := 13) 14 (by decide +kernel) (by decide) hx (fun c1 => ?_) (fun c1 => ?_)
  · refine z_b hX fo_X10 [.iconst 0] 15 (by decide +kernel) rfl ?_
    exact z_zret hX hR (by decide +kernel) (by decide +kernel) ⟨by first | rw [if_pos (by omega)] | rw [if_neg (by omega)], rfl⟩
  · refine z_b hX fo_X10 [.iload_n 0, .bipush 32] 7 (by decide +kernel) rfl ?_
    refine z_ic_ge hX (off := 7) 14 (by decide +kernel) (by decide) hx ⟨by omega, by omega⟩ (fun c7 => ?_) (fun c7 => ?_)
    · refine z_b hX fo_X10 [.iconst 0] 15 (by decide +kernel) rfl ?_
      exact z_zret hX hR (by decide +kernel) (by decide +kernel) ⟨by first | rw [if_pos (by omega)] | rw [if_neg (by omega)], rfl⟩
    · refine z_b hX fo_X10 [.iconst 1] 11 (by decide +kernel) rfl ?_
      refine z_goto hX (off := 4) 15 (by decide +kernel) (by decide) ?_
      exact z_zret hX hR (by decide +kernel) (by decide +kernel) ⟨by first | rw [if_pos (by omega)] | rw [if_neg (by omega)], rfl⟩
theorem th1 {P : Prop} [Decidable P] (h : P) : (if P then (1 : Int) else 0) = 1 := if_pos h
theorem th0 {P : Prop} [Decidable P] (h : ¬ P) : (if P then (1 : Int) else 0) = 0 := if_neg h
