/-! ===== the model's row of 150 ints behind a room's row ===== -/
def gx (i : Nat) : Nat := if i < 7 then i else if i = 8 then 7 else if i = 9 then 8 else if i < 82 then 13 + 12 * ((i - 10) % 6) + (i - 10) / 6 else if i = 82 then 9 else if i < 107 then 85 + 6 * ((i - 83) % 4) + (i - 83) / 4 else if i = 107 then 10 else if i < 120 then 109 + 4 * ((i - 108) % 3) + (i - 108) / 3 else if i = 120 then 11 else if i < 145 then (if (i - 121) % 6 = 0 then 121 + (i - 121) / 6 else 128 + (i - 121) / 6 * 5 + (i - 121) % 6) else if i = 145 then 12 else i - 21
theorem gx_lt : ∀ i : Fin 150, i.val = 7 ∨ gx i.val < 149 := by decide +kernel
theorem gx_inj : ∀ i : Fin 150, ∀ j : Fin 150, i.val = 7 ∨ j.val = 7 ∨ i.val = j.val ∨ gx i.val ≠ gx j.val := by decide +kernel
theorem gx_co : ∀ k : Fin 12, ∀ w : Fin 6, gx (10 + 6 * k.val + w.val) = 13 + 12 * w.val + k.val := by decide +kernel
theorem gx_ac : ∀ k : Fin 6, ∀ w : Fin 4, gx (83 + 4 * k.val + w.val) = 85 + 6 * w.val + k.val := by decide +kernel
theorem gx_wo : ∀ k : Fin 4, ∀ w : Fin 3, gx (108 + 3 * k.val + w.val) = 109 + 4 * w.val + k.val := by decide +kernel
theorem gx_tr : ∀ t : Fin 4, gx (121 + 6 * t.val) = 121 + t.val := by decide +kernel
theorem gx_pl : ∀ t : Fin 4, ∀ p : Fin 5, gx (121 + 6 * t.val + 1 + p.val) = 129 + t.val * 5 + p.val := by decide +kernel
theorem gx_tn : ∀ k : Fin 4, gx (146 + k.val) = 125 + k.val := by decide +kernel
/-- which panels are torn, as bits -/
def bv (c : Nat → Int) : (n : Nat) → BitVec n
  | 0 => 0#0
  | n + 1 => BitVec.cons (decide (c (149 + n) ≠ 0)) (bv c n)
theorem bv_at (c : Nat → Int) : ∀ n i : Nat, (bv c n).getLsbD i = (decide (i < n) && decide (c (149 + i) ≠ 0))
  | 0, i => by simp [bv]
  | n + 1, i => by
    show (BitVec.cons (decide (c (149 + n) ≠ 0)) (bv c n)).getLsbD i = _
    rw [BitVec.getLsbD_cons, bv_at c n i]
    by_cases h : i = n
    · subst h; simp
    · rw [if_neg h]
      by_cases h2 : i < n
      · simp [h2, show i < n + 1 by omega]
      · simp [h2, show ¬ i < n + 1 by omega]
def tw (c : Nat → Int) : Int32 := Int32.ofBitVec (bv c 32)
def tb (c : Nat → Int) : Int := (tw c).toInt
theorem tw_at (c : Nat → Int) {i : Nat} (h : i < 32) : (tw c).toBitVec.getLsbD i = decide (c (149 + i) ≠ 0) := by
  show (bv c 32).getLsbD i = _
  rw [bv_at]; simp [h]
theorem tb_w (c : Nat → Int) : Int32.ofInt (tb c) = tw c := Int32.ofInt_toInt _
theorem tw_eq {c : Nat → Int} {x : Int32} (h : ∀ i, i < 32 → x.toBitVec.getLsbD i = decide (c (149 + i) ≠ 0)) : x = tw c :=
  Int32.toBitVec_inj.mp (BitVec.eq_of_getLsbD_eq (fun i hi => by rw [h i hi, tw_at c hi]))
theorem tb_cg {c d : Nat → Int} (h : ∀ i, i < 32 → c (149 + i) = d (149 + i)) : tb c = tb d := by
  unfold tb
  rw [tw_eq (c := d) (x := tw c) (fun i hi => by rw [tw_at c hi, h i hi])]
def gm (c : Nat → Int) (i : Nat) : Int := if i = 7 then tb c else if i < 150 then c (gx i) else 0
theorem gm_e {c : Nat → Int} {i : Nat} (h : i < 150) (h7 : i ≠ 7) : gm c i = c (gx i) := by unfold gm; rw [if_neg h7, if_pos h]
theorem gm_0 {c : Nat → Int} {i : Nat} (h : 150 ≤ i) : gm c i = 0 := by unfold gm; rw [if_neg (by omega), if_neg (by omega)]
theorem gm_up {c : Nat → Int} {i : Nat} {v : Int} (h : i < 150) (h7 : i ≠ 7) : va_up (gm c) i v = gm (va_up c (gx i) v) := by
  funext j
  have hl := gx_lt ⟨i, h⟩
  dsimp only at hl
  by_cases e : j = i
  · subst e; rw [va_e, if_pos rfl, gm_e h h7, va_e, if_pos rfl]
  · rw [vne e]
    by_cases e7 : j = 7
    · subst e7
      show tb c = tb (va_up c (gx i) v)
      exact tb_cg (fun q hq => (vne (by omega)).symm)
    · by_cases e9 : j < 150
      · have hi := gx_inj ⟨i, h⟩ ⟨j, e9⟩
        dsimp only at hi
        rw [gm_e e9 e7, gm_e e9 e7, vne (by omega)]
      · rw [gm_0 (by omega), gm_0 (by omega)]
theorem gm_7 (c : Nat → Int) : gm c 7 = tb c := rfl
theorem gm_up7 {c : Nat → Int} {p : Nat} {v x : Int} (hp : p < 32) (h : x = tb (va_up c (149 + p) v)) : va_up (gm c) 7 x = gm (va_up c (149 + p) v) := by
  funext j
  by_cases e : j = 7
  · subst e; rw [va_e, if_pos rfl, gm_7, h]
  · rw [vne e]
    by_cases e9 : j < 150
    · have hl := gx_lt ⟨j, e9⟩
      dsimp only at hl
      rw [gm_e e9 e, gm_e e9 e, vne (by omega)]
    · rw [gm_0 (by omega), gm_0 (by omega)]
theorem gco {c : Nat → Int} {k w : Nat} (hk : k < 12) (hw : w < 6) : gm c (10 + 6 * k + w) = c (13 + 12 * w + k) := by rw [gm_e (by omega) (by omega), gx_co ⟨k, hk⟩ ⟨w, hw⟩]
theorem gac {c : Nat → Int} {k w : Nat} (hk : k < 6) (hw : w < 4) : gm c (83 + 4 * k + w) = c (85 + 6 * w + k) := by rw [gm_e (by omega) (by omega), gx_ac ⟨k, hk⟩ ⟨w, hw⟩]
theorem gwo {c : Nat → Int} {k w : Nat} (hk : k < 4) (hw : w < 3) : gm c (108 + 3 * k + w) = c (109 + 4 * w + k) := by rw [gm_e (by omega) (by omega), gx_wo ⟨k, hk⟩ ⟨w, hw⟩]
theorem gtr {c : Nat → Int} {t : Nat} (ht : t < 4) : gm c (121 + 6 * t) = c (121 + t) := by rw [gm_e (by omega) (by omega), gx_tr ⟨t, ht⟩]
theorem gpl {c : Nat → Int} {t p : Nat} (ht : t < 4) (hp : p < 5) : gm c (121 + 6 * t + 1 + p) = c (129 + t * 5 + p) := by rw [gm_e (by omega) (by omega), gx_pl ⟨t, ht⟩ ⟨p, hp⟩]
theorem gtn {c : Nat → Int} {k : Nat} (hk : k < 4) : gm c (146 + k) = c (125 + k) := by rw [gm_e (by omega) (by omega), gx_tn ⟨k, hk⟩]
theorem uco {c : Nat → Int} {k w : Nat} {v : Int} (hk : k < 12) (hw : w < 6) : va_up (gm c) (10 + 6 * k + w) v = gm (va_up c (13 + 12 * w + k) v) := by rw [gm_up (by omega) (by omega), gx_co ⟨k, hk⟩ ⟨w, hw⟩]
theorem uac {c : Nat → Int} {k w : Nat} {v : Int} (hk : k < 6) (hw : w < 4) : va_up (gm c) (83 + 4 * k + w) v = gm (va_up c (85 + 6 * w + k) v) := by rw [gm_up (by omega) (by omega), gx_ac ⟨k, hk⟩ ⟨w, hw⟩]
theorem uwo {c : Nat → Int} {k w : Nat} {v : Int} (hk : k < 4) (hw : w < 3) : va_up (gm c) (108 + 3 * k + w) v = gm (va_up c (109 + 4 * w + k) v) := by rw [gm_up (by omega) (by omega), gx_wo ⟨k, hk⟩ ⟨w, hw⟩]
theorem utr {c : Nat → Int} {t : Nat} {v : Int} (ht : t < 4) : va_up (gm c) (121 + 6 * t) v = gm (va_up c (121 + t) v) := by rw [gm_up (by omega) (by omega), gx_tr ⟨t, ht⟩]
theorem upl {c : Nat → Int} {t p : Nat} {v : Int} (ht : t < 4) (hp : p < 5) : va_up (gm c) (121 + 6 * t + 1 + p) v = gm (va_up c (129 + t * 5 + p) v) := by rw [gm_up (by omega) (by omega), gx_pl ⟨t, ht⟩ ⟨p, hp⟩]
theorem utn {c : Nat → Int} {k : Nat} {v : Int} (hk : k < 4) : va_up (gm c) (146 + k) v = gm (va_up c (125 + k) v) := by rw [gm_up (by omega) (by omega), gx_tn ⟨k, hk⟩]
theorem ulit {c : Nat → Int} {i j : Nat} {v : Int} (h : i < 150) (h7 : i ≠ 7) (hj : gx i = j) : va_up (gm c) i v = gm (va_up c j v) := by rw [gm_up h h7, hj]
/-- a bit asked, set, cleared -/
theorem b1_at : ∀ n : Fin 32, ∀ i : Fin 32, ((1 : Int32) <<< (Int32.ofInt ((n.val : Nat) : Int) &&& 31)).toBitVec.getLsbD i.val = decide (i.val = n.val) := by decide +kernel
theorem bsm : ∀ n : Fin 32, ((Int32.ofInt ((n.val : Nat) : Int) &&& 31).toBitVec.smod 32).toNat = n.val := by decide +kernel
theorem bone : ∀ i : Fin 32, (1 : Int32).toBitVec.getLsbD i.val = decide (i.val = 0) := by decide +kernel
theorem bzer (i : Nat) : (0 : Int32).toBitVec.getLsbD i = false := BitVec.getLsbD_zero
theorem bmin : ∀ i : Fin 32, (Int32.ofInt (-1)).toBitVec.getLsbD i.val = true := by decide +kernel
theorem bt_ask (c : Nat → Int) {p : Nat} (hp : p < 32) : ((Int32.ofInt ((Int32.ofInt (tb c) >>> (Int32.ofInt (p : Int) &&& 31)).toInt) &&& Int32.ofInt 1).toInt) = if c (149 + p) ≠ 0 then 1 else 0 := by
  rw [Int32.ofInt_toInt, tb_w, show Int32.ofInt 1 = (1 : Int32) from rfl]
  have e0 : ∀ i, i < 32 → (tw c >>> (Int32.ofInt (p : Int) &&& 31) &&& 1).toBitVec.getLsbD i = (decide (i = 0) && decide (c (149 + p) ≠ 0)) := by
    intro i hi
    rw [Int32.toBitVec_and, BitVec.getLsbD_and, bone ⟨i, hi⟩]
    by_cases h : i = 0
    · subst h
      rw [Int32.toBitVec_shiftRight]
      have e1 := bsm ⟨p, hp⟩
      dsimp only at e1
      show (((tw c).toBitVec.sshiftRight' ((Int32.ofInt (p : Int) &&& 31).toBitVec.smod 32)).getLsbD 0 && _) = _
      rw [show ∀ (x y : BitVec 32), x.sshiftRight' y = x.sshiftRight y.toNat from fun _ _ => rfl, e1, BitVec.getLsbD_sshiftRight, if_pos (show p + 0 < 32 by omega), Nat.add_zero, tw_at c hp]
      simp
    · simp [h]
  by_cases h : c (149 + p) ≠ 0
  · rw [if_pos h, show tw c >>> (Int32.ofInt (p : Int) &&& 31) &&& 1 = 1 from Int32.toBitVec_inj.mp (BitVec.eq_of_getLsbD_eq (fun i hi => by rw [e0 i hi, bone ⟨i, hi⟩]; simp [h]))]
    rfl
  · rw [if_neg h, show tw c >>> (Int32.ofInt (p : Int) &&& 31) &&& 1 = 0 from Int32.toBitVec_inj.mp (BitVec.eq_of_getLsbD_eq (fun i hi => by rw [e0 i hi, bzer]; simp [h]))]
    rfl
theorem bt_set (c : Nat → Int) {p : Nat} (hp : p < 32) : ((Int32.ofInt (tb c) ||| Int32.ofInt ((Int32.ofInt 1 <<< (Int32.ofInt (p : Int) &&& 31)).toInt)).toInt) = tb (va_up c (149 + p) 1) := by
  rw [Int32.ofInt_toInt, tb_w, show Int32.ofInt 1 = (1 : Int32) from rfl]
  unfold tb
  refine congrArg Int32.toInt (tw_eq (fun i hi => ?_))
  rw [Int32.toBitVec_or, BitVec.getLsbD_or, tw_at c hi, b1_at ⟨p, hp⟩ ⟨i, hi⟩, va_e]
  by_cases h : i = p
  · subst h; simp
  · rw [if_neg (by omega)]; simp [h]
theorem bt_clr (c : Nat → Int) {p : Nat} (hp : p < 32) : ((Int32.ofInt (tb c) &&& Int32.ofInt ((Int32.ofInt ((Int32.ofInt 1 <<< (Int32.ofInt (p : Int) &&& 31)).toInt) ^^^ Int32.ofInt (-1)).toInt)).toInt) = tb (va_up c (149 + p) 0) := by
  rw [Int32.ofInt_toInt, Int32.ofInt_toInt, tb_w, show Int32.ofInt 1 = (1 : Int32) from rfl]
  unfold tb
  refine congrArg Int32.toInt (tw_eq (fun i hi => ?_))
  rw [Int32.toBitVec_and, BitVec.getLsbD_and, tw_at c hi, Int32.toBitVec_xor, BitVec.getLsbD_xor, b1_at ⟨p, hp⟩ ⟨i, hi⟩, bmin ⟨i, hi⟩, va_e]
  by_cases h : i = p
  · subst h; simp
  · rw [if_neg (by omega)]; simp [h]
