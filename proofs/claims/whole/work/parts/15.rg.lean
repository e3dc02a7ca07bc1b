/-! ===== what a room's numbers lie between ===== -/
def zbd (B : Int) (j : Nat) : Option (Int × Int) :=
  if j < 1 then some (0, B) else if j < 4 then some (0, 999) else if j < 8 then none else if j < 9 then some (0, 12) else if j < 10 then some (0, 6) else if j < 11 then some (0, 4) else if j < 12 then some (0, 4) else if j < 13 then some (0, 4) else if j < 25 then some (0, 70) else if j < 37 then some (0, 9) else if j < 49 then some (0, 60) else if j < 61 then some (-1, 5) else if j < 73 then some (-1, 3) else if j < 85 then none else if j < 91 then some (0, 99) else if j < 97 then some (0, 3) else if j < 103 then some (-1, 11) else if j < 109 then none else if j < 113 then some (0, 8) else if j < 117 then some (0, 9) else if j < 121 then none else if j < 125 then some (0, 5) else if j < 129 then some (0, 3) else if j < 149 then some (0, 11) else if j < 181 then some (0, 1) else none
def Rg (B : Int) (c : Nat → Int) : Prop := ∀ (j : Nat) (lo hi : Int), zbd B j = some (lo, hi) → lo ≤ c j ∧ c j ≤ hi
theorem Rg.up {B : Int} {c : Nat → Int} (h : Rg B c) {j : Nat} {v : Int} (hv : ∀ lo hi : Int, zbd B j = some (lo, hi) → lo ≤ v ∧ v ≤ hi) : Rg B (va_up c j v) := by
  intro i lo hi hb
  simp only [va_up]
  split
  · rename_i e; subst e; exact hv lo hi hb
  · exact h i lo hi hb
theorem Rg.get {B : Int} {c : Nat → Int} (h : Rg B c) {j : Nat} {lo hi : Int} (hb : zbd B j = some (lo, hi)) : lo ≤ c j ∧ c j ≤ hi := h j lo hi hb
theorem Rg.upb {B : Int} {c : Nat → Int} (h : Rg B c) {j : Nat} {v lo hi : Int} (hb : zbd B j = some (lo, hi)) (hv : lo ≤ v ∧ v ≤ hi) : Rg B (va_up c j v) := h.up (fun l2 h2 e => by rw [hb] at e; cases e; exact hv)
theorem Rg.upn {B : Int} {c : Nat → Int} (h : Rg B c) {j : Nat} {v : Int} (hb : zbd B j = none) : Rg B (va_up c j v) := h.up (fun l2 h2 e => by rw [hb] at e; cases e)
theorem Rg.mono {B B2 : Int} {c : Nat → Int} (h : Rg B c) (hB : B ≤ B2) : Rg B2 c := by
  intro j lo hi hb
  by_cases hj : j = 0
  · subst hj
    have h0 := h 0 0 B rfl
    cases hb
    exact ⟨h0.1, Int.le_trans h0.2 hB⟩
  · refine h j lo hi ?_
    rw [← hb]
    unfold zbd
    simp only [if_neg (show ¬ j < 1 by omega)]
theorem zbd_day {B : Int} : zbd B 0 = some (0, B) := rfl
theorem Rg.day {B : Int} {c : Nat → Int} (h : Rg B c) : 0 ≤ c 0 ∧ c 0 ≤ B := h.get zbd_day
theorem zbd_good {B : Int} {k : Nat} (hk : k < 3) : zbd B (1 + k) = some (0, 999) := by
  unfold zbd
  repeat (first | rw [if_neg (by omega)] | rw [if_pos (by omega)])
theorem Rg.good {B : Int} {c : Nat → Int} (h : Rg B c) {k : Nat} (hk : k < 3) : 0 ≤ c (1 + k) ∧ c (1 + k) ≤ 999 := h.get (zbd_good hk)
theorem zbd_n4 {B : Int} {k : Nat} (hk : k < 4) : zbd B (4 + k) = none := by
  unfold zbd
  repeat (first | rw [if_neg (by omega)] | rw [if_pos (by omega)])
theorem zbd_coats {B : Int} : zbd B 8 = some (0, 12) := rfl
theorem Rg.coats {B : Int} {c : Nat → Int} (h : Rg B c) : 0 ≤ c 8 ∧ c 8 ≤ 12 := h.get zbd_coats
theorem zbd_acts {B : Int} : zbd B 9 = some (0, 6) := rfl
theorem Rg.acts {B : Int} {c : Nat → Int} (h : Rg B c) : 0 ≤ c 9 ∧ c 9 ≤ 6 := h.get zbd_acts
theorem zbd_women {B : Int} : zbd B 10 = some (0, 4) := rfl
theorem Rg.women {B : Int} {c : Nat → Int} (h : Rg B c) : 0 ≤ c 10 ∧ c 10 ≤ 4 := h.get zbd_women
theorem zbd_trunks {B : Int} : zbd B 11 = some (0, 4) := rfl
theorem Rg.trunks {B : Int} {c : Nat → Int} (h : Rg B c) : 0 ≤ c 11 ∧ c 11 ≤ 4 := h.get zbd_trunks
theorem zbd_loaded {B : Int} : zbd B 12 = some (0, 4) := rfl
theorem Rg.loaded {B : Int} {c : Nat → Int} (h : Rg B c) : 0 ≤ c 12 ∧ c 12 ≤ 4 := h.get zbd_loaded
theorem zbd_size {B : Int} {k : Nat} (hk : k < 12) : zbd B (13 + k) = some (0, 70) := by
  unfold zbd
  repeat (first | rw [if_neg (by omega)] | rw [if_pos (by omega)])
theorem Rg.size {B : Int} {c : Nat → Int} (h : Rg B c) {k : Nat} (hk : k < 12) : 0 ≤ c (13 + k) ∧ c (13 + k) ≤ 70 := h.get (zbd_size hk)
theorem zbd_rips {B : Int} {k : Nat} (hk : k < 12) : zbd B (25 + k) = some (0, 9) := by
  unfold zbd
  repeat (first | rw [if_neg (by omega)] | rw [if_pos (by omega)])
theorem Rg.rips {B : Int} {c : Nat → Int} (h : Rg B c) {k : Nat} (hk : k < 12) : 0 ≤ c (25 + k) ∧ c (25 + k) ≤ 9 := h.get (zbd_rips hk)
theorem zbd_miss {B : Int} {k : Nat} (hk : k < 12) : zbd B (37 + k) = some (0, 60) := by
  unfold zbd
  repeat (first | rw [if_neg (by omega)] | rw [if_pos (by omega)])
theorem Rg.miss {B : Int} {c : Nat → Int} (h : Rg B c) {k : Nat} (hk : k < 12) : 0 ≤ c (37 + k) ∧ c (37 + k) ≤ 60 := h.get (zbd_miss hk)
theorem zbd_own {B : Int} {k : Nat} (hk : k < 12) : zbd B (49 + k) = some (-1, 5) := by
  unfold zbd
  repeat (first | rw [if_neg (by omega)] | rw [if_pos (by omega)])
theorem Rg.own {B : Int} {c : Nat → Int} (h : Rg B c) {k : Nat} (hk : k < 12) : -1 ≤ c (49 + k) ∧ c (49 + k) ≤ 5 := h.get (zbd_own hk)
theorem zbd_tr {B : Int} {k : Nat} (hk : k < 12) : zbd B (61 + k) = some (-1, 3) := by
  unfold zbd
  repeat (first | rw [if_neg (by omega)] | rw [if_pos (by omega)])
theorem Rg.tr {B : Int} {c : Nat → Int} (h : Rg B c) {k : Nat} (hk : k < 12) : -1 ≤ c (61 + k) ∧ c (61 + k) ≤ 3 := h.get (zbd_tr hk)
theorem zbd_n73 {B : Int} {k : Nat} (hk : k < 12) : zbd B (73 + k) = none := by
  unfold zbd
  repeat (first | rw [if_neg (by omega)] | rw [if_pos (by omega)])
theorem zbd_asize {B : Int} {k : Nat} (hk : k < 6) : zbd B (85 + k) = some (0, 99) := by
  unfold zbd
  repeat (first | rw [if_neg (by omega)] | rw [if_pos (by omega)])
theorem Rg.asize {B : Int} {c : Nat → Int} (h : Rg B c) {k : Nat} (hk : k < 6) : 0 ≤ c (85 + k) ∧ c (85 + k) ≤ 99 := h.get (zbd_asize hk)
theorem zbd_grow {B : Int} {k : Nat} (hk : k < 6) : zbd B (91 + k) = some (0, 3) := by
  unfold zbd
  repeat (first | rw [if_neg (by omega)] | rw [if_pos (by omega)])
theorem Rg.grow {B : Int} {c : Nat → Int} (h : Rg B c) {k : Nat} (hk : k < 6) : 0 ≤ c (91 + k) ∧ c (91 + k) ≤ 3 := h.get (zbd_grow hk)
theorem zbd_acoat {B : Int} {k : Nat} (hk : k < 6) : zbd B (97 + k) = some (-1, 11) := by
  unfold zbd
  repeat (first | rw [if_neg (by omega)] | rw [if_pos (by omega)])
theorem Rg.acoat {B : Int} {c : Nat → Int} (h : Rg B c) {k : Nat} (hk : k < 6) : -1 ≤ c (97 + k) ∧ c (97 + k) ≤ 11 := h.get (zbd_acoat hk)
theorem zbd_n103 {B : Int} {k : Nat} (hk : k < 6) : zbd B (103 + k) = none := by
  unfold zbd
  repeat (first | rw [if_neg (by omega)] | rw [if_pos (by omega)])
theorem zbd_hours {B : Int} {k : Nat} (hk : k < 4) : zbd B (109 + k) = some (0, 8) := by
  unfold zbd
  repeat (first | rw [if_neg (by omega)] | rw [if_pos (by omega)])
theorem Rg.hours {B : Int} {c : Nat → Int} (h : Rg B c) {k : Nat} (hk : k < 4) : 0 ≤ c (109 + k) ∧ c (109 + k) ≤ 8 := h.get (zbd_hours hk)
theorem zbd_sore {B : Int} {k : Nat} (hk : k < 4) : zbd B (113 + k) = some (0, 9) := by
  unfold zbd
  repeat (first | rw [if_neg (by omega)] | rw [if_pos (by omega)])
theorem Rg.sore {B : Int} {c : Nat → Int} (h : Rg B c) {k : Nat} (hk : k < 4) : 0 ≤ c (113 + k) ∧ c (113 + k) ≤ 9 := h.get (zbd_sore hk)
theorem zbd_n117 {B : Int} {k : Nat} (hk : k < 4) : zbd B (117 + k) = none := by
  unfold zbd
  repeat (first | rw [if_neg (by omega)] | rw [if_pos (by omega)])
theorem zbd_intr {B : Int} {k : Nat} (hk : k < 4) : zbd B (121 + k) = some (0, 5) := by
  unfold zbd
  repeat (first | rw [if_neg (by omega)] | rw [if_pos (by omega)])
theorem Rg.intr {B : Int} {c : Nat → Int} (h : Rg B c) {k : Nat} (hk : k < 4) : 0 ≤ c (121 + k) ∧ c (121 + k) ≤ 5 := h.get (zbd_intr hk)
theorem zbd_train {B : Int} {k : Nat} (hk : k < 4) : zbd B (125 + k) = some (0, 3) := by
  unfold zbd
  repeat (first | rw [if_neg (by omega)] | rw [if_pos (by omega)])
theorem Rg.train {B : Int} {c : Nat → Int} (h : Rg B c) {k : Nat} (hk : k < 4) : 0 ≤ c (125 + k) ∧ c (125 + k) ≤ 3 := h.get (zbd_train hk)
theorem zbd_place {B : Int} {k : Nat} (hk : k < 20) : zbd B (129 + k) = some (0, 11) := by
  unfold zbd
  repeat (first | rw [if_neg (by omega)] | rw [if_pos (by omega)])
theorem Rg.place {B : Int} {c : Nat → Int} (h : Rg B c) {k : Nat} (hk : k < 20) : 0 ≤ c (129 + k) ∧ c (129 + k) ≤ 11 := h.get (zbd_place hk)
theorem zbd_torn {B : Int} {k : Nat} (hk : k < 32) : zbd B (149 + k) = some (0, 1) := by
  unfold zbd
  repeat (first | rw [if_neg (by omega)] | rw [if_pos (by omega)])
theorem Rg.torn {B : Int} {c : Nat → Int} (h : Rg B c) {k : Nat} (hk : k < 32) : 0 ≤ c (149 + k) ∧ c (149 + k) ≤ 1 := h.get (zbd_torn hk)
theorem Rg.upa {B : Int} {c : Nat → Int} (h : Rg B c) {j : Nat} {v lo hi : Int} (hb : zbd B j = some (lo, hi)) (hv : lo ≤ c j + v ∧ c j + v ≤ hi) : Rg B (ad c j v) := h.upb hb hv
theorem Rg.upan {B : Int} {c : Nat → Int} (h : Rg B c) {j : Nat} {v : Int} (hb : zbd B j = none) : Rg B (ad c j v) := h.upn hb
abbrev zmn (x y : Int) : Int := if y < x then y else x
abbrev zmx (x y : Int) : Int := if x < y then y else x
