/-! ===== CircusCoats: what the answers lie between ===== -/
theorem zbest_b {c : Nat → Int} {a : Nat} : ∀ (m i : Nat) (b : Int), (b = -1 ∨ 0 ≤ b ∧ b < (i : Int)) → zbest c a i m b = -1 ∨ 0 ≤ zbest c a i m b ∧ zbest c a i m b < ((i + m : Nat) : Int)
  | 0, i, b, h => by
    show b = -1 ∨ 0 ≤ b ∧ b < ((i + 0 : Nat) : Int)
    omega
  | m + 1, i, b, h => by
    have e : i + (m + 1) = i + 1 + m := by omega
    rw [e]
    refine zbest_b m (i + 1) _ ?_
    split <;> omega
theorem zbest_zi {D : Int} {c : Nat → Int} {a : Nat} (hg : Rg D c) : zi (zbest c a 0 (c 8).toNat (-1)) := by
  have g := hg.coats
  have h := zbest_b (c := c) (a := a) (c 8).toNat 0 (-1) (Or.inl rfl)
  constructor <;> omega
theorem zwork_zi {D : Int} {c : Nat → Int} {k a : Nat} (hg : Rg D c) (hk : k < 12) (ha : a < 6) : zi (if 70 < c (85 + a) then -1 else zhrs (c (25 + k)) (c (37 + k)) (c (13 + k)) (c (85 + a))) := by
  have h1 := hg.rips hk
  have h2 := hg.miss hk
  have h3 := hg.size hk
  have h4 := hg.asize ha
  split
  · exact ⟨by decide, by decide⟩
  · have h := zh4 (r := c (25 + k)) (m := c (37 + k)) (s := c (13 + k)) (w := c (85 + a)) h1.1
    have := h.2.2.2.2.2 (by omega) (by omega) (by omega) (by omega)
    constructor <;> omega
theorem plc_t {D : Int} {c : Nat → Int} {k : Nat} (h : Inv D c) (hk : (k : Int) < c 8) (hne : c (61 + k) ≠ -1) : c (61 + k) = ((c (61 + k)).toNat : Int) ∧ ((c (61 + k)).toNat : Int) < c 11 ∧ (0 ≤ c (121 + (c (61 + k)).toNat) ∧ c (121 + (c (61 + k)).toNat) ≤ 5) ∧ (∀ p, p < 5 → zi (c (129 + (c (61 + k)).toNat * 5 + p))) ∧ plc c k = ((plc c k).toNat : Int) ∧ 0 ≤ plc c k ∧ plc c k < c (121 + (c (61 + k)).toNat) := by
  have g8 := h.1.coats
  have g11 := h.1.trunks
  obtain ⟨t, p, ht, hp, q3, q4, q5, q6⟩ := h.2.2.1.1 k (by omega) hk hne
  have e : (c (61 + k)).toNat = t := by omega
  unfold plc
  rw [e]
  have gi := h.1.intr ht
  have hx : zfnd (fun p => zcoat c t (p : Int)) (k : Int) 0 5 ≠ -1 := fun z => by
    refine zfnd_n _ _ z p (by omega) (by omega) ?_
    show zcoat c t (p : Int) = (k : Int)
    unfold zcoat
    rw [if_pos ⟨by omega, q5⟩, show ((p : Int)).toNat = p by omega]
    exact q6
  obtain ⟨p2, r1, r2, r3, r4⟩ := zfnd_x _ _ hx
  have r5 : zcoat c t (p2 : Int) = (k : Int) := r3
  unfold zcoat at r5
  have r6 : 0 ≤ (p2 : Int) ∧ (p2 : Int) < c (121 + t) := by
    by_cases z : 0 ≤ (p2 : Int) ∧ (p2 : Int) < c (121 + t)
    · exact z
    · rw [if_neg z] at r5; omega
  rw [r4]
  refine ⟨q3, q4, gi, fun j hj => ?_, by omega, r6⟩
  have g := h.1.place (k := t * 5 + j) (by omega)
  rw [show 129 + t * 5 + j = 129 + (t * 5 + j) by omega]
  exact ⟨by omega, by omega⟩
theorem zfst_b (f : Nat → Int) : ∀ (m i : Nat), zfst f i m = -1 ∧ (∀ p, i ≤ p → p < i + m → f p = 0) ∨ ∃ p, i ≤ p ∧ p < i + m ∧ f p ≠ 0 ∧ (∀ j, i ≤ j → j < p → f j = 0) ∧ zfst f i m = (p : Int)
  | 0, i => Or.inl ⟨rfl, fun p h1 h2 => absurd h2 (by omega)⟩
  | m + 1, i => by
    by_cases e : f i ≠ 0
    · exact Or.inr ⟨i, Nat.le_refl _, by omega, e, fun j h1 h2 => absurd h2 (by omega), if_pos e⟩
    · have e2 : zfst f i (m + 1) = zfst f (i + 1) m := if_neg e
      have e3 : f i = 0 := Decidable.not_not.mp e
      rw [e2]
      rcases zfst_b f m (i + 1) with ⟨h1, h2⟩ | ⟨p, h1, h2, h3, h4, h5⟩
      · refine Or.inl ⟨h1, fun p q1 q2 => ?_⟩
        by_cases z : p = i
        · rw [z]; exact e3
        · exact h2 p (by omega) (by omega)
      · refine Or.inr ⟨p, by omega, by omega, h3, fun j q1 q2 => ?_, h5⟩
        by_cases z : j = i
        · rw [z]; exact e3
        · exact h4 j (by omega) q2
theorem zfst_zi (f : Nat → Int) (i : Nat) {m : Nat} (h : i + m ≤ 1000) : zi (zfst f i m) := by
  rcases zfst_b f m i with ⟨h1, h2⟩ | ⟨p, h1, h2, h3, h4, h5⟩
  · rw [h1]; exact ⟨by decide, by decide⟩
  · rw [h5]; exact ⟨by omega, by omega⟩
theorem zsum_0 {c : Nat → Int} {a : Nat} : ∀ n : Nat, (∀ p, p < n → c (a + p) = 0) → zsum c a n = 0
  | 0, _ => rfl
  | n + 1, h => by
    show zsum c a n + c (a + n) = 0
    rw [zsum_0 n (fun p hp => h p (by omega)), h n (by omega)]
    rfl
theorem zfst_t {D : Int} {c : Nat → Int} (hg : Rg D c) (h : zsum c 149 32 ≠ 0) : 0 ≤ zfst (fun p => c (149 + p)) 0 32 ∧ zfst (fun p => c (149 + p)) 0 32 < 32 := by
  rcases zfst_b (fun p => c (149 + p)) 32 0 with ⟨h1, h2⟩ | ⟨p, h1, h2, h3, h4, h5⟩
  · exact absurd (zsum_0 32 (fun p hp => h2 p (by omega) (by omega))) h
  · rw [h5]; exact ⟨by omega, by omega⟩
theorem zsign_i (c : Nat → Int) (k : Nat) : 0 ≤ zsign c k ∧ zsign c k ≤ 65535 := by
  unfold zsign
  repeat' split
  all_goals exact ⟨by decide, by decide⟩
theorem zcoat_i {D y : Int} {c : Nat → Int} {t : Nat} (hg : Rg D c) (ht : t < 4) : zi (zcoat c t y) := by
  have g := hg.intr ht
  unfold zcoat
  split
  · have h := hg.place (k := t * 5 + y.toNat) (by omega)
    rw [show 129 + t * 5 + y.toNat = 129 + (t * 5 + y.toNat) by omega]
    exact ⟨by omega, by omega⟩
  · exact ⟨by decide, by decide⟩
theorem ztrain_i {D y : Int} {c : Nat → Int} (hg : Rg D c) : zi (ztrain c y) := by
  have g := hg.loaded
  unfold ztrain
  split
  · have h := hg.train (k := y.toNat) (by omega)
    exact ⟨by omega, by omega⟩
  · exact ⟨by decide, by decide⟩
theorem zdtt_zi {D : Int} {c : Nat → Int} {a : Nat} (hg : Rg D c) (ha : a < 6) (hD : D ≤ 1000000) : zi (zdtt c a) := by
  have h0 := hg.day
  have h1 := hg.acoat ha
  have h2 := hg.asize ha
  have h3 := hg.grow ha
  unfold zdtt
  split
  · exact ⟨by decide, by decide⟩
  · have h4 := hg.size (k := (c (97 + a)).toNat) (by omega)
    split
    · exact ⟨by decide, by decide⟩
    · split
      · exact ⟨by decide, by decide⟩
      · have h5 := Int.ediv_le_self (c (91 + a)) (show 0 ≤ c (13 + (c (97 + a)).toNat) - c (85 + a) by omega)
        have h6 := Int.ediv_nonneg (show 0 ≤ c (13 + (c (97 + a)).toNat) - c (85 + a) by omega) (show 0 ≤ c (91 + a) by omega)
        constructor <;> omega
