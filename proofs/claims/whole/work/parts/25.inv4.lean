theorem sGive_97 {c : Nat → Int} {a k i : Nat} (hi : i < 6) (ha : a < 6) (hk : k < 12) (hh : c (97 + a) ≤ 11) : sGive c a k (97 + i) = if i = a then (k : Int) else c (97 + i) := by
  unfold sGive
  rw [vne (by omega)]
  by_cases e : i = a
  · subst e; rw [va_e, if_pos rfl, if_pos rfl]
  · rw [vne (by omega), if_neg e]
    split
    · rw [vne (by omega)]
    · rfl
theorem sGive_49 {c : Nat → Int} {a k j : Nat} (hj : j < 12) (ha : a < 6) (hh : c (97 + a) = -1 ∨ 0 ≤ c (97 + a) ∧ c (97 + a) < c 8) : sGive c a k (49 + j) = if j = k then (a : Int) else if c (97 + a) = (j : Int) then -1 else c (49 + j) := by
  unfold sGive
  by_cases e : j = k
  · subst e; rw [va_e, if_pos rfl, if_pos rfl]
  · rw [vne (by omega), if_neg e, vne (by omega)]
    split
    · rename_i h1
      by_cases e2 : c (97 + a) = (j : Int)
      · rw [if_pos e2, va_e, if_pos (by omega)]
      · rw [if_neg e2, vne (by omega)]
    · rw [if_neg (by omega)]
theorem sGive_o {c : Nat → Int} {a k j : Nat} (h1 : ¬ (49 ≤ j ∧ j < 61)) (h2 : j ≠ 97 + a) (hk : k < 12) (hh : c (97 + a) ≤ 11) : sGive c a k j = c j := by
  unfold sGive
  rw [vne (by omega), vne h2]
  split
  · rw [vne (by omega)]
  · rfl
theorem Inv.give {D : Int} {c : Nat → Int} {a k : Nat} (h : Inv D c) (ha : (a : Int) < c 9) (hk : (k : Int) < c 8) (hw : c (49 + k) = -1 ∨ c (49 + k) = (a : Int)) : Inv D (sGive c a k) := by
  have g8 := h.1.coats
  have g9 := h.1.acts
  have ha2 : a < 6 := by omega
  have hk2 : k < 12 := by omega
  have ga := h.1.acoat ha2
  obtain ⟨h1, h2⟩ := h.2.1
  have hh : c (97 + a) = -1 ∨ 0 ≤ c (97 + a) ∧ c (97 + a) < c 8 := by
    by_cases e : c (97 + a) = -1
    · exact Or.inl e
    · obtain ⟨j, hj, q3, q4, q5⟩ := h2 a ha2 ha e
      exact Or.inr ⟨by omega, by omega⟩
  have eo : ∀ j, ¬ (49 ≤ j ∧ j < 61) → j ≠ 97 + a → sGive c a k j = c j := fun j q1 q2 => sGive_o q1 q2 hk2 ga.2
  have e97 : ∀ i, i < 6 → sGive c a k (97 + i) = if i = a then (k : Int) else c (97 + i) := fun i hi => sGive_97 hi ha2 hk2 ga.2
  have e49 : ∀ j, j < 12 → sGive c a k (49 + j) = if j = k then (a : Int) else if c (97 + a) = (j : Int) then -1 else c (49 + j) := fun j hj => sGive_49 hj ha2 hh
  have e8 : sGive c a k 8 = c 8 := eo _ (by omega) (by omega)
  have e9 : sGive c a k 9 = c 9 := eo _ (by omega) (by omega)
  refine ⟨?_, ⟨fun j hj q1 q2 => ?_, fun b hb q1 q2 => ?_⟩, h.2.2.1.cg h.1 (fun j hj => eo _ (by omega) (by omega)), h.2.2.2.1.cg (fun j hj => eo _ (by omega) (by omega)), h.2.2.2.2.1.cg h.1 (fun j hj => eo _ (by omega) (by omega)), fun j hj => (eo _ (by omega) (by omega)).trans (h.2.2.2.2.2 j hj)⟩
  · unfold sGive
    refine Rg.upb (Rg.upb ?_ (zbd_acoat ha2) ⟨by omega, by omega⟩) (zbd_own hk2) ⟨by omega, by omega⟩
    split
    · exact h.1.upb (zbd_own (by omega)) ⟨by omega, by omega⟩
    · exact h.1
  · rw [e8] at q1; rw [e49 j hj] at q2
    by_cases e : j = k
    · subst e
      exact ⟨a, ha2, by rw [e49 j hj, if_pos rfl], by rw [e9]; exact ha, by rw [e97 a ha2, if_pos rfl]⟩
    · rw [if_neg e] at q2
      by_cases e2 : c (97 + a) = (j : Int)
      · rw [if_pos e2] at q2; exact absurd rfl q2
      · rw [if_neg e2] at q2
        obtain ⟨b, hb, q3, q4, q5⟩ := h1 j hj q1 q2
        have hba : b ≠ a := fun z => by subst z; exact e2 q5
        exact ⟨b, hb, by rw [e49 j hj, if_neg e, if_neg e2]; exact q3, by rw [e9]; exact q4, by rw [e97 b hb, if_neg hba]; exact q5⟩
  · rw [e9] at q1; rw [e97 b hb] at q2
    by_cases e : b = a
    · subst e
      exact ⟨k, hk2, by rw [e97 b hb, if_pos rfl], by rw [e8]; exact hk, by rw [e49 k hk2, if_pos rfl]⟩
    · rw [if_neg e] at q2
      obtain ⟨j, hj, q3, q4, q5⟩ := h2 b hb q1 q2
      have hjk : j ≠ k := fun z => by subst z; rcases hw with z | z <;> omega
      have hja : c (97 + a) ≠ (j : Int) := fun z => by
        obtain ⟨j2, hj2, r3, r4, r5⟩ := h2 a ha2 ha (by omega)
        have : j2 = j := by omega
        subst this
        omega
      exact ⟨j, hj, by rw [e97 b hb, if_neg e]; exact q3, by rw [e8]; exact q4, by rw [e49 j hj, if_neg hjk, if_neg hja]; exact q5⟩
theorem sPack_o {c : Nat → Int} {k t p j : Nat} (h1 : j ≠ 129 + t * 5 + p) (h2 : j ≠ 61 + k) (h3 : j ≠ 121 + t) : sPack c k t p j = c j := by
  unfold sPack sPack0 ad; rw [vne h3, vne h2, vne h1]
theorem Inv.pack {D : Int} {c : Nat → Int} {k t p : Nat} (h : Inv D c) (hk : (k : Int) < c 8) (ht : (t : Int) < c 11) (hp : c (121 + t) = (p : Int)) (hp5 : p < 5) (hn : c (61 + k) = -1) : Inv D (sPack c k t p) := by
  have g8 := h.1.coats
  have g11 := h.1.trunks
  have hk2 : k < 12 := by omega
  have ht2 : t < 4 := by omega
  obtain ⟨h1, h2, h3, h4⟩ := h.2.2.1
  have e8 : sPack c k t p 8 = c 8 := sPack_o (by omega) (by omega) (by omega)
  have e11 : sPack c k t p 11 = c 11 := sPack_o (by omega) (by omega) (by omega)
  have e61 : ∀ j, j < 12 → sPack c k t p (61 + j) = if j = k then (t : Int) else c (61 + j) := fun j hj => by
    by_cases e : j = k
    · subst e; rw [if_pos rfl]; unfold sPack sPack0 ad; rw [vne (by omega), va_e, if_pos rfl]
    · rw [if_neg e]; exact sPack_o (by omega) (by omega) (by omega)
  have et : sPack c k t p (121 + t) = (p : Int) + 1 := by
    unfold sPack sPack0 ad; rw [va_e, if_pos rfl, vne (by omega), vne (by omega), hp]
  have e121 : ∀ s, s < 4 → s ≠ t → sPack c k t p (121 + s) = c (121 + s) := fun s hs e => sPack_o (by omega) (by omega) (by omega)
  have epl : sPack c k t p (129 + t * 5 + p) = (k : Int) := by
    unfold sPack sPack0 ad; rw [vne (by omega), vne (by omega), va_e, if_pos rfl]
  have e5 : ∀ s q, s < 4 → q < 5 → ¬ (s = t ∧ q = p) → sPack c k t p (129 + s * 5 + q) = c (129 + s * 5 + q) := fun s q hs hq e => sPack_o (by omega) (by omega) (by omega)
  refine ⟨?_, h.2.1.cg (fun j hj => sPack_o (by omega) (by omega) (by omega)), ⟨fun j hj q1 q2 => ?_, fun s q hs hq q1 q2 => ?_, fun s q r hs hr q1 q2 q3 => ?_, ?_⟩, h.2.2.2.1.cg (fun j hj => sPack_o (by omega) (by omega) (by omega)), h.2.2.2.2.1.cg h.1 (fun j hj => sPack_o (by omega) (by omega) (by omega)), fun j hj => (sPack_o (by omega) (by omega) (by omega)).trans (h.2.2.2.2.2 j hj)⟩
  · unfold sPack sPack0
    have gp := zbd_place (B := D) (k := t * 5 + p) (by omega)
    rw [show 129 + (t * 5 + p) = 129 + t * 5 + p by omega] at gp
    refine Rg.upa ((h.1.upb gp ⟨by omega, by omega⟩).upb (zbd_tr hk2) ⟨by omega, by omega⟩) (zbd_intr ht2) ?_
    rw [vne (by omega), vne (by omega)]
    omega
  · rw [e8] at q1; rw [e61 j hj] at q2
    by_cases e : j = k
    · subst e
      exact ⟨t, p, ht2, hp5, by rw [e61 j hj, if_pos rfl], by rw [e11]; exact ht, by rw [et]; omega, epl⟩
    · rw [if_neg e] at q2
      obtain ⟨s, q, hs, hq, q3, q4, q5, q6⟩ := h1 j hj q1 q2
      refine ⟨s, q, hs, hq, by rw [e61 j hj, if_neg e]; exact q3, by rw [e11]; exact q4, ?_, ?_⟩
      · by_cases z : s = t
        · subst z; rw [et]; omega
        · rw [e121 s hs z]; exact q5
      · rw [e5 s q hs hq (fun z => by obtain ⟨z1, z2⟩ := z; subst z1; omega)]; exact q6
  · rw [e11] at q1
    by_cases z : s = t ∧ q = p
    · obtain ⟨rfl, rfl⟩ := z
      exact ⟨k, hk2, epl, by rw [e8]; exact hk, by rw [e61 k hk2, if_pos rfl]⟩
    · have hq2 : (q : Int) < c (121 + s) := by
        by_cases z2 : s = t
        · subst z2; rw [et] at q2; omega
        · rw [e121 s hs z2] at q2; exact q2
      obtain ⟨j, hj, q3, q4, q5⟩ := h2 s q hs hq q1 hq2
      have hjk : j ≠ k := fun z => by subst z; omega
      exact ⟨j, hj, by rw [e5 s q hs hq z]; exact q3, by rw [e8]; exact q4, by rw [e61 j hj, if_neg hjk]; exact q5⟩
  · rw [e11] at q1
    by_cases z : s = t ∧ r = p
    · obtain ⟨rfl, rfl⟩ := z
      rw [epl, e5 s q hs (by omega) (by omega)]
      obtain ⟨j, hj, q4, q5, q6⟩ := h2 s q hs (by omega) q1 (by omega)
      intro z
      have : j = k := by omega
      subst this
      omega
    · have hq2 : (r : Int) < c (121 + s) := by
        by_cases z2 : s = t
        · subst z2; rw [et] at q3; omega
        · rw [e121 s hs z2] at q3; exact q3
      rw [e5 s r hs hr z, e5 s q hs (by omega) (fun y => by obtain ⟨y1, y2⟩ := y; subst y1; omega)]
      exact h3 s q r hs hr q1 q2 hq2
  · rw [e11, e8]
    unfold sPack sPack0 ad
    rw [zsum_up _ (by omega), vne (by omega), vne (by omega), zsum_cg (c := c) _ (fun i hi => by rw [vne (by omega), vne (by omega)])]
    have hz : zcnt (va_up (va_up (va_up c (129 + t * 5 + p) (k : Int)) (61 + k) (t : Int)) (121 + t) (c (121 + t) + 1)) (c 8).toNat = zcnt c (c 8).toNat + 1 := by
      rw [zcnt_cg (c := va_up c (61 + k) (t : Int)) _ (fun i hi => by
        rw [vne (by omega)]
        by_cases e : i = k
        · subst e; rw [va_e, if_pos rfl, va_e, if_pos rfl]
        · rw [vne (by omega), vne (by omega), vne (by omega)]), zcnt_up _ (by omega), hn, if_neg (by simp), if_pos (by omega)]
      omega
    rw [hz, h4]
    omega
theorem zshf_e {b : Nat} : ∀ (m i : Nat) (c : Nat → Int) (j : Nat), zshf b i m c j = if b + i ≤ j ∧ j < b + i + m then c (j + 1) else c j
  | 0, i, c, j => by rw [if_neg (by omega)]; rfl
  | m + 1, i, c, j => by
    show zshf b (i + 1) m (va_up c (b + i) (c (b + i + 1))) j = _
    rw [zshf_e m (i + 1)]
    by_cases e : b + (i + 1) ≤ j ∧ j < b + (i + 1) + m
    · rw [if_pos e, if_pos (by omega), vne (by omega)]
    · rw [if_neg e]
      by_cases e2 : j = b + i
      · subst e2; rw [va_e, if_pos rfl, if_pos (by omega)]
      · rw [vne e2, if_neg (by omega)]
theorem Inv.out {D : Int} {c : Nat → Int} {k t p q : Nat} (h : Inv D c) (hk : (k : Int) < c 8) (ht : (t : Int) < c 11) (hkt : c (61 + k) = (t : Int)) (hp : c (129 + t * 5 + p) = (k : Int)) (hq : c (121 + t) = (q : Int) + 1) (hpq : p ≤ q) : Inv D (sOut c k t p q) := by
  have g8 := h.1.coats
  have g11 := h.1.trunks
  have hk2 : k < 12 := by omega
  have ht2 : t < 4 := by omega
  have gt := h.1.intr ht2
  obtain ⟨h1, h2, h3, h4⟩ := h.2.2.1
  have er : ∀ j, sOut c k t p q j = if j = 61 + k then -1 else if 129 + t * 5 + p ≤ j ∧ j < 129 + t * 5 + q then c (j + 1) else if j = 121 + t then (q : Int) else c j := fun j => by
    unfold sOut
    rw [va_e, zshf_e]
    split
    · rfl
    · by_cases e : 129 + t * 5 + p ≤ j ∧ j < 129 + t * 5 + q
      · rw [if_pos (by omega), if_pos e]; unfold ad; rw [vne (by omega)]
      · rw [if_neg (by omega), if_neg e]; unfold ad; rw [va_e]
        split
        · omega
        · rfl
  have eo : ∀ j, j ≠ 61 + k → j ≠ 121 + t → ¬ (129 ≤ j ∧ j < 149) → sOut c k t p q j = c j := fun j a1 a2 a3 => by rw [er, if_neg a1, if_neg (by omega), if_neg a2]
  have e8 : sOut c k t p q 8 = c 8 := eo _ (by omega) (by omega) (by omega)
  have e11 : sOut c k t p q 11 = c 11 := eo _ (by omega) (by omega) (by omega)
  have e61 : ∀ j, j < 12 → sOut c k t p q (61 + j) = if j = k then -1 else c (61 + j) := fun j hj => by
    by_cases e : j = k
    · subst e; rw [if_pos rfl, er, if_pos rfl]
    · rw [if_neg e]; exact eo _ (by omega) (by omega) (by omega)
  have et : sOut c k t p q (121 + t) = (q : Int) := by rw [er, if_neg (by omega), if_neg (by omega), if_pos rfl]
  have e121 : ∀ s, s < 4 → s ≠ t → sOut c k t p q (121 + s) = c (121 + s) := fun s hs e => eo _ (by omega) (by omega) (by omega)
  have e5 : ∀ s r, s < 4 → r < 5 → s ≠ t → sOut c k t p q (129 + s * 5 + r) = c (129 + s * 5 + r) := fun s r hs hr e => by
    rw [er, if_neg (by omega), if_neg (by omega), if_neg (by omega)]
  have e5a : ∀ r, r < p → sOut c k t p q (129 + t * 5 + r) = c (129 + t * 5 + r) := fun r hr => by
    rw [er, if_neg (by omega), if_neg (by omega), if_neg (by omega)]
  have e5b : ∀ r, p ≤ r → r < q → sOut c k t p q (129 + t * 5 + r) = c (129 + t * 5 + (r + 1)) := fun r hr hr2 => by
    rw [er, if_neg (by omega), if_pos (by omega)]; rfl
  refine ⟨?_, h.2.1.cg (fun j hj => eo _ (by omega) (by omega) (by omega)), ⟨fun j hj q1 q2 => ?_, fun s r hs hr q1 q2 => ?_, fun s r r2 hs hr2 q1 q2 q3 => ?_, ?_⟩, h.2.2.2.1.cg (fun j hj => eo _ (by omega) (by omega) (by omega)), h.2.2.2.2.1.cg h.1 (fun j hj => eo _ (by omega) (by omega) (by omega)), fun j hj => (eo _ (by omega) (by omega) (by omega)).trans (h.2.2.2.2.2 j hj)⟩
  · intro j lo hi hb
    rw [er]
    split
    · rename_i e; subst e; rw [zbd_tr hk2] at hb; cases hb; exact ⟨by omega, by omega⟩
    · split
      · rename_i e
        have gj := zbd_place (B := D) (k := j - 129) (by omega)
        have gj2 := h.1.place (k := j + 1 - 129) (by omega)
        rw [show 129 + (j - 129) = j by omega] at gj
        rw [show 129 + (j + 1 - 129) = j + 1 by omega] at gj2
        rw [gj] at hb; cases hb; exact gj2
      · split
        · rename_i e; subst e; rw [zbd_intr ht2] at hb; cases hb; exact ⟨by omega, by omega⟩
        · exact h.1 j lo hi hb
  · rw [e8] at q1; rw [e61 j hj] at q2
    by_cases e : j = k
    · rw [if_pos e] at q2; exact absurd rfl q2
    · rw [if_neg e] at q2
      obtain ⟨s, r, hs, hr, q3, q4, q5, q6⟩ := h1 j hj q1 q2
      by_cases z : s = t
      · subst z
        have hrp : r ≠ p := fun y => by subst y; omega
        by_cases z2 : r < p
        · exact ⟨s, r, hs, hr, by rw [e61 j hj, if_neg e]; exact q3, by rw [e11]; exact q4, by rw [et]; omega, by rw [e5a r z2]; exact q6⟩
        · exact ⟨s, r - 1, hs, by omega, by rw [e61 j hj, if_neg e]; exact q3, by rw [e11]; exact q4, by rw [et]; omega, by rw [e5b (r - 1) (by omega) (by omega), show r - 1 + 1 = r by omega]; exact q6⟩
      · exact ⟨s, r, hs, hr, by rw [e61 j hj, if_neg e]; exact q3, by rw [e11]; exact q4, by rw [e121 s hs z]; exact q5, by rw [e5 s r hs hr z]; exact q6⟩
  · rw [e11] at q1
    by_cases z : s = t
    · subst z
      rw [et] at q2
      by_cases z2 : r < p
      · obtain ⟨j, hj, q3, q4, q5⟩ := h2 s r hs hr q1 (by omega)
        have hjk : j ≠ k := fun y => by
          subst y
          exact h3 s r p hs (by omega) q1 z2 (by omega) (by rw [q3, hp])
        exact ⟨j, hj, by rw [e5a r z2]; exact q3, by rw [e8]; exact q4, by rw [e61 j hj, if_neg hjk]; exact q5⟩
      · obtain ⟨j, hj, q3, q4, q5⟩ := h2 s (r + 1) hs (by omega) q1 (by omega)
        have hjk : j ≠ k := fun y => by
          subst y
          exact h3 s p (r + 1) hs (by omega) q1 (by omega) (by omega) (by rw [q3, hp])
        exact ⟨j, hj, by rw [e5b r (by omega) (by omega)]; exact q3, by rw [e8]; exact q4, by rw [e61 j hj, if_neg hjk]; exact q5⟩
    · rw [e121 s hs z] at q2
      obtain ⟨j, hj, q3, q4, q5⟩ := h2 s r hs hr q1 q2
      have hjk : j ≠ k := fun y => by subst y; omega
      exact ⟨j, hj, by rw [e5 s r hs hr z]; exact q3, by rw [e8]; exact q4, by rw [e61 j hj, if_neg hjk]; exact q5⟩
  · rw [e11] at q1
    by_cases z : s = t
    · subst z
      rw [et] at q3
      by_cases z2 : r2 < p
      · rw [e5a r2 z2, e5a r (by omega)]; exact h3 s r r2 hs hr2 q1 q2 (by omega)
      · rw [e5b r2 (by omega) (by omega)]
        by_cases z1 : r < p
        · rw [e5a r z1]; exact h3 s r (r2 + 1) hs (by omega) q1 (by omega) (by omega)
        · rw [e5b r (by omega) (by omega)]; exact h3 s (r + 1) (r2 + 1) hs (by omega) q1 (by omega) (by omega)
    · rw [e121 s hs z] at q3
      rw [e5 s r hs (by omega) z, e5 s r2 hs hr2 z]
      exact h3 s r r2 hs hr2 q1 q2 q3
  · rw [e11, e8]
    have a1 : zsum (sOut c k t p q) 121 (c 11).toNat = zsum c 121 (c 11).toNat - 1 := by
      rw [zsum_cg (c := va_up c (121 + t) (q : Int)) _ (fun i hi => by
        rw [va_e]
        split
        · rename_i e; have : i = t := by omega
          subst this; exact et
        · exact e121 i (by omega) (by omega)), zsum_up _ (by omega)]
      omega
    have a2 : zcnt (sOut c k t p q) (c 8).toNat = zcnt c (c 8).toNat - 1 := by
      rw [zcnt_cg (c := va_up c (61 + k) (-1)) _ (fun i hi => by
        rw [va_e, e61 i (by omega)]
        by_cases e : i = k
        · rw [if_pos e, if_pos (by omega)]
        · rw [if_neg e, if_neg (by omega)]), zcnt_up _ (by omega), if_pos (by omega), if_neg (by simp)]
      omega
    rw [a1, a2, h4]
theorem Sn.full {D : Int} {c : Nat → Int} (h : Sn c) (hg : Rg D c) (h4 : c 12 = 4) {t : Nat} (ht : t < 4) : ∃ p, p < 4 ∧ c (125 + p) = (t : Int) := by
  obtain ⟨h1, h2⟩ := h
  obtain ⟨t0, a0, b0, d0⟩ := h1 0 (by omega) (by omega)
  obtain ⟨t1, a1, b1, d1⟩ := h1 1 (by omega) (by omega)
  obtain ⟨t2, a2, b2, d2⟩ := h1 2 (by omega) (by omega)
  obtain ⟨t3, a3, b3, d3⟩ := h1 3 (by omega) (by omega)
  have e01 := h2 0 1 (by omega) (by omega) (by omega)
  have e02 := h2 0 2 (by omega) (by omega) (by omega)
  have e03 := h2 0 3 (by omega) (by omega) (by omega)
  have e12 := h2 1 2 (by omega) (by omega) (by omega)
  have e13 := h2 1 3 (by omega) (by omega) (by omega)
  have e23 := h2 2 3 (by omega) (by omega) (by omega)
  rcases (show t = t0 ∨ t = t1 ∨ t = t2 ∨ t = t3 by omega) with rfl | rfl | rfl | rfl
  · exact ⟨0, by omega, b0⟩
  · exact ⟨1, by omega, b1⟩
  · exact ⟨2, by omega, b2⟩
  · exact ⟨3, by omega, b3⟩
theorem Inv.load {D : Int} {c : Nat → Int} {t n : Nat} (h : Inv D c) (ht : (t : Int) < c 11) (hn : c 12 = (n : Int)) (hn4 : n < 4) (hx : ∀ p, p < n → c (125 + p) ≠ (t : Int)) : Inv D (sLoad c t n) := by
  have g11 := h.1.trunks
  have eo : ∀ j, j ≠ 12 → j ≠ 125 + n → sLoad c t n j = c j := fun j a1 a2 => by unfold sLoad ad; rw [vne a1, vne a2]
  have e12 : sLoad c t n 12 = (n : Int) + 1 := by unfold sLoad ad; rw [va_e, if_pos rfl, vne (by omega), hn]
  have en : sLoad c t n (125 + n) = (t : Int) := by unfold sLoad ad; rw [vne (by omega), va_e, if_pos rfl]
  obtain ⟨h1, h2⟩ := h.2.2.2.1
  refine ⟨?_, h.2.1.cg (fun j hj => eo _ (by omega) (by omega)), h.2.2.1.cg h.1 (fun j hj => eo _ (by omega) (by omega)), ⟨fun p hp q1 => ?_, fun p q hq q1 q2 => ?_⟩, h.2.2.2.2.1.cg h.1 (fun j hj => eo _ (by omega) (by omega)), fun j hj => (eo _ (by omega) (by omega)).trans (h.2.2.2.2.2 j hj)⟩
  · unfold sLoad
    refine Rg.upa (h.1.upb (zbd_train hn4) ⟨by omega, by omega⟩) zbd_loaded ?_
    rw [vne (by omega)]
    omega
  · rw [e12] at q1
    by_cases e : p = n
    · subst e; exact ⟨t, by omega, en, by rw [eo 11 (by omega) (by omega)]; exact ht⟩
    · obtain ⟨s, hs, q3, q4⟩ := h1 p hp (by omega)
      exact ⟨s, hs, by rw [eo _ (by omega) (by omega)]; exact q3, by rw [eo 11 (by omega) (by omega)]; exact q4⟩
  · rw [e12] at q2
    by_cases e : q = n
    · subst e; rw [en, eo _ (by omega) (by omega)]; exact hx p q1
    · rw [eo (125 + p) (by omega) (by omega), eo (125 + q) (by omega) (by omega)]; exact h2 p q hq q1 (by omega)
theorem Inv.unload {D : Int} {c : Nat → Int} {q : Nat} (h : Inv D c) (hq : c 12 = (q : Int) + 1) : Inv D (sUnload c q) := by
  have g12 := h.1.loaded
  have er : ∀ j, sUnload c q j = if 125 ≤ j ∧ j < 125 + q then c (j + 1) else if j = 12 then (q : Int) else c j := fun j => by
    unfold sUnload
    rw [zshf_e]
    by_cases e : 125 ≤ j ∧ j < 125 + q
    · rw [if_pos (by omega), if_pos e]; unfold ad; rw [vne (by omega)]
    · rw [if_neg (by omega), if_neg e]; unfold ad; rw [va_e]
      split
      · omega
      · rfl
  have eo : ∀ j, j ≠ 12 → ¬ (125 ≤ j ∧ j < 129) → sUnload c q j = c j := fun j a1 a2 => by rw [er, if_neg (by omega), if_neg a1]
  have e12 : sUnload c q 12 = (q : Int) := by rw [er, if_neg (by omega), if_pos rfl]
  have ep : ∀ p, p < q → sUnload c q (125 + p) = c (125 + (p + 1)) := fun p hp => by rw [er, if_pos (by omega)]; rfl
  obtain ⟨h1, h2⟩ := h.2.2.2.1
  refine ⟨?_, h.2.1.cg (fun j hj => eo _ (by omega) (by omega)), h.2.2.1.cg h.1 (fun j hj => eo _ (by omega) (by omega)), ⟨fun p hp q1 => ?_, fun p r hr q1 q2 => ?_⟩, h.2.2.2.2.1.cg h.1 (fun j hj => eo _ (by omega) (by omega)), fun j hj => (eo _ (by omega) (by omega)).trans (h.2.2.2.2.2 j hj)⟩
  · intro j lo hi hb
    rw [er]
    split
    · rename_i e
      have gj := zbd_train (B := D) (k := j - 125) (by omega)
      have gj2 := h.1.train (k := j + 1 - 125) (by omega)
      rw [show 125 + (j - 125) = j by omega] at gj
      rw [show 125 + (j + 1 - 125) = j + 1 by omega] at gj2
      rw [gj] at hb; cases hb; exact gj2
    · split
      · rename_i e; subst e; rw [zbd_loaded] at hb; cases hb; exact ⟨by omega, by omega⟩
      · exact h.1 j lo hi hb
  · rw [e12] at q1
    obtain ⟨s, hs, q3, q4⟩ := h1 (p + 1) (by omega) (by omega)
    exact ⟨s, hs, by rw [ep p (by omega)]; exact q3, by rw [eo 11 (by omega) (by omega)]; exact q4⟩
  · rw [e12] at q2
    rw [ep p (by omega), ep r (by omega)]
    exact h2 (p + 1) (r + 1) (by omega) (by omega) (by omega)
