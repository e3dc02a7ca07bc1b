/-! ===== the changes keep it: those that move coats, acts, trunks ===== -/
theorem Sa.coat {D : Int} {c d : Nat → Int} {k : Nat} (h : Sa c) (hg : Rg D c) (hk : c 8 = (k : Int)) (e8 : d 8 = c 8 + 1) (e9 : d 9 = c 9) (e49 : ∀ i, i < 12 → d (49 + i) = if i = k then -1 else c (49 + i)) (e97 : ∀ i, i < 6 → d (97 + i) = c (97 + i)) : Sa d := by
  obtain ⟨h1, h2⟩ := h
  refine ⟨fun j hj q1 q2 => ?_, fun a ha q1 q2 => ?_⟩
  · rw [e8] at q1; rw [e49 j hj] at q2
    by_cases hjk : j = k
    · rw [if_pos hjk] at q2; exact absurd rfl q2
    · rw [if_neg hjk] at q2
      obtain ⟨a, ha, q3, q4, q5⟩ := h1 j hj (by omega) q2
      exact ⟨a, ha, by rw [e49 j hj, if_neg hjk]; exact q3, by rw [e9]; exact q4, by rw [e97 a ha]; exact q5⟩
  · rw [e9] at q1; rw [e97 a ha] at q2
    obtain ⟨j, hj, q3, q4, q5⟩ := h2 a ha q1 q2
    exact ⟨j, hj, by rw [e97 a ha]; exact q3, by rw [e8]; omega, by rw [e49 j hj, if_neg (by omega)]; exact q5⟩
theorem Sp.coat {D : Int} {c d : Nat → Int} {k : Nat} (h : Sp c) (hg : Rg D c) (hk : c 8 = (k : Int)) (hk2 : k < 12) (e8 : d 8 = c 8 + 1) (e11 : d 11 = c 11) (e61 : ∀ i, i < 12 → d (61 + i) = if i = k then -1 else c (61 + i)) (e121 : ∀ i, i < 4 → d (121 + i) = c (121 + i)) (e129 : ∀ i, i < 20 → d (129 + i) = c (129 + i)) : Sp d := by
  obtain ⟨h1, h2, h3, h4⟩ := h
  have g2 := hg.trunks
  have e5 : ∀ t p, t < 4 → p < 5 → d (129 + t * 5 + p) = c (129 + t * 5 + p) := fun t p ht hp => by
    have := e129 (t * 5 + p) (by omega)
    rw [show 129 + t * 5 + p = 129 + (t * 5 + p) by omega]; exact this
  refine ⟨fun j hj q1 q2 => ?_, fun t p ht hp q1 q2 => ?_, fun t p q ht hq q1 q2 q3 => ?_, ?_⟩
  · rw [e8] at q1; rw [e61 j hj] at q2
    by_cases hjk : j = k
    · rw [if_pos hjk] at q2; exact absurd rfl q2
    · rw [if_neg hjk] at q2
      obtain ⟨t, p, ht, hp, q3, q4, q5, q6⟩ := h1 j hj (by omega) q2
      exact ⟨t, p, ht, hp, by rw [e61 j hj, if_neg hjk]; exact q3, by rw [e11]; exact q4, by rw [e121 t ht]; exact q5, by rw [e5 t p ht hp]; exact q6⟩
  · rw [e11] at q1; rw [e121 t ht] at q2
    obtain ⟨j, hj, q3, q4, q5⟩ := h2 t p ht hp q1 q2
    exact ⟨j, hj, by rw [e5 t p ht hp]; exact q3, by rw [e8]; omega, by rw [e61 j hj, if_neg (by omega)]; exact q5⟩
  · rw [e11] at q1; rw [e121 t ht] at q3
    rw [e5 t p ht (by omega), e5 t q ht hq]
    exact h3 t p q ht hq q1 q2 q3
  · rw [e11, e8, zsum_cg (c := c) _ (fun i hi => e121 i (by omega)), h4]
    have e : (c 8 + 1).toNat = k + 1 := by omega
    have e2 : (c 8).toNat = k := by omega
    rw [e, e2]
    show zcnt c k = zcnt d k + (if d (61 + k) ≠ -1 then 1 else 0)
    rw [e61 k hk2, if_pos rfl, if_neg (by simp), zcnt_cg (c := c) (d := d) k (fun i hi => by rw [e61 i (by omega), if_neg (by omega)])]
    omega
theorem Inv.coat {D x : Int} {c : Nat → Int} {k : Nat} (h : Inv D c) (hk : c 8 = (k : Int)) (hk2 : k < 12) (hx : 0 ≤ x ∧ x ≤ 70) : Inv D (sCoat c x k) := by
  have e8 : sCoat c x k 8 = c 8 + 1 := by unfold sCoat ad; rw [va_e, if_pos rfl, vne (by omega), vne (by omega), vne (by omega), vne (by omega), vne (by omega), vne (by omega)]
  have eo : ∀ j, j ≠ 8 → j ≠ 13 + k → j ≠ 25 + k → j ≠ 37 + k → j ≠ 49 + k → j ≠ 61 + k → j ≠ 73 + k → sCoat c x k j = c j := fun j a1 a2 a3 a4 a5 a6 a7 => by unfold sCoat ad; rw [vne a1, vne a7, vne a6, vne a5, vne a4, vne a3, vne a2]
  have e49 : ∀ i, i < 12 → sCoat c x k (49 + i) = if i = k then -1 else c (49 + i) := fun i hi => by
    by_cases e : i = k
    · subst e; rw [if_pos rfl]; unfold sCoat ad; rw [vne (by omega), vne (by omega), vne (by omega), va_e, if_pos rfl]
    · rw [if_neg e, eo _ (by omega) (by omega) (by omega) (by omega) (by omega) (by omega) (by omega)]
  have e61 : ∀ i, i < 12 → sCoat c x k (61 + i) = if i = k then -1 else c (61 + i) := fun i hi => by
    by_cases e : i = k
    · subst e; rw [if_pos rfl]; unfold sCoat ad; rw [vne (by omega), vne (by omega), va_e, if_pos rfl]
    · rw [if_neg e, eo _ (by omega) (by omega) (by omega) (by omega) (by omega) (by omega) (by omega)]
  have g8 := h.1.coats
  refine ⟨?_, h.2.1.coat h.1 hk e8 (eo _ (by omega) (by omega) (by omega) (by omega) (by omega) (by omega) (by omega)) e49 (fun i hi => eo _ (by omega) (by omega) (by omega) (by omega) (by omega) (by omega) (by omega)), h.2.2.1.coat h.1 hk hk2 e8 (eo _ (by omega) (by omega) (by omega) (by omega) (by omega) (by omega) (by omega)) e61 (fun i hi => eo _ (by omega) (by omega) (by omega) (by omega) (by omega) (by omega) (by omega)) (fun i hi => eo _ (by omega) (by omega) (by omega) (by omega) (by omega) (by omega) (by omega)), h.2.2.2.1.cg (fun j hj => eo _ (by omega) (by omega) (by omega) (by omega) (by omega) (by omega) (by omega)), ?_, fun j hj => (eo _ (by omega) (by omega) (by omega) (by omega) (by omega) (by omega) (by omega)).trans (h.2.2.2.2.2 j hj)⟩
  · unfold sCoat
    refine Rg.upa (((((((h.1.upb (zbd_size hk2) hx).upb (zbd_rips hk2) ⟨by omega, by omega⟩).upb (zbd_miss hk2) ⟨by omega, by omega⟩).upb (zbd_own hk2) ⟨by omega, by omega⟩).upb (zbd_tr hk2) ⟨by omega, by omega⟩).upn (zbd_n73 hk2)) ) zbd_coats ?_
    rw [vne (by omega), vne (by omega), vne (by omega), vne (by omega), vne (by omega), vne (by omega)]
    omega
  · obtain ⟨s1, s2⟩ := h.2.2.2.2.1
    have em : sCoat c x k (37 + k) = 0 := by unfold sCoat ad; rw [vne (by omega), vne (by omega), vne (by omega), vne (by omega), va_e, if_pos rfl]
    unfold Sc
    rw [e8, eo 6 (by omega) (by omega) (by omega) (by omega) (by omega) (by omega) (by omega), eo 1 (by omega) (by omega) (by omega) (by omega) (by omega) (by omega) (by omega), eo 4 (by omega) (by omega) (by omega) (by omega) (by omega) (by omega) (by omega), eo 5 (by omega) (by omega) (by omega) (by omega) (by omega) (by omega) (by omega)]
    have e : (c 8 + 1).toNat = k + 1 := by omega
    have e2 : (c 8).toNat = k := by omega
    rw [e2] at s2
    refine ⟨s1, ?_⟩
    rw [e, s2]
    show _ = zsum (sCoat c x k) 37 k + sCoat c x k (37 + k) + c 4
    rw [em, zsum_cg (c := c) k (fun i hi => eo _ (by omega) (by omega) (by omega) (by omega) (by omega) (by omega) (by omega))]
    omega
theorem Inv.act {D x y : Int} {c : Nat → Int} {a : Nat} (h : Inv D c) (hk : c 9 = (a : Int)) (hk2 : a < 6) (hx : 0 ≤ x ∧ x ≤ 99) (hy : 0 ≤ y ∧ y ≤ 3) : Inv D (sAct c x y a) := by
  have e9 : sAct c x y a 9 = c 9 + 1 := by unfold sAct ad; rw [va_e, if_pos rfl, vne (by omega), vne (by omega), vne (by omega), vne (by omega)]
  have eo : ∀ j, j ≠ 9 → j ≠ 85 + a → j ≠ 91 + a → j ≠ 97 + a → j ≠ 103 + a → sAct c x y a j = c j := fun j a1 a2 a3 a4 a5 => by unfold sAct ad; rw [vne a1, vne a5, vne a4, vne a3, vne a2]
  have e97 : ∀ i, i < 6 → sAct c x y a (97 + i) = if i = a then -1 else c (97 + i) := fun i hi => by
    by_cases e : i = a
    · subst e; rw [if_pos rfl]; unfold sAct ad; rw [vne (by omega), vne (by omega), va_e, if_pos rfl]
    · rw [if_neg e, eo _ (by omega) (by omega) (by omega) (by omega) (by omega)]
  refine ⟨?_, ?_, h.2.2.1.cg h.1 (fun j hj => eo _ (by omega) (by omega) (by omega) (by omega) (by omega)), h.2.2.2.1.cg (fun j hj => eo _ (by omega) (by omega) (by omega) (by omega) (by omega)), h.2.2.2.2.1.cg h.1 (fun j hj => eo _ (by omega) (by omega) (by omega) (by omega) (by omega)), fun j hj => (eo _ (by omega) (by omega) (by omega) (by omega) (by omega)).trans (h.2.2.2.2.2 j hj)⟩
  · unfold sAct
    refine Rg.upa ((((h.1.upb (zbd_asize hk2) hx).upb (zbd_grow hk2) hy).upb (zbd_acoat hk2) ⟨by omega, by omega⟩).upn (zbd_n103 hk2)) zbd_acts ?_
    rw [vne (by omega), vne (by omega), vne (by omega), vne (by omega)]
    omega
  · obtain ⟨h1, h2⟩ := h.2.1
    have e8 : sAct c x y a 8 = c 8 := eo _ (by omega) (by omega) (by omega) (by omega) (by omega)
    have e49 : ∀ i, i < 12 → sAct c x y a (49 + i) = c (49 + i) := fun i hi => eo _ (by omega) (by omega) (by omega) (by omega) (by omega)
    refine ⟨fun j hj q1 q2 => ?_, fun b hb q1 q2 => ?_⟩
    · rw [e8] at q1; rw [e49 j hj] at q2
      obtain ⟨b, hb, q3, q4, q5⟩ := h1 j hj q1 q2
      exact ⟨b, hb, by rw [e49 j hj]; exact q3, by rw [e9]; omega, by rw [e97 b hb, if_neg (by omega)]; exact q5⟩
    · rw [e9] at q1; rw [e97 b hb] at q2
      by_cases e : b = a
      · rw [if_pos e] at q2; exact absurd rfl q2
      · rw [if_neg e] at q2
        obtain ⟨j, hj, q3, q4, q5⟩ := h2 b hb (by omega) q2
        exact ⟨j, hj, by rw [e97 b hb, if_neg e]; exact q3, by rw [e8]; exact q4, by rw [e49 j hj]; exact q5⟩
theorem Inv.trunk {D : Int} {c : Nat → Int} {t : Nat} (h : Inv D c) (hk : c 11 = (t : Int)) (hk2 : t < 4) : Inv D (sTrunk c t) := by
  have e11 : sTrunk c t 11 = c 11 + 1 := by unfold sTrunk ad; rw [va_e, if_pos rfl, vne (by omega)]
  have eo : ∀ j, j ≠ 11 → j ≠ 121 + t → sTrunk c t j = c j := fun j a1 a2 => by unfold sTrunk ad; rw [vne a1, vne a2]
  have et : sTrunk c t (121 + t) = 0 := by unfold sTrunk ad; rw [vne (by omega), va_e, if_pos rfl]
  refine ⟨?_, h.2.1.cg (fun j hj => eo _ (by omega) (by omega)), ?_, ?_, h.2.2.2.2.1.cg h.1 (fun j hj => eo _ (by omega) (by omega)), fun j hj => (eo _ (by omega) (by omega)).trans (h.2.2.2.2.2 j hj)⟩
  · unfold sTrunk
    refine Rg.upa (h.1.upb (zbd_intr hk2) ⟨by omega, by omega⟩) zbd_trunks ?_
    rw [vne (by omega)]
    omega
  · obtain ⟨h1, h2, h3, h4⟩ := h.2.2.1
    have e8 : sTrunk c t 8 = c 8 := eo _ (by omega) (by omega)
    have e61 : ∀ i, i < 12 → sTrunk c t (61 + i) = c (61 + i) := fun i hi => eo _ (by omega) (by omega)
    have e5 : ∀ s p, s < 4 → p < 5 → sTrunk c t (129 + s * 5 + p) = c (129 + s * 5 + p) := fun s p hs hp => eo _ (by omega) (by omega)
    have e121 : ∀ i, i < 4 → i ≠ t → sTrunk c t (121 + i) = c (121 + i) := fun i hi hn => eo _ (by omega) (by omega)
    refine ⟨fun j hj q1 q2 => ?_, fun s p hs hp q1 q2 => ?_, fun s p q hs hq q1 q2 q3 => ?_, ?_⟩
    · rw [e8] at q1; rw [e61 j hj] at q2
      obtain ⟨s, p, hs, hp, q3, q4, q5, q6⟩ := h1 j hj q1 q2
      exact ⟨s, p, hs, hp, by rw [e61 j hj]; exact q3, by rw [e11]; omega, by rw [e121 s hs (by omega)]; exact q5, by rw [e5 s p hs hp]; exact q6⟩
    · rw [e11] at q1
      by_cases e : s = t
      · subst e; rw [et] at q2; omega
      · rw [e121 s hs e] at q2
        obtain ⟨j, hj, q3, q4, q5⟩ := h2 s p hs hp (by omega) q2
        exact ⟨j, hj, by rw [e5 s p hs hp]; exact q3, by rw [e8]; exact q4, by rw [e61 j hj]; exact q5⟩
    · rw [e11] at q1
      by_cases e : s = t
      · subst e; rw [et] at q3; omega
      · rw [e121 s hs e] at q3
        rw [e5 s p hs (by omega), e5 s q hs hq]
        exact h3 s p q hs hq (by omega) q2 q3
    · have g8 := h.1.coats
      have e : (c 11 + 1).toNat = t + 1 := by omega
      have e2 : (c 11).toNat = t := by omega
      rw [e2] at h4
      rw [e11, e8, e, zcnt_cg (c := c) _ (fun i hi => e61 i (by omega)), ← h4]
      show zsum (sTrunk c t) 121 t + sTrunk c t (121 + t) = _
      rw [et, zsum_cg (c := c) t (fun i hi => e121 i (by omega) (by omega))]
      omega
  · obtain ⟨h1, h2⟩ := h.2.2.2.1
    have e12 : sTrunk c t 12 = c 12 := eo _ (by omega) (by omega)
    have e125 : ∀ i, i < 4 → sTrunk c t (125 + i) = c (125 + i) := fun i hi => eo _ (by omega) (by omega)
    refine ⟨fun p hp q1 => ?_, fun p q hq q1 q2 => ?_⟩
    · rw [e12] at q1
      obtain ⟨s, hs, q3, q4⟩ := h1 p hp q1
      exact ⟨s, hs, by rw [e125 p hp]; exact q3, by rw [e11]; omega⟩
    · rw [e12] at q2
      rw [e125 p (by omega), e125 q hq]
      exact h2 p q hq q1 q2
