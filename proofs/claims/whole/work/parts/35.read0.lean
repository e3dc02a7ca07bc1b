/-! ===== read: bounds, and what orders keep ===== -/
theorem iord_p {t : Nat → Int} {n p : Nat} : p ≤ (iord t n p).2 ∧ (iord t n p).2 ≤ p + 6 := by
  unfold iord
  split
  · exact ⟨Nat.le_refl _, by dsimp only; omega⟩
  · split
    · exact ⟨by dsimp only; omega, by dsimp only; omega⟩
    · have h1 := inum_q (t := t) (n := n) (ifd (inx t n p)) (p + 1) (-1)
      have h2 := ifd_2 (inx t n p)
      unfold ior1
      split
      · exact ⟨by dsimp only; omega, by dsimp only; omega⟩
      · split
        · exact ⟨by dsimp only; omega, by dsimp only; omega⟩
        · split
          · have h3 := inum_q (t := t) (n := n) (isd (inx t n p)) ((inum t n (ifd (inx t n p)) (p + 1) (-1)).2 + 1) (-1)
            have h4 := isd_2 (inx t n p)
            unfold ior2
            split
            · exact ⟨by dsimp only; omega, by dsimp only; omega⟩
            · exact ⟨by dsimp only; omega, by dsimp only; omega⟩
          · exact ⟨by dsimp only; omega, by dsimp only; omega⟩
theorem ipr_p {t : Nat → Int} {n : Nat} : ∀ (m p : Nat), (ipr t n m p).2.1 ≤ p + 7 * m
  | 0, p => Nat.le_refl _
  | m + 1, p => by
    have hq := iord_p (t := t) (n := n) (p := p)
    cases ho : iord t n p with
    | mk oo p2 =>
      rw [ho] at hq
      have hq2 : p2 ≤ p + 6 := hq.2
      cases oo with
      | none => rw [ipr_none ho]; dsimp only; omega
      | some o =>
        by_cases h2 : n ≤ p2
        · rw [ipr_end ho h2]; dsimp only; omega
        · by_cases h3 : inx t n p2 = 59
          · rw [ipr_go ho h2 h3]
            have := ipr_p (t := t) (n := n) m (p2 + 1)
            dsimp only; omega
          · rw [ipr_stop ho h2 h3]; dsimp only; omega
theorem crO_I {K F S : Nat → Int} : ∀ (m i : Nat) (D : Int) (c : Nat → Int), Inv D c → (∀ j, i ≤ j → j < i + m → okind (K j)) → Inv (D + 60 * m) (crO K F S m i c).2.2
  | 0, _, D, c, h, _ => h.mono (by omega)
  | m + 1, i, D, c, h, hk => by
    by_cases h1 : oNm c (K i) (F i) (S i) = true
    · cases h2 : oRf c (K i) (F i) (S i) with
      | some x => rw [crO_r h1 h2]; exact h.mono (by omega)
      | none =>
        rw [crO_g h1 h2]
        exact (crO_I m (i + 1) (D + 60) _ (h.order (hk i (Nat.le_refl _) (by omega)) h1 h2) (fun j q1 q2 => hk j (by omega) (by omega))).mono (by omega)
    · rw [crO_w h1]; exact h.mono (by omega)
theorem rdL_v (R : aQ) : ∀ o ∈ rdL R, oOk o := (ipr_v 61 0).1
theorem rdL_n {R : aQ} (hn : R.2.2.2.1.2 ≤ 60) : (rdL R).length ≤ 30 := by
  by_cases h : rdL R = []
  · rw [h]; exact Nat.zero_le _
  · have := (ipr_v (t := R.2.2.2.1.1) (n := R.2.2.2.1.2) 61 0).2.1 h
    show (ipr R.2.2.2.1.1 R.2.2.2.1.2 61 0).2.2.length ≤ 30
    omega
theorem rdO_I {D : Int} {c : Nat → Int} {R : aQ} (h : Inv D c) (hn : R.2.2.2.1.2 ≤ 60) : Inv (D + 1800) (rdO c R).2.2 := by
  have h1 := rdL_n hn
  exact (crO_I (rdL R).length 0 D c h (fun j _ q2 => (oAt (L := rdL R) (i := j) (by omega) (rdL_v R)).1)).mono (by omega)
theorem rdO_t (c : Nat → Int) (R : aQ) : (∃ q, (rdO c R).2.1 = some q ∧ (rdO c R).1 = 1) ∨ (rdO c R).2.1 = none ∧ ((rdO c R).1 = 2 ∨ (rdO c R).1 = 0) := crO_t _ _ _
theorem aRead_e {c : Nat → Int} {R : aQ} (h : ¬ (rdP R).1 = true) : aRead c R = thr eIA c (rdR R ((rdP R).2.1 : Int)) := if_neg h
theorem aRead_u {c : Nat → Int} {R : aQ} {q : Int × Int} (h : (rdP R).1 = true) (h2 : (rdO c R).2.1 = some q) : aRead c R = (.inr eUO, c, rfR q (rdR R (-1))) := by
  refine (if_pos h).trans ?_
  rw [h2]
theorem aRead_w {c : Nat → Int} {R : aQ} (h : (rdP R).1 = true) (h2 : (rdO c R).2.1 = none) (h3 : (rdO c R).1 = 2) : aRead c R = thr eIA c (rdR R (-1)) := by
  refine (if_pos h).trans ?_
  rw [h2]
  exact if_pos h3
theorem aRead_d {c : Nat → Int} {R : aQ} (h : (rdP R).1 = true) (h2 : (rdO c R).2.1 = none) (h3 : (rdO c R).1 = 0) : aRead c R = okk ((rdL R).length : Int) (rdO c R).2.2 (kpR c (rdR R (-1))) := by
  refine (if_pos h).trans ?_
  rw [h2]
  exact if_neg (by rw [h3]; decide)
