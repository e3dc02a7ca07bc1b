/-! ===== the changes keep it: those that move numbers only ===== -/
theorem zbd_1 {B : Int} : zbd B 1 = some (0, 999) := rfl
theorem zbd_2 {B : Int} : zbd B 2 = some (0, 999) := rfl
theorem zbd_3 {B : Int} : zbd B 3 = some (0, 999) := rfl
abbrev jSc (j : Nat) : Prop := j = 1 ∨ j = 4 ∨ j = 5 ∨ j = 6 ∨ j = 8 ∨ 37 ≤ j ∧ j < 49
theorem Sc.cg {D : Int} {c d : Nat → Int} (h : Sc c) (hg : Rg D c) (e : ∀ j, jSc j → d j = c j) : Sc d := by
  have g1 := hg.coats
  unfold Sc at h ⊢
  rw [e 6 (by omega), e 1 (by omega), e 4 (by omega), e 5 (by omega), e 8 (by omega), zsum_cg (c := c) _ (fun j hj => e (37 + j) (by omega))]
  exact h
theorem Inv.go {D D2 : Int} {c d : Nat → Int} (h : Inv D c) (hg : Rg D2 d) (e : ∀ j, (jSa j ∨ jSp j ∨ jSn j ∨ 181 ≤ j) → d j = c j) (hs : Sc d) : Inv D2 d :=
  ⟨hg, h.2.1.cg (fun j hj => e j (Or.inl hj)), h.2.2.1.cg h.1 (fun j hj => e j (Or.inr (Or.inl hj))), h.2.2.2.1.cg (fun j hj => e j (Or.inr (Or.inr (Or.inl hj)))), hs, fun j hj => (e j (Or.inr (Or.inr (Or.inr hj)))).trans (h.2.2.2.2.2 j hj)⟩
theorem Inv.go1 {D D2 : Int} {c d : Nat → Int} (h : Inv D c) (hg : Rg D2 d) (e : ∀ j, (jSa j ∨ jSp j ∨ jSn j ∨ 181 ≤ j ∨ jSc j) → d j = c j) : Inv D2 d :=
  h.go hg (fun j hj => e j (by rcases hj with q | q | q | q; exact Or.inl q; exact Or.inr (Or.inl q); exact Or.inr (Or.inr (Or.inl q)); exact Or.inr (Or.inr (Or.inr (Or.inl q))))) (h.2.2.2.2.1.cg h.1 (fun j hj => e j (Or.inr (Or.inr (Or.inr (Or.inr hj))))))
theorem sSpend_o {c : Nat → Int} {w : Nat} {x : Int} {j : Nat} (h1 : j ≠ 109 + w) (h2 : j ≠ 113 + w) (h3 : j ≠ 117 + w) : sSpend c w x j = c j := by
  unfold sSpend
  rw [vne h2]; unfold ad; rw [vne h3, vne h1]
theorem Rg.spend {D x : Int} {c : Nat → Int} {w : Nat} (h : Rg D c) (hw : w < 4) (hx : 0 ≤ x ∧ x ≤ c (109 + w)) : Rg D (sSpend c w x) := by
  have g1 := h.hours hw
  have g2 := h.sore hw
  unfold sSpend
  refine ((h.upa (zbd_hours hw) ⟨by omega, by omega⟩).upan (zbd_n117 hw)).upb (zbd_sore hw) ?_
  rw [zsnd c hw]
  split <;> omega
theorem Rg.mend {D : Int} {c : Nat → Int} {w k : Nat} (h : Rg D c) (hw : w < 4) (hk : k < 12) (h1 : 1 ≤ c (109 + w)) (h2 : 1 ≤ c 2) (h3 : 1 ≤ c (25 + k)) : Rg D (sMend c w k) := by
  have g2 := h.g2
  have g3 := h.rips hk
  have e2 : sSpend c w 1 2 = c 2 := sSpend_o (by omega) (by omega) (by omega)
  have e3 : sMend0 c w (25 + k) = c (25 + k) := by unfold sMend0 ad; rw [vne (by omega), sSpend_o (by omega) (by omega) (by omega)]
  unfold sMend
  refine Rg.upa (?_ : Rg D (sMend0 c w)) (zbd_rips hk) ⟨by omega, by omega⟩
  unfold sMend0
  exact (h.spend hw ⟨by omega, by omega⟩).upa zbd_2 ⟨by omega, by omega⟩
theorem Inv.mend {D : Int} {c : Nat → Int} {w k : Nat} (h : Inv D c) (hw : w < 4) (hk : k < 12) (h1 : 1 ≤ c (109 + w)) (h2 : 1 ≤ c 2) (h3 : 1 ≤ c (25 + k)) : Inv D (sMend c w k) := by
  refine h.go1 (h.1.mend hw hk h1 h2 h3) (fun j hj => ?_)
  unfold sMend sMend0 ad
  rw [vne (by omega), vne (by omega), sSpend_o (by omega) (by omega) (by omega)]
theorem Inv.widen {D : Int} {c : Nat → Int} {w k : Nat} (h : Inv D c) (hw : w < 4) (hk : k < 12) (h1 : 2 ≤ c (109 + w)) (h2 : 3 ≤ c 2) (h3 : c (13 + k) < 70) : Inv D (sWiden c w k) := by
  have g2 := h.1.g2
  have g3 := h.1.size hk
  have e2 : sSpend c w 2 2 = c 2 := sSpend_o (by omega) (by omega) (by omega)
  have e3 : sWiden0 c w (13 + k) = c (13 + k) := by unfold sWiden0 ad; rw [vne (by omega), sSpend_o (by omega) (by omega) (by omega)]
  refine h.go1 ?_ (fun j hj => ?_)
  · unfold sWiden
    refine Rg.upa (?_ : Rg D (sWiden0 c w)) (zbd_size hk) ⟨by omega, by omega⟩
    unfold sWiden0
    exact (h.1.spend hw ⟨by omega, by omega⟩).upa zbd_2 ⟨by omega, by omega⟩
  · unfold sWiden sWiden0 ad
    rw [vne (by omega), vne (by omega), sSpend_o (by omega) (by omega) (by omega)]
theorem Inv.patch {D : Int} {c : Nat → Int} {w p : Nat} (h : Inv D c) (hw : w < 4) (hp : p < 32) (h1 : 1 ≤ c (109 + w)) (h2 : 1 ≤ c 3) : Inv D (sPatch c w p) := by
  have g2 := h.1.g3
  have e2 : sSpend c w 1 3 = c 3 := sSpend_o (by omega) (by omega) (by omega)
  refine h.go1 ?_ (fun j hj => ?_)
  · unfold sPatch
    exact ((h.1.spend hw ⟨by omega, by omega⟩).upa zbd_3 ⟨by omega, by omega⟩).upb (zbd_torn hp) ⟨by omega, by omega⟩
  · unfold sPatch ad
    rw [vne (by omega), vne (by omega), sSpend_o (by omega) (by omega) (by omega)]
theorem Inv.tear {D : Int} {c : Nat → Int} {p : Nat} (h : Inv D c) (hp : p < 32) : Inv D (va_up c (149 + p) 1) :=
  h.go1 (h.1.upb (zbd_torn hp) ⟨by omega, by omega⟩) (fun j hj => vne (by omega))
theorem Inv.woman {D : Int} {c : Nat → Int} {w : Nat} (h : Inv D c) (hw : w < 4) (hc : c 10 = (w : Int)) : Inv D (sWoman c w) := by
  refine h.go1 ?_ (fun j hj => ?_)
  · unfold sWoman
    refine (((h.1.upb (zbd_hours hw) ⟨by omega, by omega⟩).upb (zbd_sore hw) ⟨by omega, by omega⟩).upn (zbd_n117 hw)).upa zbd_women ?_
    rw [vne (by omega), vne (by omega), vne (by omega)]
    omega
  · unfold sWoman ad
    rw [vne (by omega), vne (by omega), vne (by omega), vne (by omega)]
theorem Inv.rip {D n : Int} {c : Nat → Int} {k : Nat} (h : Inv D c) (hk : k < 12) (hn : 0 ≤ n) : Inv D (sRip c k n) :=
  h.go1 (h.1.rip hk hn) (fun j hj => by unfold sRip ad; rw [vne (by omega)])
theorem sSew_s {c : Nat → Int} {w k : Nat} {n : Int} {m : Nat} (hw : w < 4) (hm : m ≤ 12) (hk : k < m) : zsum (sSew c w k n) 37 m = zsum c 37 m - n := by
  have e : ∀ i, i < m → (sSew0 c w n) (37 + i) = c (37 + i) := fun i hi => by
    unfold sSew0 ad
    rw [vne (by omega), vne (by omega), vne (by omega), sSpend_o (by omega) (by omega) (by omega)]
  unfold sSew ad
  rw [zsum_up m hk, zsum_cg (c := c) m e, e k hk]
  omega
theorem Inv.sew {D n : Int} {c : Nat → Int} {w k : Nat} (h : Inv D c) (hw : w < 4) (hk : (k : Int) < c 8) (hn : 1 ≤ n) (h1 : (n + 10 - 1) / 10 ≤ c (109 + w)) (h2 : (n + 5 - 1) / 5 ≤ c 2) (h3 : n ≤ c (37 + k)) (h4 : n ≤ c 1) : Inv D (sSew c w k n) := by
  have g0 := h.1.coats
  have hk2 : k < 12 := by omega
  have g1 := h.1.g1
  have g2 := h.1.g2
  have g3 := h.1.miss hk2
  have e0 : ∀ j, j ≠ 109 + w → j ≠ 113 + w → j ≠ 117 + w → sSpend c w ((n + 10 - 1) / 10) j = c j := fun j a1 a2 a3 => sSpend_o a1 a2 a3
  refine h.go ?_ (fun j hj => ?_) ?_
  · unfold sSew
    refine Rg.upa (?_ : Rg D (sSew0 c w n)) (zbd_miss hk2) ?_
    · unfold sSew0
      refine Rg.upan (Rg.upa (Rg.upa (h.1.spend hw ⟨by omega, by omega⟩) zbd_2 ?_) zbd_1 ?_) (zbd_n4 (k := 0) (by omega))
      · rw [e0 _ (by omega) (by omega) (by omega)]; omega
      · unfold ad; rw [vne (by omega), e0 _ (by omega) (by omega) (by omega)]; omega
    · unfold sSew0 ad
      rw [vne (by omega), vne (by omega), vne (by omega), e0 _ (by omega) (by omega) (by omega)]; omega
  · unfold sSew sSew0 ad
    rw [vne (by omega), vne (by omega), vne (by omega), vne (by omega), e0 _ (by omega) (by omega) (by omega)]
  · obtain ⟨s1, s2⟩ := h.2.2.2.2.1
    have e8 : sSew c w k n 8 = c 8 := by unfold sSew sSew0 ad; rw [vne (by omega), vne (by omega), vne (by omega), vne (by omega), e0 _ (by omega) (by omega) (by omega)]
    have e6 : sSew c w k n 6 = c 6 := by unfold sSew sSew0 ad; rw [vne (by omega), vne (by omega), vne (by omega), vne (by omega), e0 _ (by omega) (by omega) (by omega)]
    have e5 : sSew c w k n 5 = c 5 := by unfold sSew sSew0 ad; rw [vne (by omega), vne (by omega), vne (by omega), vne (by omega), e0 _ (by omega) (by omega) (by omega)]
    have e1 : sSew c w k n 1 = c 1 - n := by unfold sSew sSew0 ad; rw [vne (by omega), vne (by omega), va_e, if_pos rfl, vne (by omega), e0 _ (by omega) (by omega) (by omega)]; omega
    have e4 : sSew c w k n 4 = c 4 + n := by unfold sSew sSew0 ad; rw [vne (by omega), va_e, if_pos rfl, vne (by omega), vne (by omega), e0 _ (by omega) (by omega) (by omega)]
    unfold Sc
    rw [e8, e6, e5, e1, e4, sSew_s hw (by omega) (by omega)]
    omega
theorem sLose_o {c : Nat → Int} {k : Nat} {n : Int} {j : Nat} (h1 : j ≠ 5) (h2 : j ≠ 37 + k) : sLose c k n j = c j := by
  unfold sLose ad; rw [vne h2, vne h1]
theorem sLose_m {c : Nat → Int} {k : Nat} {n : Int} : sLose c k n (37 + k) = c (37 + k) + zmn n (60 - c (37 + k)) := by
  unfold sLose ad; rw [va_e, if_pos rfl, vne (by omega)]
theorem Inv.lose {D n : Int} {c : Nat → Int} {k : Nat} (h : Inv D c) (hk : (k : Int) < c 8) (hn : 0 ≤ n) : Inv D (sLose c k n) := by
  have g0 := h.1.coats
  have hk2 : k < 12 := by omega
  have g3 := h.1.miss hk2
  refine h.go ?_ (fun j hj => sLose_o (by omega) (by omega)) ?_
  · unfold sLose
    refine (h.1.upan (zbd_n4 (k := 1) (by omega))).upa (zbd_miss hk2) ?_
    unfold ad
    rw [vne (by omega)]
    simp only [zmn]
    split <;> omega
  · obtain ⟨s1, s2⟩ := h.2.2.2.2.1
    have e6 : sLose c k n 6 = c 6 := sLose_o (by omega) (by omega)
    have e1 : sLose c k n 1 = c 1 := sLose_o (by omega) (by omega)
    have e4 : sLose c k n 4 = c 4 := sLose_o (by omega) (by omega)
    have e8 : sLose c k n 8 = c 8 := sLose_o (by omega) (by omega)
    have e5 : sLose c k n 5 = c 5 + zmn n (60 - c (37 + k)) := by unfold sLose ad; rw [vne (by omega), va_e, if_pos rfl]
    have es : zsum (sLose c k n) 37 (c 8).toNat = zsum c 37 (c 8).toNat + zmn n (60 - c (37 + k)) := by
      unfold sLose ad
      rw [zsum_up _ (by omega), vne (by omega), zsum_cg (c := c) _ (fun i hi => vne (by omega))]
      omega
    unfold Sc
    rw [e6, e1, e4, e8, e5, es]
    omega
theorem Inv.store {D b : Int} {c : Nat → Int} {i : Nat} (h : Inv D c) (hi : i < 3) (hb : 0 ≤ c (1 + i) + b ∧ c (1 + i) + b ≤ 999) : Inv D (sStore c i b) := by
  unfold sStore
  split
  · rename_i e
    subst e
    show Inv D (ad (ad c 6 b) 1 b)
    have hb : 0 ≤ c 1 + b ∧ c 1 + b ≤ 999 := hb
    have e1 : (ad c 6 b) 1 = c 1 := by unfold ad; rw [vne (by omega)]
    refine h.go ((h.1.upan (zbd_n4 (k := 2) (by omega))).upa zbd_1 (by rw [e1]; exact hb)) (fun j hj => by unfold ad; rw [vne (by omega), vne (by omega)]) ?_
    obtain ⟨s1, s2⟩ := h.2.2.2.2.1
    have g0 := h.1.coats
    unfold Sc ad
    rw [vne (by omega), va_e, if_pos rfl, va_e, if_pos rfl, vne (by omega), vne (by omega), vne (by omega), vne (by omega), vne (by omega), vne (by omega), vne (by omega), zsum_cg (c := c) _ (fun i hi => by rw [vne (by omega), vne (by omega)])]
    omega
  · exact h.go1 (h.1.upa (zbd_good hi) hb) (fun j hj => by unfold ad; rw [vne (by omega)])
theorem Inv.show {D : Int} {c : Nat → Int} {a k : Nat} (h : Inv D c) (ha : a < 6) (hk : (k : Int) < c 8) : Inv D (sShow c a k) := by
  have g0 := h.1.coats
  have hk2 : k < 12 := by omega
  have h1 : Inv D (sShow1 c a k) := by
    unfold sShow1; split
    · exact h.rip hk2 (by omega)
    · exact h
  have e1 : sShow1 c a k 8 = c 8 := by
    unfold sShow1; split
    · unfold sRip ad; rw [vne (by omega)]
    · rfl
  have h2 : Inv D (sShow2 c a k) := h1.go1 (h.1.show2 hk2 ha) (fun j hj => by unfold sShow2 ad; rw [vne (by omega), vne (by omega), vne (by omega)])
  refine h2.lose ?_ (by omega)
  unfold sShow2 ad
  rw [vne (by omega), vne (by omega), vne (by omega), e1]
  exact hk
theorem zrest_o {j : Nat} (h1 : ¬ (109 ≤ j ∧ j < 117)) : ∀ (m i : Nat) (c : Nat → Int), i + m ≤ 4 → zrest i m c j = c j
  | 0, _, _, _ => rfl
  | m + 1, i, c, hi => by
    show zrest (i + 1) m (zrest1 c i) j = c j
    rw [zrest_o h1 m (i + 1) _ (by omega)]
    unfold zrest1
    split
    · rw [vne (by omega), vne (by omega)]
    · rfl
theorem zgrowC_o {j : Nat} (h1 : ¬ (85 ≤ j ∧ j < 91)) : ∀ (m i : Nat) (c : Nat → Int), i + m ≤ 6 → zgrowC i m c j = c j
  | 0, _, _, _ => rfl
  | m + 1, i, c, hi => by
    show zgrowC (i + 1) m (zgrow1 c i) j = c j
    rw [zgrowC_o h1 m (i + 1) _ (by omega)]
    unfold zgrow1
    split
    · unfold ad; rw [vne (by omega)]
    · rfl
theorem zdayC_o {c : Nat → Int} {j : Nat} (h0 : j ≠ 0) (h1 : ¬ (109 ≤ j ∧ j < 117)) (h2 : ¬ (85 ≤ j ∧ j < 91)) : zdayC c j = c j := by
  unfold zdayC
  split
  · rw [zgrowC_o h2 6 0 _ (by omega)]; unfold zday1 ad; rw [vne h0, zrest_o h1 4 0 _ (by omega)]
  · unfold zday1 ad; rw [vne h0, zrest_o h1 4 0 _ (by omega)]
theorem Inv.day {D : Int} {c : Nat → Int} (h : Inv D c) : Inv (D + 1) (zdayC c) :=
  h.go1 h.1.dayC (fun j hj => zdayC_o (by omega) (by omega) (by omega))
theorem Inv.pass {D : Int} : ∀ (n : Nat) {c : Nat → Int}, Inv D c → Inv (D + n) (zpassC n c)
  | 0, c, h => by simpa [zpassC] using h
  | n + 1, c, h => by
    have h1 := Inv.pass n h.day
    show Inv (D + ((n + 1 : Nat) : Int)) (zpassC n (zdayC c))
    have e : D + ((n + 1 : Nat) : Int) = D + 1 + (n : Int) := by omega
    rw [e]; exact h1
