/-! ===== the class's cells: append, undo, save, restore ===== -/
theorem AI.reason {D : Int} {c : Nat → Int} {R : aQ} (h : AI D c R) : zi R.2.2.1.1 := h.2.2.2.2.2.2.1
theorem CR.app {R : aQ} {σ : Nat → Nat → Int} (h : CR R σ) (x : Int) : CR (R.1, R.2.1, R.2.2.1, (va_up R.2.2.2.1.1 R.2.2.2.1.2 x, R.2.2.2.1.2 + 1), R.2.2.2.2) (zs (zs σ 16 (va_up (σ 16) R.2.2.2.1.2 x)) 15 (va_up (σ 15) 4 ((R.2.2.2.1.2 : Int) + 1))) := by
  obtain ⟨⟨p, h1, h2, h3⟩, h4, h5, h6, h7, h8, h9⟩ := h
  have e : ∀ k, k ≠ 15 → k ≠ 16 → zs (zs σ 16 (va_up (σ 16) R.2.2.2.1.2 x)) 15 (va_up (σ 15) 4 ((R.2.2.2.1.2 : Int) + 1)) k = σ k := fun k a1 a2 => by rw [zs_ne a1, zs_ne a2]
  refine ⟨⟨p, h1, by rw [e 12 (by omega) (by omega)]; exact h2, fun i r hr => by rw [e _ (by omega) (by omega)]; exact h3 i r hr⟩, by rw [e 12 (by omega) (by omega)]; exact h4, ?_, by rw [e 14 (by omega) (by omega)]; exact h6, ⟨?_, ?_⟩, ?_, fun r hr j hj => by rw [e _ (by omega) (by omega)]; exact h9 r hr j hj⟩
  · rw [e 0 (by omega) (by omega), e 22 (by omega) (by omega)]; exact h5
  · rw [zs_eq, va_e, if_pos rfl]; show _ = ((R.2.2.2.1.2 + 1 : Nat) : Int); omega
  · rw [zs_ne (by decide), zs_eq, h7.2]
  · rw [zs_eq, vne (by decide)]; exact h8
theorem CR.back {R : aQ} {σ : Nat → Nat → Int} {r : Nat → Int} {H : List (Nat → Int)} (h : CR R σ) (hR : R.1 = r :: H) (hl : R.1.length ≤ 8) : ∃ q : Nat, q < 9 ∧ (zbk σ) 12 1 = (q : Int) ∧ σ (23 + q) = r ∧ (0 ≤ σ 12 1 ∧ σ 12 1 ≤ 8) ∧ (0 ≤ σ 12 2 ∧ σ 12 2 ≤ 8) ∧ (zbk σ) 12 2 = (H.length : Int) ∧ CR (H, R.2) (zbk σ) := by
  obtain ⟨⟨p, h1, h2, h3⟩, h4, h5, h6, h7, h8, h9⟩ := h
  have e : ∀ k, k ≠ 12 → zbk σ k = σ k := fun k a1 => by unfold zbk; rw [zs_ne a1]
  have hn : σ 12 2 = (H.length : Int) + 1 := by rw [h4, hR, List.length_cons]; omega
  have hHl : H.length ≤ 7 := by rw [hR, List.length_cons] at hl; omega
  have e1 : (zbk σ) 12 1 = ((if p = 0 then 8 else p - 1 : Nat) : Int) := by
    unfold zbk; rw [zs_eq, vne (by decide), va_e, if_pos rfl, h2]
    by_cases q : p = 0
    · rw [if_neg (by omega), if_pos q]; rfl
    · rw [if_pos (by omega), if_neg q]; omega
  have e2 : (zbk σ) 12 2 = (H.length : Int) := by
    unfold zbk; rw [zs_eq, va_e, if_pos rfl, hn]
    split <;> omega
  refine ⟨if p = 0 then 8 else p - 1, by split <;> omega, e1, ?_, ⟨by omega, by omega⟩, ⟨by omega, by omega⟩, e2, ⟨⟨if p = 0 then 8 else p - 1, by split <;> omega, e1, fun i r2 hr => ?_⟩, e2, ?_, by rw [e 14 (by omega)]; exact h6, by rw [e 15 (by omega), e 16 (by omega)]; exact h7, by rw [e 15 (by omega)]; exact h8, fun r2 hr j hj => by rw [e _ (by omega)]; exact h9 r2 hr j hj⟩⟩
  · have h0 := h3 0 r (by rw [hR]; rfl)
    rw [show 23 + (if p = 0 then 8 else p - 1) = 23 + (p + 8 - 0) % 9 by split <;> omega]
    exact h0
  · have hi : i < H.length := (List.getElem?_eq_some_iff.mp hr).1
    have h0 := h3 (i + 1) r2 (by rw [hR]; exact hr)
    rw [e _ (by omega), show 23 + ((if p = 0 then 8 else p - 1) + 8 - i) % 9 = 23 + (p + 8 - (i + 1)) % 9 by split <;> omega]
    exact h0
  · show (match R.2.1 with | none => _ | some v => _)
    rw [e 0 (by omega), e 22 (by omega)]; exact h5
theorem CR.save {R : aQ} {σ : Nat → Nat → Int} (h : CR R σ) (c : Nat → Int) (h0 : ∀ j, 181 ≤ j → c j = 0) : CR (R.1, some c, R.2.2) (zs (zs σ 22 c) 0 (va_up (σ 0) 5 1)) := by
  obtain ⟨⟨p, h1, h2, h3⟩, h4, h5, h6, h7, h8, h9⟩ := h
  have e : ∀ k, k ≠ 22 → k ≠ 0 → zs (zs σ 22 c) 0 (va_up (σ 0) 5 1) k = σ k := fun k a1 a2 => by rw [zs_ne a2, zs_ne a1]
  have e22 : zs (zs σ 22 c) 0 (va_up (σ 0) 5 1) 22 = c := by rw [zs_ne (by decide), zs_eq]
  refine ⟨⟨p, h1, by rw [e 12 (by omega) (by omega)]; exact h2, fun i r hr => by rw [e _ (by omega) (by omega)]; exact h3 i r hr⟩, by rw [e 12 (by omega) (by omega)]; exact h4, ⟨?_, e22⟩, by rw [e 14 (by omega) (by omega)]; exact h6, by rw [e 15 (by omega) (by omega), e 16 (by omega) (by omega)]; exact h7, by rw [e 15 (by omega) (by omega)]; exact h8, fun r hr j hj => ?_⟩
  · rw [zs_eq, va_e, if_pos rfl]
  · by_cases z : r = 0
    · subst z; rw [e22]; exact h0 j hj
    · rw [e _ (by omega) (by omega)]; exact h9 r hr j hj
theorem CR.forget {R : aQ} {σ : Nat → Nat → Int} (h : CR R σ) : CR ([], R.2) (zs σ 12 (va_up (σ 12) 2 0)) := by
  obtain ⟨⟨p, h1, h2, h3⟩, h4, h5, h6, h7, h8, h9⟩ := h
  have e : ∀ k, k ≠ 12 → zs σ 12 (va_up (σ 12) 2 0) k = σ k := fun k a1 => by rw [zs_ne a1]
  refine ⟨⟨p, h1, by rw [zs_eq, vne (by decide)]; exact h2, fun i r hr => by cases hr⟩, by rw [zs_eq, va_e, if_pos rfl]; rfl, ?_, by rw [e 14 (by omega)]; exact h6, by rw [e 15 (by omega), e 16 (by omega)]; exact h7, by rw [e 15 (by omega)]; exact h8, fun r hr j hj => by rw [e _ (by omega)]; exact h9 r hr j hj⟩
  show (match R.2.1 with | none => _ | some v => _)
  rw [e 0 (by omega), e 22 (by omega)]; exact h5
theorem aUndo_n {c : Nat → Int} {R : aQ} (h : R.1 = []) : aUndo c R = thr eIS c R := by unfold aUndo; rw [h]
theorem aUndo_c {c r : Nat → Int} {R : aQ} {H : List (Nat → Int)} (h : R.1 = r :: H) : aUndo c R = okk (H.length : Int) r (H, R.2) := by unfold aUndo; rw [h]
theorem aRestore_n {c : Nat → Int} {R : aQ} (h : R.2.1 = none) : aRestore c R = thr eIS c R := by unfold aRestore; rw [h]
theorem aRestore_s {c v : Nat → Int} {R : aQ} (h : R.2.1 = some v) : aRestore c R = okk (v 8) v ([], R.2) := by unfold aRestore; rw [h]
