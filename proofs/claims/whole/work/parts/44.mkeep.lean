/-! ===== what the model's keeping means ===== -/
theorem kpk {c f g : Nat → Int} {L : List (Nat → Int)} (hl : L.length ≤ 8) (hr : ∀ (i : Nat) (r : Nat → Int), L[i]? = some r → ∀ j, j < 150 → f (150 * (L.length - 1 - i) + j) = gm r j) (hg : ∀ j, j < 150 → g j = gm c j) : ((c :: L).take 8).length = kpm L.length + 1 ∧ ∀ (i : Nat) (r : Nat → Int), ((c :: L).take 8)[i]? = some r → ∀ j, j < 150 → cpy g 0 (kpS L.length f) (150 * kpm L.length) 150 (150 * (((c :: L).take 8).length - 1 - i) + j) = gm r j := by
  have e : ((c :: L).take 8).length = kpm L.length + 1 := by
    rw [List.length_take, List.length_cons]
    unfold kpm
    split <;> omega
  refine ⟨e, fun i r h j hj => ?_⟩
  rw [e]
  rw [List.getElem?_take] at h
  split at h
  · rename_i hi8
    cases i with
    | zero =>
      have hcr : c = r := by simpa using h
      rw [← hcr, ← hg j hj]
      unfold cpy
      rw [if_pos (by omega)]
      congr 1
      omega
    | succ i =>
      have h2 : L[i]? = some r := by simpa using h
      have hi : i < L.length := (List.getElem?_eq_some_iff.mp h2).1
      have h3 := hr i r h2 j hj
      unfold cpy
      by_cases h8 : L.length = 8
      · have e7 : kpm L.length = 7 := by unfold kpm; rw [if_pos h8]
        rw [if_neg (by omega)]
        unfold kpS shf
        rw [if_pos h8, if_pos (by omega), ← h3]
        congr 1
        omega
      · have e7 : kpm L.length = L.length := by unfold kpm; rw [if_neg h8]
        rw [if_neg (by omega)]
        unfold kpS
        rw [if_neg h8, ← h3]
        congr 1
        omega
  · cases h
theorem MR.keep {R : aQ} {σ : Nat → Nat → Int} {c g : Nat → Int} (h : MR R σ) (hl : R.1.length ≤ 8) (hg : ∀ j, j < 150 → g j = gm c j) : MR (kpR c R) (zs (zs σ 34 (cpy g 0 (kpS R.1.length (σ 34)) (150 * kpm R.1.length) 150)) 32 (va_up (σ 32) 5 ((kpm R.1.length : Int) + 1))) := by
  obtain ⟨⟨h1, h2⟩, h3, h4, h5, h6⟩ := h
  obtain ⟨k1, k2⟩ := kpk (c := c) (f := σ 34) (g := g) hl h2 hg
  have en : ∀ k, k ≠ 32 → k ≠ 34 → zs (zs σ 34 (cpy g 0 (kpS R.1.length (σ 34)) (150 * kpm R.1.length) 150)) 32 (va_up (σ 32) 5 ((kpm R.1.length : Int) + 1)) k = σ k := fun k a1 a2 => by rw [zs_ne a1, zs_ne a2]
  have e2 : ∀ i, i ≠ 5 → zs (zs σ 34 (cpy g 0 (kpS R.1.length (σ 34)) (150 * kpm R.1.length) 150)) 32 (va_up (σ 32) 5 ((kpm R.1.length : Int) + 1)) 32 i = σ 32 i := fun i a1 => by rw [zs_eq, vne a1]
  refine ⟨⟨?_, fun i r hr j hj => ?_⟩, ?_, ⟨?_, ?_⟩, ⟨?_, ?_⟩, ?_⟩
  · rw [zs_eq, va_e, if_pos rfl]
    show _ = (((c :: R.1).take 8).length : Int)
    rw [k1]; omega
  · rw [zs_ne (by decide), zs_eq]
    exact k2 i r hr j hj
  · show (match R.2.1 with | none => _ | some v => _)
    rw [e2 4 (by decide), en 35 (by decide) (by decide)]; exact h3
  · rw [e2 9 (by decide)]; exact h4.1
  · rw [e2 10 (by decide)]; exact h4.2
  · rw [e2 12 (by decide)]; exact h5.1
  · rw [en 37 (by decide) (by decide)]; exact h5.2
  · rw [e2 13 (by decide)]; exact h6
/-- the model keeps its row g before a change -/
theorem m_keep {E : zE} {D : Int} {R : aQ} {σ : Nat → Nat → Int} {c : Nat → Int} {l : (Nat → Int64) × (Nat → UInt64)} {w : Bool} (hI : AI D c R) (hM : MR R σ) (hw : σ 32 6 = wi w) : ∃ σ1, Rn E yX11_keeps (Cond.code yX11_keeps cX11_keeps 3 (Option.none : Option FieldType)) 1 [vr 32, vr 33] (zs (zco σ 0) 33 (gm c), l) (zs σ1 33 (gm c), l) ∧ MR (kpw w c R) σ1 ∧ σ1 32 7 = 0 ∧ Fo σ σ1 (σ 32 8) := by
  have h6 : (zs (zco σ 0) 33 (gm c)) 32 6 = σ 32 6 := by rw [zs_ne (by decide), zco_o _ _ (by decide)]
  cases w with
  | true =>
    have h1 : (zs (zco σ 0) 33 (gm c)) 32 6 = 1 := by rw [h6, hw]; rfl
    have h2 := c_keeps_w (E := E) (r := 33) (st := (zs (zco σ 0) 33 (gm c), l)) h1
    exact ⟨zco σ 0, h2, hM.co 0, zco_7 σ 0, Fo.co σ 0⟩
  | false =>
    have h5 : (zs (zco σ 0) 33 (gm c)) 32 5 = (R.1.length : Int) := by rw [zs_ne (by decide), zco_o _ _ (by decide)]; exact hM.1.1
    have h60 : (zs (zco σ 0) 33 (gm c)) 32 6 = 0 := by rw [h6, hw]; rfl
    have h1 := c_keeps33 (E := E) (l := l) h60 h5 hI.2.2.1
    have hk := (hM.co 0).keep (c := c) (g := gm c) hI.2.2.1 (fun _ _ => rfl)
    refine ⟨_, h1.to ?_, hk, ?_, fun k a1 a2 a3 => ?_, ?_, ?_, ?_, ?_⟩
    · unfold kp2
      rw [zs_eq, zs_ne (show 34 ≠ 33 by decide), zs_ne (show 32 ≠ 33 by decide), zs_comm (show 33 ≠ 34 by decide), zs_comm (show 33 ≠ 32 by decide)]
    · rw [zs_eq, vne (by decide)]; exact zco_7 σ 0
    · rw [zs_ne a1, zs_ne a3]; exact zco_n σ 0 a1
    · rw [zs_eq, vne (by decide)]; exact zco_o σ 0 (by decide)
    · rw [zs_eq, vne (by decide)]; exact zco_o σ 0 (by decide)
    · rw [zs_eq, vne (by decide)]; exact zco_o σ 0 (by decide)
    · rw [zs_eq, vne (by decide)]; exact zco_o σ 0 (by decide)
