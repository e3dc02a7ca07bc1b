/-! ===== the start: the room as it is made ===== -/
def zc00 : Nat → Int := va_up (va_up (va_up (va_up (fun _ => 0) 1 200) 2 100) 3 20) 6 200
def zR00 : aQ := ([], none, (0, 0), (fun _ => 0, 0), -1)
def zt00 : Nat → Nat → Int := fun k => if 21 ≤ k ∧ k ≤ 31 then zc00 else if k = 33 then gm zc00 else fun i => if (k = 15 ∧ i = 7) ∨ (k = 32 ∧ i = 13) then -1 else 0
theorem zc00_0 {j : Nat} (h : 7 ≤ j) : zc00 j = 0 := by
  unfold zc00
  rw [vne (by omega), vne (by omega), vne (by omega), vne (by omega)]
theorem zc00_Rg : Rg 0 zc00 := by
  intro j lo hi h
  by_cases hj : j < 181
  · have key : (List.range 181).all (fun j => match zbd 0 j with | some (lo, hi) => decide (lo ≤ zc00 j) && decide (zc00 j ≤ hi) | none => true) = true := by decide +kernel
    have h1 := List.all_eq_true.mp key j (List.mem_range.mpr hj)
    rw [h] at h1
    simp only [Bool.and_eq_true, decide_eq_true_eq] at h1
    exact h1
  · unfold zbd at h
    repeat (rw [if_neg (by omega)] at h)
    cases h
theorem zc00_I : Inv 0 zc00 := by
  have e8 : zc00 8 = 0 := by decide +kernel
  have e9 : zc00 9 = 0 := by decide +kernel
  have e11 : zc00 11 = 0 := by decide +kernel
  have e12 : zc00 12 = 0 := by decide +kernel
  refine ⟨zc00_Rg, ⟨fun k _ h2 => ?_, fun a _ h2 => ?_⟩, ⟨fun k _ h2 => ?_, fun t p _ _ h2 => ?_, fun t p q _ _ h2 => ?_, by decide +kernel⟩, ⟨fun p _ h2 => ?_, fun p q _ _ h2 => ?_⟩, ⟨by decide +kernel, by decide +kernel⟩, fun j hj => zc00_0 (by omega)⟩
  · rw [e8] at h2; omega
  · rw [e9] at h2; omega
  · rw [e8] at h2; omega
  · rw [e11] at h2; omega
  · rw [e11] at h2; omega
  · rw [e12] at h2; omega
  · rw [e12] at h2; omega
theorem zt00_r {k : Nat} (h : 21 ≤ k ∧ k ≤ 31) : zt00 k = zc00 := by unfold zt00; rw [if_pos h]
theorem zt00_0 {k : Nat} (h1 : ¬ (21 ≤ k ∧ k ≤ 31)) (h2 : k ≠ 33) {i : Nat} (h3 : ¬ ((k = 15 ∧ i = 7) ∨ (k = 32 ∧ i = 13))) : zt00 k i = 0 := by
  unfold zt00; rw [if_neg h1, if_neg h2]; exact if_neg h3
theorem zt00_f {k : Nat} (h1 : ¬ (21 ≤ k ∧ k ≤ 31)) (h2 : k ≠ 33) (h3 : k ≠ 15) (h4 : k ≠ 32) : zt00 k = fun _ => 0 := by
  funext i
  exact zt00_0 h1 h2 (by omega)
theorem LwS_00 : LwS 0 zc00 zR00 zt00 := by
  have z : ∀ k i : Nat, ¬ (21 ≤ k ∧ k ≤ 31) → k ≠ 33 → ¬ ((k = 15 ∧ i = 7) ∨ (k = 32 ∧ i = 13)) → zt00 k i = 0 := fun k i h1 h2 h3 => zt00_0 h1 h2 h3
  refine ⟨⟨zc00_I, (fun r hr => by cases hr), Nat.zero_le _, (fun v hv => by cases hv), Nat.zero_le _, (fun p hp => absurd hp (Nat.not_lt_zero p)), ⟨by decide, by decide⟩, ⟨by decide, by decide⟩⟩, zt00_r ⟨by decide, by decide⟩, ⟨⟨0, by decide, z 12 1 (by omega) (by omega) (by omega), (fun i r hr => by cases i <;> cases hr)⟩, z 12 2 (by omega) (by omega) (by omega), z 0 5 (by omega) (by omega) (by omega), ⟨z 14 0 (by omega) (by omega) (by omega), z 14 1 (by omega) (by omega) (by omega)⟩, ⟨z 15 4 (by omega) (by omega) (by omega), zt00_f (by omega) (by omega) (by omega) (by omega)⟩, by decide +kernel, (fun r hr j hj => ?_)⟩, by unfold zt00; rw [if_neg (by omega), if_pos rfl], ⟨⟨z 32 5 (by omega) (by omega) (by omega), (fun i r hr => by cases i <;> cases hr)⟩, z 32 4 (by omega) (by omega) (by omega), ⟨z 32 9 (by omega) (by omega) (by omega), z 32 10 (by omega) (by omega) (by omega)⟩, ⟨z 32 12 (by omega) (by omega) (by omega), zt00_f (by omega) (by omega) (by omega) (by omega)⟩, by decide +kernel⟩, z 32 6 (by omega) (by omega) (by omega)⟩
  rw [zt00_r ⟨by omega, by omega⟩]
  exact zc00_0 (by omega)
theorem gm00 : gm zc00 = zc00 := by
  funext j
  by_cases hj : j < 150
  · have key : (List.range 150).all (fun j => decide (gm zc00 j = zc00 j)) = true := by decide +kernel
    exact of_decide_eq_true (List.all_eq_true.mp key j (List.mem_range.mpr hj))
  · rw [gm_0 (by omega), zc00_0 (by omega)]
theorem rmI_e : (fun j => Int32.ofInt (zc00 j)) = rmI := by
  unfold zc00 rmI
  rw [← zupd, ← zupd, ← zupd, ← zupd]
  rfl
