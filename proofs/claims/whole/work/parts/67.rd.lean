/-! ===== the model reads: what its cells say on the way ===== -/
theorem AI.mono {D D2 : Int} {c : Nat → Int} {R : aQ} (h : AI D c R) (hD : D ≤ D2) : AI D2 c R := ⟨h.1.mono hD, fun r hr => (h.2.1 r hr).mono hD, h.2.2.1, fun v hv => (h.2.2.2.1 v hv).mono hD, h.2.2.2.2⟩
theorem AI.row {D D2 : Int} {c c2 : Nat → Int} {R : aQ} (h : AI D c R) (hD : D ≤ D2) (hc : Inv D2 c2) : AI D2 c2 R := ⟨hc, (h.mono hD).2⟩
theorem AI.rd {D e : Int} {c : Nat → Int} {R : aQ} (h : AI D c R) (he : zi e) : AI D c (rdR R e) := ⟨h.1, h.2.1, h.2.2.1, h.2.2.2.1, Nat.zero_le _, fun p hp => absurd hp (by show ¬ p < 0; omega), h.2.2.2.2.2.2.1, he⟩
theorem AI.order {D : Int} {c : Nat → Int} {R : aQ} {k f s : Int} (h : AI D c R) (hk : okind k) (hn : oNm c k f s = true) (hr : oRf c k f s = none) : AI (D + 60) (oDo c k f s) R := h.row (by omega) (h.1.order hk hn hr)
theorem MR.cg {R : aQ} {σ σ' : Nat → Nat → Int} (h : MR R σ) (e : ∀ i, i = 4 ∨ i = 5 ∨ i = 9 ∨ i = 10 ∨ i = 12 ∨ i = 13 → σ' 32 i = σ 32 i) (en : ∀ k, k = 34 ∨ k = 35 ∨ k = 37 → σ' k = σ k) : MR R σ' := by
  obtain ⟨⟨h1, h2⟩, h3, h4, h5, h6⟩ := h
  refine ⟨⟨?_, fun i r hr j hj => ?_⟩, ?_, ⟨?_, ?_⟩, ⟨?_, ?_⟩, ?_⟩
  · rw [e 5 (by omega)]; exact h1
  · rw [en 34 (by omega)]; exact h2 i r hr j hj
  · rw [e 4 (by omega), en 35 (by omega)]; exact h3
  · rw [e 9 (by omega)]; exact h4.1
  · rw [e 10 (by omega)]; exact h4.2
  · rw [e 12 (by omega)]; exact h5.1
  · rw [en 37 (by omega)]; exact h5.2
  · rw [e 13 (by omega)]; exact h6
/-- the error and the empty input -/
def zer (σ : Nat → Nat → Int) (e : Int) : Nat → Nat → Int := zs σ 32 (va_up (va_up (σ 32) 13 e) 12 0)
theorem zer_eq {σ : Nat → Nat → Int} {g : Nat → Int} {e : Int} : zup (zup (zs σ 33 g) 32 13 e) 32 12 0 = zs (zer σ e) 33 g := by
  rw [zup32, zup32, zs_zs, zs_eq]; rfl
theorem MR.er {R : aQ} {σ : Nat → Nat → Int} (h : MR R σ) (e : Int) : MR (rdR R e) (zer σ e) := by
  obtain ⟨⟨h1, h2⟩, h3, h4, h5, h6⟩ := h
  have en : ∀ k, k ≠ 32 → zer σ e k = σ k := fun k hk => zs_ne hk _
  have e2 : ∀ i, i ≠ 12 → i ≠ 13 → zer σ e 32 i = σ 32 i := fun i a1 a2 => by unfold zer; rw [zs_eq, vne a1, vne a2]
  refine ⟨⟨?_, fun i r hr j hj => ?_⟩, ?_, ⟨?_, ?_⟩, ⟨?_, ?_⟩, ?_⟩
  · rw [e2 5 (by decide) (by decide)]; exact h1
  · rw [en 34 (by decide)]; exact h2 i r hr j hj
  · show (match R.2.1 with | none => _ | some v => _)
    rw [e2 4 (by decide) (by decide), en 35 (by decide)]; exact h3
  · rw [e2 9 (by decide) (by decide)]; exact h4.1
  · rw [e2 10 (by decide) (by decide)]; exact h4.2
  · unfold zer; rw [zs_eq, va_e, if_pos rfl]; rfl
  · rw [en 37 (by decide)]; exact h5.2
  · unfold zer; rw [zs_eq, vne (by decide), va_e, if_pos rfl]; rfl
theorem zer_o {σ : Nat → Nat → Int} {e : Int} {i : Nat} (h1 : i ≠ 12) (h2 : i ≠ 13) : zer σ e 32 i = σ 32 i := by unfold zer; rw [zs_eq, vne h1, vne h2]
theorem zer_n {σ : Nat → Nat → Int} {e : Int} {k : Nat} (h : k ≠ 32) : zer σ e k = σ k := zs_ne h _
theorem tS_33 {σ : Nat → Nat → Int} {g f : Nat → Int} {q p : Nat} : tS (tm (zs σ 33 g) q) f p = zs (tS (tm σ q) f p) 33 g := by
  unfold tS tm
  rw [zs_ne (show 32 ≠ 33 by decide), zs_eq, zs_eq, zs_comm (show 33 ≠ 32 by decide), zs_comm (show 33 ≠ 38 by decide), zs_comm (show 33 ≠ 32 by decide)]
/-- before the orders: the row kept aside, within, not refused -/
def zwi (σ : Nat → Nat → Int) (X : Nat → Int) : Nat → Nat → Int := zs (zs σ 36 X) 32 (va_up (va_up (σ 32) 6 1) 8 0)
theorem zwi_eq {σ : Nat → Nat → Int} {g X : Nat → Int} : zup (zup (zs (zs σ 36 X) 33 g) 32 6 1) 32 8 0 = zs (zwi σ X) 33 g := by
  rw [zup32, zup32, zs_zs, zs_eq, zs_ne (show 32 ≠ 36 by decide)]; rfl
theorem zwi_o {σ : Nat → Nat → Int} {X : Nat → Int} {i : Nat} (h1 : i ≠ 6) (h2 : i ≠ 8) : zwi σ X 32 i = σ 32 i := by unfold zwi; rw [zs_eq, vne h2, vne h1]
theorem zwi_6 {σ : Nat → Nat → Int} {X : Nat → Int} : zwi σ X 32 6 = 1 := by unfold zwi; rw [zs_eq, vne (by decide), va_e, if_pos rfl]
theorem zwi_8 {σ : Nat → Nat → Int} {X : Nat → Int} : zwi σ X 32 8 = 0 := by unfold zwi; rw [zs_eq, va_e, if_pos rfl]
theorem zwi_n {σ : Nat → Nat → Int} {X : Nat → Int} {k : Nat} (h1 : k ≠ 32) (h2 : k ≠ 36) : zwi σ X k = σ k := by unfold zwi; rw [zs_ne h1, zs_ne h2]
theorem zwi_36 {σ : Nat → Nat → Int} {X : Nat → Int} : zwi σ X 36 = X := by unfold zwi; rw [zs_ne (by decide), zs_eq]
/-- behind the orders -/
def zwo (σ : Nat → Nat → Int) : Nat → Nat → Int := zs σ 32 (va_up (σ 32) 6 0)
theorem zwo_eq {σ : Nat → Nat → Int} {g : Nat → Int} : zup (zs σ 33 g) 32 6 0 = zs (zwo σ) 33 g := zup32
theorem zwo_o {σ : Nat → Nat → Int} {i : Nat} (h1 : i ≠ 6) : zwo σ 32 i = σ 32 i := by unfold zwo; rw [zs_eq, vne h1]
theorem zwo_6 {σ : Nat → Nat → Int} : zwo σ 32 6 = 0 := by unfold zwo; rw [zs_eq, va_e, if_pos rfl]
theorem zwo_n {σ : Nat → Nat → Int} {k : Nat} (h1 : k ≠ 32) : zwo σ k = σ k := zs_ne h1 _
theorem crO_0 {K F S : Nat → Int} {i : Nat} {c : Nat → Int} : crO K F S 0 i c = (0, none, c) := rfl
theorem kp2_33 {σ : Nat → Nat → Int} {g : Nat → Int} {n : Nat} : kp2 36 n (zs σ 33 g) = zs (zs (zs σ 34 (cpy (σ 36) 0 (kpS n (σ 34)) (150 * kpm n) 150)) 32 (va_up (σ 32) 5 ((kpm n : Int) + 1))) 33 g := by
  unfold kp2
  rw [zs_ne (show 36 ≠ 33 by decide), zs_ne (show 34 ≠ 33 by decide), zs_ne (show 32 ≠ 33 by decide), zs_comm (show 33 ≠ 34 by decide), zs_comm (show 33 ≠ 32 by decide)]
