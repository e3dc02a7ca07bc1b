/-! ===== what stays true of a room ===== -/
def zcnt (c : Nat → Int) : Nat → Int
  | 0 => 0
  | n + 1 => zcnt c n + (if c (61 + n) ≠ -1 then 1 else 0)
def Sa (c : Nat → Int) : Prop :=
  (∀ k : Nat, k < 12 → (k : Int) < c 8 → c (49 + k) ≠ -1 → ∃ a : Nat, a < 6 ∧ c (49 + k) = (a : Int) ∧ (a : Int) < c 9 ∧ c (97 + a) = (k : Int)) ∧
  ∀ a : Nat, a < 6 → (a : Int) < c 9 → c (97 + a) ≠ -1 → ∃ k : Nat, k < 12 ∧ c (97 + a) = (k : Int) ∧ (k : Int) < c 8 ∧ c (49 + k) = (a : Int)
def Sp (c : Nat → Int) : Prop :=
  (∀ k : Nat, k < 12 → (k : Int) < c 8 → c (61 + k) ≠ -1 → ∃ t p : Nat, t < 4 ∧ p < 5 ∧ c (61 + k) = (t : Int) ∧ (t : Int) < c 11 ∧ (p : Int) < c (121 + t) ∧ c (129 + t * 5 + p) = (k : Int)) ∧
  (∀ t p : Nat, t < 4 → p < 5 → (t : Int) < c 11 → (p : Int) < c (121 + t) → ∃ k : Nat, k < 12 ∧ c (129 + t * 5 + p) = (k : Int) ∧ (k : Int) < c 8 ∧ c (61 + k) = (t : Int)) ∧
  (∀ t p q : Nat, t < 4 → q < 5 → (t : Int) < c 11 → p < q → (q : Int) < c (121 + t) → c (129 + t * 5 + p) ≠ c (129 + t * 5 + q)) ∧
  zsum c 121 (c 11).toNat = zcnt c (c 8).toNat
def Sn (c : Nat → Int) : Prop :=
  (∀ p : Nat, p < 4 → (p : Int) < c 12 → ∃ t : Nat, t < 4 ∧ c (125 + p) = (t : Int) ∧ (t : Int) < c 11) ∧
  ∀ p q : Nat, q < 4 → p < q → (q : Int) < c 12 → c (125 + p) ≠ c (125 + q)
def Sc (c : Nat → Int) : Prop := c 6 = c 1 + c 4 ∧ c 5 = zsum c 37 (c 8).toNat + c 4
def Inv (D : Int) (c : Nat → Int) : Prop := Rg D c ∧ Sa c ∧ Sp c ∧ Sn c ∧ Sc c ∧ ∀ j, 181 ≤ j → c j = 0
theorem va_e {c : Nat → Int} {i : Nat} {v : Int} (j : Nat) : va_up c i v j = if j = i then v else c j := rfl
theorem zsum_cg {c d : Nat → Int} {a : Nat} : ∀ n : Nat, (∀ i, i < n → d (a + i) = c (a + i)) → zsum d a n = zsum c a n
  | 0, _ => rfl
  | n + 1, h => by
    show zsum d a n + d (a + n) = zsum c a n + c (a + n)
    rw [zsum_cg n (fun i hi => h i (by omega)), h n (by omega)]
theorem zsum_up {c : Nat → Int} {a k : Nat} {v : Int} : ∀ n : Nat, k < n → zsum (va_up c (a + k) v) a n = zsum c a n - c (a + k) + v
  | 0, h => absurd h (by omega)
  | n + 1, h => by
    show zsum (va_up c (a + k) v) a n + va_up c (a + k) v (a + n) = zsum c a n + c (a + n) - c (a + k) + v
    by_cases e : k = n
    · subst e
      rw [zsum_cg (c := c) k (fun i hi => vne (by omega)), va_e, if_pos rfl]; omega
    · rw [zsum_up n (by omega), vne (by omega)]; omega
theorem zcnt_cg {c d : Nat → Int} : ∀ n : Nat, (∀ i, i < n → d (61 + i) = c (61 + i)) → zcnt d n = zcnt c n
  | 0, _ => rfl
  | n + 1, h => by
    show zcnt d n + (if d (61 + n) ≠ -1 then 1 else 0) = zcnt c n + (if c (61 + n) ≠ -1 then 1 else 0)
    rw [zcnt_cg n (fun i hi => h i (by omega)), h n (by omega)]
theorem zcnt_up {c : Nat → Int} {k : Nat} {v : Int} : ∀ n : Nat, k < n → zcnt (va_up c (61 + k) v) n = zcnt c n - (if c (61 + k) ≠ -1 then 1 else 0) + (if v ≠ -1 then 1 else 0)
  | 0, h => absurd h (by omega)
  | n + 1, h => by
    show zcnt (va_up c (61 + k) v) n + (if va_up c (61 + k) v (61 + n) ≠ -1 then 1 else 0) = zcnt c n + (if c (61 + n) ≠ -1 then 1 else 0) - (if c (61 + k) ≠ -1 then 1 else 0) + (if v ≠ -1 then 1 else 0)
    by_cases e : k = n
    · subst e
      rw [zcnt_cg (c := c) k (fun i hi => vne (by omega)), va_e, if_pos rfl]; omega
    · rw [zcnt_up n (by omega), vne (by omega)]; omega
/-- cells that the three parts look at -/
abbrev jSa (j : Nat) : Prop := j = 8 ∨ j = 9 ∨ 49 ≤ j ∧ j < 61 ∨ 97 ≤ j ∧ j < 103
abbrev jSp (j : Nat) : Prop := j = 8 ∨ j = 11 ∨ 61 ≤ j ∧ j < 73 ∨ 121 ≤ j ∧ j < 125 ∨ 129 ≤ j ∧ j < 149
abbrev jSn (j : Nat) : Prop := j = 11 ∨ j = 12 ∨ 125 ≤ j ∧ j < 129
theorem Sa.cg {c d : Nat → Int} (h : Sa c) (e : ∀ j, jSa j → d j = c j) : Sa d := by
  obtain ⟨h1, h2⟩ := h
  refine ⟨fun k hk => ?_, fun a ha => ?_⟩
  · rw [e 8 (by omega), e (49 + k) (by omega)]
    intro q1 q2
    obtain ⟨a, ha, q3, q4, q5⟩ := h1 k hk q1 q2
    exact ⟨a, ha, q3, by rw [e 9 (by omega)]; exact q4, by rw [e (97 + a) (by omega)]; exact q5⟩
  · rw [e 9 (by omega), e (97 + a) (by omega)]
    intro q1 q2
    obtain ⟨k, hk, q3, q4, q5⟩ := h2 a ha q1 q2
    exact ⟨k, hk, q3, by rw [e 8 (by omega)]; exact q4, by rw [e (49 + k) (by omega)]; exact q5⟩
theorem Sp.cg {D : Int} {c d : Nat → Int} (h : Sp c) (hg : Rg D c) (e : ∀ j, jSp j → d j = c j) : Sp d := by
  obtain ⟨h1, h2, h3, h4⟩ := h
  have g1 := hg.coats
  have g2 := hg.trunks
  refine ⟨fun k hk => ?_, fun t p ht hp => ?_, fun t p q ht hq => ?_, ?_⟩
  · rw [e 8 (by omega), e (61 + k) (by omega)]
    intro q1 q2
    obtain ⟨t, p, ht, hp, q3, q4, q5, q6⟩ := h1 k hk q1 q2
    exact ⟨t, p, ht, hp, q3, by rw [e 11 (by omega)]; exact q4, by rw [e (121 + t) (by omega)]; exact q5, by rw [e (129 + t * 5 + p) (by omega)]; exact q6⟩
  · rw [e 11 (by omega), e (121 + t) (by omega), e (129 + t * 5 + p) (by omega)]
    intro q1 q2
    obtain ⟨k, hk, q3, q4, q5⟩ := h2 t p ht hp q1 q2
    exact ⟨k, hk, q3, by rw [e 8 (by omega)]; exact q4, by rw [e (61 + k) (by omega)]; exact q5⟩
  · intro q1 q2 q3
    rw [e 11 (by omega)] at q1
    rw [e (121 + t) (by omega)] at q3
    rw [e (129 + t * 5 + p) (by omega), e (129 + t * 5 + q) (by omega)]
    exact h3 t p q ht hq q1 q2 q3
  · rw [e 11 (by omega), e 8 (by omega), zsum_cg (c := c) _ (fun i hi => e (121 + i) (by omega)), zcnt_cg (c := c) _ (fun i hi => e (61 + i) (by omega))]
    exact h4
theorem Sn.cg {c d : Nat → Int} (h : Sn c) (e : ∀ j, jSn j → d j = c j) : Sn d := by
  obtain ⟨h1, h2⟩ := h
  refine ⟨fun p hp => ?_, fun p q hq => ?_⟩
  · rw [e 12 (by omega), e (125 + p) (by omega), e 11 (by omega)]
    exact h1 p hp
  · intro q1 q2
    rw [e 12 (by omega)] at q2
    rw [e (125 + p) (by omega), e (125 + q) (by omega)]
    exact h2 p q hq q1 q2
theorem Sa.up {c : Nat → Int} {i : Nat} {v : Int} (h : Sa c) (hi : ¬ jSa i) : Sa (va_up c i v) := h.cg (fun j hj => vne (fun q => hi (q ▸ hj)))
theorem Sp.up {D : Int} {c : Nat → Int} {i : Nat} {v : Int} (h : Sp c) (hg : Rg D c) (hi : ¬ jSp i) : Sp (va_up c i v) := h.cg hg (fun j hj => vne (fun q => hi (q ▸ hj)))
theorem Sn.up {c : Nat → Int} {i : Nat} {v : Int} (h : Sn c) (hi : ¬ jSn i) : Sn (va_up c i v) := h.cg (fun j hj => vne (fun q => hi (q ▸ hj)))
theorem Sc.up {D : Int} {c : Nat → Int} {i : Nat} {v : Int} (h : Sc c) (hg : Rg D c) (hi : ¬ (i = 1 ∨ i = 4 ∨ i = 5 ∨ i = 6 ∨ i = 8 ∨ 37 ≤ i ∧ i < 49)) : Sc (va_up c i v) := by
  have g1 := hg.coats
  unfold Sc at h ⊢
  rw [vne (by omega), vne (by omega), vne (by omega), vne (by omega), vne (by omega), zsum_cg (c := c) _ (fun j hj => vne (by omega))]
  exact h
/-- one cell that no part looks at -/
theorem Inv.up {D : Int} {c : Nat → Int} {i : Nat} {v : Int} (h : Inv D c) (hg : Rg D (va_up c i v)) (h1 : ¬ jSa i) (h2 : ¬ jSp i) (h3 : ¬ jSn i) (h4 : ¬ (i = 1 ∨ i = 4 ∨ i = 5 ∨ i = 6 ∨ i = 8 ∨ 37 ≤ i ∧ i < 49)) (h5 : i < 181) : Inv D (va_up c i v) :=
  ⟨hg, h.2.1.up h1, h.2.2.1.up h.1 h2, h.2.2.2.1.up h3, h.2.2.2.2.1.up h.1 h4, fun j hj => by rw [vne (by omega)]; exact h.2.2.2.2.2 j hj⟩
theorem Inv.mono {D D2 : Int} {c : Nat → Int} (h : Inv D c) (hD : D ≤ D2) : Inv D2 c := ⟨h.1.mono hD, h.2⟩
