/-! ===== what no refusal says; orders one by one ===== -/
theorem ror_n {a b : zr} (h : ror a b = none) : a = none ∧ b = none := by
  cases a with
  | none => exact ⟨rfl, h⟩
  | some q => cases h
theorem rif_n {P : Prop} [Decidable P] {x : Int × Int} (h : (if P then some x else none) = (none : zr)) : ¬ P := fun q => by rw [if_pos q] at h; cases h
theorem zfnd_n {f : Nat → Int} {k : Int} : ∀ (m i : Nat), zfnd f k i m = -1 → ∀ p, i ≤ p → p < i + m → f p ≠ k
  | 0, i, _, p, h1, h2 => absurd h2 (by omega)
  | m + 1, i, h, p, h1, h2 => by
    have h3 : (if f i = k then (i : Int) else zfnd f k (i + 1) m) = -1 := h
    by_cases e : f i = k
    · rw [if_pos e] at h3; omega
    · rw [if_neg e] at h3
      by_cases e2 : p = i
      · subst e2; exact e
      · exact zfnd_n m (i + 1) h3 p (by omega) (by omega)
theorem zfnd_s {f : Nat → Int} {k : Int} : ∀ (m i : Nat) (p : Nat), i ≤ p → p < i + m → f p = k → (∀ j, i ≤ j → j < p → f j ≠ k) → zfnd f k i m = (p : Int)
  | 0, i, p, h1, h2, _, _ => absurd h2 (by omega)
  | m + 1, i, p, h1, h2, h3, h4 => by
    show (if f i = k then (i : Int) else zfnd f k (i + 1) m) = (p : Int)
    by_cases e : p = i
    · subst e; rw [if_pos h3]
    · rw [if_neg (h4 i (Nat.le_refl _) (by omega))]
      exact zfnd_s m (i + 1) p (by omega) (by omega) h3 (fun j q1 q2 => h4 j (by omega) q2)
theorem zfnd_x {f : Nat → Int} {k : Int} : ∀ (m i : Nat), zfnd f k i m ≠ -1 → ∃ p, i ≤ p ∧ p < i + m ∧ f p = k ∧ zfnd f k i m = (p : Int)
  | 0, i, h => absurd rfl h
  | m + 1, i, h => by
    have h3 : (if f i = k then (i : Int) else zfnd f k (i + 1) m) ≠ -1 := h
    by_cases e : f i = k
    · exact ⟨i, Nat.le_refl _, by omega, e, if_pos e⟩
    · rw [if_neg e] at h3
      obtain ⟨p, h4, h5, h6, h7⟩ := zfnd_x m (i + 1) h3
      exact ⟨p, by omega, by omega, h6, (if_neg e).trans h7⟩
theorem rMend_n {c : Nat → Int} {w k : Nat} (h : rMend c w k = none) : c (61 + k) = -1 ∧ c (113 + w) ≤ 5 ∧ c (25 + k) ≠ 0 ∧ 1 ≤ c (109 + w) ∧ 1 ≤ c 2 := by
  obtain ⟨h1, h⟩ := ror_n h
  obtain ⟨h2, h⟩ := ror_n h
  obtain ⟨h3, h⟩ := ror_n h
  obtain ⟨h4, h5⟩ := ror_n h
  have q1 := rif_n h1; have q2 := rif_n h2; have q3 := rif_n h3; have q4 := rif_n h4; have q5 := rif_n h5
  exact ⟨by omega, by omega, by omega, by omega, by omega⟩
theorem rSew_n {c : Nat → Int} {w k : Nat} {n : Int} (h : rSew c w k n = none) : c (61 + k) = -1 ∧ c (113 + w) ≤ 5 ∧ n ≤ c (37 + k) ∧ n ≤ c 1 ∧ (n + 10 - 1) / 10 ≤ c (109 + w) ∧ (n + 5 - 1) / 5 ≤ c 2 := by
  obtain ⟨h1, h⟩ := ror_n h
  obtain ⟨h2, h⟩ := ror_n h
  obtain ⟨h3, h⟩ := ror_n h
  obtain ⟨h6, h⟩ := ror_n h
  obtain ⟨h4, h5⟩ := ror_n h
  have q1 := rif_n h1; have q2 := rif_n h2; have q3 := rif_n h3; have q4 := rif_n h4; have q5 := rif_n h5; have q6 := rif_n h6
  exact ⟨by omega, by omega, by omega, by omega, by omega, by omega⟩
theorem rWiden_n {c : Nat → Int} {w k : Nat} (h : rWiden c w k = none) : c (61 + k) = -1 ∧ c (113 + w) ≤ 5 ∧ c (13 + k) < 70 ∧ 2 ≤ c (109 + w) ∧ 3 ≤ c 2 := by
  obtain ⟨h1, h⟩ := ror_n h
  obtain ⟨h2, h⟩ := ror_n h
  obtain ⟨h3, h⟩ := ror_n h
  obtain ⟨h4, h5⟩ := ror_n h
  have q1 := rif_n h1; have q2 := rif_n h2; have q3 := rif_n h3; have q4 := rif_n h4; have q5 := rif_n h5
  exact ⟨by omega, by omega, by omega, by omega, by omega⟩
theorem rPatch_n {c : Nat → Int} {w : Nat} (h : rPatch c w = none) : c (113 + w) ≤ 5 ∧ zsum c 149 32 ≠ 0 ∧ c 3 ≠ 0 ∧ 1 ≤ c (109 + w) := by
  obtain ⟨h1, h⟩ := ror_n h
  obtain ⟨h2, h⟩ := ror_n h
  obtain ⟨h3, h4⟩ := ror_n h
  have q1 := rif_n h1; have q2 := rif_n h2; have q3 := rif_n h3; have q4 := rif_n h4
  exact ⟨by omega, q2, q3, by omega⟩
theorem rWear_n {c : Nat → Int} {a k : Nat} (h : rWear c (a : Int) k = none) : c (49 + k) = -1 ∨ c (49 + k) = (a : Int) := by
  have q := rif_n h
  unfold zother at q
  omega
theorem rLoaded_n {D : Int} {c : Nat → Int} {t : Int} (hg : Rg D c) (h : rLoaded c t = none) : ∀ p : Nat, (p : Int) < c 12 → c (125 + p) ≠ t := fun p hp => by
  have q := rif_n h
  have g := hg.loaded
  exact zfnd_n (f := fun p => c (125 + p)) (k := t) (c 12).toNat 0 (Decidable.not_not.mp q) p (by omega) (by omega)
theorem rPack_n {D : Int} {c : Nat → Int} {k t : Nat} (hg : Rg D c) (h : rPack c k t = none) : c (61 + k) = -1 ∧ (∀ p : Nat, (p : Int) < c 12 → c (125 + p) ≠ (t : Int)) ∧ c (121 + t) < 5 := by
  obtain ⟨h1, h⟩ := ror_n h
  obtain ⟨h2, h3⟩ := ror_n h
  have q1 := rif_n h1; have q3 := rif_n h3
  exact ⟨by omega, rLoaded_n hg h2, by omega⟩
theorem rUnpack_n {D : Int} {c : Nat → Int} {k : Nat} (hg : Rg D c) (h : rUnpack c k = none) : c (61 + k) ≠ -1 ∧ ∀ p : Nat, (p : Int) < c 12 → c (125 + p) ≠ c (61 + k) := by
  obtain ⟨h1, h2⟩ := ror_n h
  exact ⟨rif_n h1, rLoaded_n hg h2⟩
theorem rGo_n {c : Nat → Int} {a : Nat} (h : rGo c a = none) : c (97 + a) ≠ -1 ∧ c (61 + (c (97 + a)).toNat) = -1 ∧ ¬ zopen c (c (97 + a)).toNat a ∧ zsum c 149 32 ≤ 8 := by
  obtain ⟨h1, h⟩ := ror_n h
  obtain ⟨h2, h⟩ := ror_n h
  obtain ⟨h3, h4⟩ := ror_n h
  obtain ⟨h5, h3⟩ := ror_n h3
  obtain ⟨h6, h7⟩ := ror_n h3
  have q1 := rif_n h1; have q2 := rif_n h2; have q4 := rif_n h4; have q5 := rif_n h5; have q6 := rif_n h6; have q7 := rif_n h7
  exact ⟨q1, by omega, by unfold zopen; omega, by omega⟩
abbrev okind (k : Int) : Prop := k = 115 ∨ k = 119 ∨ k = 107 ∨ k = 108 ∨ k = 117 ∨ k = 103 ∨ k = 112
def oNm (c : Nat → Int) (k f s : Int) : Bool := if k = 115 then decide ((0 ≤ f ∧ f < c 10) ∧ 0 ≤ s ∧ s < c 8) else if k = 119 then decide ((0 ≤ f ∧ f < c 9) ∧ 0 ≤ s ∧ s < c 8) else if k = 107 then decide ((0 ≤ f ∧ f < c 8) ∧ 0 ≤ s ∧ s < c 11) else if k = 108 then decide (0 ≤ f ∧ f < c 11) else if k = 117 then true else if k = 103 then decide (0 ≤ f ∧ f < c 9) else decide (1 ≤ f ∧ f ≤ 60)
def oRf (c : Nat → Int) (k f s : Int) : zr := if k = 115 then rMend c f.toNat s.toNat else if k = 119 then rWear c f s.toNat else if k = 107 then rPack c f.toNat s.toNat else if k = 108 then rLoaded c f else if k = 117 then rUnload c else if k = 103 then rGo c f.toNat else none
def oDo (c : Nat → Int) (k f s : Int) : Nat → Int := if k = 115 then sMend c f.toNat s.toNat else if k = 119 then sGive c f.toNat s.toNat else if k = 107 then sPack c f.toNat s.toNat (c (121 + s.toNat)).toNat else if k = 108 then sLoad c f.toNat (c 12).toNat else if k = 117 then sUnload c (c 12 + (-1)).toNat else if k = 103 then sShow c f.toNat (c (97 + f.toNat)).toNat else zpassC f.toNat c
theorem ib1_T {P : Prop} [Decidable P] (h : P) : (1 : Int) = ib1 (decide P) := by rw [decide_eq_true h]; rfl
theorem ib1_F {P : Prop} [Decidable P] (h : ¬ P) : (0 : Int) = ib1 (decide P) := by rw [decide_eq_false h]; rfl
theorem ib1_E {P : Prop} [Decidable P] : (if P then (1 : Int) else 0) = ib1 (decide P) := by
  by_cases h : P
  · rw [if_pos h]; exact ib1_T h
  · rw [if_neg h]; exact ib1_F h
theorem z01 {P : Prop} [Decidable P] : zi (if P then (1 : Int) else 0) := by split <;> exact ⟨by decide, by decide⟩
theorem z01n {P : Prop} [Decidable P] : narrow .boolean (.int (Int32.ofInt (if P then (1 : Int) else 0))) = .int (Int32.ofInt (if P then (1 : Int) else 0)) := zb_nar (by split <;> simp)
theorem oNm_115 {c : Nat → Int} {f s : Int} : oNm c 115 f s = decide ((0 ≤ f ∧ f < c 10) ∧ 0 ≤ s ∧ s < c 8) := by unfold oNm;  rw [if_pos rfl]
theorem oRf_115 {c : Nat → Int} {f s : Int} : oRf c 115 f s = rMend c f.toNat s.toNat := by unfold oRf;  rw [if_pos rfl]
theorem oDo_115 {c : Nat → Int} {f s : Int} : oDo c 115 f s = sMend c f.toNat s.toNat := by unfold oDo;  rw [if_pos rfl]
theorem oNm_119 {c : Nat → Int} {f s : Int} : oNm c 119 f s = decide ((0 ≤ f ∧ f < c 9) ∧ 0 ≤ s ∧ s < c 8) := by unfold oNm; rw [if_neg (by decide)]; rw [if_pos rfl]
theorem oRf_119 {c : Nat → Int} {f s : Int} : oRf c 119 f s = rWear c f s.toNat := by unfold oRf; rw [if_neg (by decide)]; rw [if_pos rfl]
theorem oDo_119 {c : Nat → Int} {f s : Int} : oDo c 119 f s = sGive c f.toNat s.toNat := by unfold oDo; rw [if_neg (by decide)]; rw [if_pos rfl]
theorem oNm_107 {c : Nat → Int} {f s : Int} : oNm c 107 f s = decide ((0 ≤ f ∧ f < c 8) ∧ 0 ≤ s ∧ s < c 11) := by unfold oNm; rw [if_neg (by decide)]; rw [if_neg (by decide)]; rw [if_pos rfl]
theorem oRf_107 {c : Nat → Int} {f s : Int} : oRf c 107 f s = rPack c f.toNat s.toNat := by unfold oRf; rw [if_neg (by decide)]; rw [if_neg (by decide)]; rw [if_pos rfl]
theorem oDo_107 {c : Nat → Int} {f s : Int} : oDo c 107 f s = sPack c f.toNat s.toNat (c (121 + s.toNat)).toNat := by unfold oDo; rw [if_neg (by decide)]; rw [if_neg (by decide)]; rw [if_pos rfl]
theorem oNm_108 {c : Nat → Int} {f s : Int} : oNm c 108 f s = decide (0 ≤ f ∧ f < c 11) := by unfold oNm; rw [if_neg (by decide)]; rw [if_neg (by decide)]; rw [if_neg (by decide)]; rw [if_pos rfl]
theorem oRf_108 {c : Nat → Int} {f s : Int} : oRf c 108 f s = rLoaded c f := by unfold oRf; rw [if_neg (by decide)]; rw [if_neg (by decide)]; rw [if_neg (by decide)]; rw [if_pos rfl]
theorem oDo_108 {c : Nat → Int} {f s : Int} : oDo c 108 f s = sLoad c f.toNat (c 12).toNat := by unfold oDo; rw [if_neg (by decide)]; rw [if_neg (by decide)]; rw [if_neg (by decide)]; rw [if_pos rfl]
theorem oNm_117 {c : Nat → Int} {f s : Int} : oNm c 117 f s = true := by unfold oNm; rw [if_neg (by decide)]; rw [if_neg (by decide)]; rw [if_neg (by decide)]; rw [if_neg (by decide)]; rw [if_pos rfl]
theorem oRf_117 {c : Nat → Int} {f s : Int} : oRf c 117 f s = rUnload c := by unfold oRf; rw [if_neg (by decide)]; rw [if_neg (by decide)]; rw [if_neg (by decide)]; rw [if_neg (by decide)]; rw [if_pos rfl]
theorem oDo_117 {c : Nat → Int} {f s : Int} : oDo c 117 f s = sUnload c (c 12 + (-1)).toNat := by unfold oDo; rw [if_neg (by decide)]; rw [if_neg (by decide)]; rw [if_neg (by decide)]; rw [if_neg (by decide)]; rw [if_pos rfl]
theorem oNm_103 {c : Nat → Int} {f s : Int} : oNm c 103 f s = decide (0 ≤ f ∧ f < c 9) := by unfold oNm; rw [if_neg (by decide)]; rw [if_neg (by decide)]; rw [if_neg (by decide)]; rw [if_neg (by decide)]; rw [if_neg (by decide)]; rw [if_pos rfl]
theorem oRf_103 {c : Nat → Int} {f s : Int} : oRf c 103 f s = rGo c f.toNat := by unfold oRf; rw [if_neg (by decide)]; rw [if_neg (by decide)]; rw [if_neg (by decide)]; rw [if_neg (by decide)]; rw [if_neg (by decide)]; rw [if_pos rfl]
theorem oDo_103 {c : Nat → Int} {f s : Int} : oDo c 103 f s = sShow c f.toNat (c (97 + f.toNat)).toNat := by unfold oDo; rw [if_neg (by decide)]; rw [if_neg (by decide)]; rw [if_neg (by decide)]; rw [if_neg (by decide)]; rw [if_neg (by decide)]; rw [if_pos rfl]
theorem oNm_112 {c : Nat → Int} {f s : Int} : oNm c 112 f s = decide (1 ≤ f ∧ f ≤ 60) := by unfold oNm; rw [if_neg (by decide)]; rw [if_neg (by decide)]; rw [if_neg (by decide)]; rw [if_neg (by decide)]; rw [if_neg (by decide)]; rw [if_neg (by decide)];
theorem oRf_112 {c : Nat → Int} {f s : Int} : oRf c 112 f s = none := by unfold oRf; rw [if_neg (by decide)]; rw [if_neg (by decide)]; rw [if_neg (by decide)]; rw [if_neg (by decide)]; rw [if_neg (by decide)]; rw [if_neg (by decide)];
theorem oDo_112 {c : Nat → Int} {f s : Int} : oDo c 112 f s = zpassC f.toNat c := by unfold oDo; rw [if_neg (by decide)]; rw [if_neg (by decide)]; rw [if_neg (by decide)]; rw [if_neg (by decide)]; rw [if_neg (by decide)]; rw [if_neg (by decide)];
/-- a change by an order keeps it -/
theorem Inv.order {D : Int} {c : Nat → Int} {k f s : Int} (h : Inv D c) (hk : okind k) (hn : oNm c k f s = true) (hr : oRf c k f s = none) : Inv (D + 60) (oDo c k f s) := by
  have g8 := h.1.coats
  have g9 := h.1.acts
  have g10 := h.1.women
  have g11 := h.1.trunks
  have g12 := h.1.loaded
  rcases hk with rfl | rfl | rfl | rfl | rfl | rfl | rfl
  · rw [oNm_115] at hn; rw [oRf_115] at hr; rw [oDo_115]
    have hb := of_decide_eq_true hn
    obtain ⟨q1, q2, q3, q4, q5⟩ := rMend_n hr
    have g := h.1.rips (k := s.toNat) (by omega)
    exact (h.mend (by omega) (by omega) q4 q5 (by omega)).mono (by omega)
  · rw [oNm_119] at hn; rw [oRf_119] at hr; rw [oDo_119]
    have hb := of_decide_eq_true hn
    have e : ((f.toNat : Nat) : Int) = f := by omega
    rw [← e] at hr
    exact (h.give (by omega) (by omega) (rWear_n hr)).mono (by omega)
  · rw [oNm_107] at hn; rw [oRf_107] at hr; rw [oDo_107]
    have hb := of_decide_eq_true hn
    obtain ⟨q1, q2, q3⟩ := rPack_n h.1 hr
    have g := h.1.intr (k := s.toNat) (by omega)
    exact (h.pack (by omega) (by omega) (by omega) (by omega) q1).mono (by omega)
  · rw [oNm_108] at hn; rw [oRf_108] at hr; rw [oDo_108]
    have hb := of_decide_eq_true hn
    have q := rLoaded_n h.1 hr
    have h4 : c 12 ≠ 4 := fun z => by
      obtain ⟨p, p1, p2⟩ := h.2.2.2.1.full h.1 z (t := f.toNat) (by omega)
      exact q p (by omega) (by omega)
    exact (h.load (by omega) (by omega) (by omega) (fun p hp => by have := q p (by omega); omega)).mono (by omega)
  · rw [oRf_117] at hr; rw [oDo_117]
    have q := rif_n hr
    exact (h.unload (by omega)).mono (by omega)
  · rw [oNm_103] at hn; rw [oRf_103] at hr; rw [oDo_103]
    have hb := of_decide_eq_true hn
    obtain ⟨q1, q2, q3, q4⟩ := rGo_n hr
    obtain ⟨j, hj, q5, q6, q7⟩ := h.2.1.2 f.toNat (by omega) (by omega) q1
    exact (h.show (by omega) (by omega)).mono (by omega)
  · rw [oNm_112] at hn; rw [oDo_112]
    have hb := of_decide_eq_true hn
    exact (h.pass f.toNat).mono (by omega)
/-- orders from i on, m of them -/
def crO (K F S : Nat → Int) : Nat → Nat → (Nat → Int) → Int × zr × (Nat → Int)
  | 0, _, c => (0, none, c)
  | m + 1, i, c => if oNm c (K i) (F i) (S i) = true then (match oRf c (K i) (F i) (S i) with
    | some x => (1, some x, c)
    | none => crO K F S m (i + 1) (oDo c (K i) (F i) (S i))) else (2, none, c)
section CRO
variable {K F S : Nat → Int} {m i : Nat} {c : Nat → Int}
theorem crO_w (h : ¬ oNm c (K i) (F i) (S i) = true) : crO K F S (m + 1) i c = (2, none, c) := if_neg h
theorem crO_r {x : Int × Int} (h : oNm c (K i) (F i) (S i) = true) (h2 : oRf c (K i) (F i) (S i) = some x) : crO K F S (m + 1) i c = (1, some x, c) := by
  refine (if_pos h).trans ?_
  rw [h2]
theorem crO_g (h : oNm c (K i) (F i) (S i) = true) (h2 : oRf c (K i) (F i) (S i) = none) : crO K F S (m + 1) i c = crO K F S m (i + 1) (oDo c (K i) (F i) (S i)) := by
  refine (if_pos h).trans ?_
  rw [h2]
end CRO
/-! ===== Orders ===== -/
set_option maxHeartbeats 1000000 in
theorem c_X3_namesRightly {E : zE} {k f s D : Int} {σ : Nat → Nat → Int} {c : Nat → Int} {l : (Nat → Int64) × (Nat → UInt64)} (hg : Inv D c) (hk : okind k) (hf : zi f) (hs2 : zi s) : Rv E yX3_namesRightly (Cond.code yX3_namesRightly cX3_namesRightly 4 (Option.some FieldType.boolean)) 2 [vr 1, vi k, vi f, vi s] ((zs σ 21 c, l)) (vi (ib1 (oNm c k f s))) ((zs σ 21 c, l)) := by
  refine Ctr_of (own := RX3) (by decide +kernel) rfl rfl (fun Y hX hR hnx => ?_)
  have g8 := hg.1.coats
  have g9 := hg.1.acts
  have g10 := hg.1.women
  have g11 := hg.1.trunks
  have g12 := hg.1.loaded
  refine z_b hX (fo_no RX3) [.iload_n 1] 1 (by decide +kernel) rfl ?_
  rcases hk with hs | hs | hs | hs | hs | hs | hs
  · refine z_tIn hX (dflt := 180) (l0 := 103) (h0 := 119) (offs := #[157, 180, 180, 180, 127, 149, 180, 180, 180, 163, 180, 180, 83, 180, 155, 180, 105]) (len := 83) (off := 83) 84 (by decide +kernel) ⟨by omega, by omega⟩ (by omega) (by omega) (by rw [hs]; rfl) (by decide) ?_
    refine z_b hX (fo_no RX3) [.aload_n 0, .iload_n 2] 86 (by decide +kernel) rfl ?_
    refine z_cV hX m_X6_hasSeamstress l_X3_40 p_X6_hasSeamstress (c_X6_hasSeamstress hf ⟨by omega, by omega⟩) rfl rfl rfl rfl rfl rfl (by decide +kernel) ?_
    refine z_if_eq hX (off := 15) 104 (by decide +kernel) (by decide) z01 (fun c89 => ?_) (fun c89 => ?_)
    · refine z_b hX (fo_no RX3) [.iconst 0] 105 (by decide +kernel) rfl ?_
      exact z_zret hX hR (by decide +kernel) (by decide +kernel) ⟨by rw [hs, oNm_115]; first | exact congrArg (fun z => Sum.inl (some (vi z))) (ib1_T ⟨zif1 c89, zif1 c97⟩) | exact congrArg (fun z => Sum.inl (some (vi z))) (ib1_F (fun q => zif0 c97 q.2)) | exact congrArg (fun z => Sum.inl (some (vi z))) (ib1_F (fun q => zif0 c89 q.1)), rfl⟩
    · refine z_b hX (fo_no RX3) [.aload_n 0, .iload_n 3] 94 (by decide +kernel) rfl ?_
      refine z_cV hX m_X6_hasCoat l_X3_46 p_X6_hasCoat (c_X6_hasCoat hs2 ⟨by omega, by omega⟩) rfl rfl rfl rfl rfl rfl (by decide +kernel) ?_
      refine z_if_eq hX (off := 7) 104 (by decide +kernel) (by decide) z01 (fun c97 => ?_) (fun c97 => ?_)
      · refine z_b hX (fo_no RX3) [.iconst 0] 105 (by decide +kernel) rfl ?_
        exact z_zret hX hR (by decide +kernel) (by decide +kernel) ⟨by rw [hs, oNm_115]; first | exact congrArg (fun z => Sum.inl (some (vi z))) (ib1_T ⟨zif1 c89, zif1 c97⟩) | exact congrArg (fun z => Sum.inl (some (vi z))) (ib1_F (fun q => zif0 c97 q.2)) | exact congrArg (fun z => Sum.inl (some (vi z))) (ib1_F (fun q => zif0 c89 q.1)), rfl⟩
      · refine z_b hX (fo_no RX3) [.iconst 1] 101 (by decide +kernel) rfl ?_
        refine z_goto hX (off := 4) 105 (by decide +kernel) (by decide) ?_
        exact z_zret hX hR (by decide +kernel) (by decide +kernel) ⟨by rw [hs, oNm_115]; first | exact congrArg (fun z => Sum.inl (some (vi z))) (ib1_T ⟨zif1 c89, zif1 c97⟩) | exact congrArg (fun z => Sum.inl (some (vi z))) (ib1_F (fun q => zif0 c97 q.2)) | exact congrArg (fun z => Sum.inl (some (vi z))) (ib1_F (fun q => zif0 c89 q.1)), rfl⟩
  · refine z_tIn hX (dflt := 180) (l0 := 103) (h0 := 119) (offs := #[157, 180, 180, 180, 127, 149, 180, 180, 180, 163, 180, 180, 83, 180, 155, 180, 105]) (len := 83) (off := 105) 106 (by decide +kernel) ⟨by omega, by omega⟩ (by omega) (by omega) (by rw [hs]; rfl) (by decide) ?_
    refine z_b hX (fo_no RX3) [.aload_n 0, .iload_n 2] 108 (by decide +kernel) rfl ?_
    refine z_cV hX m_X6_hasAct l_X3_49 p_X6_hasAct (c_X6_hasAct hf ⟨by omega, by omega⟩) rfl rfl rfl rfl rfl rfl (by decide +kernel) ?_
    refine z_if_eq hX (off := 15) 126 (by decide +kernel) (by decide) z01 (fun c111 => ?_) (fun c111 => ?_)
    · refine z_b hX (fo_no RX3) [.iconst 0] 127 (by decide +kernel) rfl ?_
      exact z_zret hX hR (by decide +kernel) (by decide +kernel) ⟨by rw [hs, oNm_119]; first | exact congrArg (fun z => Sum.inl (some (vi z))) (ib1_T ⟨zif1 c111, zif1 c119⟩) | exact congrArg (fun z => Sum.inl (some (vi z))) (ib1_F (fun q => zif0 c119 q.2)) | exact congrArg (fun z => Sum.inl (some (vi z))) (ib1_F (fun q => zif0 c111 q.1)), rfl⟩
    · refine z_b hX (fo_no RX3) [.aload_n 0, .iload_n 3] 116 (by decide +kernel) rfl ?_
      refine z_cV hX m_X6_hasCoat l_X3_46 p_X6_hasCoat (c_X6_hasCoat hs2 ⟨by omega, by omega⟩) rfl rfl rfl rfl rfl rfl (by decide +kernel) ?_
      refine z_if_eq hX (off := 7) 126 (by decide +kernel) (by decide) z01 (fun c119 => ?_) (fun c119 => ?_)
      · refine z_b hX (fo_no RX3) [.iconst 0] 127 (by decide +kernel) rfl ?_
        exact z_zret hX hR (by decide +kernel) (by decide +kernel) ⟨by rw [hs, oNm_119]; first | exact congrArg (fun z => Sum.inl (some (vi z))) (ib1_T ⟨zif1 c111, zif1 c119⟩) | exact congrArg (fun z => Sum.inl (some (vi z))) (ib1_F (fun q => zif0 c119 q.2)) | exact congrArg (fun z => Sum.inl (some (vi z))) (ib1_F (fun q => zif0 c111 q.1)), rfl⟩
      · refine z_b hX (fo_no RX3) [.iconst 1] 123 (by decide +kernel) rfl ?_
        refine z_goto hX (off := 4) 127 (by decide +kernel) (by decide) ?_
        exact z_zret hX hR (by decide +kernel) (by decide +kernel) ⟨by rw [hs, oNm_119]; first | exact congrArg (fun z => Sum.inl (some (vi z))) (ib1_T ⟨zif1 c111, zif1 c119⟩) | exact congrArg (fun z => Sum.inl (some (vi z))) (ib1_F (fun q => zif0 c119 q.2)) | exact congrArg (fun z => Sum.inl (some (vi z))) (ib1_F (fun q => zif0 c111 q.1)), rfl⟩
  · refine z_tIn hX (dflt := 180) (l0 := 103) (h0 := 119) (offs := #[157, 180, 180, 180, 127, 149, 180, 180, 180, 163, 180, 180, 83, 180, 155, 180, 105]) (len := 83) (off := 127) 128 (by decide +kernel) ⟨by omega, by omega⟩ (by omega) (by omega) (by rw [hs]; rfl) (by decide) ?_
    refine z_b hX (fo_no RX3) [.aload_n 0, .iload_n 2] 130 (by decide +kernel) rfl ?_
    refine z_cV hX m_X6_hasCoat l_X3_46 p_X6_hasCoat (c_X6_hasCoat hf ⟨by omega, by omega⟩) rfl rfl rfl rfl rfl rfl (by decide +kernel) ?_
    refine z_if_eq hX (off := 15) 148 (by decide +kernel) (by decide) z01 (fun c133 => ?_) (fun c133 => ?_)
    · refine z_b hX (fo_no RX3) [.iconst 0] 149 (by decide +kernel) rfl ?_
      exact z_zret hX hR (by decide +kernel) (by decide +kernel) ⟨by rw [hs, oNm_107]; first | exact congrArg (fun z => Sum.inl (some (vi z))) (ib1_T ⟨zif1 c133, zif1 c141⟩) | exact congrArg (fun z => Sum.inl (some (vi z))) (ib1_F (fun q => zif0 c141 q.2)) | exact congrArg (fun z => Sum.inl (some (vi z))) (ib1_F (fun q => zif0 c133 q.1)), rfl⟩
    · refine z_b hX (fo_no RX3) [.aload_n 0, .iload_n 3] 138 (by decide +kernel) rfl ?_
      refine z_cV hX m_X6_hasTrunk l_X3_52 p_X6_hasTrunk (c_X6_hasTrunk hs2 ⟨by omega, by omega⟩) rfl rfl rfl rfl rfl rfl (by decide +kernel) ?_
      refine z_if_eq hX (off := 7) 148 (by decide +kernel) (by decide) z01 (fun c141 => ?_) (fun c141 => ?_)
      · refine z_b hX (fo_no RX3) [.iconst 0] 149 (by decide +kernel) rfl ?_
        exact z_zret hX hR (by decide +kernel) (by decide +kernel) ⟨by rw [hs, oNm_107]; first | exact congrArg (fun z => Sum.inl (some (vi z))) (ib1_T ⟨zif1 c133, zif1 c141⟩) | exact congrArg (fun z => Sum.inl (some (vi z))) (ib1_F (fun q => zif0 c141 q.2)) | exact congrArg (fun z => Sum.inl (some (vi z))) (ib1_F (fun q => zif0 c133 q.1)), rfl⟩
      · refine z_b hX (fo_no RX3) [.iconst 1] 145 (by decide +kernel) rfl ?_
        refine z_goto hX (off := 4) 149 (by decide +kernel) (by decide) ?_
        exact z_zret hX hR (by decide +kernel) (by decide +kernel) ⟨by rw [hs, oNm_107]; first | exact congrArg (fun z => Sum.inl (some (vi z))) (ib1_T ⟨zif1 c133, zif1 c141⟩) | exact congrArg (fun z => Sum.inl (some (vi z))) (ib1_F (fun q => zif0 c141 q.2)) | exact congrArg (fun z => Sum.inl (some (vi z))) (ib1_F (fun q => zif0 c133 q.1)), rfl⟩
  · refine z_tIn hX (dflt := 180) (l0 := 103) (h0 := 119) (offs := #[157, 180, 180, 180, 127, 149, 180, 180, 180, 163, 180, 180, 83, 180, 155, 180, 105]) (len := 83) (off := 149) 150 (by decide +kernel) ⟨by omega, by omega⟩ (by omega) (by omega) (by rw [hs]; rfl) (by decide) ?_
    refine z_b hX (fo_no RX3) [.aload_n 0, .iload_n 2] 152 (by decide +kernel) rfl ?_
    refine z_cV hX m_X6_hasTrunk l_X3_52 p_X6_hasTrunk (c_X6_hasTrunk hf ⟨by omega, by omega⟩) rfl rfl rfl rfl rfl rfl (by decide +kernel) ?_
    exact z_zret hX hR z01n (by decide +kernel) ⟨by rw [hs, oNm_108]; exact congrArg (fun z => Sum.inl (some (vi z))) ib1_E, rfl⟩
  · refine z_tIn hX (dflt := 180) (l0 := 103) (h0 := 119) (offs := #[157, 180, 180, 180, 127, 149, 180, 180, 180, 163, 180, 180, 83, 180, 155, 180, 105]) (len := 83) (off := 155) 156 (by decide +kernel) ⟨by omega, by omega⟩ (by omega) (by omega) (by rw [hs]; rfl) (by decide) ?_
    refine z_b hX (fo_no RX3) [.iconst 1] 157 (by decide +kernel) rfl ?_
    exact z_zret hX hR (by decide +kernel) (by decide +kernel) ⟨by rw [hs, oNm_117]; rfl, rfl⟩
  · refine z_tIn hX (dflt := 180) (l0 := 103) (h0 := 119) (offs := #[157, 180, 180, 180, 127, 149, 180, 180, 180, 163, 180, 180, 83, 180, 155, 180, 105]) (len := 83) (off := 157) 158 (by decide +kernel) ⟨by omega, by omega⟩ (by omega) (by omega) (by rw [hs]; rfl) (by decide) ?_
    refine z_b hX (fo_no RX3) [.aload_n 0, .iload_n 2] 160 (by decide +kernel) rfl ?_
    refine z_cV hX m_X6_hasAct l_X3_49 p_X6_hasAct (c_X6_hasAct hf ⟨by omega, by omega⟩) rfl rfl rfl rfl rfl rfl (by decide +kernel) ?_
    exact z_zret hX hR z01n (by decide +kernel) ⟨by rw [hs, oNm_103]; exact congrArg (fun z => Sum.inl (some (vi z))) ib1_E, rfl⟩
  · refine z_tIn hX (dflt := 180) (l0 := 103) (h0 := 119) (offs := #[157, 180, 180, 180, 127, 149, 180, 180, 180, 163, 180, 180, 83, 180, 155, 180, 105]) (len := 83) (off := 163) 164 (by decide +kernel) ⟨by omega, by omega⟩ (by omega) (by omega) (by rw [hs]; rfl) (by decide) ?_
    refine z_b hX (fo_no RX3) [.iload_n 2, .iconst 1] 166 (by decide +kernel) rfl ?_
    refine z_ic_lt hX (off := 13) 179 (by decide +kernel) (by decide) hf ⟨by omega, by omega⟩ (fun c166 => ?_) (fun c166 => ?_)
    · refine z_b hX (fo_no RX3) [.iconst 0] 180 (by decide +kernel) rfl ?_
      exact z_zret hX hR (by decide +kernel) (by decide +kernel) ⟨by rw [hs, oNm_112]; first | exact congrArg (fun z => Sum.inl (some (vi z))) (ib1_T ⟨by omega, by omega⟩) | exact congrArg (fun z => Sum.inl (some (vi z))) (ib1_F (by omega)), rfl⟩
    · refine z_b hX (fo_no RX3) [.iload_n 2, .bipush 60] 172 (by decide +kernel) rfl ?_
      refine z_ic_gt hX (off := 7) 179 (by decide +kernel) (by decide) hf ⟨by omega, by omega⟩ (fun c172 => ?_) (fun c172 => ?_)
      · refine z_b hX (fo_no RX3) [.iconst 0] 180 (by decide +kernel) rfl ?_
        exact z_zret hX hR (by decide +kernel) (by decide +kernel) ⟨by rw [hs, oNm_112]; first | exact congrArg (fun z => Sum.inl (some (vi z))) (ib1_T ⟨by omega, by omega⟩) | exact congrArg (fun z => Sum.inl (some (vi z))) (ib1_F (by omega)), rfl⟩
      · refine z_b hX (fo_no RX3) [.iconst 1] 176 (by decide +kernel) rfl ?_
        refine z_goto hX (off := 4) 180 (by decide +kernel) (by decide) ?_
        exact z_zret hX hR (by decide +kernel) (by decide +kernel) ⟨by rw [hs, oNm_112]; first | exact congrArg (fun z => Sum.inl (some (vi z))) (ib1_T ⟨by omega, by omega⟩) | exact congrArg (fun z => Sum.inl (some (vi z))) (ib1_F (by omega)), rfl⟩
set_option maxHeartbeats 1000000 in
theorem c_X3_isRefused {E : zE} {k f s D : Int} {σ : Nat → Nat → Int} {c : Nat → Int} {l : (Nat → Int64) × (Nat → UInt64)} (hg : Inv D c) (hk : okind k) (hn : oNm c k f s = true) : Rv E yX3_isRefused (Cond.code yX3_isRefused cX3_isRefused 5 (Option.some FieldType.boolean)) 4 [vr 14, vr 1, vi k, vi f, vi s] ((zs σ 21 c, l)) (vi (zo (oRf c k f s))) ((zs (zoσ (oRf c k f s) σ) 21 c, l)) := by
  refine Ctr_of (own := RX3) (by decide +kernel) rfl rfl (fun Y hX hR hnx => ?_)
  have g8 := hg.1.coats
  have g9 := hg.1.acts
  have g10 := hg.1.women
  have g11 := hg.1.trunks
  have g12 := hg.1.loaded
  refine z_b hX (fo_no RX3) [.iload_n 2] 1 (by decide +kernel) rfl ?_
  rcases hk with hs | hs | hs | hs | hs | hs | hs
  · have hn2 := hn
    rw [hs, oNm_115] at hn2
    have hb := of_decide_eq_true hn2
    obtain ⟨w, rfl⟩ : ∃ w : Nat, f = (w : Int) := ⟨f.toNat, by omega⟩
    obtain ⟨q, rfl⟩ : ∃ q : Nat, s = (q : Int) := ⟨s.toNat, by omega⟩
    have e : oRf c k (w : Int) (q : Int) = rMend c w q := by rw [hs, oRf_115]; (try simp only [Int.toNat_natCast])
    refine z_tIn hX (dflt := 130) (l0 := 103) (h0 := 119) (offs := #[123, 130, 130, 130, 101, 110, 130, 130, 130, 130, 130, 130, 83, 130, 117, 130, 92]) (len := 83) (off := 83) 84 (by decide +kernel) ⟨by omega, by omega⟩ (by omega) (by omega) (by rw [hs]; rfl) (by decide) ?_
    refine z_b hX (fo_no RX3) [.aload_n 0, .aload_n 1, .iload_n 3, .iload 4] 89 (by decide +kernel) rfl ?_
    refine z_cV hX m_X5_againstMending l_X3_55 p_X5_againstMending (c_X5_againstMending hg.1 (w := w) (k := q) (by omega) (by omega)) rfl rfl rfl rfl rfl rfl (by decide +kernel) ?_
    exact z_zret hX hR (zo_nar _) (by decide +kernel) ⟨by rw [e], by rw [e]⟩
  · have hn2 := hn
    rw [hs, oNm_119] at hn2
    have hb := of_decide_eq_true hn2
    obtain ⟨w, rfl⟩ : ∃ w : Nat, f = (w : Int) := ⟨f.toNat, by omega⟩
    obtain ⟨q, rfl⟩ : ∃ q : Nat, s = (q : Int) := ⟨s.toNat, by omega⟩
    have e : oRf c k (w : Int) (q : Int) = rWear c (w : Int) q := by rw [hs, oRf_119]; (try simp only [Int.toNat_natCast])
    refine z_tIn hX (dflt := 130) (l0 := 103) (h0 := 119) (offs := #[123, 130, 130, 130, 101, 110, 130, 130, 130, 130, 130, 130, 83, 130, 117, 130, 92]) (len := 83) (off := 92) 93 (by decide +kernel) ⟨by omega, by omega⟩ (by omega) (by omega) (by rw [hs]; rfl) (by decide) ?_
    refine z_b hX (fo_no RX3) [.aload_n 0, .aload_n 1, .iload_n 3, .iload 4] 98 (by decide +kernel) rfl ?_
    refine z_cV hX m_X5_againstWearing l_X3_61 p_X5_againstWearing (c_X5_againstWearing hg.1 (a := w) (k := q) (by omega) (by omega)) rfl rfl rfl rfl rfl rfl (by decide +kernel) ?_
    exact z_zret hX hR (zo_nar _) (by decide +kernel) ⟨by rw [e], by rw [e]⟩
  · have hn2 := hn
    rw [hs, oNm_107] at hn2
    have hb := of_decide_eq_true hn2
    obtain ⟨w, rfl⟩ : ∃ w : Nat, f = (w : Int) := ⟨f.toNat, by omega⟩
    obtain ⟨q, rfl⟩ : ∃ q : Nat, s = (q : Int) := ⟨s.toNat, by omega⟩
    have e : oRf c k (w : Int) (q : Int) = rPack c w q := by rw [hs, oRf_107]; (try simp only [Int.toNat_natCast])
    refine z_tIn hX (dflt := 130) (l0 := 103) (h0 := 119) (offs := #[123, 130, 130, 130, 101, 110, 130, 130, 130, 130, 130, 130, 83, 130, 117, 130, 92]) (len := 83) (off := 101) 102 (by decide +kernel) ⟨by omega, by omega⟩ (by omega) (by omega) (by rw [hs]; rfl) (by decide) ?_
    refine z_b hX (fo_no RX3) [.aload_n 0, .aload_n 1, .iload_n 3, .iload 4] 107 (by decide +kernel) rfl ?_
    refine z_cV hX m_X5_againstPacking l_X3_64 p_X5_againstPacking (c_X5_againstPacking hg.1 (k := w) (t := q) (by omega) (by omega)) rfl rfl rfl rfl rfl rfl (by decide +kernel) ?_
    exact z_zret hX hR (zo_nar _) (by decide +kernel) ⟨by rw [e], by rw [e]⟩
  · have hn2 := hn
    rw [hs, oNm_108] at hn2
    have hb := of_decide_eq_true hn2
    obtain ⟨w, rfl⟩ : ∃ w : Nat, f = (w : Int) := ⟨f.toNat, by omega⟩
    have e : oRf c k (w : Int) s = rLoaded c (w : Int) := by rw [hs, oRf_108]; (try simp only [Int.toNat_natCast])
    refine z_tIn hX (dflt := 130) (l0 := 103) (h0 := 119) (offs := #[123, 130, 130, 130, 101, 110, 130, 130, 130, 130, 130, 130, 83, 130, 117, 130, 92]) (len := 83) (off := 110) 111 (by decide +kernel) ⟨by omega, by omega⟩ (by omega) (by omega) (by rw [hs]; rfl) (by decide) ?_
    refine z_b hX (fo_no RX3) [.aload_n 0, .aload_n 1, .iload_n 3] 114 (by decide +kernel) rfl ?_
    refine z_cV hX m_X5_againstLoading l_X3_67 p_X5_againstLoading (c_X5_againstLoading hg.1 (t := w) (by omega)) rfl rfl rfl rfl rfl rfl (by decide +kernel) ?_
    exact z_zret hX hR (zo_nar _) (by decide +kernel) ⟨by rw [e], by rw [e]⟩
  · have hn2 := hn
    rw [hs, oNm_117] at hn2
    have e : oRf c k f s = rUnload c := by rw [hs, oRf_117]; (try simp only [Int.toNat_natCast])
    refine z_tIn hX (dflt := 130) (l0 := 103) (h0 := 119) (offs := #[123, 130, 130, 130, 101, 110, 130, 130, 130, 130, 130, 130, 83, 130, 117, 130, 92]) (len := 83) (off := 117) 118 (by decide +kernel) ⟨by omega, by omega⟩ (by omega) (by omega) (by rw [hs]; rfl) (by decide) ?_
    refine z_b hX (fo_no RX3) [.aload_n 0, .aload_n 1] 120 (by decide +kernel) rfl ?_
    refine z_cV hX m_X5_againstUnloading l_X3_71 p_X5_againstUnloading (c_X5_againstUnloading hg.1) rfl rfl rfl rfl rfl rfl (by decide +kernel) ?_
    exact z_zret hX hR (zo_nar _) (by decide +kernel) ⟨by rw [e], by rw [e]⟩
  · have hn2 := hn
    rw [hs, oNm_103] at hn2
    have hb := of_decide_eq_true hn2
    obtain ⟨w, rfl⟩ : ∃ w : Nat, f = (w : Int) := ⟨f.toNat, by omega⟩
    have e : oRf c k (w : Int) s = rGo c w := by rw [hs, oRf_103]; (try simp only [Int.toNat_natCast])
    refine z_tIn hX (dflt := 130) (l0 := 103) (h0 := 119) (offs := #[123, 130, 130, 130, 101, 110, 130, 130, 130, 130, 130, 130, 83, 130, 117, 130, 92]) (len := 83) (off := 123) 124 (by decide +kernel) ⟨by omega, by omega⟩ (by omega) (by omega) (by rw [hs]; rfl) (by decide) ?_
    refine z_b hX (fo_no RX3) [.aload_n 0, .aload_n 1, .iload_n 3] 127 (by decide +kernel) rfl ?_
    refine z_cV hX m_X5_againstGoingOn l_X3_75 p_X5_againstGoingOn (c_X5_againstGoingOn hg.1 (a := w) (by omega)) rfl rfl rfl rfl rfl rfl (by decide +kernel) ?_
    exact z_zret hX hR (zo_nar _) (by decide +kernel) ⟨by rw [e], by rw [e]⟩
  · have hn2 := hn
    rw [hs, oNm_112] at hn2
    have hb := of_decide_eq_true hn2
    obtain ⟨w, rfl⟩ : ∃ w : Nat, f = (w : Int) := ⟨f.toNat, by omega⟩
    have e : oRf c k (w : Int) s = none := by rw [hs, oRf_112]; (try simp only [Int.toNat_natCast])
    refine z_tIn hX (dflt := 130) (l0 := 103) (h0 := 119) (offs := #[123, 130, 130, 130, 101, 110, 130, 130, 130, 130, 130, 130, 83, 130, 117, 130, 92]) (len := 83) (off := 130) 131 (by decide +kernel) ⟨by omega, by omega⟩ (by omega) (by omega) (by rw [hs]; rfl) (by decide) ?_
    refine z_b hX (fo_no RX3) [.iconst 0] 132 (by decide +kernel) rfl ?_
    exact z_zret hX hR (by decide +kernel) (by decide +kernel) ⟨by rw [e]; rfl, by rw [e]; rfl⟩
set_option maxHeartbeats 1000000 in
theorem c_X3_carryOut {E : zE} {k f s D : Int} {σ : Nat → Nat → Int} {c : Nat → Int} {l : (Nat → Int64) × (Nat → UInt64)} (hg : Inv D c) (hD : D ≤ 1000000) (hk : okind k) (hn : oNm c k f s = true) (hr : oRf c k f s = none) : Rn E yX3_carryOut (Cond.code yX3_carryOut cX3_carryOut 4 (Option.none : Option FieldType)) 4 [vr 1, vi k, vi f, vi s] ((zs σ 21 c, l)) ((zs σ 21 (oDo c k f s), l)) := by
  refine Ctr_of (own := RX3) (by decide +kernel) rfl rfl (fun Y hX hR hnx => ?_)
  have g8 := hg.1.coats
  have g9 := hg.1.acts
  have g10 := hg.1.women
  have g11 := hg.1.trunks
  have g12 := hg.1.loaded
  refine z_b hX (fo_no RX3) [.iload_n 1] 1 (by decide +kernel) rfl ?_
  rcases hk with hs | hs | hs | hs | hs | hs | hs
  · have hn2 := hn
    rw [hs, oNm_115] at hn2
    have hb := of_decide_eq_true hn2
    obtain ⟨w, rfl⟩ : ∃ w : Nat, f = (w : Int) := ⟨f.toNat, by omega⟩
    obtain ⟨q, rfl⟩ : ∃ q : Nat, s = (q : Int) := ⟨s.toNat, by omega⟩
    have g := hg.1.sore (k := w) (by omega)
    have e : oDo c k (w : Int) (q : Int) = sMend c w q := by rw [hs, oDo_115]; (try simp only [Int.toNat_natCast])
    refine z_tIn hX (dflt := 148) (l0 := 103) (h0 := 119) (offs := #[130, 148, 148, 148, 103, 113, 148, 148, 148, 139, 148, 148, 83, 148, 122, 148, 93]) (len := 83) (off := 83) 84 (by decide +kernel) ⟨by omega, by omega⟩ (by omega) (by omega) (by rw [hs]; rfl) (by decide) ?_
    refine z_b hX (fo_no RX3) [.aload_n 0, .iload_n 2, .iload_n 3] 87 (by decide +kernel) rfl ?_
    refine z_cS hX m_X7_mend l_X3_78 p_X7_mend (c_X7_mend (w := w) (k := q) (by omega) (by omega) g) rfl rfl rfl rfl (by decide +kernel) ?_
    refine z_b hX (fo_no RX3) [.pop] 91 (by decide +kernel) rfl ?_
    refine z_goto hX (off := 58) 149 (by decide +kernel) (by decide) ?_
    exact z_vret hX hR (by decide +kernel) ⟨rfl, by rw [e]⟩
  · have hn2 := hn
    rw [hs, oNm_119] at hn2
    have hb := of_decide_eq_true hn2
    obtain ⟨w, rfl⟩ : ∃ w : Nat, f = (w : Int) := ⟨f.toNat, by omega⟩
    obtain ⟨q, rfl⟩ : ∃ q : Nat, s = (q : Int) := ⟨s.toNat, by omega⟩
    have e : oDo c k (w : Int) (q : Int) = sGive c w q := by rw [hs, oDo_119]; (try simp only [Int.toNat_natCast])
    refine z_tIn hX (dflt := 148) (l0 := 103) (h0 := 119) (offs := #[130, 148, 148, 148, 103, 113, 148, 148, 148, 139, 148, 148, 83, 148, 122, 148, 93]) (len := 83) (off := 93) 94 (by decide +kernel) ⟨by omega, by omega⟩ (by omega) (by omega) (by rw [hs]; rfl) (by decide) ?_
    refine z_b hX (fo_no RX3) [.aload_n 0, .iload_n 2, .iload_n 3] 97 (by decide +kernel) rfl ?_
    refine z_cS hX m_X9_give l_X3_84 p_X9_give (c_X9_give hg.1 (a := w) (k := q) (by omega) (by omega)) rfl rfl rfl rfl (by decide +kernel) ?_
    refine z_b hX (fo_no RX3) [.pop] 101 (by decide +kernel) rfl ?_
    refine z_goto hX (off := 48) 149 (by decide +kernel) (by decide) ?_
    exact z_vret hX hR (by decide +kernel) ⟨rfl, by rw [e]⟩
  · have hn2 := hn
    rw [hs, oNm_107] at hn2
    have hb := of_decide_eq_true hn2
    obtain ⟨w, rfl⟩ : ∃ w : Nat, f = (w : Int) := ⟨f.toNat, by omega⟩
    obtain ⟨q, rfl⟩ : ∃ q : Nat, s = (q : Int) := ⟨s.toNat, by omega⟩
    have hr2 := hr
    rw [hs, oRf_107] at hr2
    simp only [Int.toNat_natCast] at hr2
    have hr3 := rPack_n hg.1 hr2
    have g := hg.1.intr (k := q) (by omega)
    have e : oDo c k (w : Int) (q : Int) = sPack c w q (c (121 + q)).toNat := by rw [hs, oDo_107]; (try simp only [Int.toNat_natCast])
    refine z_tIn hX (dflt := 148) (l0 := 103) (h0 := 119) (offs := #[130, 148, 148, 148, 103, 113, 148, 148, 148, 139, 148, 148, 83, 148, 122, 148, 93]) (len := 83) (off := 103) 104 (by decide +kernel) ⟨by omega, by omega⟩ (by omega) (by omega) (by rw [hs]; rfl) (by decide) ?_
    refine z_b hX (fo_no RX3) [.aload_n 0, .iload_n 2, .iload_n 3] 107 (by decide +kernel) rfl ?_
    refine z_cS hX m_X4_putInto l_X3_89 p_X4_putInto (c_X4_putInto (k := w) (t := q) (p := (c (121 + q)).toNat) (by omega) (by omega) (by omega) (by omega)) rfl rfl rfl rfl (by decide +kernel) ?_
    refine z_b hX (fo_no RX3) [.pop] 111 (by decide +kernel) rfl ?_
    refine z_goto hX (off := 38) 149 (by decide +kernel) (by decide) ?_
    exact z_vret hX hR (by decide +kernel) ⟨rfl, by rw [e]⟩
  · have hn2 := hn
    rw [hs, oNm_108] at hn2
    have hb := of_decide_eq_true hn2
    obtain ⟨w, rfl⟩ : ∃ w : Nat, f = (w : Int) := ⟨f.toNat, by omega⟩
    have hr2 := hr
    rw [hs, oRf_108] at hr2
    have q2 := rLoaded_n hg.1 hr2
    have h4 : c 12 ≠ 4 := fun z => by
      obtain ⟨p, p1, p2⟩ := hg.2.2.2.1.full hg.1 z (t := w) (by omega)
      exact q2 p (by omega) (by omega)
    have e : oDo c k (w : Int) s = sLoad c w (c 12).toNat := by rw [hs, oDo_108]; (try simp only [Int.toNat_natCast])
    refine z_tIn hX (dflt := 148) (l0 := 103) (h0 := 119) (offs := #[130, 148, 148, 148, 103, 113, 148, 148, 148, 139, 148, 148, 83, 148, 122, 148, 93]) (len := 83) (off := 113) 114 (by decide +kernel) ⟨by omega, by omega⟩ (by omega) (by omega) (by rw [hs]; rfl) (by decide) ?_
    refine z_b hX (fo_no RX3) [.aload_n 0, .iload_n 2] 116 (by decide +kernel) rfl ?_
    refine z_cS hX m_X4_putOnTrain l_X3_94 p_X4_putOnTrain (c_X4_putOnTrain (t := w) (n := (c 12).toNat) (by omega) (by omega)) rfl rfl rfl rfl (by decide +kernel) ?_
    refine z_b hX (fo_no RX3) [.pop] 120 (by decide +kernel) rfl ?_
    refine z_goto hX (off := 29) 149 (by decide +kernel) (by decide) ?_
    exact z_vret hX hR (by decide +kernel) ⟨rfl, by rw [e]⟩
  · have hn2 := hn
    rw [hs, oNm_117] at hn2
    have hr2 := hr
    rw [hs, oRf_117] at hr2
    have q2 := rif_n hr2
    have e : oDo c k f s = sUnload c (c 12 + (-1)).toNat := by rw [hs, oDo_117]; (try simp only [Int.toNat_natCast])
    refine z_tIn hX (dflt := 148) (l0 := 103) (h0 := 119) (offs := #[130, 148, 148, 148, 103, 113, 148, 148, 148, 139, 148, 148, 83, 148, 122, 148, 93]) (len := 83) (off := 122) 123 (by decide +kernel) ⟨by omega, by omega⟩ (by omega) (by omega) (by rw [hs]; rfl) (by decide) ?_
    refine z_b hX (fo_no RX3) [.aload_n 0] 124 (by decide +kernel) rfl ?_
    refine z_cS hX m_X4_takeOffTrain l_X3_98 p_X4_takeOffTrain (c_X4_takeOffTrain (q := (c 12 + (-1)).toNat) (by omega) (by omega)) rfl rfl rfl rfl (by decide +kernel) ?_
    refine z_b hX (fo_no RX3) [.pop] 128 (by decide +kernel) rfl ?_
    refine z_goto hX (off := 21) 149 (by decide +kernel) (by decide) ?_
    exact z_vret hX hR (by decide +kernel) ⟨rfl, by rw [e]⟩
  · have hn2 := hn
    rw [hs, oNm_103] at hn2
    have hb := of_decide_eq_true hn2
    obtain ⟨w, rfl⟩ : ∃ w : Nat, f = (w : Int) := ⟨f.toNat, by omega⟩
    have hr2 := hr
    rw [hs, oRf_103] at hr2
    simp only [Int.toNat_natCast] at hr2
    have q2 := rGo_n hr2
    obtain ⟨j, hj, q5, q6, q7⟩ := hg.2.1.2 w (by omega) (by omega) q2.1
    have e : oDo c k (w : Int) s = sShow c w (c (97 + w)).toNat := by rw [hs, oDo_103]; (try simp only [Int.toNat_natCast])
    refine z_tIn hX (dflt := 148) (l0 := 103) (h0 := 119) (offs := #[130, 148, 148, 148, 103, 113, 148, 148, 148, 139, 148, 148, 83, 148, 122, 148, 93]) (len := 83) (off := 130) 131 (by decide +kernel) ⟨by omega, by omega⟩ (by omega) (by omega) (by rw [hs]; rfl) (by decide) ?_
    refine z_b hX (fo_no RX3) [.aload_n 0, .iload_n 2] 133 (by decide +kernel) rfl ?_
    refine z_cS hX m_X8_show l_X3_102 p_X8_show (c_X8_show hg.1 (a := w) (k := (c (97 + w)).toNat) (by omega) (by omega) (by omega)) rfl rfl rfl rfl (by decide +kernel) ?_
    refine z_b hX (fo_no RX3) [.pop] 137 (by decide +kernel) rfl ?_
    refine z_goto hX (off := 12) 149 (by decide +kernel) (by decide) ?_
    exact z_vret hX hR (by decide +kernel) ⟨rfl, by rw [e]⟩
  · have hn2 := hn
    rw [hs, oNm_112] at hn2
    have hb := of_decide_eq_true hn2
    obtain ⟨w, rfl⟩ : ∃ w : Nat, f = (w : Int) := ⟨f.toNat, by omega⟩
    have e : oDo c k (w : Int) s = zpassC w c := by rw [hs, oDo_112]; (try simp only [Int.toNat_natCast])
    refine z_tIn hX (dflt := 148) (l0 := 103) (h0 := 119) (offs := #[130, 148, 148, 148, 103, 113, 148, 148, 148, 139, 148, 148, 83, 148, 122, 148, 93]) (len := 83) (off := 139) 140 (by decide +kernel) ⟨by omega, by omega⟩ (by omega) (by omega) (by rw [hs]; rfl) (by decide) ?_
    refine z_b hX (fo_no RX3) [.aload_n 0, .iload_n 2] 142 (by decide +kernel) rfl ?_
    refine z_cS hX m_X8_letDaysGoBy l_X3_107 p_X8_letDaysGoBy (c_X8_letDaysGoBy hg.1 (n := w) (by omega) hD) rfl rfl rfl rfl (by decide +kernel) ?_
    refine z_b hX (fo_no RX3) [.pop] 146 (by decide +kernel) rfl ?_
    refine z_goto hX (off := 3) 149 (by decide +kernel) (by decide) ?_
    exact z_vret hX hR (by decide +kernel) ⟨rfl, by rw [e]⟩
set_option maxHeartbeats 1000000 in
theorem c_X3_carryOutAll {E : zE} {n : Nat} {D : Int} {σ : Nat → Nat → Int} {c : Nat → Int} {l : (Nat → Int64) × (Nat → UInt64)} (hg : Inv D c) (hD : D + 1800 ≤ 1000000) (h6 : σ 15 6 = (n : Int)) (hn : n ≤ 30) (hv : ∀ i, i < n → okind (σ 17 i) ∧ zi (σ 18 i) ∧ zi (σ 19 i)) : Rv E yX3_carryOutAll (Cond.code yX3_carryOutAll cX3_carryOutAll 7 (Option.some FieldType.int)) 5 [vr 15, vr 1, vr 14] ((zs σ 21 c, l)) (vi (crO (σ 17) (σ 18) (σ 19) n 0 c).1) ((zs (zoσ (crO (σ 17) (σ 18) (σ 19) n 0 c).2.1 σ) 21 (crO (σ 17) (σ 18) (σ 19) n 0 c).2.2, l)) := by
  refine Ctr_of (own := RX3) (by decide +kernel) rfl rfl (fun Y hX hR hnx => ?_)
  refine z_b hX (fo_no RX3) [.iconst 0, .istore_n 3] 2 (by decide +kernel) rfl ?_
  have loop : ∀ (m : Nat) (i : Nat) (x : Int) (c1 : Nat → Int), x = (i : Int) → i + m = n → Inv (D + 60 * (i : Int)) c1 → crO (σ 17) (σ 18) (σ 19) n 0 c = crO (σ 17) (σ 18) (σ 19) m i c1 → Z (E, Y) 0 2 [(3, vi x), (0, vr 15), (1, vr 1), (2, vr 14)] [] (zs σ 21 c1, l) := by
    intro m
    induction m with
    | zero =>
      intro i x c1 hx hm hi2 he
      subst hx
      refine z_b hX (fo_no RX3) [.iload_n 3, .aload_n 0] 4 (by decide +kernel) rfl ?_
      refine z_cV hX m_X2_orders l_X3_9 p_X2_orders c_X2_orders rfl rfl rfl rfl rfl rfl (by decide +kernel) ?_
      rw [show (zs σ 21 c1, l).1 15 6 = (n : Int) from h6]
      refine z_ic_ge hX (off := 77) 84 (by decide +kernel) (by decide) ⟨by omega, by omega⟩ ⟨by omega, by omega⟩ (fun c7 => ?_) (fun c7 => by exfalso; omega)
      refine z_b hX (fo_no RX3) [.iconst 0] 85 (by decide +kernel) rfl ?_
      exact z_iret hX hR (by decide +kernel) ⟨by rw [he]; rfl, by rw [he]; rfl⟩
    | succ m ih =>
      intro i x c1 hx hm hi2 he
      subst hx
      have hin : i < n := by omega
      refine z_b hX (fo_no RX3) [.iload_n 3, .aload_n 0] 4 (by decide +kernel) rfl ?_
      refine z_cV hX m_X2_orders l_X3_9 p_X2_orders c_X2_orders rfl rfl rfl rfl rfl rfl (by decide +kernel) ?_
      rw [show (zs σ 21 c1, l).1 15 6 = (n : Int) from h6]
      refine z_ic_ge hX (off := 77) 84 (by decide +kernel) (by decide) ⟨by omega, by omega⟩ ⟨by omega, by omega⟩ (fun c7 => by exfalso; omega) (fun c7 => ?_)
      refine z_b hX (fo_no RX3) [.iload_n 3, .bipush 60] 13 (by decide +kernel) rfl ?_
      refine z_ic_ge hX (off := 71) 84 (by decide +kernel) (by decide) ⟨by omega, by omega⟩ ⟨by omega, by omega⟩ (fun c13 => by exfalso; omega) (fun c13 => ?_)
      refine z_b hX (fo_no RX3) [.aload_n 0, .iload_n 3] 18 (by decide +kernel) rfl ?_
      refine z_cV hX m_X2_kind l_X3_15 p_X2_kind (c_X2_kind (i := i) (by omega) (by have := (hv i hin).1; show 0 ≤ σ 17 i ∧ σ 17 i ≤ 65535; omega)) rfl rfl rfl rfl rfl rfl (by decide +kernel) ?_
      rw [show (zs σ 21 c1, l).1 17 i = σ 17 i from rfl]
      refine z_b hX (fo_no RX3) [.istore 4, .aload_n 0, .iload_n 3] 25 (by decide +kernel) rfl ?_
      refine z_cV hX m_X2_first l_X3_19 p_X2_first (c_X2_first (i := i) (by omega)) rfl rfl rfl rfl rfl rfl (by decide +kernel) ?_
      rw [show (zs σ 21 c1, l).1 18 i = σ 18 i from rfl]
      refine z_b hX (fo_no RX3) [.istore 5, .aload_n 0, .iload_n 3] 32 (by decide +kernel) rfl ?_
      refine z_cV hX m_X2_second l_X3_23 p_X2_second (c_X2_second (i := i) (by omega)) rfl rfl rfl rfl rfl rfl (by decide +kernel) ?_
      rw [show (zs σ 21 c1, l).1 19 i = σ 19 i from rfl]
      refine z_b hX (fo_no RX3) [.istore 6, .aload_n 1, .iload 4, .iload 5, .iload 6] 44 (by decide +kernel) rfl ?_
      refine z_cS hX m_X3_namesRightly l_X3_26 p_X3_namesRightly (c_X3_namesRightly hi2 (hv i hin).1 (hv i hin).2.1 (hv i hin).2.2) rfl rfl rfl rfl (by decide +kernel) ?_
      by_cases hnw : oNm c1 (σ 17 i) (σ 18 i) (σ 19 i) = true
      · have hw : (ib1 (oNm c1 (σ 17 i) (σ 18 i) (σ 19 i))) = 1 := by rw [hnw]; rfl
        cases ho : oRf c1 (σ 17 i) (σ 18 i) (σ 19 i) with
        | some y =>
          refine z_if_ne hX (off := 5) 52 (by decide +kernel) (by decide) (by have := ib1_i (oNm c1 (σ 17 i) (σ 18 i) (σ 19 i)); exact ⟨by omega, by omega⟩) (fun c47 => ?_) (fun c47 => by rw [hw] at c47; exact absurd c47 (by decide))
          refine z_b hX (fo_no RX3) [.aload_n 2, .aload_n 1, .iload 4, .iload 5, .iload 6] 60 (by decide +kernel) rfl ?_
          refine z_cS hX m_X3_isRefused l_X3_32 p_X3_isRefused (c_X3_isRefused hi2 (hv i hin).1 hnw) rfl rfl rfl rfl (by decide +kernel) ?_
          rw [ho]
          dsimp only [zo]
          refine z_if_eq hX (off := 5) 68 (by decide +kernel) (by decide) ⟨by decide, by decide⟩ (fun c63 => by exact absurd c63 (by decide)) (fun c63 => ?_)
          refine z_b hX (fo_no RX3) [.iconst 1] 67 (by decide +kernel) rfl ?_
          exact z_iret hX hR (by decide +kernel) ⟨by rw [he, crO_r hnw ho], by rw [he, crO_r hnw ho]⟩
        | none =>
          refine z_if_ne hX (off := 5) 52 (by decide +kernel) (by decide) (by have := ib1_i (oNm c1 (σ 17 i) (σ 18 i) (σ 19 i)); exact ⟨by omega, by omega⟩) (fun c47 => ?_) (fun c47 => by rw [hw] at c47; exact absurd c47 (by decide))
          refine z_b hX (fo_no RX3) [.aload_n 2, .aload_n 1, .iload 4, .iload 5, .iload 6] 60 (by decide +kernel) rfl ?_
          refine z_cS hX m_X3_isRefused l_X3_32 p_X3_isRefused (c_X3_isRefused hi2 (hv i hin).1 hnw) rfl rfl rfl rfl (by decide +kernel) ?_
          rw [ho]
          refine z_if_eq hX (off := 5) 68 (by decide +kernel) (by decide) ⟨by decide, by decide⟩ (fun c63 => ?_) (fun c63 => by exact absurd rfl c63)
          refine z_b hX (fo_no RX3) [.aload_n 1, .iload 4, .iload 5, .iload 6] 75 (by decide +kernel) rfl ?_
          refine z_cS0 hX m_X3_carryOut l_X3_36 p_X3_carryOut (c_X3_carryOut hi2 (by omega) (hv i hin).1 hnw ho) rfl rfl rfl rfl (by decide +kernel) ?_
          refine z_b hX (fo_no RX3) [.iinc 3 1] 81 (by decide +kernel) rfl ?_
          refine z_goto hX (off := (-79)) 2 (by decide +kernel) (by decide) ?_
          have e5 : D + 60 * ((i + 1 : Nat) : Int) = D + 60 * (i : Int) + 60 := by omega
          exact z_lo [0, 4, 5, 6] (ih (i + 1) _ _ (by omega) (by omega) (by rw [e5]; exact hi2.order (hv i hin).1 hnw ho) (by rw [he, crO_g hnw ho])) rfl
      · have hw : (ib1 (oNm c1 (σ 17 i) (σ 18 i) (σ 19 i))) = 0 := by rw [Bool.eq_false_iff.mpr hnw]; rfl
        refine z_if_ne hX (off := 5) 52 (by decide +kernel) (by decide) (by have := ib1_i (oNm c1 (σ 17 i) (σ 18 i) (σ 19 i)); exact ⟨by omega, by omega⟩) (fun c47 => by rw [hw] at c47; exact absurd rfl c47) (fun c47 => ?_)
        refine z_b hX (fo_no RX3) [.iconst 2] 51 (by decide +kernel) rfl ?_
        exact z_iret hX hR (by decide +kernel) ⟨by rw [he, crO_w hnw], by rw [he, crO_w hnw]; rfl⟩
  exact loop n 0 0 c rfl (by omega) (hg.mono (by omega)) rfl
