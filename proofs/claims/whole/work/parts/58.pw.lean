/-! ===== the model's answers, said more weakly ===== -/
def PW (out : aR) (cd : String → Int) (σ : Nat → Nat → Int) (l : (Nat → Int64) × (Nat → UInt64)) : zK := fun o s => ∃ (v : Int) (σ' : Nat → Nat → Int), o = .inl (some (vi v)) ∧ s = (zs σ' 33 (gm out.2.1), l) ∧ MR out.2.2 σ' ∧ (match out.1 with
  | .inl a => v = a ∧ σ' 32 7 = 0
  | .inr e => σ' 32 7 = cd e) ∧ (∀ k, k < 32 → σ' k = σ k) ∧ σ' 32 6 = σ 32 6
def Wb (E : zE) (y : MethodName) (w : Cond) (d : Nat) (av : List vV) (σ : Nat → Nat → Int) (c : Nat → Int) (l : (Nat → Int64) × (Nat → UInt64)) (out : aR) (cd : String → Int) : Prop := Ctr E y w d 0 av (zs σ 33 (gm c), l) (PW out cd σ l)
theorem PM.w {out : aR} {cd : String → Int} {σ : Nat → Nat → Int} {l : (Nat → Int64) × (Nat → UInt64)} {o : zO} {s : zT} (h : PM out cd σ l o s) : PW out cd σ l o s := by
  obtain ⟨v, σ', h1, h2, h3, h4⟩ := h
  refine ⟨v, σ', h1, h2, h3, ?_⟩
  cases hq : out.1 with
  | inl a => rw [hq] at h4; exact ⟨⟨h4.1, h4.2.1⟩, fun k hk => h4.2.2.1 k (by omega) (by omega) (by omega), h4.2.2.2.1⟩
  | inr e => rw [hq] at h4; exact ⟨h4.1, fun k hk => h4.2.1 k (by omega) (by omega) (by omega), h4.2.2.1⟩
section PWL
variable {out : aR} {cd : String → Int} {σ : Nat → Nat → Int} {l : (Nat → Int64) × (Nat → UInt64)} {v v2 p : Int} {c c' : Nat → Int} {R R' : aQ} {e : String} {s : zT}
theorem Pw_ok (ho : out = (.inl v, c', R')) (hv : v = v2) (σ' : Nat → Nat → Int) (hs : s = (zs σ' 33 (gm c'), l)) (hm : MR R' σ') (hc : σ' 32 7 = 0) (hf : ∀ k, k < 32 → σ' k = σ k) (h6 : σ' 32 6 = σ 32 6) : PW out cd σ l (.inl (some (vi v2))) s := by
  subst ho; subst hv
  exact ⟨v, σ', rfl, hs, hm, ⟨rfl, hc⟩, hf, h6⟩
theorem Pw_ex (ho : out = (.inr e, c', R')) (σ' : Nat → Nat → Int) (hs : s = (zs σ' 33 (gm c'), l)) (hm : MR R' σ') (hc : σ' 32 7 = cd e) (hf : ∀ k, k < 32 → σ' k = σ k) (h6 : σ' 32 6 = σ 32 6) : PW out cd σ l (.inl (some (vi v2))) s := by
  subst ho
  exact ⟨v2, σ', rfl, hs, hm, hc, hf, h6⟩
end PWL
theorem MR.undo {R : aQ} {σ : Nat → Nat → Int} {r : Nat → Int} {H : List (Nat → Int)} (h : MR R σ) (hR : R.1 = r :: H) : MR (H, R.2) (zs σ 32 (va_up (σ 32) 5 (H.length : Int))) ∧ ∀ j, j < 150 → σ 34 (150 * H.length + j) = gm r j := by
  obtain ⟨⟨h1, h2⟩, h3, h4, h5, h6⟩ := h
  have hl : R.1.length = H.length + 1 := by rw [hR]; rfl
  have en : ∀ k, k ≠ 32 → zs σ 32 (va_up (σ 32) 5 (H.length : Int)) k = σ k := fun k hk => zs_ne hk _
  have e2 : ∀ i, i ≠ 5 → zs σ 32 (va_up (σ 32) 5 (H.length : Int)) 32 i = σ 32 i := fun i a1 => by rw [zs_eq, vne a1]
  refine ⟨⟨⟨?_, fun i q hq j hj => ?_⟩, ?_, ⟨?_, ?_⟩, ⟨?_, ?_⟩, ?_⟩, fun j hj => ?_⟩
  · rw [zs_eq, va_e, if_pos rfl]
  · have hi : i < H.length := (List.getElem?_eq_some_iff.mp hq).1
    have h0 := h2 (i + 1) q (by rw [hR]; exact hq) j hj
    rw [en 34 (by decide)]
    show σ 34 (150 * (H.length - 1 - i) + j) = gm q j
    rw [← h0]; congr 1; omega
  · show (match R.2.1 with | none => _ | some v => _)
    rw [e2 4 (by decide), en 35 (by decide)]; exact h3
  · rw [e2 9 (by decide)]; exact h4.1
  · rw [e2 10 (by decide)]; exact h4.2
  · rw [e2 12 (by decide)]; exact h5.1
  · rw [en 37 (by decide)]; exact h5.2
  · rw [e2 13 (by decide)]; exact h6
  · have h0 := h2 0 r (by rw [hR]; rfl) j hj
    rw [← h0]; congr 1; omega
theorem cpy_gm {f : Nat → Int} {a : Nat} {c r : Nat → Int} (h : ∀ j, j < 150 → f (a + j) = gm r j) : cpy f a (gm c) 0 150 = gm r := by
  funext j
  unfold cpy
  by_cases hj : j < 150
  · rw [if_pos (by omega), Nat.sub_zero, h j hj]
  · rw [if_neg (by omega), gm_0 (by omega), gm_0 (by omega)]
theorem MR.forget {R : aQ} {σ : Nat → Nat → Int} (h : MR R σ) : MR ([], R.2) (zs σ 32 (va_up (σ 32) 5 0)) := by
  obtain ⟨⟨h1, h2⟩, h3, h4, h5, h6⟩ := h
  have en : ∀ k, k ≠ 32 → zs σ 32 (va_up (σ 32) 5 0) k = σ k := fun k hk => zs_ne hk _
  have e2 : ∀ i, i ≠ 5 → zs σ 32 (va_up (σ 32) 5 0) 32 i = σ 32 i := fun i a1 => by rw [zs_eq, vne a1]
  refine ⟨⟨?_, fun i q hq j hj => by cases hq⟩, ?_, ⟨?_, ?_⟩, ⟨?_, ?_⟩, ?_⟩
  · rw [zs_eq, va_e, if_pos rfl]; rfl
  · show (match R.2.1 with | none => _ | some v => _)
    rw [e2 4 (by decide), en 35 (by decide)]; exact h3
  · rw [e2 9 (by decide)]; exact h4.1
  · rw [e2 10 (by decide)]; exact h4.2
  · rw [e2 12 (by decide)]; exact h5.1
  · rw [en 37 (by decide)]; exact h5.2
  · rw [e2 13 (by decide)]; exact h6
theorem MR.save {R : aQ} {σ : Nat → Nat → Int} (h : MR R σ) (c g : Nat → Int) (hg : ∀ j, j < 150 → g j = gm c j) : MR (R.1, some c, R.2.2) (zs (zs σ 32 (va_up (σ 32) 4 1)) 35 g) := by
  obtain ⟨⟨h1, h2⟩, h3, h4, h5, h6⟩ := h
  have en : ∀ k, k ≠ 32 → k ≠ 35 → zs (zs σ 32 (va_up (σ 32) 4 1)) 35 g k = σ k := fun k a1 a2 => by rw [zs_ne a2, zs_ne a1]
  have e2 : ∀ i, i ≠ 4 → zs (zs σ 32 (va_up (σ 32) 4 1)) 35 g 32 i = σ 32 i := fun i a1 => by rw [zs_ne (by decide), zs_eq, vne a1]
  refine ⟨⟨?_, fun i q hq j hj => ?_⟩, ⟨?_, fun j hj => ?_⟩, ⟨?_, ?_⟩, ⟨?_, ?_⟩, ?_⟩
  · rw [e2 5 (by decide)]; exact h1
  · rw [en 34 (by decide) (by decide)]; exact h2 i q hq j hj
  · rw [zs_ne (by decide), zs_eq, va_e, if_pos rfl]
  · rw [zs_eq]; exact hg j hj
  · rw [e2 9 (by decide)]; exact h4.1
  · rw [e2 10 (by decide)]; exact h4.2
  · rw [e2 12 (by decide)]; exact h5.1
  · rw [en 37 (by decide) (by decide)]; exact h5.2
  · rw [e2 13 (by decide)]; exact h6
theorem MR.app {R : aQ} {σ : Nat → Nat → Int} (h : MR R σ) (x : Int) : MR (R.1, R.2.1, R.2.2.1, (va_up R.2.2.2.1.1 R.2.2.2.1.2 x, R.2.2.2.1.2 + 1), R.2.2.2.2) (zs (zs σ 37 (va_up (σ 37) R.2.2.2.1.2 x)) 32 (va_up (σ 32) 12 ((R.2.2.2.1.2 : Int) + 1))) := by
  obtain ⟨⟨h1, h2⟩, h3, h4, h5, h6⟩ := h
  have en : ∀ k, k ≠ 32 → k ≠ 37 → zs (zs σ 37 (va_up (σ 37) R.2.2.2.1.2 x)) 32 (va_up (σ 32) 12 ((R.2.2.2.1.2 : Int) + 1)) k = σ k := fun k a1 a2 => by rw [zs_ne a1, zs_ne a2]
  have e2 : ∀ i, i ≠ 12 → zs (zs σ 37 (va_up (σ 37) R.2.2.2.1.2 x)) 32 (va_up (σ 32) 12 ((R.2.2.2.1.2 : Int) + 1)) 32 i = σ 32 i := fun i a1 => by rw [zs_eq, vne a1]
  refine ⟨⟨?_, fun i q hq j hj => ?_⟩, ?_, ⟨?_, ?_⟩, ⟨?_, ?_⟩, ?_⟩
  · rw [e2 5 (by decide)]; exact h1
  · rw [en 34 (by decide) (by decide)]; exact h2 i q hq j hj
  · show (match R.2.1 with | none => _ | some v => _)
    rw [e2 4 (by decide), en 35 (by decide) (by decide)]; exact h3
  · rw [e2 9 (by decide)]; exact h4.1
  · rw [e2 10 (by decide)]; exact h4.2
  · rw [zs_eq, va_e, if_pos rfl]; show _ = ((R.2.2.2.1.2 + 1 : Nat) : Int); omega
  · rw [zs_ne (by decide), zs_eq, h5.2]
  · rw [e2 13 (by decide)]; exact h6
