/-! ===== the model's cells ===== -/
def MR (R : aQ) (σ : Nat → Nat → Int) : Prop :=
  (σ 32 5 = (R.1.length : Int) ∧ ∀ (i : Nat) (r : Nat → Int), R.1[i]? = some r → ∀ j, j < 150 → σ 34 (150 * (R.1.length - 1 - i) + j) = gm r j) ∧ (match R.2.1 with
    | none => σ 32 4 = 0
    | some v => σ 32 4 = 1 ∧ ∀ j, j < 150 → σ 35 j = gm v j) ∧ (σ 32 9 = R.2.2.1.1 ∧ σ 32 10 = R.2.2.1.2) ∧ (σ 32 12 = (R.2.2.2.1.2 : Int) ∧ σ 37 = R.2.2.2.1.1) ∧ σ 32 13 = R.2.2.2.2
def wi (w : Bool) : Int := match w with
  | true => 1
  | false => 0
/-- the code; a refusal -/
def zco (σ : Nat → Nat → Int) (v : Int) : Nat → Nat → Int := zs σ 32 (va_up (σ 32) 7 v)
def zrq (σ : Nat → Nat → Int) (p w x : Int) : Nat → Nat → Int := zs σ 32 (va_up (va_up (va_up (va_up (σ 32) 7 p) 8 1) 9 w) 10 x)
/-- what an operation leaves alone; e: whether it was refused -/
def Fo (σ σ' : Nat → Nat → Int) (e : Int) : Prop := (∀ k, k ≠ 32 → k ≠ 33 → k ≠ 34 → σ' k = σ k) ∧ σ' 32 6 = σ 32 6 ∧ σ' 32 14 = σ 32 14 ∧ σ' 32 16 = σ 32 16 ∧ σ' 32 8 = e
def PM (out : aR) (cd : String → Int) (σ : Nat → Nat → Int) (l : (Nat → Int64) × (Nat → UInt64)) : zK := fun o s => ∃ (v : Int) (σ' : Nat → Nat → Int), o = .inl (some (vi v)) ∧ s = (zs σ' 33 (gm out.2.1), l) ∧ MR out.2.2 σ' ∧ (match out.1 with
  | .inl a => v = a ∧ σ' 32 7 = 0 ∧ Fo σ σ' (σ 32 8)
  | .inr e => σ' 32 7 = cd e ∧ Fo σ σ' (if e = eUO then 1 else σ 32 8))
def Mb (E : zE) (y : MethodName) (w : Cond) (d : Nat) (av : List vV) (σ : Nat → Nat → Int) (c : Nat → Int) (l : (Nat → Int64) × (Nat → UInt64)) (out : aR) (cd : String → Int) : Prop := Ctr E y w d 0 av (zs σ 33 (gm c), l) (PM out cd σ l)
theorem MR.up {R : aQ} {σ : Nat → Nat → Int} (h : MR R σ) {f : Nat → Int} (e : ∀ i, i = 4 ∨ i = 5 ∨ i = 9 ∨ i = 10 ∨ i = 12 ∨ i = 13 → f i = σ 32 i) : MR R (zs σ 32 f) := by
  obtain ⟨⟨h1, h2⟩, h3, h4, h5, h6⟩ := h
  have en : ∀ k, k ≠ 32 → zs σ 32 f k = σ k := fun k hk => zs_ne hk _
  refine ⟨⟨?_, fun i r hr j hj => ?_⟩, ?_, ⟨?_, ?_⟩, ⟨?_, ?_⟩, ?_⟩
  · rw [zs_eq, e 5 (by omega)]; exact h1
  · rw [en 34 (by decide)]; exact h2 i r hr j hj
  · rw [zs_eq, e 4 (by omega), en 35 (by decide)]; exact h3
  · rw [zs_eq, e 9 (by omega)]; exact h4.1
  · rw [zs_eq, e 10 (by omega)]; exact h4.2
  · rw [zs_eq, e 12 (by omega)]; exact h5.1
  · rw [en 37 (by decide)]; exact h5.2
  · rw [zs_eq, e 13 (by omega)]; exact h6
theorem MR.co {R : aQ} {σ : Nat → Nat → Int} (h : MR R σ) (v : Int) : MR R (zco σ v) := h.up (fun i hi => vne (by omega))
theorem MR.rq {R : aQ} {σ : Nat → Nat → Int} (h : MR R σ) (p w x : Int) : MR (rfR (w, x) R) (zrq (zco σ 0) p w x) := by
  obtain ⟨⟨h1, h2⟩, h3, h4, h5, h6⟩ := h
  have en : ∀ k, k ≠ 32 → zrq (zco σ 0) p w x k = σ k := fun k hk => by unfold zrq zco; rw [zs_ne hk, zs_ne hk]
  have e2 : ∀ i, i ≠ 7 → i ≠ 8 → i ≠ 9 → i ≠ 10 → zrq (zco σ 0) p w x 32 i = σ 32 i := fun i a1 a2 a3 a4 => by unfold zrq zco; rw [zs_eq, vne a4, vne a3, vne a2, vne a1, zs_eq, vne a1]
  refine ⟨⟨?_, fun i r hr j hj => ?_⟩, ?_, ⟨?_, ?_⟩, ⟨?_, ?_⟩, ?_⟩
  · rw [e2 5 (by omega) (by omega) (by omega) (by omega)]; exact h1
  · rw [en 34 (by decide)]; exact h2 i r hr j hj
  · show (match R.2.1 with | none => _ | some v => _)
    rw [e2 4 (by omega) (by omega) (by omega) (by omega), en 35 (by decide)]; exact h3
  · unfold zrq; rw [zs_eq, vne (by decide), va_e, if_pos rfl]; rfl
  · unfold zrq; rw [zs_eq, va_e, if_pos rfl]; rfl
  · rw [e2 12 (by omega) (by omega) (by omega) (by omega)]; exact h5.1
  · rw [en 37 (by decide)]; exact h5.2
  · rw [e2 13 (by omega) (by omega) (by omega) (by omega)]; exact h6
theorem Fo.co (σ : Nat → Nat → Int) (v : Int) : Fo σ (zco σ v) (σ 32 8) := ⟨fun k h1 _ _ => zs_ne h1 _, by unfold zco; rw [zs_eq, vne (by decide)], by unfold zco; rw [zs_eq, vne (by decide)], by unfold zco; rw [zs_eq, vne (by decide)], by unfold zco; rw [zs_eq, vne (by decide)]⟩
theorem zco_7 (σ : Nat → Nat → Int) (v : Int) : zco σ v 32 7 = v := by unfold zco; rw [zs_eq, va_e, if_pos rfl]
theorem zco_o (σ : Nat → Nat → Int) (v : Int) {i : Nat} (h : i ≠ 7) : zco σ v 32 i = σ 32 i := by unfold zco; rw [zs_eq, vne h]
theorem zco_n (σ : Nat → Nat → Int) (v : Int) {k : Nat} (h : k ≠ 32) : zco σ v k = σ k := by unfold zco; rw [zs_ne h]
theorem Fo.rq (σ : Nat → Nat → Int) (p w x : Int) : Fo σ (zrq (zco σ 0) p w x) 1 := by
  refine ⟨fun k h1 _ _ => by unfold zrq zco; rw [zs_ne h1, zs_ne h1], ?_, ?_, ?_, ?_⟩
  · unfold zrq zco; rw [zs_eq, vne (by decide), vne (by decide), vne (by decide), vne (by decide), zs_eq, vne (by decide)]
  · unfold zrq zco; rw [zs_eq, vne (by decide), vne (by decide), vne (by decide), vne (by decide), zs_eq, vne (by decide)]
  · unfold zrq zco; rw [zs_eq, vne (by decide), vne (by decide), vne (by decide), vne (by decide), zs_eq, vne (by decide)]
  · unfold zrq; rw [zs_eq, vne (by decide), vne (by decide), va_e, if_pos rfl]
section PML
variable {out : aR} {cd : String → Int} {σ : Nat → Nat → Int} {l : (Nat → Int64) × (Nat → UInt64)} {v v2 p w x : Int} {c c' : Nat → Int} {R R' : aQ} {e : String} {s : zT}
theorem Pm_ok (ho : out = (.inl v, c', R')) (hv : v = v2) (σ' : Nat → Nat → Int) (hs : s = (zs σ' 33 (gm c'), l)) (hm : MR R' σ') (hc : σ' 32 7 = 0) (hf : Fo σ σ' (σ 32 8)) : PM out cd σ l (.inl (some (vi v2))) s := by
  subst ho; subst hv
  exact ⟨v, σ', rfl, hs, hm, rfl, hc, hf⟩
theorem Pm_fail (ho : out = (.inr e, c, R)) (hne : e ≠ eUO) (hm : MR R σ) (hcd : cd e = p) : PM out cd σ l (.inl (some (vi v2))) (zs (zco σ p) 33 (gm c), l) := by
  subst ho
  refine ⟨v2, zco σ p, rfl, rfl, hm.co p, ?_⟩
  show zco σ p 32 7 = cd e ∧ Fo σ (zco σ p) (if e = eUO then 1 else σ 32 8)
  rw [if_neg hne, hcd, zco_7]
  exact ⟨rfl, Fo.co σ p⟩
theorem Pm_ref (ho : out = (.inr eUO, c, rfR (w, x) R)) (hm : MR R σ) (hcd : cd eUO = p) : PM out cd σ l (.inl (some (vi v2))) (zs (zrq (zco σ 0) p w x) 33 (gm c), l) := by
  subst ho
  refine ⟨v2, zrq (zco σ 0) p w x, rfl, rfl, hm.rq p w x, ?_⟩
  show zrq (zco σ 0) p w x 32 7 = cd eUO ∧ Fo σ (zrq (zco σ 0) p w x) (if eUO = eUO then 1 else σ 32 8)
  rw [if_pos rfl, hcd]
  exact ⟨by unfold zrq; rw [zs_eq, vne (by decide), vne (by decide), vne (by decide), va_e, if_pos rfl], Fo.rq σ p w x⟩
theorem Pm_que (ho : out = (.inl v, c, R)) (hv : v = v2) (hm : MR R σ) : PM out cd σ l (.inl (some (vi v2))) (zs (zco σ 0) 33 (gm c), l) :=
  Pm_ok ho hv (zco σ 0) rfl (hm.co 0) (zco_7 σ 0) (Fo.co σ 0)
end PML
section GR
variable {X : zC} {own : String} {cc : ByteArray} {nL d b pc : Nat} {lo : List (Nat × vV)} {sk : List vV} {τ : Nat → Nat → Int} {c c' : Nat → Int} {l : (Nat → Int64) × (Nat → UInt64)}
theorem z_ig (h : zOk X own cc nL d) {i v : Int} (j : Nat) (hv : gm c j = v) (hj : j < 150) (hi : i = (j : Int)) (hd : decode cc pc = .ok (.iaload, 1)) (k : Z X b (pc + 1) lo (vi v :: sk) (zs τ 33 (gm c), l)) : Z X b pc lo (vi i :: vr 33 :: sk) (zs τ 33 (gm c), l) := by
  refine z_iald h j rfl hj (by decide) hi hd ?_
  rw [show (zs τ 33 (gm c), l).1 33 j = v from by rw [← hv]; show zs τ 33 (gm c) 33 j = gm c j; rw [zs_eq]]
  exact k
theorem z_sg (h : zOk X own cc nL d) {i v : Int} (j : Nat) (hv : va_up (gm c) j v = gm c') (hj : j < 150) (hi : i = (j : Int)) (hd : decode cc pc = .ok (.iastore, 1)) (k : Z X b (pc + 1) lo sk (zs τ 33 (gm c'), l)) : Z X b pc lo (vi v :: vi i :: vr 33 :: sk) (zs τ 33 (gm c), l) := by
  refine z_iast h j rfl hj (by decide) hi hd ?_
  rw [zup_zs, zs_zs, zs_eq, hv]
  exact k
end GR
/-- a copied stretch of 150 -/
def cpy (f : Nat → Int) (a : Nat) (g : Nat → Int) (b n : Nat) : Nat → Int := fun j => if b ≤ j ∧ j < b + n then f (a + (j - b)) else g j
theorem cpy_0 (f : Nat → Int) (a : Nat) (g : Nat → Int) (b : Nat) : cpy f a g b 0 = g := by funext j; exact if_neg (by omega)
theorem cpy_s (f : Nat → Int) (a : Nat) (g : Nat → Int) (b n : Nat) : va_up (cpy f a g b n) (b + n) (f (a + n)) = cpy f a g b (n + 1) := by
  funext j
  rw [va_e]; unfold cpy
  by_cases h : j = b + n
  · subst h; rw [if_pos rfl, if_pos (by omega), show b + n - b = n by omega]
  · rw [if_neg h]
    by_cases h2 : b ≤ j ∧ j < b + n
    · rw [if_pos h2, if_pos (by omega)]
    · rw [if_neg h2, if_neg (by omega)]
