/-! ===== operations keep the invariant; their exceptions ===== -/
def zrB (r : zr) : Prop := ∀ q, r = some q → 0 ≤ q.1 ∧ q.1 ≤ 18
theorem zrB.or {a b : zr} (ha : zrB a) (hb : zrB b) : zrB (ror a b) := by
  intro q h
  cases a with
  | none => exact hb q h
  | some x => exact ha q h
theorem zrB.ite {P : Prop} [Decidable P] {w x : Int} (hw : 0 ≤ w ∧ w ≤ 18) : zrB (if P then some (w, x) else none) := by
  intro q h
  split at h
  · cases h; exact hw
  · cases h
theorem b_More (n m : Int) : zrB (rMore n m) := .ite ⟨by decide, by decide⟩
section B
variable (c : Nat → Int)
theorem b_Wear (a : Int) (k : Nat) : zrB (rWear c a k) := .ite ⟨by decide, by decide⟩
theorem b_Mend (w k : Nat) : zrB (rMend c w k) := .or (.ite ⟨by decide, by decide⟩) (.or (.ite ⟨by decide, by decide⟩) (.or (.ite ⟨by decide, by decide⟩) (.or (.ite ⟨by decide, by decide⟩) (.ite ⟨by decide, by decide⟩))))
theorem b_Sew (w k : Nat) (n : Int) : zrB (rSew c w k n) := .or (.ite ⟨by decide, by decide⟩) (.or (.ite ⟨by decide, by decide⟩) (.or (.ite ⟨by decide, by decide⟩) (.or (.ite ⟨by decide, by decide⟩) (.or (.ite ⟨by decide, by decide⟩) (.ite ⟨by decide, by decide⟩)))))
theorem b_Widen (w k : Nat) : zrB (rWiden c w k) := .or (.ite ⟨by decide, by decide⟩) (.or (.ite ⟨by decide, by decide⟩) (.or (.ite ⟨by decide, by decide⟩) (.or (.ite ⟨by decide, by decide⟩) (.ite ⟨by decide, by decide⟩))))
theorem b_Patch (w : Nat) : zrB (rPatch c w) := .or (.ite ⟨by decide, by decide⟩) (.or (.ite ⟨by decide, by decide⟩) (.or (.ite ⟨by decide, by decide⟩) (.ite ⟨by decide, by decide⟩)))
theorem b_Loaded (t : Int) : zrB (rLoaded c t) := .ite ⟨by decide, by decide⟩
theorem b_Pack (k t : Nat) : zrB (rPack c k t) := .or (.ite ⟨by decide, by decide⟩) (.or (b_Loaded c _) (b_More _ _))
theorem b_Unpack (k : Nat) : zrB (rUnpack c k) := .or (.ite ⟨by decide, by decide⟩) (b_Loaded c _)
theorem b_Unload : zrB (rUnload c) := .ite ⟨by decide, by decide⟩
theorem b_Go (a : Nat) : zrB (rGo c a) := .or (.ite ⟨by decide, by decide⟩) (.or (.ite ⟨by decide, by decide⟩) (.or (.or (.ite ⟨by decide, by decide⟩) (.or (.ite ⟨by decide, by decide⟩) (.ite ⟨by decide, by decide⟩))) (.ite ⟨by decide, by decide⟩)))
end B
/-- an outcome that keeps it -/
def OI (D : Int) (out : aR) : Prop := AI D out.2.1 out.2.2
section AII
variable {D : Int} {c : Nat → Int} {R : aQ}
theorem OI.same (h : AI D c R) (o : Int ⊕ String) : OI (D + 1800) (o, c, R) := h.mono (by omega)
theorem AI.kp {D2 : Int} {c2 : Nat → Int} (h : AI D c R) (hD : D ≤ D2) (hc : Inv D2 c2) : AI D2 c2 (kpR c R) := by
  refine ⟨hc, fun r hr => ?_, ?_, (h.mono hD).2.2.2⟩
  · have h2 : r ∈ c :: R.1 := List.mem_of_mem_take hr
    rcases List.mem_cons.mp h2 with rfl | h3
    · exact h.1.mono hD
    · exact (h.2.1 r h3).mono hD
  · show ((c :: R.1).take 8).length ≤ 8
    rw [List.length_take]; omega
theorem OI.ok {v : Int} {c2 : Nat → Int} (h : AI D c R) (hc : Inv (D + 60) c2) : OI (D + 1800) (okk v c2 (kpR c R)) := h.kp (by omega) (hc.mono (by omega))
theorem OI.hdd {r : zr} {v : Int} {c2 : Nat → Int} (h : AI D c R) (hb : zrB r) (hk : r = none → Inv (D + 60) c2) : OI (D + 1800) (hdd r c R (okk v c2 (kpR c R))) := by
  cases r with
  | none => exact OI.ok h (hk rfl)
  | some q =>
    have := hb q rfl
    have h2 := h.mono (show D ≤ D + 1800 by omega)
    exact ⟨h2.1, h2.2.1, h2.2.2.1, h2.2.2.2.1, h2.2.2.2.2.1, h2.2.2.2.2.2.1, ⟨by show -2147483648 ≤ q.1; omega, by show q.1 < 2147483648; omega⟩, h2.2.2.2.2.2.2.2⟩
theorem OI.ite {P : Prop} [Decidable P] {A B : aR} (hA : P → OI D A) (hB : ¬ P → OI D B) : OI D (if P then A else B) := by
  split
  · rename_i h; exact hA h
  · rename_i h; exact hB h
theorem OI.fnd {v : Int} (h : AI D c R) : OI (D + 1800) (fnd v c R) := OI.ite (fun _ => OI.same h _) (fun _ => OI.same h _)
end AII
theorem fnd_x {v : Int} {c : Nat → Int} {R : aQ} {e : String} (h : (fnd v c R).1 = .inr e) : e = eNS := ifx (Q := fun e => e = eNS) (fun h => thr_x h) (fun h => by cases h) h
theorem okk_x {v : Int} {c : Nat → Int} {R : aQ} {e : String} {P : Prop} (h : (okk v c R).1 = .inr e) : P := by cases h
theorem aCoat_x {c : Nat → Int} {R : aQ} {x : Int} {w : Bool} {e : String} (h : (aCoat w c R x).1 = .inr e) : e = eIA ∨ e = eUO := by
  unfold aCoat at h
  exact ifx (Q := fun e => e = eIA ∨ e = eUO) (fun h => Or.inr ((hdd_x h))) (fun h => Or.inl (thr_x h)) h
theorem aAct_x {c : Nat → Int} {R : aQ} {x y : Int} {w : Bool} {e : String} (h : (aAct w c R x y).1 = .inr e) : e = eIA ∨ e = eUO := by
  unfold aAct at h
  exact ifx (Q := fun e => e = eIA ∨ e = eUO) (fun h => ifx (Q := fun e => e = eIA ∨ e = eUO) (fun h => Or.inr ((hdd_x h))) (fun h => Or.inl (thr_x h)) h) (fun h => Or.inl (thr_x h)) h
theorem aRip_x {c : Nat → Int} {R : aQ} {x y : Int} {w : Bool} {e : String} (h : (aRip w c R x y).1 = .inr e) : e = eIB ∨ e = eIA := by
  unfold aRip at h
  exact ifx (Q := fun e => e = eIB ∨ e = eIA) (fun h => ifx (Q := fun e => e = eIB ∨ e = eIA) (fun h => okk_x h) (fun h => Or.inr ((thr_x h))) h) (fun h => Or.inl (thr_x h)) h
theorem aLose_x {c : Nat → Int} {R : aQ} {x y : Int} {w : Bool} {e : String} (h : (aLose w c R x y).1 = .inr e) : e = eIB ∨ e = eIA := by
  unfold aLose at h
  exact ifx (Q := fun e => e = eIB ∨ e = eIA) (fun h => ifx (Q := fun e => e = eIB ∨ e = eIA) (fun h => okk_x h) (fun h => Or.inr ((thr_x h))) h) (fun h => Or.inl (thr_x h)) h
theorem aCoatOf_x {c : Nat → Int} {R : aQ} {x y : Int} {e : String} (h : (aCoatOf c R x y).1 = .inr e) : e = eIB ∨ e = eIA := by
  unfold aCoatOf at h
  exact ifx (Q := fun e => e = eIB ∨ e = eIA) (fun h => ifx (Q := fun e => e = eIB ∨ e = eIA) (fun h => okk_x h) (fun h => Or.inr ((thr_x h))) h) (fun h => Or.inl (thr_x h)) h
theorem aActOf_x {c : Nat → Int} {R : aQ} {x y : Int} {e : String} (h : (aActOf c R x y).1 = .inr e) : e = eIB ∨ e = eIA := by
  unfold aActOf at h
  exact ifx (Q := fun e => e = eIB ∨ e = eIA) (fun h => ifx (Q := fun e => e = eIB ∨ e = eIA) (fun h => okk_x h) (fun h => Or.inr ((thr_x h))) h) (fun h => Or.inl (thr_x h)) h
theorem aOpen_x {c : Nat → Int} {R : aQ} {x y : Int} {e : String} (h : (aOpen c R x y).1 = .inr e) : e = eIB := by
  unfold aOpen at h
  exact ifx (Q := fun e => e = eIB) (fun h => ifx (Q := fun e => e = eIB) (fun h => okk_x h) (fun h => (thr_x h)) h) (fun h => (thr_x h)) h
theorem aBest_x {c : Nat → Int} {R : aQ} {x : Int} {e : String} (h : (aBest c R x).1 = .inr e) : e = eIB ∨ e = eNS := by
  unfold aBest at h
  exact ifx (Q := fun e => e = eIB ∨ e = eNS) (fun h => Or.inr ((fnd_x h))) (fun h => Or.inl (thr_x h)) h
theorem aWork_x {c : Nat → Int} {R : aQ} {x y : Int} {e : String} (h : (aWork c R x y).1 = .inr e) : e = eIB ∨ e = eNS := by
  unfold aWork at h
  exact ifx (Q := fun e => e = eIB ∨ e = eNS) (fun h => ifx (Q := fun e => e = eIB ∨ e = eNS) (fun h => Or.inr ((fnd_x h))) (fun h => Or.inl (thr_x h)) h) (fun h => Or.inl (thr_x h)) h
theorem aWoman_x {c : Nat → Int} {R : aQ} {w : Bool} {e : String} (h : (aWoman w c R ).1 = .inr e) : e = eUO := by
  unfold aWoman at h
  exact (hdd_x h)
theorem aWomanOf_x {c : Nat → Int} {R : aQ} {x y : Int} {e : String} (h : (aWomanOf c R x y).1 = .inr e) : e = eIB ∨ e = eIA := by
  unfold aWomanOf at h
  exact ifx (Q := fun e => e = eIB ∨ e = eIA) (fun h => ifx (Q := fun e => e = eIB ∨ e = eIA) (fun h => okk_x h) (fun h => Or.inr ((thr_x h))) h) (fun h => Or.inl (thr_x h)) h
theorem aBring_x {c : Nat → Int} {R : aQ} {x y : Int} {w : Bool} {e : String} (h : (aBring w c R x y).1 = .inr e) : e = eIA := by
  unfold aBring at h
  exact ifx (Q := fun e => e = eIA) (fun h => ifx (Q := fun e => e = eIA) (fun h => okk_x h) (fun h => (thr_x h)) h) (fun h => (thr_x h)) h
theorem aSpangle_x {c : Nat → Int} {R : aQ} {x y z : Int} {w : Bool} {e : String} (h : (aSpangle w c R x y z).1 = .inr e) : e = eIB ∨ e = eIA ∨ e = eUO := by
  unfold aSpangle at h
  exact ifx (Q := fun e => e = eIB ∨ e = eIA ∨ e = eUO) (fun h => ifx (Q := fun e => e = eIB ∨ e = eIA ∨ e = eUO) (fun h => ifx (Q := fun e => e = eIB ∨ e = eIA ∨ e = eUO) (fun h => Or.inr (Or.inr ((hdd_x h)))) (fun h => Or.inr (Or.inl (thr_x h))) h) (fun h => Or.inl (thr_x h)) h) (fun h => Or.inl (thr_x h)) h
theorem aLetOut_x {c : Nat → Int} {R : aQ} {x y : Int} {w : Bool} {e : String} (h : (aLetOut w c R x y).1 = .inr e) : e = eIB ∨ e = eUO := by
  unfold aLetOut at h
  exact ifx (Q := fun e => e = eIB ∨ e = eUO) (fun h => ifx (Q := fun e => e = eIB ∨ e = eUO) (fun h => Or.inr ((hdd_x h))) (fun h => Or.inl (thr_x h)) h) (fun h => Or.inl (thr_x h)) h
theorem aTear_x {c : Nat → Int} {R : aQ} {x : Int} {w : Bool} {e : String} (h : (aTear w c R x).1 = .inr e) : e = eIB := by
  unfold aTear at h
  exact ifx (Q := fun e => e = eIB) (fun h => okk_x h) (fun h => (thr_x h)) h
theorem aPatch_x {c : Nat → Int} {R : aQ} {x : Int} {w : Bool} {e : String} (h : (aPatch w c R x).1 = .inr e) : e = eIB ∨ e = eUO := by
  unfold aPatch at h
  exact ifx (Q := fun e => e = eIB ∨ e = eUO) (fun h => Or.inr ((hdd_x h))) (fun h => Or.inl (thr_x h)) h
theorem aTorn_x {c : Nat → Int} {R : aQ} {x : Int} {e : String} (h : (aTorn c R x).1 = .inr e) : e = eIB ∨ e = eNS := by
  unfold aTorn at h
  exact ifx (Q := fun e => e = eIB ∨ e = eNS) (fun h => Or.inr ((fnd_x h))) (fun h => Or.inl (thr_x h)) h
theorem aTrunk_x {c : Nat → Int} {R : aQ} {w : Bool} {e : String} (h : (aTrunk w c R ).1 = .inr e) : e = eUO := by
  unfold aTrunk at h
  exact (hdd_x h)
theorem aUnpack_x {c : Nat → Int} {R : aQ} {x : Int} {w : Bool} {e : String} (h : (aUnpack w c R x).1 = .inr e) : e = eIB ∨ e = eUO := by
  unfold aUnpack at h
  exact ifx (Q := fun e => e = eIB ∨ e = eUO) (fun h => Or.inr ((hdd_x h))) (fun h => Or.inl (thr_x h)) h
theorem aPacked_x {c : Nat → Int} {R : aQ} {x y : Int} {e : String} (h : (aPacked c R x y).1 = .inr e) : e = eIB ∨ e = eNS := by
  unfold aPacked at h
  exact ifx (Q := fun e => e = eIB ∨ e = eNS) (fun h => Or.inr ((fnd_x h))) (fun h => Or.inl (thr_x h)) h
theorem aOnTrain_x {c : Nat → Int} {R : aQ} {x : Int} {e : String} (h : (aOnTrain c R x).1 = .inr e) : e = eNS := by
  unfold aOnTrain at h
  exact (fnd_x h)
theorem aUnloads_x {c : Nat → Int} {R : aQ} {x : Int} {e : String} (h : (aUnloads c R x).1 = .inr e) : e = eIB := by
  unfold aUnloads at h
  exact ifx (Q := fun e => e = eIB) (fun h => okk_x h) (fun h => (thr_x h)) h
theorem aTight_x {c : Nat → Int} {R : aQ} {x : Int} {e : String} (h : (aTight c R x).1 = .inr e) : e = eIB ∨ e = eNS := by
  unfold aTight at h
  exact ifx (Q := fun e => e = eIB ∨ e = eNS) (fun h => Or.inr ((fnd_x h))) (fun h => Or.inl (thr_x h)) h
theorem aSign_x {c : Nat → Int} {R : aQ} {x : Int} {e : String} (h : (aSign c R x).1 = .inr e) : e = eIB := by
  unfold aSign at h
  exact ifx (Q := fun e => e = eIB) (fun h => okk_x h) (fun h => (thr_x h)) h
theorem aPass_x2 {c : Nat → Int} {R : aQ} {x : Int} {w : Bool} {e : String} (h : (aPass w c R x).1 = .inr e) : e = eIA := aPass_x h
theorem aAppend_x {c : Nat → Int} {R : aQ} {x : Int} {e : String} (h : (aAppend c R x).1 = .inr e) : e = eIS := by
  unfold aAppend at h
  exact ifx (Q := fun e => e = eIS) (fun h => thr_x h) (fun h => okk_x h) h
theorem aRefusal_x {c : Nat → Int} {R : aQ} {b : Int} {e : String} (h : (aRefusal c R b).1 = .inr e) : e = eNS := by
  unfold aRefusal at h
  exact ifx (Q := fun e => e = eNS) (fun h => thr_x h) (fun h => okk_x h) h
theorem aAccount_x {c : Nat → Int} {R : aQ} {x : Int} {e : String} (h : (aAccount c R x).1 = .inr e) : e = eIA := by
  unfold aAccount at h
  exact ifx (Q := fun e => e = eIA) (fun h => okk_x h) (fun h => ifx (Q := fun e => e = eIA) (fun h => okk_x h) (fun h => ifx (Q := fun e => e = eIA) (fun h => okk_x h) (fun h => thr_x h) h) h) h
theorem aUndo_x {c : Nat → Int} {R : aQ} {e : String} (h : (aUndo c R).1 = .inr e) : e = eIS := by
  cases hR : R.1 with
  | nil => rw [aUndo_n hR] at h; exact thr_x h
  | cons r H => rw [aUndo_c hR] at h; exact okk_x h
theorem aRestore_x {c : Nat → Int} {R : aQ} {e : String} (h : (aRestore c R).1 = .inr e) : e = eIS := by
  cases hv : R.2.1 with
  | none => rw [aRestore_n hv] at h; exact thr_x h
  | some v => rw [aRestore_s hv] at h; exact okk_x h
theorem aRead_x {c : Nat → Int} {R : aQ} {e : String} (h : (aRead c R).1 = .inr e) : e = eIA ∨ e = eUO := by
  by_cases hp : (rdP R).1 = true
  · rcases rdO_t c R with ⟨q, e1, e2⟩ | ⟨e1, e2 | e2⟩
    · rw [aRead_u hp e1] at h; cases h; exact Or.inr rfl
    · rw [aRead_w hp e1 e2] at h; exact Or.inl (thr_x h)
    · rw [aRead_d hp e1 e2] at h; exact okk_x h
  · rw [aRead_e hp] at h; exact Or.inl (thr_x h)
theorem aCoat_I {D : Int} {c : Nat → Int} {R : aQ} {x : Int} (h : AI D c R) : OI (D + 1800) (aCoat false c R x) := by
  have g8 := h.1.1.coats; have g9 := h.1.1.acts; have g10 := h.1.1.women; have g11 := h.1.1.trunks; have g12 := h.1.1.loaded
  unfold aCoat
  refine OI.ite (fun h0 => ?_) (fun _ => OI.same h _)
  refine OI.hdd h (b_More _ _) (fun hr => Inv.mono (D := D) ?_ (by omega))
  exact h.1.coat (by omega) (by have := rif_n hr; omega) ⟨by omega, by omega⟩
theorem aAct_I {D : Int} {c : Nat → Int} {R : aQ} {x y : Int} (h : AI D c R) : OI (D + 1800) (aAct false c R x y) := by
  have g8 := h.1.1.coats; have g9 := h.1.1.acts; have g10 := h.1.1.women; have g11 := h.1.1.trunks; have g12 := h.1.1.loaded
  unfold aAct
  refine OI.ite (fun h0 => ?_) (fun _ => OI.same h _)
  refine OI.ite (fun h1 => ?_) (fun _ => OI.same h _)
  refine OI.hdd h (b_More _ _) (fun hr => Inv.mono (D := D) ?_ (by omega))
  exact h.1.act (by omega) (by have := rif_n hr; omega) ⟨by omega, by omega⟩ ⟨by omega, by omega⟩
theorem aWear_I {D : Int} {c : Nat → Int} {R : aQ} {x y : Int} (h : AI D c R) : OI (D + 1800) (aWear false c R x y) := by
  have g8 := h.1.1.coats; have g9 := h.1.1.acts; have g10 := h.1.1.women; have g11 := h.1.1.trunks; have g12 := h.1.1.loaded
  unfold aWear
  refine OI.ite (fun h0 => ?_) (fun _ => OI.same h _)
  refine OI.ite (fun h1 => ?_) (fun _ => OI.same h _)
  refine OI.hdd h (b_Wear _ _ _) (fun hr => Inv.mono (D := D) ?_ (by omega))
  exact h.1.give (by omega) (by omega) (by have e : ((x.toNat : Nat) : Int) = x := (by omega); rw [← e] at hr; exact rWear_n hr)
theorem aRip_I {D : Int} {c : Nat → Int} {R : aQ} {x y : Int} (h : AI D c R) : OI (D + 1800) (aRip false c R x y) := by
  have g8 := h.1.1.coats; have g9 := h.1.1.acts; have g10 := h.1.1.women; have g11 := h.1.1.trunks; have g12 := h.1.1.loaded
  unfold aRip
  refine OI.ite (fun h0 => ?_) (fun _ => OI.same h _)
  refine OI.ite (fun h1 => ?_) (fun _ => OI.same h _)
  refine OI.ok h (Inv.mono (D := D) ?_ (by omega))
  exact h.1.rip (by omega) (by omega)
theorem aLose_I {D : Int} {c : Nat → Int} {R : aQ} {x y : Int} (h : AI D c R) : OI (D + 1800) (aLose false c R x y) := by
  have g8 := h.1.1.coats; have g9 := h.1.1.acts; have g10 := h.1.1.women; have g11 := h.1.1.trunks; have g12 := h.1.1.loaded
  unfold aLose
  refine OI.ite (fun h0 => ?_) (fun _ => OI.same h _)
  refine OI.ite (fun h1 => ?_) (fun _ => OI.same h _)
  refine OI.ok h (Inv.mono (D := D) ?_ (by omega))
  exact h.1.lose (by omega) (by omega)
theorem aWoman_I {D : Int} {c : Nat → Int} {R : aQ} (h : AI D c R) : OI (D + 1800) (aWoman false c R ) := by
  have g8 := h.1.1.coats; have g9 := h.1.1.acts; have g10 := h.1.1.women; have g11 := h.1.1.trunks; have g12 := h.1.1.loaded
  unfold aWoman
  refine OI.hdd h (b_More _ _) (fun hr => Inv.mono (D := D) ?_ (by omega))
  exact h.1.woman (by have := rif_n hr; omega) (by omega)
theorem aBring_I {D : Int} {c : Nat → Int} {R : aQ} {x y : Int} (h : AI D c R) : OI (D + 1800) (aBring false c R x y) := by
  have g8 := h.1.1.coats; have g9 := h.1.1.acts; have g10 := h.1.1.women; have g11 := h.1.1.trunks; have g12 := h.1.1.loaded
  unfold aBring
  refine OI.ite (fun h0 => ?_) (fun _ => OI.same h _)
  refine OI.ite (fun h1 => ?_) (fun _ => OI.same h _)
  refine OI.ok h (Inv.mono (D := D) ?_ (by omega))
  exact h.1.store (by omega) (by have gq := h.1.1.good (k := x.toNat) (by omega); simp only [zmn]; split <;> omega)
theorem aSew_I {D : Int} {c : Nat → Int} {R : aQ} {x y : Int} (h : AI D c R) : OI (D + 1800) (aSew false c R x y) := by
  have g8 := h.1.1.coats; have g9 := h.1.1.acts; have g10 := h.1.1.women; have g11 := h.1.1.trunks; have g12 := h.1.1.loaded
  unfold aSew
  refine OI.ite (fun h0 => ?_) (fun _ => OI.same h _)
  refine OI.ite (fun h1 => ?_) (fun _ => OI.same h _)
  refine OI.hdd h (b_Mend _ _ _) (fun hr => Inv.mono (D := D) ?_ (by omega))
  exact h.1.mend (by omega) (by omega) (rMend_n hr).2.2.2.1 (rMend_n hr).2.2.2.2 (by have := (rMend_n hr).2.2.1; have g := h.1.1.rips (k := y.toNat) (by omega); omega)
theorem aSpangle_I {D : Int} {c : Nat → Int} {R : aQ} {x y z : Int} (h : AI D c R) : OI (D + 1800) (aSpangle false c R x y z) := by
  have g8 := h.1.1.coats; have g9 := h.1.1.acts; have g10 := h.1.1.women; have g11 := h.1.1.trunks; have g12 := h.1.1.loaded
  unfold aSpangle
  refine OI.ite (fun h0 => ?_) (fun _ => OI.same h _)
  refine OI.ite (fun h1 => ?_) (fun _ => OI.same h _)
  refine OI.ite (fun h2 => ?_) (fun _ => OI.same h _)
  refine OI.hdd h (b_Sew _ _ _ _) (fun hr => Inv.mono (D := D) ?_ (by omega))
  exact h.1.sew (by omega) (by omega) (by omega) (rSew_n hr).2.2.2.2.1 (rSew_n hr).2.2.2.2.2 (rSew_n hr).2.2.1 (rSew_n hr).2.2.2.1
theorem aLetOut_I {D : Int} {c : Nat → Int} {R : aQ} {x y : Int} (h : AI D c R) : OI (D + 1800) (aLetOut false c R x y) := by
  have g8 := h.1.1.coats; have g9 := h.1.1.acts; have g10 := h.1.1.women; have g11 := h.1.1.trunks; have g12 := h.1.1.loaded
  unfold aLetOut
  refine OI.ite (fun h0 => ?_) (fun _ => OI.same h _)
  refine OI.ite (fun h1 => ?_) (fun _ => OI.same h _)
  refine OI.hdd h (b_Widen _ _ _) (fun hr => Inv.mono (D := D) ?_ (by omega))
  exact h.1.widen (by omega) (by omega) (rWiden_n hr).2.2.2.1 (rWiden_n hr).2.2.2.2 (rWiden_n hr).2.2.1
theorem aTear_I {D : Int} {c : Nat → Int} {R : aQ} {x : Int} (h : AI D c R) : OI (D + 1800) (aTear false c R x) := by
  have g8 := h.1.1.coats; have g9 := h.1.1.acts; have g10 := h.1.1.women; have g11 := h.1.1.trunks; have g12 := h.1.1.loaded
  unfold aTear
  refine OI.ite (fun h0 => ?_) (fun _ => OI.same h _)
  refine OI.ok h (Inv.mono (D := D) ?_ (by omega))
  exact h.1.tear (by omega)
theorem aPatch_I {D : Int} {c : Nat → Int} {R : aQ} {x : Int} (h : AI D c R) : OI (D + 1800) (aPatch false c R x) := by
  have g8 := h.1.1.coats; have g9 := h.1.1.acts; have g10 := h.1.1.women; have g11 := h.1.1.trunks; have g12 := h.1.1.loaded
  unfold aPatch
  refine OI.ite (fun h0 => ?_) (fun _ => OI.same h _)
  refine OI.hdd h (b_Patch _ _) (fun hr => Inv.mono (D := D) ?_ (by omega))
  exact h.1.patch (by omega) (by have := zfst_t h.1.1 (rPatch_n hr).2.1; omega) (rPatch_n hr).2.2.2 (by have := (rPatch_n hr).2.2.1; have g := h.1.1.g3; omega)
theorem aTrunk_I {D : Int} {c : Nat → Int} {R : aQ} (h : AI D c R) : OI (D + 1800) (aTrunk false c R ) := by
  have g8 := h.1.1.coats; have g9 := h.1.1.acts; have g10 := h.1.1.women; have g11 := h.1.1.trunks; have g12 := h.1.1.loaded
  unfold aTrunk
  refine OI.hdd h (b_More _ _) (fun hr => Inv.mono (D := D) ?_ (by omega))
  exact h.1.trunk (by have := rif_n hr; omega) (by have := rif_n hr; omega)
theorem aPack_I {D : Int} {c : Nat → Int} {R : aQ} {x y : Int} (h : AI D c R) : OI (D + 1800) (aPack false c R x y) := by
  have g8 := h.1.1.coats; have g9 := h.1.1.acts; have g10 := h.1.1.women; have g11 := h.1.1.trunks; have g12 := h.1.1.loaded
  unfold aPack
  refine OI.ite (fun h0 => ?_) (fun _ => OI.same h _)
  refine OI.ite (fun h1 => ?_) (fun _ => OI.same h _)
  refine OI.hdd h (b_Pack _ _ _) (fun hr => Inv.mono (D := D) ?_ (by omega))
  exact h.1.pack (by omega) (by omega) (by have g := h.1.1.intr (k := y.toNat) (by omega); omega) (by have := (rPack_n h.1.1 hr).2.2; have g := h.1.1.intr (k := y.toNat) (by omega); omega) (rPack_n h.1.1 hr).1
theorem aUnpack_I {D : Int} {c : Nat → Int} {R : aQ} {x : Int} (h : AI D c R) : OI (D + 1800) (aUnpack false c R x) := by
  have g8 := h.1.1.coats; have g9 := h.1.1.acts; have g10 := h.1.1.women; have g11 := h.1.1.trunks; have g12 := h.1.1.loaded
  unfold aUnpack
  refine OI.ite (fun h0 => ?_) (fun _ => OI.same h _)
  refine OI.hdd h (b_Unpack _ _) (fun hr => Inv.mono (D := D) ?_ (by omega))
  obtain ⟨t, ht⟩ : ∃ t : Nat, c (61 + x.toNat) = (t : Int) := ⟨(c (61 + x.toNat)).toNat, by have := (rUnpack_n h.1.1 hr).1; have g := h.1.1.tr (k := x.toNat) (by omega); omega⟩
  obtain ⟨ht4, p, q, hpl, hq, hpq, hq5, hpk, -⟩ := plc_y h.1 (by omega) ht
  rw [hpl, show (c (61 + x.toNat)).toNat = t by omega, Int.toNat_natCast, show (c (121 + t) + -1).toNat = q by omega]
  have hu := plc_t h.1 (show ((x.toNat : Nat) : Int) < c 8 by omega) (by omega)
  rw [show (c (61 + x.toNat)).toNat = t by omega] at hu
  exact h.1.out (by omega) (by omega) ht hpk hq hpq
theorem aLoad_I {D : Int} {c : Nat → Int} {R : aQ} {x : Int} (h : AI D c R) : OI (D + 1800) (aLoad false c R x) := by
  have g8 := h.1.1.coats; have g9 := h.1.1.acts; have g10 := h.1.1.women; have g11 := h.1.1.trunks; have g12 := h.1.1.loaded
  unfold aLoad
  refine OI.ite (fun h0 => ?_) (fun _ => OI.same h _)
  refine OI.hdd h (b_Loaded _ _) (fun hr => Inv.mono (D := D) ?_ (by omega))
  have q2 := rLoaded_n h.1.1 hr
  have h4 : c 12 ≠ 4 := fun z => by
    obtain ⟨p, p1, p2⟩ := h.1.2.2.2.1.full h.1.1 z (t := x.toNat) (by omega)
    exact q2 p (by omega) (by omega)
  exact h.1.load (by omega) (by omega) (by omega) (fun p hp => by have := q2 p (by omega); omega)
theorem aUnload_I {D : Int} {c : Nat → Int} {R : aQ} (h : AI D c R) : OI (D + 1800) (aUnload false c R ) := by
  have g8 := h.1.1.coats; have g9 := h.1.1.acts; have g10 := h.1.1.women; have g11 := h.1.1.trunks; have g12 := h.1.1.loaded
  unfold aUnload
  refine OI.hdd h (b_Unload _) (fun hr => Inv.mono (D := D) ?_ (by omega))
  exact h.1.unload (by have := rif_n hr; omega)
theorem aGoOn_I {D : Int} {c : Nat → Int} {R : aQ} {x : Int} (h : AI D c R) : OI (D + 1800) (aGoOn false c R x) := by
  have g8 := h.1.1.coats; have g9 := h.1.1.acts; have g10 := h.1.1.women; have g11 := h.1.1.trunks; have g12 := h.1.1.loaded
  unfold aGoOn
  refine OI.ite (fun h0 => ?_) (fun _ => OI.same h _)
  refine OI.hdd h (b_Go _ _) (fun hr => Inv.mono (D := D) ?_ (by omega))
  obtain ⟨j, hj, q5, q6, q7⟩ := h.1.2.1.2 x.toNat (by omega) (by omega) (rGo_n hr).1
  exact h.1.show (by omega) (by omega)
theorem aPass_I {D : Int} {c : Nat → Int} {R : aQ} {x : Int} (h : AI D c R) : OI (D + 1800) (aPass false c R x) := by
  have g8 := h.1.1.coats; have g9 := h.1.1.acts; have g10 := h.1.1.women; have g11 := h.1.1.trunks; have g12 := h.1.1.loaded
  unfold aPass
  refine OI.ite (fun h0 => ?_) (fun _ => OI.same h _)
  refine OI.ok h ?_
  exact (h.1.pass x.toNat).mono (by omega)
theorem aCoatOf_I {D : Int} {c : Nat → Int} {R : aQ} {x y : Int} (h : AI D c R) : OI (D + 1800) (aCoatOf c R x y) := by
  unfold aCoatOf
  refine OI.ite (fun _ => ?_) (fun _ => OI.same h _)
  refine OI.ite (fun _ => ?_) (fun _ => OI.same h _)
  exact OI.same h _
theorem aActOf_I {D : Int} {c : Nat → Int} {R : aQ} {x y : Int} (h : AI D c R) : OI (D + 1800) (aActOf c R x y) := by
  unfold aActOf
  refine OI.ite (fun _ => ?_) (fun _ => OI.same h _)
  refine OI.ite (fun _ => ?_) (fun _ => OI.same h _)
  exact OI.same h _
theorem aOpen_I {D : Int} {c : Nat → Int} {R : aQ} {x y : Int} (h : AI D c R) : OI (D + 1800) (aOpen c R x y) := by
  unfold aOpen
  refine OI.ite (fun _ => ?_) (fun _ => OI.same h _)
  refine OI.ite (fun _ => ?_) (fun _ => OI.same h _)
  exact OI.same h _
theorem aBest_I {D : Int} {c : Nat → Int} {R : aQ} {x : Int} (h : AI D c R) : OI (D + 1800) (aBest c R x) := by
  unfold aBest
  refine OI.ite (fun _ => ?_) (fun _ => OI.same h _)
  exact OI.fnd h
theorem aWork_I {D : Int} {c : Nat → Int} {R : aQ} {x y : Int} (h : AI D c R) : OI (D + 1800) (aWork c R x y) := by
  unfold aWork
  refine OI.ite (fun _ => ?_) (fun _ => OI.same h _)
  refine OI.ite (fun _ => ?_) (fun _ => OI.same h _)
  exact OI.fnd h
theorem aWomanOf_I {D : Int} {c : Nat → Int} {R : aQ} {x y : Int} (h : AI D c R) : OI (D + 1800) (aWomanOf c R x y) := by
  unfold aWomanOf
  refine OI.ite (fun _ => ?_) (fun _ => OI.same h _)
  refine OI.ite (fun _ => ?_) (fun _ => OI.same h _)
  exact OI.same h _
theorem aTorn_I {D : Int} {c : Nat → Int} {R : aQ} {x : Int} (h : AI D c R) : OI (D + 1800) (aTorn c R x) := by
  unfold aTorn
  refine OI.ite (fun _ => ?_) (fun _ => OI.same h _)
  exact OI.fnd h
theorem aPacked_I {D : Int} {c : Nat → Int} {R : aQ} {x y : Int} (h : AI D c R) : OI (D + 1800) (aPacked c R x y) := by
  unfold aPacked
  refine OI.ite (fun _ => ?_) (fun _ => OI.same h _)
  exact OI.fnd h
theorem aOnTrain_I {D : Int} {c : Nat → Int} {R : aQ} {x : Int} (h : AI D c R) : OI (D + 1800) (aOnTrain c R x) := by
  unfold aOnTrain
  exact OI.fnd h
theorem aUnloads_I {D : Int} {c : Nat → Int} {R : aQ} {x : Int} (h : AI D c R) : OI (D + 1800) (aUnloads c R x) := by
  unfold aUnloads
  refine OI.ite (fun _ => ?_) (fun _ => OI.same h _)
  exact OI.same h _
theorem aTight_I {D : Int} {c : Nat → Int} {R : aQ} {x : Int} (h : AI D c R) : OI (D + 1800) (aTight c R x) := by
  unfold aTight
  refine OI.ite (fun _ => ?_) (fun _ => OI.same h _)
  exact OI.fnd h
theorem aSign_I {D : Int} {c : Nat → Int} {R : aQ} {x : Int} (h : AI D c R) : OI (D + 1800) (aSign c R x) := by
  unfold aSign
  refine OI.ite (fun _ => ?_) (fun _ => OI.same h _)
  exact OI.same h _
theorem aErr_I {D : Int} {c : Nat → Int} {R : aQ} (h : AI D c R) : OI (D + 1800) (aErr c R) := OI.same h _
theorem aWell_I {D : Int} {c : Nat → Int} {R : aQ} (h : AI D c R) : OI (D + 1800) (aWell c R) := OI.same h _
theorem aRefusal_I {D b : Int} {c : Nat → Int} {R : aQ} (h : AI D c R) : OI (D + 1800) (aRefusal c R b) := OI.ite (fun _ => OI.same h _) (fun _ => OI.same h _)
theorem aAccount_I {D x : Int} {c : Nat → Int} {R : aQ} (h : AI D c R) : OI (D + 1800) (aAccount c R x) := OI.ite (fun _ => OI.same h _) (fun _ => OI.ite (fun _ => OI.same h _) (fun _ => OI.ite (fun _ => OI.same h _) (fun _ => OI.same h _)))
theorem aAppend_I {D x : Int} {c : Nat → Int} {R : aQ} (h : AI D c R) (hx : 0 ≤ x ∧ x ≤ 65535) : OI (D + 1800) (aAppend c R x) := by
  unfold aAppend
  refine OI.ite (fun _ => OI.same h _) (fun hn => ?_)
  have h2 := h.mono (show D ≤ D + 1800 by omega)
  refine ⟨h2.1, h2.2.1, h2.2.2.1, h2.2.2.2.1, by show R.2.2.2.1.2 + 1 ≤ 60; omega, fun p hp => ?_, h2.2.2.2.2.2.2.1, h2.2.2.2.2.2.2.2⟩
  have hp2 : p < R.2.2.2.1.2 + 1 := hp
  show 0 ≤ va_up R.2.2.2.1.1 R.2.2.2.1.2 x p ∧ va_up R.2.2.2.1.1 R.2.2.2.1.2 x p ≤ 65535
  rw [va_e]
  split
  · exact hx
  · exact h2.2.2.2.2.2.1 p (by omega)
theorem aUndo_I {D : Int} {c : Nat → Int} {R : aQ} (h : AI D c R) : OI (D + 1800) (aUndo c R) := by
  cases hR : R.1 with
  | nil => rw [aUndo_n hR]; exact OI.same h _
  | cons r H =>
    rw [aUndo_c hR]
    have h2 := h.mono (show D ≤ D + 1800 by omega)
    refine ⟨h2.2.1 r (by rw [hR]; exact List.mem_cons_self), fun q hq => h2.2.1 q (by rw [hR]; exact List.mem_cons_of_mem _ hq), ?_, h2.2.2.2⟩
    have := h2.2.2.1
    rw [hR, List.length_cons] at this
    show H.length ≤ 8
    omega
theorem aSave_I {D : Int} {c : Nat → Int} {R : aQ} (h : AI D c R) : OI (D + 1800) (aSave c R) := by
  have h2 := h.mono (show D ≤ D + 1800 by omega)
  exact ⟨h2.1, h2.2.1, h2.2.2.1, fun v hv => by cases hv; exact h2.1, h2.2.2.2.2⟩
theorem aRestore_I {D : Int} {c : Nat → Int} {R : aQ} (h : AI D c R) : OI (D + 1800) (aRestore c R) := by
  cases hv : R.2.1 with
  | none => rw [aRestore_n hv]; exact OI.same h _
  | some v =>
    rw [aRestore_s hv]
    have h2 := h.mono (show D ≤ D + 1800 by omega)
    exact ⟨h2.2.2.2.1 v hv, (fun q hq => by cases hq), Nat.zero_le _, h2.2.2.2⟩
theorem crO_b {K F S : Nat → Int} : ∀ (m i : Nat) (c : Nat → Int), zrB (crO K F S m i c).2.1
  | 0, _, _ => fun q h => by cases h
  | m + 1, i, c => by
    by_cases h : oNm c (K i) (F i) (S i) = true
    · cases h2 : oRf c (K i) (F i) (S i) with
      | some x =>
        rw [crO_r h h2]
        intro q hq
        cases hq
        unfold oRf at h2
        have hb : zrB (oRf c (K i) (F i) (S i)) := by
          unfold oRf
          split; exact b_Mend _ _ _
          split; exact b_Wear _ _ _
          split; exact b_Pack _ _ _
          split; exact b_Loaded _ _
          split; exact b_Unload _
          split; exact b_Go _ _
          intro q hq; cases hq
        exact hb _ h2
      | none => rw [crO_g h h2]; exact crO_b m (i + 1) _
    · rw [crO_w h]; intro q hq; cases hq
theorem aRead_I {D : Int} {c : Nat → Int} {R : aQ} (h : AI D c R) : OI (D + 1800) (aRead c R) := by
  have h2 := h.mono (show D ≤ D + 1800 by omega)
  have hpb : (rdP R).2.1 ≤ 0 + 7 * 61 := ipr_p 61 0
  by_cases hp : (rdP R).1 = true
  · have h3 := h2.rd (e := -1) ⟨by decide, by decide⟩
    rcases rdO_t c R with ⟨q, e1, e2⟩ | ⟨e1, e2 | e2⟩
    · rw [aRead_u hp e1]
      have hb := crO_b _ _ _ q e1
      exact ⟨h3.1, h3.2.1, h3.2.2.1, h3.2.2.2.1, h3.2.2.2.2.1, h3.2.2.2.2.2.1, ⟨by show -2147483648 ≤ q.1; omega, by show q.1 < 2147483648; omega⟩, h3.2.2.2.2.2.2.2⟩
    · rw [aRead_w hp e1 e2]; exact h3
    · rw [aRead_d hp e1 e2]
      have h4 := (h.rd (e := -1) ⟨by decide, by decide⟩)
      exact h4.kp (by omega) (rdO_I h.1 h.2.2.2.2.1)
  · rw [aRead_e hp]
    exact h2.rd ⟨by omega, by omega⟩
