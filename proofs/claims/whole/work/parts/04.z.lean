/-! ===== virtual cells: a fixed world of 40 cells, told by functions; refs are places in it ===== -/
abbrev zS : Type := (Nat × List (Option Nat)) ⊕ (Nat × Nat)
/-- ints by cell and slot; the long row; the double row -/
abbrev zT : Type := (Nat → Nat → Int) × (Nat → Int64) × (Nat → UInt64)
/-- values: an int by its number, a ref by its place (none: null), a long, a double, a float -/
abbrev vV : Type := Int ⊕ Option Nat ⊕ Int64 ⊕ UInt64 ⊕ UInt32
abbrev vi (a : Int) : vV := .inl a
abbrev vr (k : Nat) : vV := .inr (.inl (some k))
abbrev vn : vV := .inr (.inl none)
abbrev vl (x : Int64) : vV := .inr (.inr (.inl x))
abbrev vd (x : UInt64) : vV := .inr (.inr (.inr (.inl x)))
abbrev vf (x : UInt32) : vV := .inr (.inr (.inr (.inr x)))
def zcat : vV → Nat
  | .inl _ => 1
  | .inr (.inl _) => 1
  | .inr (.inr (.inl _)) => 2
  | .inr (.inr (.inr (.inl _))) => 2
  | .inr (.inr (.inr (.inr _))) => 1
/-- launch, classes' numbers, array classes' numbers, addresses of the cells, the first address that is ours -/
abbrev zE : Type := Launch × va_G × (Nat → ClassId) × (Nat → Nat) × Nat
def zCl : List vw_C := [(RX10, TX10, 6), (RX6, TX6, 1), (RX1, TX1, 3), (RX5, TX5, 2), (RX2, TX2, 8), (RX11, TX11, 17)]
def zsh : List zS := [
  .inl (0, [some 1, some 2, some 12, some 14, some 15, none]),
  .inl (1, [some 21]), .inl (1, [some 22]), .inl (1, [some 23]), .inl (1, [some 24]), .inl (1, [some 25]), .inl (1, [some 26]), .inl (1, [some 27]), .inl (1, [some 28]), .inl (1, [some 29]), .inl (1, [some 30]), .inl (1, [some 31]),
  .inl (2, [some 13, none, none]), .inr (4, 9), .inl (3, [none, none]), .inl (4, [some 16, some 17, some 18, some 19, none, none, none, none]),
  .inr (1, 60), .inr (1, 30), .inr (0, 30), .inr (0, 30), .inr (2, 1),
  .inr (0, 181), .inr (0, 181), .inr (0, 181), .inr (0, 181), .inr (0, 181), .inr (0, 181), .inr (0, 181), .inr (0, 181), .inr (0, 181), .inr (0, 181), .inr (0, 181),
  .inl (5, [some 33, some 34, some 35, some 36, none, none, none, none, none, none, none, some 37, none, none, none, some 38, none]),
  .inr (0, 150), .inr (0, 1200), .inr (0, 150), .inr (0, 150), .inr (0, 60), .inr (0, 96), .inr (3, 1)]
def zre (E : zE) : vV → Value
  | .inl a => .int (Int32.ofInt a)
  | .inr (.inl (some k)) => .ref (E.2.2.2.1 k)
  | .inr (.inl none) => .null
  | .inr (.inr (.inl x)) => .long x
  | .inr (.inr (.inr (.inl x))) => .double x
  | .inr (.inr (.inr (.inr x))) => .float x
def zrl (E : zE) (q : Nat × vV) : Nat × Value := (q.1, zre E q.2)
def zfld (E : zE) (st : zT) (k i : Nat) : Option Nat → Value
  | some j => .ref (E.2.2.2.1 j)
  | none => .int (Int32.ofInt (st.1 k i))
def zcell (E : zE) (st : zT) (k : Nat) : zS → va_E
  | .inl (ci, fs) => .inr (ci, fs.mapIdx (zfld E st k))
  | .inr (0, n) => .inl (E.2.2.1 0, n, .inl (fun j => Int32.ofInt (st.1 k j)))
  | .inr (1, n) => .inl (E.2.2.1 1, n, .inl (fun j => Int32.ofInt (st.1 k j)))
  | .inr (2, n) => .inl (E.2.2.1 2, n, .inr (.inl st.2.1))
  | .inr (3, n) => .inl (E.2.2.1 3, n, .inr (.inr (.inr (.inl st.2.2))))
  | .inr (_, n) => .inl (E.2.2.1 4, n, .inr (.inr (.inr (.inr (fun i => some (E.2.2.2.1 (3 + i)))))))
def zws (E : zE) (st : zT) : va_W := zsh.mapIdx (fun k c => (E.2.2.2.1 k, zcell E st k c))
def zA (E : zE) : Nat → Prop := fun q => E.2.2.2.2 ≤ q
def ztys (E : zE) : List (ClassId × FieldType) := [(E.2.2.1 0, .int), (E.2.2.1 1, .char), (E.2.2.1 2, .long), (E.2.2.1 3, .double), (E.2.2.1 4, .object RX6)]
def zDD (E : zE) : Prop := (∀ i j : Nat, i < 40 → j < 40 → E.2.2.2.1 i = E.2.2.2.1 j → i = j) ∧ ∀ i : Nat, i < 40 → zA E (E.2.2.2.1 i)
theorem zws_at {E : zE} {st : zT} {k : Nat} {c : zS} (h : zsh[k]? = some c) : (zws E st)[k]? = some (E.2.2.2.1 k, zcell E st k c) := by
  simp [zws, List.getElem?_mapIdx, h]
theorem zws_D {E : zE} (h : zDD E) (st : zT) : va_D (zA E) (zws E st) := by
  have hlen : (zws E st).length = 40 := by simp [zws, zsh]
  have key : ∀ (k : Nat) (q : Nat × va_E), (zws E st)[k]? = some q → k < 40 ∧ q.1 = E.2.2.2.1 k := by
    intro k q hk
    have hk2 : k < 40 := by rw [← hlen]; exact (List.getElem?_eq_some_iff.mp hk).1
    simp only [zws, List.getElem?_mapIdx] at hk
    cases hz : zsh[k]? with
    | none => rw [hz] at hk; cases hk
    | some c => rw [hz] at hk; cases hk; exact ⟨hk2, rfl⟩
  refine ⟨fun i j p q hi hj e => ?_, fun k q hk => ?_⟩
  · obtain ⟨h1, e1⟩ := key i p hi
    obtain ⟨h2, e2⟩ := key j q hj
    exact h.1 i j h1 h2 (by rw [← e1, ← e2]; exact e)
  · obtain ⟨h1, e1⟩ := key k q hk
    rw [e1]
    exact h.2 k h1
/-- ints: one slot of one cell -/
def zup (σ : Nat → Nat → Int) (k i : Nat) (v : Int) : Nat → Nat → Int := fun a => match Nat.beq a k with
  | true => va_up (σ a) i v
  | false => σ a
theorem zup_eq (σ : Nat → Nat → Int) (k i : Nat) (v : Int) : zup σ k i v k = va_up (σ k) i v := by
  simp [zup]
theorem zup_ne {σ : Nat → Nat → Int} {k a : Nat} (h : a ≠ k) (i : Nat) (v : Int) : zup σ k i v a = σ a := by
  have : Nat.beq a k = false := by
    cases hb : Nat.beq a k with
    | false => rfl
    | true => exact absurd (Nat.eq_of_beq_eq_true hb) h
  simp [zup, this]
theorem zws_get {E : zE} {st : zT} {k : Nat} : (zws E st)[k]? = (zsh[k]?).map (fun c => (E.2.2.2.1 k, zcell E st k c)) := by
  simp [zws, List.getElem?_mapIdx]
theorem zcell_ne {E : zE} {σ : Nat → Nat → Int} {lo : Nat → Int64} {dd : Nat → UInt64} {k j i : Nat} {v : Int} (h : j ≠ k) (c : zS) : zcell E (zup σ k i v, lo, dd) j c = zcell E (σ, lo, dd) j c := by
  rcases c with ⟨ci, fs⟩ | ⟨t, n⟩
  · show (Sum.inr _ : va_E) = Sum.inr _
    have : zfld E (zup σ k i v, lo, dd) j = zfld E (σ, lo, dd) j := by
      funext a b
      cases b with
      | some x => rfl
      | none => show Value.int (Int32.ofInt (zup σ k i v j a)) = Value.int (Int32.ofInt (σ j a)); rw [zup_ne h]
    rw [this]
  · match t with
    | 0 => show Sum.inl (_, _, Sum.inl (fun a => Int32.ofInt (zup σ k i v j a))) = Sum.inl (_, _, Sum.inl (fun a => Int32.ofInt (σ j a))); rw [zup_ne h]
    | 1 => show Sum.inl (_, _, Sum.inl (fun a => Int32.ofInt (zup σ k i v j a))) = Sum.inl (_, _, Sum.inl (fun a => Int32.ofInt (σ j a))); rw [zup_ne h]
    | 2 => rfl
    | 3 => rfl
    | _ + 4 => rfl
