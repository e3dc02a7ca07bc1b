theorem zset {E : zE} {st st' : zT} {k : Nat} {c : zS} {e : va_E} (hk : zsh[k]? = some c) (he : e = zcell E st' k c) (ho : ∀ j c', zsh[j]? = some c' → j ≠ k → zcell E st' j c' = zcell E st j c') : (zws E st).set k (E.2.2.2.1 k, e) = zws E st' := by
  have hl : k < (zws E st).length := by
    have := (List.getElem?_eq_some_iff.mp hk).1
    simpa [zws] using this
  apply List.ext_getElem?
  intro j
  by_cases hj : k = j
  · subst hj
    rw [List.getElem?_set_self hl, zws_get, hk, he]
    rfl
  · rw [List.getElem?_set_ne hj, zws_get, zws_get]
    cases hz : zsh[j]? with
    | none => rfl
    | some c' => show some (E.2.2.2.1 j, zcell E st j c') = some (E.2.2.2.1 j, zcell E st' j c'); rw [ho j c' hz (fun q => hj q.symm)]
theorem zset_f {E : zE} {σ : Nat → Nat → Int} {lo : Nat → Int64} {dd : Nat → UInt64} {k i ci : Nat} {fs : List (Option Nat)} {v : Int} (hk : zsh[k]? = some (.inl (ci, fs))) (hi : fs[i]? = some none) : (zws E (σ, lo, dd)).set k (E.2.2.2.1 k, .inr (ci, (fs.mapIdx (zfld E (σ, lo, dd) k)).set i (.int (Int32.ofInt v)))) = zws E (zup σ k i v, lo, dd) := by
  refine zset hk ?_ (fun j c' _ h => zcell_ne h c')
  show Sum.inr _ = Sum.inr _
  congr 2
  apply List.ext_getElem?
  intro j
  by_cases hj : i = j
  · subst hj
    have hl : i < (fs.mapIdx (zfld E (σ, lo, dd) k)).length := by simpa using (List.getElem?_eq_some_iff.mp hi).1
    rw [List.getElem?_set_self hl, List.getElem?_mapIdx, hi]
    show some (Value.int (Int32.ofInt v)) = some (Value.int (Int32.ofInt (zup σ k i v k i)))
    rw [zup_eq]; simp [va_up]
  · rw [List.getElem?_set_ne hj, List.getElem?_mapIdx, List.getElem?_mapIdx]
    cases hz : fs[j]? with
    | none => rfl
    | some x =>
      cases x with
      | some y => rfl
      | none =>
        show some (Value.int (Int32.ofInt (σ k j))) = some (Value.int (Int32.ofInt (zup σ k i v k j)))
        rw [zup_eq]; simp [va_up, Ne.symm hj]
theorem zupd (f : Nat → Int) (i : Nat) (v : Int) : upd (fun j => Int32.ofInt (f j)) i (Int32.ofInt v) = fun j => Int32.ofInt (va_up f i v j) := by
  funext j
  simp only [upd, va_up]
  split <;> rfl
theorem zset_a {E : zE} {σ : Nat → Nat → Int} {lo : Nat → Int64} {dd : Nat → UInt64} {k i n t : Nat} {v : Int} (ht : t = 0 ∨ t = 1) (hk : zsh[k]? = some (.inr (t, n))) : (zws E (σ, lo, dd)).set k (E.2.2.2.1 k, .inl (E.2.2.1 t, n, .inl (upd (fun j => Int32.ofInt (σ k j)) i (Int32.ofInt v)))) = zws E (zup σ k i v, lo, dd) := by
  refine zset hk ?_ (fun j c' _ h => zcell_ne h c')
  rw [zupd]
  rcases ht with rfl | rfl
  · show Sum.inl (_, _, Sum.inl _) = Sum.inl (_, _, Sum.inl (fun j => Int32.ofInt (zup σ k i v k j))); rw [zup_eq]
  · show Sum.inl (_, _, Sum.inl _) = Sum.inl (_, _, Sum.inl (fun j => Int32.ofInt (zup σ k i v k j))); rw [zup_eq]
theorem zsh_k (t : Nat) (a : Nat) (h : (List.range 40).all (fun j => match zsh[j]? with | some (.inr (u, _)) => !(Nat.beq u t) || Nat.beq j a | _ => true) = true) (j : Nat) (hj : j < 40) (n : Nat) (hz : zsh[j]? = some (.inr (t, n))) : j = a := by
  have h1 := List.all_eq_true.mp h j (List.mem_range.mpr hj)
  rw [hz] at h1
  simp at h1
  exact h1
theorem zsh_l (j : Nat) (hj : j < 40) (n : Nat) (hz : zsh[j]? = some (.inr (2, n))) : j = 20 := zsh_k 2 20 (by decide +kernel) j hj n hz
theorem zsh_d (j : Nat) (hj : j < 40) (n : Nat) (hz : zsh[j]? = some (.inr (3, n))) : j = 39 := zsh_k 3 39 (by decide +kernel) j hj n hz
theorem zset_l {E : zE} {σ : Nat → Nat → Int} {lo : Nat → Int64} {dd : Nat → UInt64} {i : Nat} {v : Int64} : (zws E (σ, lo, dd)).set 20 (E.2.2.2.1 20, .inl (E.2.2.1 2, 1, .inr (.inl (vp_updL lo i v)))) = zws E (σ, vp_updL lo i v, dd) := by
  refine zset (k := 20) (c := .inr (2, 1)) rfl rfl (fun j c' hz h => ?_)
  rcases c' with ⟨ci, fs⟩ | ⟨t, n⟩
  · rfl
  · match t with
    | 0 => rfl
    | 1 => rfl
    | 2 =>
      have hj : j < 40 := by have := (List.getElem?_eq_some_iff.mp hz).1; simpa [zsh] using this
      exact absurd (zsh_l j hj n hz) h
    | 3 => rfl
    | _ + 4 => rfl
theorem zset_d {E : zE} {σ : Nat → Nat → Int} {lo : Nat → Int64} {dd : Nat → UInt64} {i : Nat} {v : UInt64} : (zws E (σ, lo, dd)).set 39 (E.2.2.2.1 39, .inl (E.2.2.1 3, 1, .inr (.inr (.inr (.inl (vf_upd dd i v)))))) = zws E (σ, lo, vf_upd dd i v) := by
  refine zset (k := 39) (c := .inr (3, 1)) rfl rfl (fun j c' hz h => ?_)
  rcases c' with ⟨ci, fs⟩ | ⟨t, n⟩
  · rfl
  · match t with
    | 0 => rfl
    | 1 => rfl
    | 2 => rfl
    | 3 =>
      have hj : j < 40 := by have := (List.getElem?_eq_some_iff.mp hz).1; simpa [zsh] using this
      exact absurd (zsh_d j hj n hz) h
    | _ + 4 => rfl
/-! ===== what stays true of the machine's start state ===== -/
def ztx : List (String × Nat × String) := [(RX10, 331, "a number is out of range"), (RX10, 340, "refused"), (RX10, 335, "there is no such number"), (RX10, 99, "no such number of a coat"), (RX10, 104, "no such number of an act"), (RX10, 343, "there is none"), (RX10, 130, "no such number of a seamstress"), (RX10, 238, "the input is full"), (RX10, 251, "the text has an error"), (RX10, 265, "an order names what is not there"), (RX10, 278, "nothing was refused"), (RX10, 310, "there are no seamstresses"), (RX10, 318, "no change can be undone"), (RX10, 326, "there is no snapshot")]
def zNwB : Cond → Bool
  | .castable .. => true
  | .declares .. => true
  | _ => false
def zNw : List Cond := tables_1.filter zNwB
def zY (E : zE) (U : State) : Prop :=
  (vk_S 1 [7] [[115, 119, 107, 108, 117, 103, 112]] (fun _ => E.2.2.2.1 40) (fun _ => E.2.2.2.1 41) (zA E) U U.heap ∧ vk_R RX2 75 "swklugp" (E.2.2.2.1 40) U) ∧ va_Z "java/lang/String" "COMPACT_STRINGS" "Z" (.int 1) (zA E) U U.heap
def zX (E : zE) (U : State) : Prop :=
  va_K E.2.1 zCl (ztys E) U ∧ (vx_Zq Bundle.tN "UNASSIGNED_STACK" Bundle.steD (zA E) U U.heap ∧ vx_Zq Bundle.tN "SUPPRESSED_SENTINEL" Bundle.listD (zA E) U U.heap) ∧ (∀ q ∈ ztx, ∃ sa, vk_R q.1 q.2.1 q.2.2 sa U) ∧ (∀ w ∈ zNw, va_Nw w U) ∧ E.1.stackTraces = false ∧ zDD E ∧ zY E U
theorem zNw_go {s U : State} (hW : s.WarmedH U.vm) (h : ∀ w ∈ zNw, va_Nw w s) : ∀ w ∈ zNw, va_Nw w U := by
  intro w hw
  have h1 := h w hw
  have h2 : zNwB w = true := (List.mem_filter.mp hw).2
  cases w <;> first | exact va_Nw.warmC hW h1 | exact va_Nw.warmD hW h1 | (simp [zNwB] at h2; done)
theorem zX.go {E : zE} {s U : State} {H : Heap} {locs : List Loc} (h : zX E s) (hS : va_S (zA E) s.heap H locs) (hU : U.heap = H) (hW : s.WarmedH U.vm) : zX E U := by
  obtain ⟨h1, ⟨h2, h3⟩, h4, h5, h6, h7, ⟨⟨h8, h9⟩, h10⟩⟩ := h
  subst hU
  refine ⟨va_K.moved hW.alike h1, ⟨vx_Zq.moved hW.alike (h2.kept hS.2.1), vx_Zq.moved hW.alike (h3.kept hS.2.1)⟩, fun q hq => ?_, zNw_go hW h5, h6, h7, ⟨vk_S.moved hW.alike (h8.kept hS.2.1), vk_R.warm hW h9⟩, va_Z.moved hW.alike (h10.kept hS.2.1)⟩
  obtain ⟨sa, hsa⟩ := h4 q hq
  exact ⟨sa, vk_R.warm hW hsa⟩
theorem zX.calling {E : zE} {U : State} {g : JFrame} {mk : MethodId} {a : Array Value} (h : zX E U) : zX E (U.calling g mk a) := by
  obtain ⟨h1, ⟨h2, h3⟩, h4, h5, h6, h7, ⟨⟨h8, h9⟩, h10⟩⟩ := h
  have al : U.vm.Alike (U.calling g mk a).vm := Vm.Alike.refl U.vm
  refine ⟨va_K.moved al h1, ⟨vx_Zq.moved al h2, vx_Zq.moved al h3⟩, fun q hq => ?_, fun w hw => ?_, h6, h7, ⟨vk_S.moved al h8, vk_R.same rfl h9⟩, va_Z.moved al h10⟩
  · obtain ⟨sa, hsa⟩ := h4 q hq
    exact ⟨sa, vk_R.same rfl hsa⟩
  · have h1 := h5 w hw
    have h2 : zNwB w = true := (List.mem_filter.mp hw).2
    have h3 : w.onTables = true := by cases w <;> first | rfl | (simp [zNwB] at h2; done)
    exact va_Nw.same (u := U) h3 (rfl : U.vm = (U.calling g mk a).vm) h1
