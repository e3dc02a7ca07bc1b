/-! ===== the law: its script, its state, the end of a case ===== -/
def zSc (X : zC) (L : Nat) (xs : Nat → Int32) : Prop := va_X (X.1.2.2.2.1 42) L xs X.2.1.2.2.2 X.2.1.2.2.2.heap ∧ X.1.2.2.2.1 42 < X.2.1.2.2.2.heap.size ∧ ¬ zA X.1 (X.1.2.2.2.1 42)
theorem zi_x (x : Int32) : zi x.toInt := ⟨Int32.le_toInt x, Int32.toInt_lt x⟩
section LW
variable {X : zC} {own : String} {cc : ByteArray} {nL d b pc L : Nat} {xs : Nat → Int32} {lo : List (Nat × vV)} {sk : List vV} {st : zT}
theorem z_sld (h : zOk X own cc nL d) (hS : zSc X L xs) {i : Int} (j : Nat) (hj : j < L) (hL : L ≤ 2048) (hi : i = (j : Int)) (hd : decode cc pc = .ok (.iaload, 1)) (k : Z X b (pc + 1) lo (vi (xs j).toInt :: sk) st) : Z X b pc lo (vi i :: vr 42 :: sk) st := by
  intro H locs cells slots ls hP hS2 hc hs hl
  obtain ⟨h1, h2⟩ := zin hj (by omega) hi
  refine va_sld h.1 h.2.1 hS.1 hS.2.1 hS.2.2 hS2 h1 hd ?_
  rw [h2]
  have k1 := k H locs cells slots ls hP hS2 hc hs hl
  have e : zre X.1 (vi (xs j).toInt) = .int (xs j) := congrArg Value.int (fb_asI _)
  rw [List.map_cons, e] at k1
  exact k1
theorem z_slen (h : zOk X own cc nL d) (hS : zSc X L xs) (hd : decode cc pc = .ok (.arraylength, 1)) (k : Z X b (pc + 1) lo (vi (L : Int) :: sk) st) : Z X b pc lo (vr 42 :: sk) st := by
  intro H locs cells slots ls hP hS2 hc hs hl
  exact va_slen h.1 h.2.1 hS.1 hS.2.1 hS.2.2 hS2 hd (k H locs cells slots ls hP hS2 hc hs hl)
theorem z_less {b' : Nat} (hb : b' ≤ b) (k : Z X b' pc lo sk st) : Z X b pc lo sk st :=
  fun H locs cells slots ls hP hS hc hs hl => k H locs cells slots ls hP hS (by omega) (by omega) hl
/-- fewer locals are known -/
theorem z_wk {lo' : List (Nat × vV)} (hs : ∀ q ∈ lo', zget q.1 lo = some q.2) (k : Z X b pc lo' sk st) : Z X b pc lo sk st :=
  fun H locs cells slots ls hP hS hc hs2 hl => k H locs cells slots ls hP hS hc hs2 ⟨hl.1, hl.2.1, fun q hq => by
    obtain ⟨q0, h0, rfl⟩ := List.mem_map.mp hq
    exact zget_at (hs q0 h0) hl⟩
theorem z_dstore (h : zOk X own cc nL d) {i : Nat} {x : UInt64} {lo2 : List (Nat × vV)} (hd : decode cc pc = .ok (.dstore i, 2)) (hn : Nat.blt (i + 1) nL = true) (hl0 : (lo.map (zrl X.1)).filter (fun q => !(q.1 == i) && (!(q.1 == i + 1) && !(q.1 + 1 == i && q.2.category == 2))) = lo2.map (zrl X.1)) (k : Z X b (pc + 2) ((i, vd x) :: lo2) sk st) : Z X b pc lo (vd x :: sk) st :=
  fun H locs cells slots ls hP hS hc hs hl => lv_dstore h.1 h.2.1 hd hl (by rw [h.2.2.2.1]; exact Nat.le_of_ble_eq_true hn) (by rw [hl0]; rfl) (fun ls' hl' => k H locs cells slots ls' hP hS hc hs hl')
theorem z_dload (h : zOk X own cc nL d) {i : Nat} {x : UInt64} (hd : decode cc pc = .ok (.dload i, 2)) (hg : zget i lo = some (vd x)) (k : Z X b (pc + 2) lo (vd x :: sk) st) : Z X b pc lo sk st :=
  fun H locs cells slots ls hP hS hc hs hl => lv_dload h.1 h.2.1 hd (zget_at hg hl) (k H locs cells slots ls hP hS hc hs hl)
end LW
def zdt (cc : ByteArray) : Nat → List (Instr × Nat) → Prop
  | _, [] => True
  | pc, (i, n) :: r => decode cc pc = .ok (i, n) ∧ zdt cc (pc + n) r
def zdB (cc : ByteArray) : Nat → List (Instr × Nat) → Bool
  | _, [] => true
  | pc, (i, n) :: r => decide (decode cc pc = .ok (i, n)) && zdB cc (pc + n) r
theorem zdt_of {cc : ByteArray} : ∀ {l : List (Instr × Nat)} {pc : Nat}, zdB cc pc l = true → zdt cc pc l
  | [], _, _ => trivial
  | (i, n) :: r, pc, h => by
    unfold zdB at h
    rw [Bool.and_eq_true] at h
    exact ⟨of_decide_eq_true h.1, zdt_of h.2⟩
/-- the state of the law between two orders of the script -/
def LwS (D : Int) (c : Nat → Int) (R : aQ) (τ : Nat → Nat → Int) : Prop := AI D c R ∧ τ 21 = c ∧ CR R τ ∧ τ 33 = gm c ∧ MR R τ ∧ τ 32 6 = 0
abbrev lL (i : Nat) : List (Nat × vV) := [(5, vi (i : Int)), (0, vr 42), (1, vr 0), (2, vr 32), (3, vr 20), (4, vr 39)]
theorem LwS.eq {D : Int} {c : Nat → Int} {R : aQ} {τ : Nat → Nat → Int} (h : LwS D c R τ) : zs τ 21 c = τ := by rw [← h.2.1, zs_id]
/-- behind the class's call: the model's side stands -/
theorem LwS.mid {D : Int} {c c' : Nat → Int} {R : aQ} {τ σ1 : Nat → Nat → Int} (h : LwS D c R τ) (hf : Fr τ σ1) : zs (zs σ1 21 c') 33 (gm c) = zs σ1 21 c' ∧ MR R (zs σ1 21 c') ∧ zs σ1 21 c' 32 6 = 0 := by
  have e : ∀ k, 32 ≤ k → zs σ1 21 c' k = τ k := fun k hk => by rw [zs_ne (by omega), hf k hk]
  refine ⟨?_, h.2.2.2.2.1.cg (fun i _ => by rw [e 32 (by decide)]) (fun k hk => e k (by omega)), by rw [e 32 (by decide)]; exact h.2.2.2.2.2⟩
  have h2 : gm c = zs σ1 21 c' 33 := by rw [e 33 (by decide), h.2.2.2.1]
  rw [h2, zs_id]
/-- behind the model's call -/
theorem LwS.next {D : Int} {c' : Nat → Int} {R' : aQ} {σ1 σ2 : Nat → Nat → Int} (hI : AI D c' R') (hc : CR R' σ1) (hM : MR R' σ2) (hlow : ∀ k, k < 32 → σ2 k = zs σ1 21 c' k) (h6 : σ2 32 6 = zs σ1 21 c' 32 6) (h0 : zs σ1 21 c' 32 6 = 0) : LwS D c' R' (zs σ2 33 (gm c')) := by
  refine ⟨hI, by rw [zs_ne (by decide), hlow 21 (by decide), zs_eq], hc.cg (fun k hk => ?_), zs_eq _ _ _, hM.cg (fun i _ => by rw [zs_ne (by decide)]) (fun k hk => zs_ne (by omega) _), by rw [zs_ne (by decide), h6, h0]⟩
  rw [zs_ne (by omega), hlow k (by omega), zs_ne (by omega)]
theorem LwS.mono {D D2 : Int} {c : Nat → Int} {R : aQ} {τ : Nat → Nat → Int} (h : LwS D c R τ) (hD : D ≤ D2) : LwS D2 c R τ := ⟨h.1.mono hD, h.2⟩
theorem cd1_in {a e : String} (h : e = a) : 1 ≤ cd1 a e ∧ cd1 a e ≤ 3 := by subst h; rw [cd1_1]; decide
theorem cd2_in {a b e : String} (h : e = a ∨ e = b) : 1 ≤ cd2 a b e ∧ cd2 a b e ≤ 3 := by
  unfold cd2
  split
  · decide
  · rename_i h1
    rw [if_pos (h.resolve_left h1)]
    decide
theorem cd3_in {a b c e : String} (h : e = a ∨ e = b ∨ e = c) : 1 ≤ cd3 a b c e ∧ cd3 a b c e ≤ 3 := by
  unfold cd3
  split
  · decide
  · rename_i h1
    split
    · decide
    · rename_i h2
      rw [if_pos ((h.resolve_left h1).resolve_left h2)]
      decide
/-- both have answered alike -/
def mA (o : Int ⊕ String) (cd : String → Int) (k : Int) (x : Int64) : Prop := match o with
  | .inl a => k = 0 ∧ x = (Int32.ofInt a).toInt64
  | .inr e => k = cd e
def mB (o : Int ⊕ String) (cd : String → Int) (v t : Int) : Prop := match o with
  | .inl a => v = a ∧ t = 0
  | .inr e => t = cd e
theorem law_and {o : Int ⊕ String} {cd : String → Int} {k v t : Int} {x : Int64} (h1 : mA o cd k x) (h2 : mB o cd v t) (hne : ∀ e, o = .inr e → 1 ≤ cd e ∧ cd e ≤ 3) : t = k ∧ zi k ∧ (k = 0 → x = (Int32.ofInt v).toInt64) := by
  cases o with
  | inl a =>
    obtain ⟨e1, e2⟩ := h1
    obtain ⟨e3, e4⟩ := h2
    exact ⟨by rw [e1, e4], by rw [e1]; decide, fun _ => by rw [e2, e3]⟩
  | inr e =>
    have h3 := hne e rfl
    have h1' : k = cd e := h1
    have h2' : t = cd e := h2
    exact ⟨by rw [h1', h2'], ⟨by omega, by omega⟩, fun h0 => by omega⟩
section TAIL
variable {X : zC} {b pc : Nat} {lo : List (Nat × vV)}
theorem z_tail (h : zOk X RL cL_law 10 15) {off : Int} (goal : Nat) (hd : zdB cL_law pc [(.aload_n 2, 1), (.invokevirtual 157, 3), (.iload 6, 2), (.if_icmp .eq 5, 3), (.iconst 0, 1), (.ireturn, 1), (.iload 6, 2), (.ifCond .ne 15, 3), (.aload_n 3, 1), (.iconst 0, 1), (.laload, 1), (.iload 7, 2), (.i2l, 1), (.lcmp, 1), (.ifCond .eq 5, 3), (.iconst 0, 1), (.ireturn, 1), (.goto off, 3)] = true) (hg : (pc : Int) + 28 + off = (goal : Int))
    {σ : Nat → Nat → Int} {lg : Nat → Int64} {dd : Nat → UInt64} {k v : Int} (g2 : zget 2 lo = some (vr 32)) (g3 : zget 3 lo = some (vr 20)) (g6 : zget 6 lo = some (vi k)) (g7 : zget 7 lo = some (vi v)) (hh : σ 32 7 = k ∧ zi k ∧ (k = 0 → lg 0 = (Int32.ofInt v).toInt64)) (kk : Z X b goal lo [] (σ, lg, dd)) : Z X b pc lo [] (σ, lg, dd) := by
  obtain ⟨d0, d1, d2, d3, -, -, d6, d7, d8, d9, d10, d11, d12, d13, d14, -, -, d17, -⟩ := zdt_of hd
  obtain ⟨ht, hz, hv⟩ := hh
  refine z_aload_n h d0 g2 ?_
  refine z_cV h m_X11_thrown l_L_157 p_X11_thrown c_X11_thrown rfl rfl rfl rfl rfl rfl d1 ?_
  rw [show (σ, lg, dd).1 32 7 = k from ht]
  refine z_iload h d2 g6 ?_
  refine z_ic_eq h (pc + 1 + 3 + 2 + 3 + 1 + 1) d3 (by omega) hz hz (fun _ => ?_) (fun q => absurd rfl q)
  refine z_iload h d6 g6 ?_
  have fin : Z X b (pc + 1 + 3 + 2 + 3 + 1 + 1 + 2 + 3 + 1 + 1 + 1 + 2 + 1 + 1 + 3 + 1 + 1) lo [] (σ, lg, dd) := z_goto h goal d17 (by omega) kk
  refine z_if_ne h (pc + 1 + 3 + 2 + 3 + 1 + 1 + 2 + 3 + 1 + 1 + 1 + 2 + 1 + 1 + 3 + 1 + 1) d7 (by omega) hz (fun _ => fin) (fun h0 => ?_)
  refine z_aload_n h d8 g3 ?_
  refine z_iconst h d9 ?_
  refine z_lald h d10 ?_
  refine z_iload h d11 g7 ?_
  refine z_i2l h d12 ?_
  refine z_lcmpE h (hv h0) d13 ?_
  exact z_if_eq h (pc + 1 + 3 + 2 + 3 + 1 + 1 + 2 + 3 + 1 + 1 + 1 + 2 + 1 + 1 + 3 + 1 + 1) d14 (by omega) ⟨by decide, by decide⟩ (fun _ => fin) (fun q => absurd rfl q)
end TAIL
