/-! ===== what is made: the constructors' judgement ===== -/
def wNst : Cond := .methodLinkNest RX10 28 yX5_init RX10
def yOk (X : zC) (A : Nat → Prop) (own : String) (cc : ByteArray) (nL d : Nat) : Prop :=
  X.2.1.1.tables.exec = Jvm.exec ∧ X.2.2.2.1.2.code = cc ∧ X.2.2.2.1.2.maxLocals = nL ∧ X.2.2.2.2.2.2.2 = nL ∧ X.2.1.2.2.2.vm.findClass own = some X.2.2.1.1.cls ∧ (∀ w ∈ lw_good, w.before X.2.2.1.2.1 X.2.1.2.2.2 = true) ∧ (va_K X.1.2.1 zCl (ztys X.1) X.2.1.2.2.2 ∧ va_AO RX6 X.2.1.2.2.2 ∧ va_Nw wNst X.2.1.2.2.2) ∧ X.2.2.2.1.1.locks = false ∧ d + 8 ≤ X.2.1.2.2.1.frames ∧ 40 * d + 200 ≤ X.2.1.2.2.1.locals ∧ X.2.2.2.2.2.1 ≤ X.2.1.2.2.1.cells ∧ X.2.2.2.2.2.2.1 ≤ X.2.1.2.2.1.slots ∧ ∀ q, X.2.1.2.2.2.heap.size ≤ q → A q
def Yj (X : zC) (A : Nat → Prop) (b n pc : Nat) (lo : List (Nat × Value)) (sk : List Value) (ws : va_W) : Prop :=
  ∀ (H : Heap) (locs : List Loc) (cells slots : Nat) (ls : Array Slot), va_P X.1.2.1 zCl ws H → va_D A ws → va_S A X.2.1.2.2.2.heap H locs → cells + b ≤ X.2.2.2.2.2.1 → slots + n ≤ X.2.2.2.2.2.2.1 → lv_has ls X.2.2.2.2.2.2.2 lo →
    W X.2.1.1 X.1.1 X.2.1.2.1 X.2.1.2.2.1 X.2.1.2.2.2 X.2.2.1.1 X.2.2.1.2.1 X.2.2.1.2.2 X.2.2.2.1.1 X.2.2.2.1.2 H locs cells slots X.2.2.2.2.1 (F0 X.2.2.1.1 pc ls sk)
def yrm (d mc ms : Nat) : Room := { frames := d + 8, cells := mc, slots := ms, locals := 40 * d + 200 }
/-- a constructor: out of its own fresh cell; Post: its cell and those that it has made -/
def Ini (E : zE) (y : MethodName) (w : Cond) (d mc ms : Nat) (e0 : va_E) (Post : Nat → va_W → Prop) : Prop := ∀ (h sz : Nat), Met E.1 y (w :: lw_good) (yrm d mc ms) (va_Pc [.ref h] (fun U => U.heap.size = sz ∧ va_P E.2.1 zCl [(h, e0)] U.heap ∧ va_K E.2.1 zCl (ztys E) U ∧ va_AO RX6 U ∧ va_Nw wNst U)) (va_Qv (Post h) (fun ws t => va_P E.2.1 zCl ws t.heap ∧ va_D (va_A [(h, e0)] sz) ws) (va_A [(h, e0)] sz)) mc ms (va_A [(h, e0)] sz)
theorem ob_cd : Cond.code objectInit ⟨#[0xb1]⟩ 1 none ∈ lw_good := tg 36 (by decide +kernel) (by decide +kernel)
theorem ob_im : Cond.instanceMethod objectInit ∈ lw_good := tg 35 (by decide +kernel) (by decide +kernel)
section YR
variable {X : zC} {A : Nat → Prop} {own : String} {cc : ByteArray} {nL d b n pc a : Nat} {lo : List (Nat × Value)} {sk : List Value} {ws : va_W}
theorem y_aload_n (h : yOk X A own cc nL d) {i : Fin 4} (k : Nat) (hd : decode cc pc = .ok (.aload_n i, 1)) (hk : lo[k]? = some (i.val, .ref a)) (kk : Yj X A b n (pc + 1) lo (.ref a :: sk) ws) : Yj X A b n pc lo sk ws :=
  fun H locs cells slots ls hP hD hS hc hs hl => lv_aload_n h.1 h.2.1 hd rfl (hl.2.2 _ (List.mem_of_getElem? hk)) (kk H locs cells slots ls hP hD hS hc hs hl)
theorem y_iload_n (h : yOk X A own cc nL d) {i : Fin 4} {x : Int32} (k : Nat) (hd : decode cc pc = .ok (.iload_n i, 1)) (hk : lo[k]? = some (i.val, .int x)) (kk : Yj X A b n (pc + 1) lo (.int x :: sk) ws) : Yj X A b n pc lo sk ws :=
  fun H locs cells slots ls hP hD hS hc hs hl => lv_iload_n h.1 h.2.1 hd rfl (hl.2.2 _ (List.mem_of_getElem? hk)) (kk H locs cells slots ls hP hD hS hc hs hl)
theorem y_iconst (h : yOk X A own cc nL d) {i : Int} {v : Int32} (hd : decode cc pc = .ok (.iconst i, 1)) (hv : Int32.ofInt i = v) (kk : Yj X A b n (pc + 1) lo (.int v :: sk) ws) : Yj X A b n pc lo sk ws := by
  subst hv
  exact fun H locs cells slots ls hP hD hS hc hs hl => lv_iconst h.1 h.2.1 hd rfl (kk H locs cells slots ls hP hD hS hc hs hl)
theorem y_bipush (h : yOk X A own cc nL d) {i : Int} {v : Int32} (hd : decode cc pc = .ok (.bipush i, 2)) (hv : (Int8.ofInt i).toInt32 = v) (kk : Yj X A b n (pc + 2) lo (.int v :: sk) ws) : Yj X A b n pc lo sk ws :=
  fun H locs cells slots ls hP hD hS hc hs hl => lv_bipush h.1 h.2.1 hd hv (kk H locs cells slots ls hP hD hS hc hs hl)
theorem y_sipush (h : yOk X A own cc nL d) {i : Int} {v : Int32} (hd : decode cc pc = .ok (.sipush i, 3)) (hv : (Int16.ofInt i).toInt32 = v) (kk : Yj X A b n (pc + 3) lo (.int v :: sk) ws) : Yj X A b n pc lo sk ws :=
  fun H locs cells slots ls hP hD hS hc hs hl => lv_sipush h.1 h.2.1 hd hv (kk H locs cells slots ls hP hD hS hc hs hl)
theorem y_istore_n (h : yOk X A own cc nL d) {i : Fin 4} {x : Int32} {lo' : List (Nat × Value)} (hd : decode cc pc = .ok (.istore_n i, 1)) (hn : Nat.blt i.val nL = true) (hlo : (i.val, Value.int x) :: lo.filter (fun q => !(q.1 == i.val) && !(q.1 + 1 == i.val && q.2.category == 2)) = lo') (kk : Yj X A b n (pc + 1) lo' sk ws) : Yj X A b n pc lo (.int x :: sk) ws :=
  fun H locs cells slots ls hP hD hS hc hs hl => lv_istore_n h.1 h.2.1 hd rfl hl (by rw [h.2.2.2.1]; exact Nat.le_of_ble_eq_true hn) hlo (fun ls' hl' => kk H locs cells slots ls' hP hD hS hc hs hl')
theorem y_astore_n (h : yOk X A own cc nL d) {i : Fin 4} {lo' : List (Nat × Value)} (hd : decode cc pc = .ok (.astore_n i, 1)) (hn : Nat.blt i.val nL = true) (hlo : (i.val, Value.ref a) :: lo.filter (fun q => !(q.1 == i.val) && !(q.1 + 1 == i.val && q.2.category == 2)) = lo') (kk : Yj X A b n (pc + 1) lo' sk ws) : Yj X A b n pc lo (.ref a :: sk) ws :=
  fun H locs cells slots ls hP hD hS hc hs hl => lv_astore_n h.1 h.2.1 hd rfl hl (by rw [h.2.2.2.1]; exact Nat.le_of_ble_eq_true hn) hlo (fun ls' hl' => kk H locs cells slots ls' hP hD hS hc hs hl')
theorem y_put (h : yOk X A own cc nL d) {T : u_T} {N ci index : Nat} {v : Value} (q0 : Nat) {fs : List Value} (he : ws[q0]? = some (a, .inr (ci, fs))) (hc0 : zCl[ci]? = some (own, T, N)) (hw : ∀ w ∈ u_ws own T N, w ∈ lw_good) (ty0 : Nat → FieldType) (hty : ∀ k, k < N → parseFieldDescriptor (T k).2.2.1 = some (ty0 k)) (hnm : ∀ a, a < N → ∀ b, b < N → a ≠ b → (T a).2.1 ≠ (T b).2.1) (k : Nat) (hk : k < N) (hlink : Cond.fieldLink own index own (T k).2.1 (T k).2.2.1 ∈ lw_good) (hdecl : (T k).1 = own) (hin : X.2.2.2.1.1.name = "<init>") {ty : FieldType} (hpd : parseFieldDescriptor (T k).2.2.1 = some ty) (hn : narrow ty v = v) (hfit : fits ty v = true) (hl0 : k < fs.length) (hd : decode cc pc = .ok (.putfield index, 3))
    (kk : Yj X A b n (pc + 3) lo sk (ws.set q0 (a, .inr (ci, fs.set k v)))) : Yj X A b n pc lo (v :: .ref a :: sk) ws := by
  intro H locs cells slots ls hP hD hS hc hs hl
  have hts := h.2.2.2.2.2.1
  have hsame : ∀ x, X.2.1.2.2.2.fieldFound? (T k).1 (T k).2.1 (T k).2.2.1 = some x → X.2.1.2.2.2.fieldFound? own (T k).2.1 (T k).2.2.1 = some x := fun x h9 => by rw [hdecl] at h9; exact h9
  cases hf : (T k).2.2.2 with
  | false => exact va_put (ref := own) h.1 h.2.1 hts hw ty0 hty hnm h.2.2.2.2.1 h.2.2.2.2.2.2.1.1 hP hD hS q0 he hc0 k hk (hts _ hlink) hsame hf hpd hn hfit hl0 hd (fun H1 locs1 hP1 hD1 hS1 => kk H1 locs1 cells slots ls hP1 hD1 hS1 hc hs hl)
  | true => exact va_putF (ref := own) h.1 h.2.1 hts hw ty0 hty hnm h.2.2.2.2.1 h.2.2.2.2.2.2.1.1 hP hD hS q0 he hc0 k hk (hts _ hlink) hsame hf hin hdecl hpd hn hfit hl0 hd (fun H1 locs1 hP1 hD1 hS1 => kk H1 locs1 cells slots ls hP1 hD1 hS1 hc hs hl)
theorem y_get (h : yOk X A own cc nL d) {T : u_T} {N ci index : Nat} {v : Value} (q0 : Nat) {fs : List Value} (he : ws[q0]? = some (a, .inr (ci, fs))) (hc0 : zCl[ci]? = some (own, T, N)) (hw : ∀ w ∈ u_ws own T N, w ∈ lw_good) (k : Nat) (hk : k < N) (hlink : Cond.fieldLink own index own (T k).2.1 (T k).2.2.1 ∈ lw_good) (hdecl : (T k).1 = own) (hv : fs[k]? = some v) (hd : decode cc pc = .ok (.getfield index, 3)) (kk : Yj X A b n (pc + 3) lo (v :: sk) ws) : Yj X A b n pc lo (.ref a :: sk) ws := by
  intro H locs cells slots ls hP hD hS hc hs hl
  have hts := h.2.2.2.2.2.1
  exact va_get (ref := own) h.1 h.2.1 hts hw h.2.2.2.2.1 h.2.2.2.2.2.2.1.1 hP q0 he hc0 k hk (hts _ hlink) (fun x h9 => by rw [hdecl] at h9; exact h9) hv hd (kk H locs cells slots ls hP hD hS hc hs hl)
/-- a new array: of the class that the table of classes has -/
theorem y_arr (h : yOk X A own cc nL d) {atype : ArrayType} {ty : FieldType} {x : Int32} {N t : Nat} {a0 : vp_A} (hty : newarray.typeOf atype = ty) (hna : ∀ C, ty ≠ .object C) (ht : (ztys X.1)[t]? = some (X.1.2.2.1 t, ty)) (harr : Cond.arrayClass ty ∈ lw_good) (ha : ∀ cA : ClassId, vp_cell cA a0 = arrV cA N (fun _ => defaultValue ty)) (hn : ¬ x < 0) (hN : x.toNatClampNeg = N) (hbytes : N * componentBytes ty ≤ 536870912) (hd : decode cc pc = .ok (.newarray atype, 2)) (hb : 1 ≤ b) (hs0 : N ≤ n)
    (kk : ∀ q, Yj X A (b - 1) (n - N) (pc + 2) lo (.ref q :: sk) (ws ++ [(q, .inl (X.1.2.2.1 t, a0))])) : Yj X A b n pc lo (.int x :: sk) ws := by
  intro H locs cells slots ls hP hD hS hc hs hl
  have hts := h.2.2.2.2.2.1
  have hK := h.2.2.2.2.2.2.1.1
  have q1 := h.2.2.2.2.2.2.2.2.2.2.1
  have q2 := h.2.2.2.2.2.2.2.2.2.2.2.1
  refine va_newa h.1 h.2.1 (by rw [hty]; exact hts _ harr) hty hK hP hD hS h.2.2.2.2.2.2.2.2.2.2.2.2 ha hn hN hbytes (by omega) (by omega) hd (fun q cA H1 hK1 hP1 hD1 hS1 => ?_)
  have e1 := (hK.2 t _ ht).2
  have e2 := (hK1.2 (ztys X.1).length (cA, ty) (by simp)).2
  have e : cA = X.1.2.2.1 t := by
    cases ty with
    | object C => exact absurd rfl (hna C)
    | _ => exact Option.some.inj (e2.symm.trans e1)
  rw [e] at hP1 hD1
  exact kk q H1 locs (cells + 1) (slots + N) ls hP1 hD1 hS1 (by omega) (by omega) hl
theorem y_iast (h : yOk X A own cc nL d) (q0 : Nat) {N : Nat} {f : Nat → Int32} {i v : Int32} (he : ws[q0]? = some (a, .inl (X.1.2.2.1 0, N, .inl f))) (j : Nat) (hj : vp_in i N) (hij : i.toNatClampNeg = j) (hd : decode cc pc = .ok (.iastore, 1)) (kk : Yj X A b n (pc + 1) lo sk (ws.set q0 (a, .inl (X.1.2.2.1 0, N, .inl (upd f j v))))) : Yj X A b n pc lo (.int v :: .int i :: .ref a :: sk) ws := by
  intro H locs cells slots ls hP hD hS hc hs hl
  subst hij
  exact va_iast h.1 h.2.1 h.2.2.2.2.2.2.1.1 hP hD hS q0 0 he rfl hj hd (fun H1 locs1 hP1 hD1 hS1 => kk H1 locs1 cells slots ls hP1 hD1 hS1 hc hs hl)
theorem y_obj (h : yOk X A own cc nL d) {index : Nat} (hlk : Cond.methodLink own index objectInit ∈ lw_good) (hd : decode cc pc = .ok (.invokespecial index, 3)) (kk : Yj X A b n (pc + 3) lo [] ws) : Yj X A b n pc lo [.ref a] ws := by
  intro H locs cells slots ls hP hD hS hc hs hl
  have hts := h.2.2.2.2.2.1
  have q1 := h.2.2.2.2.2.2.2.2.1
  have q2 := h.2.2.2.2.2.2.2.2.2.1
  refine W.objInit h.1 h.2.1 h.2.2.2.2.1 (hts _ hlk) (hts (.instanceMethod objectInit) ob_im) (hts (.code objectInit ⟨#[0xb1]⟩ 1 none) ob_cd) rfl (by rw [hl.1, h.2.2.2.1]; exact h.2.2.1.symm) rfl hd (by omega) (by simp [F0]; omega) ?_
  refine W.eq (g2 := F0 X.2.2.1.1 (pc + 3) ls []) rfl ?_
  exact kk H locs cells slots ls hP hD hS hc hs hl
end YR
theorem va_nd_range (n : Nat) : va_nd (List.range n) = true := by
  have key : ∀ l : List Nat, l.Nodup → va_nd l = true := by
    intro l
    induction l with
    | nil => intro _; rfl
    | cons a r ih =>
      intro h
      rw [List.nodup_cons] at h
      unfold va_nd
      rw [Bool.and_eq_true]
      exact ⟨decide_eq_true h.1, ih h.2⟩
  exact key _ List.nodup_range
theorem range_get {α : Type} (l : List α) (x : α) : (List.range l.length).map (fun i => (l ++ [x])[i]?) = l.map some := by
  apply List.ext_getElem?
  intro k
  rw [List.getElem?_map, List.getElem?_map]
  by_cases hk : k < l.length
  · rw [List.getElem?_range hk]
    show some ((l ++ [x])[k]?) = _
    rw [List.getElem?_append_left hk, List.getElem?_eq_getElem hk]
    rfl
  · rw [List.getElem?_eq_none (by rw [List.length_range]; omega), List.getElem?_eq_none (by omega)]
    rfl
section YM
variable {X : zC} {A : Nat → Prop} {own : String} {cc : ByteArray} {nL d b n pc a : Nat} {lo : List (Nat × Value)} {sk : List Value} {ws : va_W}
/-- new, dup, the constructor -/
theorem y_mk (h : yOk X A own cc nL d) {C : String} {T : u_T} {N ci i1 i2 d' mc ms maxL : Nat} {y : MethodName} {bytes : ByteArray} {fs : List Value} {Post : Nat → va_W → Prop} (hc0 : zCl[ci]? = some (C, T, N)) (hw : ∀ w ∈ u_ws C T N, w ∈ lw_good) (ty0 : Nat → FieldType) (hty : ∀ k, k < N → parseFieldDescriptor (T k).2.2.1 = some (ty0 k)) (hcl : Cond.classLink own i1 C ∈ lw_good) (hinst : Cond.instantiable C N ∈ lw_good) (hini : Cond.initialized C ∈ lw_good) (hfs : ∀ j, j < N → defaultValue (ty0 j) = vp_V fs j) (hI : Ini X.1 y (.code y bytes maxL none) d' mc ms (.inr (ci, fs)) Post) (hcode : Cond.code y bytes maxL none ∈ lw_good) (hy : y.cls = C) (hyn : y.name = "<init>") (him : Cond.instanceMethod y ∈ lw_good) (hlk : Cond.methodLink own i2 y ∈ lw_good) (hp : zMp y 0 maxL) (hdd : d' + 1 ≤ d) (hb : 1 + mc ≤ b) (hn : N + ms ≤ n) (d0 : decode cc pc = .ok (.new i1, 3)) (d1 : decode cc (pc + 3) = .ok (.dup, 1)) (d2 : decode cc (pc + 3 + 1) = .ok (.invokespecial i2, 3)) (hrs : (sk.map fun v => v.category).sum ≤ 7)
    (kk : ∀ q w1, Post q w1 → Yj X A (b - 1 - mc) (n - N - ms) (pc + 3 + 1 + 3) lo (.ref q :: sk) (ws ++ w1)) : Yj X A b n pc lo sk ws := by
  intro H locs cells slots ls hP hD hS hc hs hl
  have hts := h.2.2.2.2.2.1
  obtain ⟨hK, hAO, hNt⟩ := h.2.2.2.2.2.2.1
  have q1 := h.2.2.2.2.2.2.2.2.1
  have q2 := h.2.2.2.2.2.2.2.2.2.1
  have q3 := h.2.2.2.2.2.2.2.2.2.2.1
  have q4 := h.2.2.2.2.2.2.2.2.2.2.2.1
  have hA := h.2.2.2.2.2.2.2.2.2.2.2.2
  have hpm := hp.2.2.2
  refine va_new (ci := ci) (fs := fs) h.1 h.2.1 hts hw ty0 hty h.2.2.2.2.1 (hts _ hcl) (hts _ hinst) (hts _ hini) hK hP hD hS hA hc0 hfs (by omega) (by omega) d0 (fun q H1 hP1 hD1 hS1 => ?_)
  refine lv_dup h.1 h.2.1 d1 rfl ?_
  have hPc := hP1.sub (ws' := [(q, .inr (ci, fs))]) [ws.length] (by simp)
  have hFc := va_free (wc := [(q, .inr (ci, fs))]) hD1 hS1 hA [ws.length] (by simp)
  refine va_callv (va_runI (As := []) (rest := .ref q :: sk) ⟨h.1, h.2.1, h.2.2.1, h.2.2.2.2.1, hts⟩ (hI q H1.size) ⟨callB_of 0 hts (zgood hcode) rfl rfl rfl (by rw [hy]; exact hts _ hini) (hts _ hlk) ⟨hp.1, hp.2.1, hp.2.2.1⟩ ⟨by show d' + 8 + 1 ≤ _; omega, by show 8 + (maxL + 11) + (40 * d' + 200) ≤ _; omega⟩, hyn, hts _ him⟩ ⟨fun a U g mk q => ⟨q.1, q.2.1, q.2.2.1, va_K.moved (u := U) (U := U.calling g mk a) (Vm.Alike.refl U.vm) q.2.2.2.1, va_AO.moved (u := U) (U := U.calling g mk a) (Vm.Alike.refl U.vm) q.2.2.2.2.1, va_Nw.same (u := U) rfl (rfl : U.vm = (U.calling g mk a).vm) q.2.2.2.2.2⟩, fun U hU hW => ⟨rfl, by rw [hU], by rw [hU]; exact hPc, va_K.moved hW.alike hK, va_AO.moved hW.alike hAO, va_Nw.warmM hW hNt⟩⟩ rfl rfl (by rw [hl.1, h.2.2.2.1]) rfl (lv_room (by show 1 + (sk.map fun v => v.category).sum ≤ 8; omega)) d2 ⟨by omega, by omega⟩) hS1 (fun q _ h => hFc q h) hFc (fun u t H2 locs2 ht hvm hw2 hB hz1 hk1 hS2 => ?_)
  obtain ⟨hP2, hD2⟩ := hB
  rw [ht] at hP2
  obtain ⟨hP3, hD3⟩ := va_join (wr := ws) (w1 := u) hP1 hD1 [ws.length] (List.range ws.length) (by simp) (range_get ws _) (va_nd_range _) (fun i hi => by rw [List.mem_singleton]; have := List.mem_range.mp hi; omega) hk1 hFc hP2 hD2
  exact kk q u hw2 H2 locs2 _ _ ls hP3 hD3 hS2 (by omega) (by omega) hl
/-- new, dup, the constructor that is private -/
theorem y_mkN (h : yOk X A own cc nL d) {C : String} {T : u_T} {N ci i1 i2 d' mc ms maxL : Nat} {y : MethodName} {bytes : ByteArray} {fs : List Value} {Post : Nat → va_W → Prop} (hc0 : zCl[ci]? = some (C, T, N)) (hw : ∀ w ∈ u_ws C T N, w ∈ lw_good) (ty0 : Nat → FieldType) (hty : ∀ k, k < N → parseFieldDescriptor (T k).2.2.1 = some (ty0 k)) (hcl : Cond.classLink own i1 C ∈ lw_good) (hinst : Cond.instantiable C N ∈ lw_good) (hini : Cond.initialized C ∈ lw_good) (hfs : ∀ j, j < N → defaultValue (ty0 j) = vp_V fs j) (hI : Ini X.1 y (.code y bytes maxL none) d' mc ms (.inr (ci, fs)) Post) (hcode : Cond.code y bytes maxL none ∈ lw_good) (hy : y.cls = C) (hyn : y.name = "<init>") (him : Cond.instanceMethod y ∈ lw_good) (hlk : va_Nw (.methodLinkNest own i2 y own) X.2.1.2.2.2) (hp : zMp y 0 maxL) (hdd : d' + 1 ≤ d) (hb : 1 + mc ≤ b) (hn : N + ms ≤ n) (d0 : decode cc pc = .ok (.new i1, 3)) (d1 : decode cc (pc + 3) = .ok (.dup, 1)) (d2 : decode cc (pc + 3 + 1) = .ok (.invokespecial i2, 3)) (hrs : (sk.map fun v => v.category).sum ≤ 7)
    (kk : ∀ q w1, Post q w1 → Yj X A (b - 1 - mc) (n - N - ms) (pc + 3 + 1 + 3) lo (.ref q :: sk) (ws ++ w1)) : Yj X A b n pc lo sk ws := by
  intro H locs cells slots ls hP hD hS hc hs hl
  have hts := h.2.2.2.2.2.1
  obtain ⟨hK, hAO, hNt⟩ := h.2.2.2.2.2.2.1
  have q1 := h.2.2.2.2.2.2.2.2.1
  have q2 := h.2.2.2.2.2.2.2.2.2.1
  have q3 := h.2.2.2.2.2.2.2.2.2.2.1
  have q4 := h.2.2.2.2.2.2.2.2.2.2.2.1
  have hA := h.2.2.2.2.2.2.2.2.2.2.2.2
  have hpm := hp.2.2.2
  refine va_new (ci := ci) (fs := fs) h.1 h.2.1 hts hw ty0 hty h.2.2.2.2.1 (hts _ hcl) (hts _ hinst) (hts _ hini) hK hP hD hS hA hc0 hfs (by omega) (by omega) d0 (fun q H1 hP1 hD1 hS1 => ?_)
  refine lv_dup h.1 h.2.1 d1 rfl ?_
  have hPc := hP1.sub (ws' := [(q, .inr (ci, fs))]) [ws.length] (by simp)
  have hFc := va_free (wc := [(q, .inr (ci, fs))]) hD1 hS1 hA [ws.length] (by simp)
  refine va_callv (va_runIN (host := own) (As := []) (rest := .ref q :: sk) ⟨h.1, h.2.1, h.2.2.1, h.2.2.2.2.1, hts⟩ (hI q H1.size) ⟨⟨⟨rfl, rfl, by show d' + 8 + 1 ≤ _; omega, by show 8 + (maxL + 11) + (40 * d' + 200) ≤ _; omega, pay_in hts (zgood hcode), List.mem_cons_self⟩, hts _ hcode, by rw [hy]; exact hts _ hini, ⟨hp.1, hp.2.1⟩, fun sig hsig => by have h2 := hp.2.2.1; rw [hsig] at h2; exact (Option.some.inj h2).symm, va_Nw.use rfl hlk⟩, hyn, hts _ him⟩ ⟨fun a U g mk q => ⟨q.1, q.2.1, q.2.2.1, va_K.moved (u := U) (U := U.calling g mk a) (Vm.Alike.refl U.vm) q.2.2.2.1, va_AO.moved (u := U) (U := U.calling g mk a) (Vm.Alike.refl U.vm) q.2.2.2.2.1, va_Nw.same (u := U) rfl (rfl : U.vm = (U.calling g mk a).vm) q.2.2.2.2.2⟩, fun U hU hW => ⟨rfl, by rw [hU], by rw [hU]; exact hPc, va_K.moved hW.alike hK, va_AO.moved hW.alike hAO, va_Nw.warmM hW hNt⟩⟩ rfl rfl (by rw [hl.1, h.2.2.2.1]) rfl (lv_room (by show 1 + (sk.map fun v => v.category).sum ≤ 8; omega)) d2 ⟨by omega, by omega⟩) hS1 (fun q _ h => hFc q h) hFc (fun u t H2 locs2 ht hvm hw2 hB hz1 hk1 hS2 => ?_)
  obtain ⟨hP2, hD2⟩ := hB
  rw [ht] at hP2
  obtain ⟨hP3, hD3⟩ := va_join (wr := ws) (w1 := u) hP1 hD1 [ws.length] (List.range ws.length) (by simp) (range_get ws _) (va_nd_range _) (fun i hi => by rw [List.mem_singleton]; have := List.mem_range.mp hi; omega) hk1 hFc hP2 hD2
  exact kk q u hw2 H2 locs2 _ _ ls hP3 hD3 hS2 (by omega) (by omega) hl
def yRt (X : zC) (A : Nat → Prop) (Post : va_W → Prop) (mc ms : Nat) : Prop :=
  X.2.2.2.2.1 = MQ X.2.2.1.2.2 (va_Qv Post (fun ws t => va_P X.1.2.1 zCl ws t.heap ∧ va_D A ws) A) X.2.2.1.2.1 X.2.1.2.2.2 mc ms A ∧ X.2.2.2.1.1.sig.returnType = none ∧ X.2.2.2.2.2.1 = mc ∧ X.2.2.2.2.2.2.1 = ms
theorem y_ret (h : yOk X A own cc nL d) {Post : va_W → Prop} {mc ms : Nat} (hr : yRt X A Post mc ms) (hd : decode cc pc = .ok (.return_, 1)) (hp : Post ws) : Yj X A b n pc lo [] ws := by
  intro H locs cells slots ls hP hD hS hc hs hl
  obtain ⟨e1, e2, e3, e4⟩ := hr
  rw [e1]
  refine W.widen (k := mc) (n := ms) (by omega) (by omega) ?_
  exact W.vret h.1 h.2.1 e2 (fun t ht hW => ⟨⟨ws, rfl, hp, by rw [ht]; exact hP, hD⟩, hS.F ht⟩) hS.2.2 hd h.2.2.2.2.2.2.2.1
end YM
theorem Ini_of {E : zE} {y : MethodName} {bytes : ByteArray} {maxL : Nat} {own : String} {d mc ms : Nat} {e0 : va_E} {Post : Nat → va_W → Prop} (hy : plainName y.cls = true) (hown : y.cls = own) (hlen : Nat.ble 1 maxL = true) (hin0 : y.name = "<init>")
    (body : ∀ (Y : (Program × Env × Room × State) × (MethodId × Array Value × List Frame) × (Method × Code) × (State → Prop) × (Nat × Nat × Nat)) (A : Nat → Prop) (h : Nat), yOk (E, Y) A own bytes maxL d → yRt (E, Y) A (Post h) mc ms → Y.2.2.1.1.name = "<init>" → Yj (E, Y) A mc ms 0 [(0, .ref h)] [] [(h, e0)]) : Ini E y (.code y bytes maxL none) d mc ms e0 Post := by
  intro h sz
  refine Met.ofW (cc := bytes) (maxL := maxL) (ret := none) hy rfl ?_
  intro p e s m args below meth c' s₁ B hml hv
  obtain ⟨rfl, hsz, hP, hK, hAO, hNt⟩ := hv
  subst hsz
  have hts : ∀ w ∈ lw_good, w.before #[Value.ref h] s = true := fun w hw => atoms_spec (ws := Cond.code y bytes maxL none :: lw_good) B.pre w (List.mem_cons_of_mem _ hw)
  have hl := lv_entry ([.ref h]) (n := maxL) (Nat.le_of_ble_eq_true hlen)
  rw [lg_entry_eq]
  generalize (lg_sl ([.ref h]) ++ List.replicate (maxL - (lg_sl ([.ref h])).length) Slot.unset).toArray = ls at hl ⊢
  have hl : lv_has ls maxL [(0, .ref h)] := hl
  have hin : meth.name = "<init>" := (name_of_methodNamed B.named B.method).1.trans hin0
  have hD : va_D (va_A [(h, e0)] s.heap.size) [(h, e0)] := by
    refine ⟨fun i j p q hi hj _ => ?_, fun k q hq => va_A.in hq⟩
    have h1 := (List.getElem?_eq_some_iff.mp hi).1
    have h2 := (List.getElem?_eq_some_iff.mp hj).1
    simp at h1 h2
    omega
  exact body ((p, e, (headSpec (Cond.code y bytes maxL none :: lw_good) (yrm d mc ms)).room, s), (m, #[Value.ref h], below), (meth, c'), MQ below (va_Qv (Post h) (fun ws t => va_P E.2.1 zCl ws t.heap ∧ va_D (va_A [(h, e0)] s.heap.size) ws) (va_A [(h, e0)] s.heap.size)) #[Value.ref h] s mc ms (va_A [(h, e0)] s.heap.size), (mc, ms, maxL)) (va_A [(h, e0)] s.heap.size) h
    ⟨B.exec, B.bytes, hml, rfl, by rw [← hown]; exact findClass_of_methodNamed B.named, hts, ⟨hK, hAO, hNt⟩, B.notSynchronized, Nat.le_refl _, Nat.le_refl _, Nat.le_refl _, Nat.le_refl _, fun q hq => Or.inr hq⟩ ⟨rfl, B.returns, rfl, rfl⟩ hin s.heap [] 0 0 ls hP hD va_S.rf (by show 0 + mc ≤ mc; omega) (by show 0 + ms ≤ ms; omega) hl
