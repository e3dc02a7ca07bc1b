/-! ===== calls, ends, throws ===== -/
/-- an exception of the class cls flies over the frame -/
def Zx (X : zC) (b pc : Nat) (lo : List (Nat × vV)) (sk : List vV) (cls : String) (st : zT) : Prop :=
  ∀ (H : Heap) (locs : List Loc) (cells slots : Nat) (ls : Array Slot) (q : Addr) (ce : Cell), va_P X.1.2.1 zCl (zws X.1 st) H → va_S (zA X.1) X.2.1.2.2.2.heap H locs → cells + b ≤ X.2.2.2.2.2.1 → slots + 6 * b ≤ X.2.2.2.2.2.2.1 → lv_has ls X.2.2.2.2.2.2.2 (lo.map (zrl X.1)) → H[q]? = some ce → ce.vm = .none → X.2.1.2.2.2.vm.findClass cls = some ce.cls →
    vx_W X.2.1.1 X.1.1 X.2.1.2.1 X.2.1.2.2.1 X.2.1.2.2.2 X.2.2.1.1 X.2.2.1.2.1 X.2.2.1.2.2 X.2.2.2.1.1 X.2.2.2.1.2 H locs cells slots X.2.2.2.2.1 (F0 X.2.2.1.1 pc ls (sk.map (zre X.1))) q
/-- the method's own end -/
def zRt (X : zC) (K : zK) (ret : Option FieldType) : Prop :=
  X.2.2.2.2.1 = vx_MQ X.2.2.1.2.2 (zQc X.1 K) (zXC X.1 K) X.2.2.1.2.1 X.2.1.2.2.2 X.2.2.2.2.2.1 X.2.2.2.2.2.2.1 (zA X.1) ∧ X.2.2.2.1.1.sig.returnType = ret
def zNx (X : zC) : Prop := ∀ x ∈ X.2.2.2.1.2.exceptionTable.toList, False
theorem zgood {w : Cond} (hw : w ∈ lw_good) : GoodIn lw_good (w :: lw_good) := fun w' h' => by
  rcases List.mem_cons.mp h' with rfl | h
  · exact ⟨hw, good_of_word (List.mem_filter.mp hw).2⟩
  · exact ⟨h, good_of_word (List.mem_filter.mp h).2⟩
theorem zcats (E : zE) (l : List vV) : ((l.map (zre E)).map fun v => v.category).sum = (l.map zcat).sum := by
  rw [List.map_map]
  congr 1
  apply List.map_congr_left
  intro v _
  exact zre_cat E v
/-- what a call's words say, once a method: its class, its name, how many parameters, its locals -/
def zMp (y : MethodName) (n maxL : Nat) : Prop := y.cls ≠ "java/lang/invoke/MethodHandle" ∧ y.cls ≠ "java/lang/invoke/VarHandle" ∧ (parseMethodDescriptor y.desc).map (fun d => d.parameters.length) = some n ∧ maxL ≤ 20
section CL
variable {X : zC} {own own' : String} {cc bytes : ByteArray} {nL d b pc maxL idx d' c' : Nat} {lo : List (Nat × vV)} {sk av rest : List vV} {st : zT} {y : MethodName} {ret : Option FieldType} {K : zK}
theorem z_callB (h : zOk X own cc nL d) (hw : Cond.code y bytes maxL ret ∈ lw_good) (hi : Cond.initialized own' ∈ lw_good) (hy : y.cls = own') (hlk : Cond.methodLink own idx y ∈ lw_good) {n : Nat} (hp : zMp y n maxL) (hdd : d' + 1 ≤ d) :
    CallB X.2.1.2.2.1 X.2.1.2.2.2 X.2.2.1.2.1 own idx y bytes maxL ret (.code y bytes maxL ret :: lw_good) (zrm d' c') c' (6 * c') n := by
  have hts := h.2.2.2.2.2.1
  have hf := h.2.2.2.2.2.2.2.2.1
  have hlo := h.2.2.2.2.2.2.2.2.2.1
  refine callB_of n hts (zgood hw) rfl rfl rfl (by rw [hy]; exact hts _ hi) (hts _ hlk) ⟨hp.1, hp.2.1, hp.2.2.1⟩ ⟨?_, ?_⟩
  · show d' + 8 + 1 ≤ _
    omega
  · have := hp.2.2.2
    show 8 + (maxL + 11) + (40 * d' + 200) ≤ _
    omega
/-- behind a call: its answer, or what it threw -/
theorem z_after (h : zOk X own cc nL d) (hcb : c' ≤ b) {H : Heap} {locs : List Loc} {cells slots : Nat} {ls : Array Slot} {st0 : List Value} {a : Array Value} (hS : va_S (zA X.1) X.2.1.2.2.2.heap H locs) (hc : cells + b ≤ X.2.2.2.2.2.1) (hs : slots + 6 * b ≤ X.2.2.2.2.2.2.1) (hl : lv_has ls X.2.2.2.2.2.2.2 (lo.map (zrl X.1)))
    (hr : vx_Run X.2.1.1 X.1.1 X.2.1.2.1 X.2.1.2.2.1 X.2.1.2.2.2 X.2.2.1.1 X.2.2.1.2.1 X.2.2.1.2.2 X.2.2.2.1.1 X.2.2.2.1.2 H locs cells slots c' (6 * c') (F0 X.2.2.1.1 pc ls st0) (rest.map (zre X.1)) (zQc X.1 K a) (zXC X.1 K) (zA X.1))
    (kk : ∀ (v : Option vV) (st' : zT), K (.inl v) st' → Z X (b - c') (pc + 3) lo (v.toList ++ rest) st') (kx : ∀ (cls : String) (st' : zT), K (.inr cls) st' → Zx X (b - c') pc lo rest cls st') :
    W X.2.1.1 X.1.1 X.2.1.2.1 X.2.1.2.2.1 X.2.1.2.2.2 X.2.2.1.1 X.2.2.1.2.1 X.2.2.1.2.2 X.2.2.2.1.1 X.2.2.2.1.2 H locs cells slots X.2.2.2.2.1 (F0 X.2.2.1.1 pc ls st0) := by
  intro T hT XX
  rcases hr T hT XX with ⟨v, st₀, t, T', L, h0, X', hL, e1, e2, ⟨v', st', hv, hK, hP', hF⟩, stp⟩ | ⟨q, st₀, t, T', L, E, ce, h0, X', hL, e1, e2, ⟨st', hK, hP', hF⟩, hce, hcv, hcl, stp⟩
  · cases hv
    obtain ⟨-, -, k3⟩ := vx_keep h0 e1 hS (fun _ _ z => z) (fun _ z => z) hL hF
    have hst : (v'.map (zre X.1)).toList ++ rest.map (zre X.1) = (v'.toList ++ rest).map (zre X.1) := by cases v' <;> rfl
    obtain ⟨t2, a1, b1⟩ := kk v' st' hK T'.heap (locs ++ L) (cells + c') (slots + 6 * c') ls (by rw [e1]; exact hP') k3 (by omega) (by omega) hl T' rfl X'
    refine ⟨t2, stp t2 ?_, b1⟩
    rw [hst]
    exact a1
  · obtain ⟨-, -, k3⟩ := vx_keep h0 e1 hS (fun _ _ z => z) (fun _ z => z) hL hF
    obtain ⟨t2, a1, b1⟩ := kx E st' hK T'.heap (locs ++ L) (cells + c') (slots + 6 * c') ls q ce (by rw [e1]; exact hP') k3 (by omega) (by omega) hl (by rw [e1]; exact hce) hcv hcl T' rfl X'
    exact ⟨t2, stp.trans a1, b1⟩
theorem z_pre (h : zOk X own cc nL d) {H : Heap} {locs : List Loc} (hP : va_P X.1.2.1 zCl (zws X.1 st) H) (hS : va_S (zA X.1) X.2.1.2.2.2.heap H locs) : ∀ U : State, U.heap = H → X.2.1.2.2.2.WarmedH U.vm → zPc X.1 av st (av.map (zre X.1)).toArray U :=
  fun U hU hW => ⟨rfl, h.2.2.2.2.2.2.1.go hS hU hW, by rw [hU]; exact hP⟩
theorem z_callS (h : zOk X own cc nL d) (hm : MS y (.code y bytes maxL ret) own') (hlk : Cond.methodLink own idx y ∈ lw_good) {n : Nat} (hp : zMp y n maxL) (hC : Ctr X.1 y (.code y bytes maxL ret) d' c' av st K) (hdd : d' + 1 ≤ d) (hcb : c' ≤ b) (hn : av.length = n) (hsk : sk = av.reverse ++ rest) (hrs : Nat.ble (rest.map zcat).sum 8 = true) (hd : decode cc pc = .ok (.invokestatic idx, 3))
    (kk : ∀ (v : Option vV) (st' : zT), K (.inl v) st' → Z X (b - c') (pc + 3) lo (v.toList ++ rest) st') (kx : ∀ (cls : String) (st' : zT), K (.inr cls) st' → Zx X (b - c') pc lo rest cls st') : Z X b pc lo sk st := by
  intro H locs cells slots ls hP hS hc hs hl
  have hts := h.2.2.2.2.2.1
  have hsz : ls.size = nL := by rw [hl.1, h.2.2.2.1]
  refine z_after h hcb hS hc hs hl (vx_runS (As := av.map (zre X.1)) (n := n) ⟨h.1, h.2.1, h.2.2.1, h.2.2.2.2.1, hts⟩ hC ⟨z_callB h hm.1 hm.2.2.1 hm.2.2.2 hlk hp hdd, hts _ hm.2.1⟩ ⟨zPc_blind, z_pre h hP hS⟩ rfl (by rw [List.length_map]; exact hn) hsz ?_ (lv_room (by rw [zcats]; exact Nat.le_of_ble_eq_true hrs)) hd ⟨?_, ?_⟩) kk kx
  · show sk.map (zre X.1) = _
    rw [hsk, List.map_append, List.map_reverse]
  · have := h.2.2.2.2.2.2.2.2.2.2.1; omega
  · have := h.2.2.2.2.2.2.2.2.2.2.2; omega
theorem z_callV (h : zOk X own cc nL d) (hm : MV y (.code y bytes maxL ret) own') (hlk : Cond.methodLink own idx y ∈ lw_good) {n a oc : Nat} {T : u_T} {N : Nat} {fs : List (Option Nat)} (hp : zMp y n maxL) (hC : Ctr X.1 y (.code y bytes maxL ret) d' c' (vr a :: av) st K) (hdd : d' + 1 ≤ d) (hcb : c' ≤ b) (hz : zsh[a]? = some (.inl (oc, fs))) (hcl : zCl[oc]? = some (own', T, N)) (hn : av.length = n) (hsk : sk = av.reverse ++ vr a :: rest) (hrs : Nat.ble (rest.map zcat).sum 8 = true) (hd : decode cc pc = .ok (.invokevirtual idx, 3))
    (kk : ∀ (v : Option vV) (st' : zT), K (.inl v) st' → Z X (b - c') (pc + 3) lo (v.toList ++ rest) st') (kx : ∀ (cls : String) (st' : zT), K (.inr cls) st' → Zx X (b - c') pc lo rest cls st') : Z X b pc lo sk st := by
  intro H locs cells slots ls hP hS hc hs hl
  have hts := h.2.2.2.2.2.1
  have hsz : ls.size = nL := by rw [hl.1, h.2.2.2.1]
  have hrecv := va_recv h.2.2.2.2.2.2.1.1 hP hcl (zws_at hz)
  refine z_after h hcb hS hc hs hl (vx_runV (C := own') (As := av.map (zre X.1)) (b := X.1.2.2.2.1 a) (n := n) ⟨h.1, h.2.1, h.2.2.1, h.2.2.2.2.1, hts⟩ hC ⟨z_callB h hm.1 hm.2.2.2.1 hm.2.2.2.2 hlk hp hdd, hts _ hm.2.1, hts _ hm.2.2.1⟩ ⟨zPc_blind, hrecv, z_pre (av := vr a :: av) h hP hS⟩ rfl (by rw [List.length_map]; exact hn) hsz ?_ (lv_room (by rw [zcats]; exact Nat.le_of_ble_eq_true hrs)) hd ⟨?_, ?_⟩) kk kx
  · show sk.map (zre X.1) = _
    rw [hsk, List.map_append, List.map_reverse]
    rfl
  · have := h.2.2.2.2.2.2.2.2.2.2.1; omega
  · have := h.2.2.2.2.2.2.2.2.2.2.2; omega
/-- ends -/
theorem z_iret (h : zOk X own cc nL d) (hr : zRt X K (some .int)) {v : Int} (hd : decode cc pc = .ok (.ireturn, 1)) (hk : K (.inl (some (vi v))) st) : Z X b pc lo [vi v] st := by
  intro H locs cells slots ls hP hS hc hs hl
  rw [hr.1]
  refine vx_ret (W.widen (k := X.2.2.2.2.2.1) (n := X.2.2.2.2.2.2.1) (by omega) (by omega) ?_)
  exact W.iret h.1 h.2.1 hr.2 (fun t ht hW => ⟨some (vi v), st, rfl, hk, by rw [ht]; exact hP, hS.F ht⟩) (fun q hq => hS.2.2 q hq) hd h.2.2.2.2.2.2.2.1
theorem z_zret (h : zOk X own cc nL d) {ty : FieldType} (hr : zRt X K (some ty)) {v : Int} (hv : narrow ty (.int (Int32.ofInt v)) = .int (Int32.ofInt v)) (hd : decode cc pc = .ok (.ireturn, 1)) (hk : K (.inl (some (vi v))) st) : Z X b pc lo [vi v] st := by
  intro H locs cells slots ls hP hS hc hs hl
  rw [hr.1]
  refine vx_ret (W.widen (k := X.2.2.2.2.2.1) (n := X.2.2.2.2.2.2.1) (by omega) (by omega) ?_)
  exact W.zret h.1 h.2.1 hr.2 hv (fun t ht hW => ⟨some (vi v), st, rfl, hk, by rw [ht]; exact hP, hS.F ht⟩) (fun q hq => hS.2.2 q hq) hd h.2.2.2.2.2.2.2.1
theorem z_vret (h : zOk X own cc nL d) (hr : zRt X K none) (hd : decode cc pc = .ok (.return_, 1)) (hk : K (.inl none) st) : Z X b pc lo [] st := by
  intro H locs cells slots ls hP hS hc hs hl
  rw [hr.1]
  refine vx_ret (W.widen (k := X.2.2.2.2.2.1) (n := X.2.2.2.2.2.2.1) (by omega) (by omega) ?_)
  exact W.vret h.1 h.2.1 hr.2 (fun t ht hW => ⟨none, st, rfl, hk, by rw [ht]; exact hP, hS.F ht⟩) (fun q hq => hS.2.2 q hq) hd h.2.2.2.2.2.2.2.1
theorem z_aret (h : zOk X own cc nL d) {ty : FieldType} (hr : zRt X K (some ty)) (hty : (∃ n, ty = .object n) ∨ ∃ t, ty = .array t) {v : Option Nat} (hd : decode cc pc = .ok (.areturn, 1)) (hk : K (.inl (some (.inr (.inl v)))) st) : Z X b pc lo [.inr (.inl v)] st := by
  intro H locs cells slots ls hP hS hc hs hl
  rw [hr.1]
  refine vx_ret (W.widen (k := X.2.2.2.2.2.1) (n := X.2.2.2.2.2.2.1) (by omega) (by omega) ?_)
  refine W.aret (v := zre X.1 (.inr (.inl v))) h.1 h.2.1 hr.2 hty ?_ (fun t ht hW => ⟨some (.inr (.inl v)), st, rfl, hk, by rw [ht]; exact hP, hS.F ht⟩) (fun q hq => hS.2.2 q hq) hd h.2.2.2.2.2.2.2.1
  cases v with
  | none => exact Or.inl rfl
  | some a => exact Or.inr ⟨_, rfl⟩
/-- thrown here or by a callee, not caught here -/
theorem z_out (h : zOk X own cc nL d) (hr : zRt X K ret) (hnx : zNx X) {cls : String} (hk : K (.inr cls) st) : Zx X b pc lo sk cls st := by
  intro H locs cells slots ls q ce hP hS hc hs hl hce hcv hcl
  rw [hr.1]
  exact vx_out (fun x hx => absurd hx (fun z => hnx x z)) h.2.2.2.2.2.2.2.1 hce hcv hcl (fun t ht hA => ⟨st, hk, by rw [ht]; exact hP, hS.F ht⟩) (fun z hz => hS.2.2 z hz) (by omega) (by omega)
/-- the words of a throw: the good ones, and those that the start state keeps -/
def zAt (own cls : String) (ic : Nat) (names : List String) : Prop := Bundle.fit cls = true ∧ (∀ n ∈ names, Bundle.fit n = true) ∧ names.length ≤ 4 ∧ (vx_atS own ic cls names).all (fun w => decide (w ∈ lw_good) || decide (w ∈ zNw)) = true ∧ Cond.initialized cls ∈ lw_good
theorem zNw_ot {w : Cond} (h : w ∈ zNw) : w.onTables = true := by
  have h2 : zNwB w = true := (List.mem_filter.mp h).2
  cases w <;> first | rfl | (simp [zNwB] at h2; done)
theorem zAt_ok {cls : String} {ic : Nat} {names : List String} (ha : zAt own cls ic names) {s : State} {args : Array Value} (hts : ∀ w ∈ lw_good, w.before args s = true) (hn : ∀ w ∈ zNw, va_Nw w s) : (∀ w ∈ vx_atS own ic cls names, w.before args s = true) ∧ ∀ w ∈ vx_atS own ic cls names, vx_ot w = true := by
  have h1 := List.all_eq_true.mp ha.2.2.2.1
  refine ⟨fun w hw => ?_, fun w hw => ?_⟩
  · have h2 := h1 w hw
    simp only [Bool.or_eq_true, decide_eq_true_eq] at h2
    rcases h2 with h2 | h2
    · exact hts w h2
    · exact va_Nw.use (zNw_ot h2) (hn w h2)
  · have h2 := h1 w hw
    simp only [Bool.or_eq_true, decide_eq_true_eq] at h2
    rcases h2 with h2 | h2
    · simp only [vx_ot, Bool.or_eq_true]; exact Or.inr (List.mem_filter.mp h2).2
    · simp only [vx_ot, Bool.or_eq_true]; exact Or.inl (zNw_ot h2)
theorem zAt_g {cls : String} {ic ik : Nat} {names : List String} (ha : zAt own cls ic names) (hk : Cond.classLink own ik cls ∈ lw_good) : ∀ w ∈ Cond.classLink own ik cls :: Cond.initialized cls :: vx_atS own ic cls names, vx_ot w = true := by
  intro w hw
  rcases List.mem_cons.mp hw with rfl | hw
  · simp only [vx_ot, Bool.or_eq_true]; exact Or.inr (List.mem_filter.mp hk).2
  rcases List.mem_cons.mp hw with rfl | hw
  · simp only [vx_ot, Bool.or_eq_true]; exact Or.inr (List.mem_filter.mp ha.2.2.2.2).2
  · have h2 := List.all_eq_true.mp ha.2.2.2.1 w hw
    simp only [Bool.or_eq_true, decide_eq_true_eq] at h2
    rcases h2 with h2 | h2
    · simp only [vx_ot, Bool.or_eq_true]; exact Or.inr (List.mem_filter.mp h2).2
    · simp only [vx_ot, Bool.or_eq_true]; exact Or.inl (zNw_ot h2)
theorem z_throw (h : zOk X own cc nL d) (hr : zRt X K ret) (hnx : zNx X) {cls text : String} {ik is ic : Nat} {names : List String} (ha : zAt own cls ic names) (hk0 : Cond.classLink own ik cls ∈ lw_good) (ht : (own, is, text) ∈ ztx)
    (d0 : decode cc pc = .ok (.new ik, 3)) (d3 : decode cc (pc + 3) = .ok (.dup, 1)) (d4 : decode cc (pc + 4) = .ok (.ldc is, 2)) (d6 : decode cc (pc + 6) = .ok (.invokespecial ic, 3)) (d9 : decode cc (pc + 9) = .ok (.athrow, 1)) (hb : 1 ≤ b) (hrs : Nat.ble (sk.map zcat).sum 8 = true) (hk : K (.inr cls) st) : Z X b pc lo sk st := by
  intro H locs cells slots ls hP hS hc hs hl
  have hts := h.2.2.2.2.2.1
  obtain ⟨hX1, ⟨hU, hN⟩, hX3, hX4, hX5, -⟩ := h.2.2.2.2.2.2.1
  obtain ⟨sa, hsa⟩ := hX3 _ ht
  obtain ⟨g1, g2⟩ := zAt_ok ha hts hX4
  have q1 := h.2.2.2.2.2.2.2.2.1
  have q2 := h.2.2.2.2.2.2.2.2.2.1
  have q3 := h.2.2.2.2.2.2.2.2.2.2.1
  have q4 := h.2.2.2.2.2.2.2.2.2.2.2
  have q5 := ha.2.2.1
  rw [hr.1]
  exact vx_throwS h.1 h.2.1 hX5 h.2.2.2.2.1 ha.1 ha.2.1 (hts _ hk0) (hts _ ha.2.2.2.2) hsa g1 (zAt_g ha hk0) hU hN hS (by rw [hl.1, h.2.2.2.1]; exact h.2.2.1.symm) d0 d3 d4 d6 d9 (fun x hx => absurd hx (fun z => hnx x z)) (by omega) (by rw [zcats]; have := Nat.le_of_ble_eq_true hrs; omega) (by omega) (by omega) h.2.2.2.2.2.2.2.1
    (fun t hA hsz hkp => ⟨st, hk, va_P.kept hP (fun k q hq => hkp _ (hP k q hq).lt), ⟨Nat.le_trans hS.1 hsz, fun q h1 h2 => by rw [hkp q (Nat.lt_of_lt_of_le h1 hS.1)]; exact hS.2.1 q h1 h2⟩⟩) (fun z hz => hS.2.2 z hz) (by omega) (by omega)
theorem z_throwW (h : zOk X own cc nL d) (hr : zRt X K ret) (hnx : zNx X) {cls text : String} {ik is ic : Nat} {names : List String} (ha : zAt own cls ic names) (hk0 : Cond.classLink own ik cls ∈ lw_good) (ht : (own, is, text) ∈ ztx)
    (d0 : decode cc pc = .ok (.new ik, 3)) (d3 : decode cc (pc + 3) = .ok (.dup, 1)) (d4 : decode cc (pc + 4) = .ok (.ldc_w is, 3)) (d6 : decode cc (pc + 7) = .ok (.invokespecial ic, 3)) (d9 : decode cc (pc + 10) = .ok (.athrow, 1)) (hb : 1 ≤ b) (hrs : Nat.ble (sk.map zcat).sum 8 = true) (hk : K (.inr cls) st) : Z X b pc lo sk st := by
  intro H locs cells slots ls hP hS hc hs hl
  have hts := h.2.2.2.2.2.1
  obtain ⟨hX1, ⟨hU, hN⟩, hX3, hX4, hX5, -⟩ := h.2.2.2.2.2.2.1
  obtain ⟨sa, hsa⟩ := hX3 _ ht
  obtain ⟨g1, g2⟩ := zAt_ok ha hts hX4
  have q1 := h.2.2.2.2.2.2.2.2.1
  have q2 := h.2.2.2.2.2.2.2.2.2.1
  have q3 := h.2.2.2.2.2.2.2.2.2.2.1
  have q4 := h.2.2.2.2.2.2.2.2.2.2.2
  have q5 := ha.2.2.1
  rw [hr.1]
  exact vx_throwSW h.1 h.2.1 hX5 h.2.2.2.2.1 ha.1 ha.2.1 (hts _ hk0) (hts _ ha.2.2.2.2) hsa g1 (zAt_g ha hk0) hU hN hS (by rw [hl.1, h.2.2.2.1]; exact h.2.2.1.symm) d0 d3 d4 d6 d9 (fun x hx => absurd hx (fun z => hnx x z)) (by omega) (by rw [zcats]; have := Nat.le_of_ble_eq_true hrs; omega) (by omega) (by omega) h.2.2.2.2.2.2.2.1
    (fun t hA hsz hkp => ⟨st, hk, va_P.kept hP (fun k q hq => hkp _ (hP k q hq).lt), ⟨Nat.le_trans hS.1 hsz, fun q h1 h2 => by rw [hkp q (Nat.lt_of_lt_of_le h1 hS.1)]; exact hS.2.1 q h1 h2⟩⟩) (fun z hz => hS.2.2 z hz) (by omega) (by omega)
end CL
def zargs : Nat → List vV → List (Nat × vV)
  | _, [] => []
  | n, v :: r => (n, v) :: zargs (n + zcat v) r
def zwords : List vV → Nat
  | [] => 0
  | v :: r => zcat v + zwords r
theorem zlv_args (E : zE) : ∀ (n : Nat) (av : List vV), lv_args n (av.map (zre E)) = (zargs n av).map (zrl E)
  | n, [] => rfl
  | n, v :: r => by
    have ih := fun m => zlv_args E m r
    show lv_args n (zre E v :: r.map (zre E)) = _
    unfold lv_args zargs
    simp only [zre_cat, ih, List.map_cons, zrl]
    rcases v with a | r | x | x | x <;> rfl
theorem zlg_len (E : zE) (av : List vV) : (lg_sl (av.map (zre E))).length = zwords av := by
  induction av with
  | nil => rfl
  | cons v r ih =>
    simp only [lg_sl, List.map_cons, List.flatMap_cons, List.length_append, zwords] at ih ⊢
    rw [ih, zre_cat]
    rcases v with a | r | x | x | x <;> rfl
/-- a method without a table: its contract out of the walk of its body -/
theorem Ctr_of {E : zE} {y : MethodName} {bytes : ByteArray} {maxL : Nat} {ret : Option FieldType} {own : String} {d c : Nat} {av : List vV} {st : zT} {K : zK} (hy : plainName y.cls = true) (hown : y.cls = own) (hlen : Nat.ble (zwords av) maxL = true)
    (body : ∀ Y, zOk (E, Y) own bytes maxL d → zRt (E, Y) K ret → zNx (E, Y) → Z (E, Y) c 0 (zargs 0 av) [] st) : Ctr E y (.code y bytes maxL ret) d c av st K := by
  refine vx_ofW hy rfl ?_
  intro p e s m args below meth c' s₁ B hml hnx hv
  obtain ⟨rfl, hX, hP⟩ := hv
  have hts : ∀ w ∈ lw_good, w.before ((av.map (zre E)).toArray) s = true := fun w hw => atoms_spec (ws := Cond.code y bytes maxL ret :: lw_good) B.pre w (List.mem_cons_of_mem _ hw)
  have hl := lv_entry (av.map (zre E)) (n := maxL) (by rw [zlg_len]; exact Nat.le_of_ble_eq_true hlen)
  rw [lg_entry_eq]
  generalize (lg_sl (av.map (zre E)) ++ List.replicate (maxL - (lg_sl (av.map (zre E))).length) Slot.unset).toArray = ls at hl ⊢
  rw [zlv_args] at hl
  exact body ((p, e, (headSpec (Cond.code y bytes maxL ret :: lw_good) (zrm d c)).room, s), (m, (av.map (zre E)).toArray, below), (meth, c'), vx_MQ below (zQc E K) (zXC E K) (av.map (zre E)).toArray s c (6 * c) (zA E), (c, 6 * c, maxL))
    ⟨B.exec, B.bytes, hml, rfl, by rw [← hown]; exact findClass_of_methodNamed B.named, hts, hX, B.notSynchronized, Nat.le_refl _, Nat.le_refl _, Nat.le_refl _, Nat.le_refl _⟩ ⟨rfl, B.returns⟩ hnx s.heap [] 0 0 ls hP va_S.rf (by show 0 + c ≤ c; omega) (by show 0 + 6 * c ≤ 6 * c; omega) hl
/-- an answer for sure; none; a throw for sure -/
def Rv (E : zE) (y : MethodName) (w : Cond) (d : Nat) (av : List vV) (st : zT) (v : vV) (st' : zT) : Prop := Ctr E y w d 0 av st (fun o s => o = .inl (some v) ∧ s = st')
def Rn (E : zE) (y : MethodName) (w : Cond) (d : Nat) (av : List vV) (st : zT) (st' : zT) : Prop := Ctr E y w d 0 av st (fun o s => o = .inl none ∧ s = st')
def Tx (E : zE) (y : MethodName) (w : Cond) (d : Nat) (av : List vV) (st : zT) (cls : String) (st' : zT) : Prop := Ctr E y w d 1 av st (fun o s => o = .inr cls ∧ s = st')
theorem Rv.to {E : zE} {y : MethodName} {w : Cond} {d : Nat} {av : List vV} {st : zT} {v v2 : vV} {st' st2 : zT} (h : Rv E y w d av st v st') (hv : v = v2) (hs : st' = st2) : Rv E y w d av st v2 st2 := by subst hv; subst hs; exact h
theorem Rn.to {E : zE} {y : MethodName} {w : Cond} {d : Nat} {av : List vV} {st : zT} {st' st2 : zT} (h : Rn E y w d av st st') (hs : st' = st2) : Rn E y w d av st st2 := by subst hs; exact h
theorem zm_max : Cond.static Lib.Math.max.name ∈ lw_good ∧ Cond.initialized "java/lang/Math" ∈ lw_good ∧ Cond.code Lib.Math.max.name Lib.Math.max.code 2 (some .int) ∈ lw_good := ⟨tg 512 (by decide +kernel) (by decide +kernel), tg 12 (by decide +kernel) (by decide +kernel), tg 513 (by decide +kernel) (by decide +kernel)⟩
theorem zm_min : Cond.static Lib.Math.min.name ∈ lw_good ∧ Cond.initialized "java/lang/Math" ∈ lw_good ∧ Cond.code Lib.Math.min.name Lib.Math.min.code 2 (some .int) ∈ lw_good := ⟨tg 331 (by decide +kernel) (by decide +kernel), tg 12 (by decide +kernel) (by decide +kernel), tg 332 (by decide +kernel) (by decide +kernel)⟩
section CR
variable {X : zC} {own own' : String} {cc bytes : ByteArray} {nL d b pc maxL idx d' c' n a oc N : Nat} {lo : List (Nat × vV)} {sk av rest : List vV} {st st1 : zT} {y : MethodName} {ret : Option FieldType} {K : zK} {v : vV} {T : u_T} {fs : List (Option Nat)} {cls : String}
theorem z_cS (h : zOk X own cc nL d) (hm : MS y (.code y bytes maxL ret) own') (hlk : Cond.methodLink own idx y ∈ lw_good) (hp : zMp y n maxL) (hC : Rv X.1 y (.code y bytes maxL ret) d' av st v st1) (hdd : Nat.ble (d' + 1) d = true) (hsk : sk = av.reverse ++ rest) (hn : av.length = n) (hrs : Nat.ble (rest.map zcat).sum 8 = true) (hd : decode cc pc = .ok (.invokestatic idx, 3)) (k : Z X b (pc + 3) lo (v :: rest) st1) : Z X b pc lo sk st :=
  z_callS h hm hlk hp hC (Nat.le_of_ble_eq_true hdd) (Nat.zero_le b) hn hsk hrs hd (fun v' st' q => by obtain ⟨q1, q2⟩ := q; cases q1; subst q2; exact k) (fun cls st' q => by obtain ⟨q1, -⟩ := q; cases q1)
theorem z_cS0 (h : zOk X own cc nL d) (hm : MS y (.code y bytes maxL ret) own') (hlk : Cond.methodLink own idx y ∈ lw_good) (hp : zMp y n maxL) (hC : Rn X.1 y (.code y bytes maxL ret) d' av st st1) (hdd : Nat.ble (d' + 1) d = true) (hsk : sk = av.reverse ++ rest) (hn : av.length = n) (hrs : Nat.ble (rest.map zcat).sum 8 = true) (hd : decode cc pc = .ok (.invokestatic idx, 3)) (k : Z X b (pc + 3) lo rest st1) : Z X b pc lo sk st :=
  z_callS h hm hlk hp hC (Nat.le_of_ble_eq_true hdd) (Nat.zero_le b) hn hsk hrs hd (fun v' st' q => by obtain ⟨q1, q2⟩ := q; cases q1; subst q2; exact k) (fun cls st' q => by obtain ⟨q1, -⟩ := q; cases q1)
theorem z_cSx (h : zOk X own cc nL d) (hm : MS y (.code y bytes maxL ret) own') (hlk : Cond.methodLink own idx y ∈ lw_good) (hp : zMp y n maxL) (hC : Tx X.1 y (.code y bytes maxL ret) d' av st cls st1) (hdd : Nat.ble (d' + 1) d = true) (hb : 1 ≤ b) (hsk : sk = av.reverse ++ rest) (hn : av.length = n) (hrs : Nat.ble (rest.map zcat).sum 8 = true) (hd : decode cc pc = .ok (.invokestatic idx, 3)) (k : Zx X (b - 1) pc lo rest cls st1) : Z X b pc lo sk st :=
  z_callS h hm hlk hp hC (Nat.le_of_ble_eq_true hdd) hb hn hsk hrs hd (fun v' st' q => by obtain ⟨q1, q2⟩ := q; cases q1) (fun cls st' q => by obtain ⟨q1, q2⟩ := q; cases q1; subst q2; exact k)
theorem z_cV (h : zOk X own cc nL d) (hm : MV y (.code y bytes maxL ret) own') (hlk : Cond.methodLink own idx y ∈ lw_good) (hp : zMp y n maxL) (hC : Rv X.1 y (.code y bytes maxL ret) d' (vr a :: av) st v st1) (hdd : Nat.ble (d' + 1) d = true) (hz : zsh[a]? = some (.inl (oc, fs))) (hcl : zCl[oc]? = some (own', T, N)) (hsk : sk = av.reverse ++ vr a :: rest) (hn : av.length = n) (hrs : Nat.ble (rest.map zcat).sum 8 = true) (hd : decode cc pc = .ok (.invokevirtual idx, 3)) (k : Z X b (pc + 3) lo (v :: rest) st1) : Z X b pc lo sk st :=
  z_callV h hm hlk hp hC (Nat.le_of_ble_eq_true hdd) (Nat.zero_le b) hz hcl hn hsk hrs hd (fun v' st' q => by obtain ⟨q1, q2⟩ := q; cases q1; subst q2; exact k) (fun cls st' q => by obtain ⟨q1, -⟩ := q; cases q1)
theorem z_cV0 (h : zOk X own cc nL d) (hm : MV y (.code y bytes maxL ret) own') (hlk : Cond.methodLink own idx y ∈ lw_good) (hp : zMp y n maxL) (hC : Rn X.1 y (.code y bytes maxL ret) d' (vr a :: av) st st1) (hdd : Nat.ble (d' + 1) d = true) (hz : zsh[a]? = some (.inl (oc, fs))) (hcl : zCl[oc]? = some (own', T, N)) (hsk : sk = av.reverse ++ vr a :: rest) (hn : av.length = n) (hrs : Nat.ble (rest.map zcat).sum 8 = true) (hd : decode cc pc = .ok (.invokevirtual idx, 3)) (k : Z X b (pc + 3) lo rest st1) : Z X b pc lo sk st :=
  z_callV h hm hlk hp hC (Nat.le_of_ble_eq_true hdd) (Nat.zero_le b) hz hcl hn hsk hrs hd (fun v' st' q => by obtain ⟨q1, q2⟩ := q; cases q1; subst q2; exact k) (fun cls st' q => by obtain ⟨q1, -⟩ := q; cases q1)
theorem z_cVx (h : zOk X own cc nL d) (hm : MV y (.code y bytes maxL ret) own') (hlk : Cond.methodLink own idx y ∈ lw_good) (hp : zMp y n maxL) (hC : Tx X.1 y (.code y bytes maxL ret) d' (vr a :: av) st cls st1) (hdd : Nat.ble (d' + 1) d = true) (hb : 1 ≤ b) (hz : zsh[a]? = some (.inl (oc, fs))) (hcl : zCl[oc]? = some (own', T, N)) (hsk : sk = av.reverse ++ vr a :: rest) (hn : av.length = n) (hrs : Nat.ble (rest.map zcat).sum 8 = true) (hd : decode cc pc = .ok (.invokevirtual idx, 3)) (k : Zx X (b - 1) pc lo rest cls st1) : Z X b pc lo sk st :=
  z_callV h hm hlk hp hC (Nat.le_of_ble_eq_true hdd) hb hz hcl hn hsk hrs hd (fun v' st' q => by obtain ⟨q1, q2⟩ := q; cases q1) (fun cls st' q => by obtain ⟨q1, q2⟩ := q; cases q1; subst q2; exact k)
theorem z_max (h : zOk X own cc nL d) {x y : Int} (hlk : Cond.methodLink own idx Lib.Math.max.name ∈ lw_good) (hd : decode cc pc = .ok (.invokestatic idx, 3)) (hx : zi x) (hy : zi y) (hrs : Nat.ble (rest.map zcat).sum 8 = true) (k : Z X b (pc + 3) lo (vi (if x < y then y else x) :: rest) st) : Z X b pc lo (vi y :: vi x :: rest) st := by
  intro H locs cells slots ls hP hS hc hs hl
  have k1 := k H locs cells slots ls hP hS hc hs hl
  have hts := h.2.2.2.2.2.1
  have q1 := h.2.2.2.2.2.2.2.2.1
  have q2 := h.2.2.2.2.2.2.2.2.2.1
  have q3 := h.2.2.2.2.2.2.2.2.2.2.1
  have q4 := h.2.2.2.2.2.2.2.2.2.2.2
  have e : zre X.1 (vi (if x < y then y else x)) = .int (if Int32.ofInt x < Int32.ofInt y then Int32.ofInt y else Int32.ofInt x) := by
    by_cases hxy : x < y
    · rw [if_pos hxy, if_pos ((zi_lt hx hy).mpr hxy)]; rfl
    · rw [if_neg hxy, if_neg (fun z => hxy ((zi_lt hx hy).mp z))]; rfl
  rw [List.map_cons, e] at k1
  exact va_mmax h.1 h.2.1 (by rw [hl.1, h.2.2.2.1]; exact h.2.2.1) h.2.2.2.2.1 (hts _ hlk) (hts _ zm_max.1) (hts _ zm_max.2.1) (hts _ zm_max.2.2) (by omega) (by rw [zcats]; have := Nat.le_of_ble_eq_true hrs; omega) (by omega) (by omega) hd k1
theorem z_min (h : zOk X own cc nL d) {x y : Int} (hlk : Cond.methodLink own idx Lib.Math.min.name ∈ lw_good) (hd : decode cc pc = .ok (.invokestatic idx, 3)) (hx : zi x) (hy : zi y) (hrs : Nat.ble (rest.map zcat).sum 8 = true) (k : Z X b (pc + 3) lo (vi (if y < x then y else x) :: rest) st) : Z X b pc lo (vi y :: vi x :: rest) st := by
  intro H locs cells slots ls hP hS hc hs hl
  have k1 := k H locs cells slots ls hP hS hc hs hl
  have hts := h.2.2.2.2.2.1
  have q1 := h.2.2.2.2.2.2.2.2.1
  have q2 := h.2.2.2.2.2.2.2.2.2.1
  have q3 := h.2.2.2.2.2.2.2.2.2.2.1
  have q4 := h.2.2.2.2.2.2.2.2.2.2.2
  have e : zre X.1 (vi (if y < x then y else x)) = .int (if Int32.ofInt y < Int32.ofInt x then Int32.ofInt y else Int32.ofInt x) := by
    by_cases hxy : y < x
    · rw [if_pos hxy, if_pos ((zi_lt hy hx).mpr hxy)]; rfl
    · rw [if_neg hxy, if_neg (fun z => hxy ((zi_lt hy hx).mp z))]; rfl
  rw [List.map_cons, e] at k1
  exact va_mmin h.1 h.2.1 (by rw [hl.1, h.2.2.2.1]; exact h.2.2.1) h.2.2.2.2.1 (hts _ hlk) (hts _ zm_min.1) (hts _ zm_min.2.1) (hts _ zm_min.2.2) (by omega) (by rw [zcats]; have := Nat.le_of_ble_eq_true hrs; omega) (by omega) (by omega) hd k1
end CR
/-- one cell, whole -/
def zs (σ : Nat → Nat → Int) (k : Nat) (f : Nat → Int) : Nat → Nat → Int := fun a => match Nat.beq a k with
  | true => f
  | false => σ a
theorem zs_eq (σ : Nat → Nat → Int) (k : Nat) (f : Nat → Int) : zs σ k f k = f := by simp [zs]
theorem zs_ne {σ : Nat → Nat → Int} {k a : Nat} (h : a ≠ k) (f : Nat → Int) : zs σ k f a = σ a := by
  have : Nat.beq a k = false := by
    cases hb : Nat.beq a k with
    | false => rfl
    | true => exact absurd (Nat.eq_of_beq_eq_true hb) h
  simp [zs, this]
theorem zup_zs (σ : Nat → Nat → Int) (k i : Nat) (v : Int) : zup σ k i v = zs σ k (va_up (σ k) i v) := by
  funext a
  by_cases h : a = k
  · subst h; rw [zup_eq, zs_eq]
  · rw [zup_ne h, zs_ne h]
theorem zs_zs (σ : Nat → Nat → Int) (k : Nat) (f g : Nat → Int) : zs (zs σ k f) k g = zs σ k g := by
  funext a
  by_cases h : a = k
  · subst h; rw [zs_eq, zs_eq]
  · rw [zs_ne h, zs_ne h, zs_ne h]
theorem zs_id (σ : Nat → Nat → Int) (k : Nat) : zs σ k (σ k) = σ := by
  funext a
  by_cases h : a = k
  · subst h; rw [zs_eq]
  · rw [zs_ne h]
theorem zs_comm {σ : Nat → Nat → Int} {k j : Nat} (h : k ≠ j) (f g : Nat → Int) : zs (zs σ k f) j g = zs (zs σ j g) k f := by
  funext a
  by_cases h1 : a = k
  · subst h1; rw [zs_eq, zs_ne h, zs_eq]
  · by_cases h2 : a = j
    · subst h2; rw [zs_eq, zs_ne h1, zs_eq]
    · rw [zs_ne h2, zs_ne h1, zs_ne h1, zs_ne h2]
