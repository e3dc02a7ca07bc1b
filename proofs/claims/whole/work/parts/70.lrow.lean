/-! ===== rows of the law's helpers: a table of handlers, a catch, the long's and the double's cells ===== -/
def zNcs : List (String × String) := [(eUO, eIA), (eUO, eIB), (eIA, eIB), (eNS, eIB)]
def zNc (U : State) : Prop := ∀ q ∈ zNcs, va_Nc q.1 q.2 U
theorem zNc.go {s U : State} (h : zNc s) (hW : s.WarmedH U.vm) : zNc U := fun q hq => va_Nc.moved hW.alike (h q hq)
def zPcN (E : zE) (av : List vV) (st : zT) : Array Value → State → Prop := fun v U => zPc E av st v U ∧ zNc U
theorem zPcN_blind {E : zE} {av : List vV} {st : zT} : FrameBlind (zPcN E av st) := fun a U g mk h => ⟨zPc_blind a U g mk h.1, fun q hq => va_Nc.moved (u := U) (U := U.calling g mk a) (Vm.Alike.refl U.vm) (h.2 q hq)⟩
def CtrN (E : zE) (y : MethodName) (w : Cond) (d c : Nat) (av : List vV) (st : zT) (K : zK) : Prop :=
  vx_Met E.1 y (w :: lw_good) (zrm d c) (zPcN E av st) (zQc E K) (zXC E K) c (6 * c) (zA E)
abbrev zHH : Type := List (Nat × Nat × Nat × Nat)
def zTb (X : zC) (hh : zHH) : Prop := X.2.2.2.1.2.exceptionTable.toList = tableOf hh ∧ zNc X.2.1.2.2.2
/-- a method with a table: its contract out of the walk of its body -/
theorem CtrN_of {E : zE} {y : MethodName} {bytes : ByteArray} {maxL : Nat} {ret : Option FieldType} {hh : zHH} {own : String} {d c : Nat} {av : List vV} {st : zT} {K : zK} (hy : plainName y.cls = true) (hown : y.cls = own) (hlen : Nat.ble (zwords av) maxL = true)
    (body : ∀ Y, zOk (E, Y) own bytes maxL d → zRt (E, Y) K ret → zTb (E, Y) hh → Z (E, Y) c 0 (zargs 0 av) [] st) : CtrN E y (.codeWith y bytes maxL ret hh) d c av st K := by
  refine vx_ofWH hy rfl ?_
  intro p e s m args below meth c' s₁ B hml hv
  have hnx := vx_table (x := y) B (atoms_spec (ws := Cond.codeWith y bytes maxL ret hh :: lw_good) B.pre _ List.mem_cons_self)
  obtain ⟨⟨rfl, hX, hP⟩, hN⟩ := hv
  have hts : ∀ w ∈ lw_good, w.before ((av.map (zre E)).toArray) s = true := fun w hw => atoms_spec (ws := Cond.codeWith y bytes maxL ret hh :: lw_good) B.pre w (List.mem_cons_of_mem _ hw)
  have hl := lv_entry (av.map (zre E)) (n := maxL) (by rw [zlg_len]; exact Nat.le_of_ble_eq_true hlen)
  rw [lg_entry_eq]
  generalize (lg_sl (av.map (zre E)) ++ List.replicate (maxL - (lg_sl (av.map (zre E))).length) Slot.unset).toArray = ls at hl ⊢
  rw [zlv_args] at hl
  exact body ((p, e, (headSpec (Cond.codeWith y bytes maxL ret hh :: lw_good) (zrm d c)).room, s), (m, (av.map (zre E)).toArray, below), (meth, c'), vx_MQ below (zQc E K) (zXC E K) (av.map (zre E)).toArray s c (6 * c) (zA E), (c, 6 * c, maxL))
    ⟨B.exec, B.bytes, hml, rfl, by rw [← hown]; exact findClass_of_methodNamed B.named, hts, hX, B.notSynchronized, Nat.le_refl _, Nat.le_refl _, Nat.le_refl _, Nat.le_refl _⟩ ⟨rfl, B.returns⟩ ⟨hnx, hN⟩ s.heap [] 0 0 ls hP va_S.rf (by show 0 + c ≤ c; omega) (by show 0 + 6 * c ≤ 6 * c; omega) hl
section LR
variable {X : zC} {own own' : String} {cc bytes : ByteArray} {nL d b pc maxL idx d' c' n : Nat} {lo : List (Nat × vV)} {sk av rest : List vV} {st : zT} {y : MethodName} {ret : Option FieldType} {K : zK} {hh : zHH}
theorem z_callN (h : zOk X own cc nL d) (hN : zNc X.2.1.2.2.2) (hm : MS y (.codeWith y bytes maxL ret hh) own') (hlk : Cond.methodLink own idx y ∈ lw_good) (hp : zMp y n maxL) (hC : CtrN X.1 y (.codeWith y bytes maxL ret hh) d' c' av st K) (hdd : d' + 1 ≤ d) (hcb : c' ≤ b) (hn : av.length = n) (hsk : sk = av.reverse ++ rest) (hrs : Nat.ble (rest.map zcat).sum 8 = true) (hd : decode cc pc = .ok (.invokestatic idx, 3))
    (kk : ∀ (v : Option vV) (st' : zT), K (.inl v) st' → Z X (b - c') (pc + 3) lo (v.toList ++ rest) st') (kx : ∀ (cls : String) (st' : zT), K (.inr cls) st' → Zx X (b - c') pc lo rest cls st') : Z X b pc lo sk st := by
  intro H locs cells slots ls hP hS hc hs hl
  have hts := h.2.2.2.2.2.1
  have hsz : ls.size = nL := by rw [hl.1, h.2.2.2.1]
  have hf := h.2.2.2.2.2.2.2.2.1
  have hlo := h.2.2.2.2.2.2.2.2.2.1
  have hpm := hp.2.2.2
  have cw : vx_CSW X.2.1.2.2.1 X.2.1.2.2.2 X.2.2.1.2.1 own idx y bytes maxL ret hh (.codeWith y bytes maxL ret hh :: lw_good) (zrm d' c') c' (6 * c') n := by
    refine ⟨⟨rfl, rfl, ?_, ?_, pay_in hts (zgood hm.1), List.mem_cons_self⟩, hts _ hm.1, by rw [hm.2.2.2]; exact hts _ hm.2.2.1, ⟨hp.1, hp.2.1⟩, fun sig hsig => ?_, hts _ hlk, hts _ hm.2.1⟩
    · show d' + 8 + 1 ≤ _
      omega
    · show 8 + (maxL + 11) + (40 * d' + 200) ≤ _
      omega
    · have h2 := hp.2.2.1
      rw [hsig] at h2
      exact (Option.some.inj h2).symm
  refine z_after h hcb hS hc hs hl (vx_runSX (As := av.map (zre X.1)) (n := n) ⟨h.1, h.2.1, h.2.2.1, h.2.2.2.2.1, hts⟩ hC cw ⟨zPcN_blind, fun U hU hW => ⟨z_pre h hP hS U hU hW, hN.go hW⟩⟩ rfl (by rw [List.length_map]; exact hn) hsz ?_ (lv_room (by rw [zcats]; exact Nat.le_of_ble_eq_true hrs)) hd ⟨?_, ?_⟩) kk kx
  · show sk.map (zre X.1) = _
    rw [hsk, List.map_append, List.map_reverse]
  · have := h.2.2.2.2.2.2.2.2.2.2.1; omega
  · have := h.2.2.2.2.2.2.2.2.2.2.2; omega
/-- caught by the row x; the store of what was caught -/
theorem z_catch (h : zOk X own cc nL d) (hT : zTb X hh) {cls : String} (hp hs : zHH) (x : Nat × Nat × Nat × Nat) (hsp : hh = hp ++ x :: hs) (hpass : ∀ z ∈ hp, z.2.2.2 ≠ 0 ∧ ∃ nm : String, Cond.classLink own z.2.2.2 nm ∈ lw_good ∧ (cls, nm) ∈ zNcs) (hx : covers ⟨x.1, x.2.1, x.2.2.1, x.2.2.2⟩ pc = true) (h0 : x.2.2.2 ≠ 0) (hlk : Cond.classLink own x.2.2.2 cls ∈ lw_good) (hca : Cond.castable cls cls ∈ zNw) {j len : Nat}
    (hst : (∃ i : Fin 4, i.val = j ∧ len = 1 ∧ decode cc x.2.2.1 = .ok (.astore_n i, 1)) ∨ (len = 2 ∧ decode cc x.2.2.1 = .ok (.astore j, 2))) (hn : Nat.blt j nL = true) (k : Z X b (x.2.2.1 + len) (zrm1 j lo) [] st) : Zx X b pc lo sk cls st := by
  intro H locs cells slots ls q ce hP hS hc hs' hl hce hcv hcl
  have hts := h.2.2.2.2.2.1
  have hX4 := h.2.2.2.2.2.2.1.2.2.2.1
  have fin : ∀ ls' : Array Slot, lv_has ls' X.2.2.2.2.2.2.2 ((j, Value.ref q) :: (lo.map (zrl X.1)).filter (fun q => !(q.1 == j) && !(q.1 + 1 == j && q.2.category == 2))) → lv_has ls' X.2.2.2.2.2.2.2 ((zrm1 j lo).map (zrl X.1)) := fun ls' hl' => by
    rw [zrm1_eq]
    exact ⟨hl'.1, hl'.2.1, fun q hq => hl'.2.2 q (List.mem_cons_of_mem _ hq)⟩
  refine vx_catch (own := own) (name := cls) h.2.2.2.2.1 (tableOf hp) ⟨x.1, x.2.1, x.2.2.1, x.2.2.2⟩ (tableOf hs) (by rw [hT.1, hsp]; simp [tableOf]) (fun z hz => ?_) hx h0 (hts _ hlk) (va_Nw.use rfl (hX4 _ hca)) hce hcv hcl ?_
  · obtain ⟨w, hw, rfl⟩ := List.mem_map.mp hz
    obtain ⟨a1, nm, a2, a3⟩ := hpass w hw
    exact Or.inr ⟨a1, nm, hts _ a2, hT.2 _ a3⟩
  · rcases hst with ⟨i, hi, e1, hd⟩ | ⟨e1, hd⟩
    · subst e1
      exact lv_astore_n h.1 h.2.1 hd hi hl (by rw [h.2.2.2.1]; exact Nat.le_of_ble_eq_true hn) rfl (fun ls' hl' => k H locs cells slots ls' hP hS hc hs' (fin ls' hl'))
    · subst e1
      exact lv_astore h.1 h.2.1 hd hl (by rw [h.2.2.2.1]; exact Nat.le_of_ble_eq_true hn) rfl (fun ls' hl' => k H locs cells slots ls' hP hS hc hs' (fin ls' hl'))
theorem z_last (h : zOk X own cc nL d) {v : Int64} {σ : Nat → Nat → Int} {lg : Nat → Int64} {dd : Nat → UInt64} (hd : decode cc pc = .ok (.lastore, 1)) (k : Z X b (pc + 1) lo sk (σ, vp_updL lg 0 v, dd)) : Z X b pc lo (vl v :: vi 0 :: vr 20 :: sk) (σ, lg, dd) := by
  intro H locs cells slots ls hP hS hc hs hl
  obtain ⟨h1, h2⟩ := zin (i := 0) (j := 0) (n := 1) (by decide) (by decide) rfl
  refine va_last h.1 h.2.1 h.2.2.2.2.2.2.1.1 hP (zws_D h.2.2.2.2.2.2.1.2.2.2.2.2.1 _) hS 20 2 (zws_at (k := 20) (c := .inr (2, 1)) rfl) rfl h1 hd (fun H1 locs1 hP1 _ hS1 => ?_)
  rw [h2, zset_l] at hP1
  exact k H1 locs1 cells slots ls hP1 hS1 hc hs hl
theorem z_lald (h : zOk X own cc nL d) {σ : Nat → Nat → Int} {lg : Nat → Int64} {dd : Nat → UInt64} (hd : decode cc pc = .ok (.laload, 1)) (k : Z X b (pc + 1) lo (vl (lg 0) :: sk) (σ, lg, dd)) : Z X b pc lo (vi 0 :: vr 20 :: sk) (σ, lg, dd) := by
  intro H locs cells slots ls hP hS hc hs hl
  obtain ⟨h1, h2⟩ := zin (i := 0) (j := 0) (n := 1) (by decide) (by decide) rfl
  refine va_lald h.1 h.2.1 h.2.2.2.2.2.2.1.1 hP 20 2 (zws_at (k := 20) (c := .inr (2, 1)) rfl) rfl h1 hd ?_
  rw [h2]
  exact k H locs cells slots ls hP hS hc hs hl
theorem z_dast (h : zOk X own cc nL d) {v : UInt64} {σ : Nat → Nat → Int} {lg : Nat → Int64} {dd : Nat → UInt64} (hd : decode cc pc = .ok (.dastore, 1)) (k : Z X b (pc + 1) lo sk (σ, lg, vf_upd dd 0 v)) : Z X b pc lo (vd v :: vi 0 :: vr 39 :: sk) (σ, lg, dd) := by
  intro H locs cells slots ls hP hS hc hs hl
  obtain ⟨h1, h2⟩ := zin (i := 0) (j := 0) (n := 1) (by decide) (by decide) rfl
  refine va_dast h.1 h.2.1 h.2.2.2.2.2.2.1.1 hP (zws_D h.2.2.2.2.2.2.1.2.2.2.2.2.1 _) hS 39 3 (zws_at (k := 39) (c := .inr (3, 1)) rfl) rfl h1 hd (fun H1 locs1 hP1 _ hS1 => ?_)
  rw [h2, zset_d] at hP1
  exact k H1 locs1 cells slots ls hP1 hS1 hc hs hl
theorem z_dald (h : zOk X own cc nL d) {σ : Nat → Nat → Int} {lg : Nat → Int64} {dd : Nat → UInt64} (hd : decode cc pc = .ok (.daload, 1)) (k : Z X b (pc + 1) lo (vd (dd 0) :: sk) (σ, lg, dd)) : Z X b pc lo (vi 0 :: vr 39 :: sk) (σ, lg, dd) := by
  intro H locs cells slots ls hP hS hc hs hl
  obtain ⟨h1, h2⟩ := zin (i := 0) (j := 0) (n := 1) (by decide) (by decide) rfl
  refine va_dald h.1 h.2.1 h.2.2.2.2.2.2.1.1 hP 39 3 (zws_at (k := 39) (c := .inr (3, 1)) rfl) rfl h1 hd ?_
  rw [h2]
  exact k H locs cells slots ls hP hS hc hs hl
theorem z_lconst (h : zOk X own cc nL d) {i : Fin 2} {v : Int64} (hd : decode cc pc = .ok (.lconst i, 1)) (hv : Int64.ofNat (i : Nat) = v) (k : Z X b (pc + 1) lo (vl v :: sk) st) : Z X b pc lo sk st :=
  fun H locs cells slots ls hP hS hc hs hl => lv_lconst h.1 h.2.1 hd hv (k H locs cells slots ls hP hS hc hs hl)
theorem z_lcmpE (h : zOk X own cc nL d) {x y : Int64} (hxy : x = y) (hd : decode cc pc = .ok (.lcmp, 1)) (k : Z X b (pc + 1) lo (vi 0 :: sk) st) : Z X b pc lo (vl y :: vl x :: sk) st := by
  subst hxy
  intro H locs cells slots ls hP hS hc hs hl T hT Y
  obtain ⟨t, a, q⟩ := k H locs cells slots ls hP hS hc hs hl T hT Y
  have hd2 : decode X.2.2.2.1.2.code pc = .ok (.lcmp, 1) := by rw [h.2.1]; exact hd
  refine ⟨t, ?_, q⟩
  have hlt : ¬ x < x := Int64.lt_irrefl
  jvm_step Y.here [Y.here.top, h.1, hd2, Op.lcmp.wp_sem]
  refine ⟨x, x, _, ⟨rfl, rfl, rfl⟩, ?_⟩
  rw [if_neg hlt, if_pos rfl]
  exact a
theorem z_dcmpE (h : zOk X own cc nL d) {x : UInt64} {op : CmpOp} (he : FP.dcmp x x = some .eq) (hd : decode cc pc = .ok (.dcmp op, 1)) (k : Z X b (pc + 1) lo (vi 0 :: sk) st) : Z X b pc lo (vd x :: vd x :: sk) st := by
  intro H locs cells slots ls hP hS hc hs hl
  refine lv_dcmp h.1 h.2.1 hd ?_
  have k1 := k H locs cells slots ls hP hS hc hs hl
  rw [he]
  exact k1
end LR
