/-! ===== doubles and floats ===== -/
section DBL
variable {X : zC} {own : String} {cc : ByteArray} {nL d b pc : Nat} {lo : List (Nat × vV)} {sk : List vV} {st : zT}
theorem z_i2d (h : zOk X own cc nL d) {x : Int} (hd : decode cc pc = .ok (.i2d, 1)) (k : Z X b (pc + 1) lo (vd (FP.i2d (Int32.ofInt x)) :: sk) st) : Z X b pc lo (vi x :: sk) st :=
  fun H locs cells slots ls hP hS hc hs hl => lv_i2d h.1 h.2.1 hd (k H locs cells slots ls hP hS hc hs hl)
theorem z_i2f (h : zOk X own cc nL d) {x : Int} (hd : decode cc pc = .ok (.i2f, 1)) (k : Z X b (pc + 1) lo (vf (FP.i2f (Int32.ofInt x)) :: sk) st) : Z X b pc lo (vi x :: sk) st :=
  fun H locs cells slots ls hP hS hc hs hl => lv_i2f h.1 h.2.1 hd (k H locs cells slots ls hP hS hc hs hl)
theorem z_ddiv (h : zOk X own cc nL d) {x y : UInt64} (hd : decode cc pc = .ok (.ddiv, 1)) (hne : vf_n64 (FP.ddiv x y)) (k : Z X b (pc + 1) lo (vd (FP.ddiv x y) :: sk) st) : Z X b pc lo (vd y :: vd x :: sk) st :=
  fun H locs cells slots ls hP hS hc hs hl => lv_ddiv h.1 h.2.1 hd hne (k H locs cells slots ls hP hS hc hs hl)
theorem z_fdiv (h : zOk X own cc nL d) {x y : UInt32} (hd : decode cc pc = .ok (.fdiv, 1)) (hne : vf_n32 (FP.fdiv x y)) (k : Z X b (pc + 1) lo (vf (FP.fdiv x y) :: sk) st) : Z X b pc lo (vf y :: vf x :: sk) st :=
  fun H locs cells slots ls hP hS hc hs hl => lv_fdiv h.1 h.2.1 hd hne (k H locs cells slots ls hP hS hc hs hl)
theorem z_f2d (h : zOk X own cc nL d) {x : UInt32} (hd : decode cc pc = .ok (.f2d, 1)) (hne : vf_n64 (FP.f2d x)) (k : Z X b (pc + 1) lo (vd (FP.f2d x) :: sk) st) : Z X b pc lo (vf x :: sk) st :=
  fun H locs cells slots ls hP hS hc hs hl => lv_f2d h.1 h.2.1 hd hne (k H locs cells slots ls hP hS hc hs hl)
theorem z_dconst0 (h : zOk X own cc nL d) (hd : decode cc pc = .ok (.dconst 0, 1)) (k : Z X b (pc + 1) lo (vd FP.dconst0 :: sk) st) : Z X b pc lo sk st :=
  fun H locs cells slots ls hP hS hc hs hl => lv_dconst0 h.1 h.2.1 hd (k H locs cells slots ls hP hS hc hs hl)
theorem z_ldcf (h : zOk X own cc nL d) {i : Nat} {v : UInt32} (hw : Cond.constantFloat own i v ∈ lw_good) (hd : decode cc pc = .ok (.ldc i, 2)) (k : Z X b (pc + 2) lo (vf v :: sk) st) : Z X b pc lo sk st :=
  fun H locs cells slots ls hP hS hc hs hl => lv_ldcf h.1 h.2.1 h.2.2.2.2.1 (h.2.2.2.2.2.1 _ hw) hd (k H locs cells slots ls hP hS hc hs hl)
theorem z_ldcwf (h : zOk X own cc nL d) {i : Nat} {v : UInt32} (hw : Cond.constantFloat own i v ∈ lw_good) (hd : decode cc pc = .ok (.ldc_w i, 3)) (k : Z X b (pc + 3) lo (vf v :: sk) st) : Z X b pc lo sk st := by
  intro H locs cells slots ls hP hS hc hs hl T hT Y
  obtain ⟨t, a, q⟩ := k H locs cells slots ls hP hS hc hs hl T hT Y
  obtain ⟨k0, cf, hk, hcf, hcp⟩ := Cond.constantFloat_spec h.2.2.2.2.1 (h.2.2.2.2.2.1 _ hw)
  obtain ⟨k', hk', he⟩ := Y.warmed.alike.2.2 _ _ hk
  have hd2 : decode X.2.2.2.1.2.code pc = .ok (.ldc_w i, 3) := by rw [h.2.1]; exact hd
  refine ⟨t, ?_, q⟩
  jvm_step Y.here [h.1, hd2, Op.ldc_w.wp_float (s := T) (f := F0 X.2.2.1.1 pc ls (sk.map (zre X.1))) Y.here.top hk' (by rw [he]; exact hcf) hcp]
  exact a
theorem z_dret (h : zOk X own cc nL d) {K : zK} (hr : zRt X K (some .double)) {v : UInt64} (hd : decode cc pc = .ok (.dreturn, 1)) (hk : K (.inl (some (vd v))) st) : Z X b pc lo [vd v] st := by
  intro H locs cells slots ls hP hS hc hs hl
  rw [hr.1]
  refine vx_ret (W.widen (k := X.2.2.2.2.2.1) (n := X.2.2.2.2.2.2.1) (by omega) (by omega) ?_)
  exact W.dret h.1 h.2.1 hr.2 (fun t ht hW => ⟨some (vd v), st, rfl, hk, by rw [ht]; exact hP, hS.F ht⟩) (fun q hq => hS.2.2 q hq) hd h.2.2.2.2.2.2.2.1
theorem z_fret (h : zOk X own cc nL d) {K : zK} (hr : zRt X K (some .float)) {v : UInt32} (hd : decode cc pc = .ok (.freturn, 1)) (hk : K (.inl (some (vf v))) st) : Z X b pc lo [vf v] st := by
  intro H locs cells slots ls hP hS hc hs hl
  rw [hr.1]
  refine vx_ret (W.widen (k := X.2.2.2.2.2.1) (n := X.2.2.2.2.2.2.1) (by omega) (by omega) ?_)
  exact W.fret h.1 h.2.1 hr.2 (fun t ht hW => ⟨some (vf v), st, rfl, hk, by rw [ht]; exact hP, hS.F ht⟩) (fun q hq => hS.2.2 q hq) hd h.2.2.2.2.2.2.2.1
end DBL
def zmean (c : Nat → Int) : UInt64 := FP.ddiv (FP.i2d (Int32.ofInt (zsum c 113 (c 10).toNat))) (FP.i2d (Int32.ofInt (c 10)))
def zshare (c : Nat → Int) : UInt32 := FP.fdiv (FP.i2f (Int32.ofInt (zsum c 149 32))) 1107296256
theorem vf_mean : ∀ s : Fin 37, ∀ n : Fin 4, FP.ddiv (FP.i2d (Int32.ofInt ((s.val : Nat) : Int))) (FP.i2d (Int32.ofInt ((n.val + 1 : Nat) : Int))) &&& 0x7fffffffffffffff ≤ 0x7ff0000000000000 := by decide +kernel
theorem vf_share : ∀ s : Fin 33, FP.fdiv (FP.i2f (Int32.ofInt ((s.val : Nat) : Int))) 1107296256 &&& 0x7fffffff ≤ 0x7f800000 := by decide +kernel
theorem vf_share2 : ∀ s : Fin 33, FP.f2d (FP.fdiv (FP.i2f (Int32.ofInt ((s.val : Nat) : Int))) 1107296256) &&& 0x7fffffffffffffff ≤ 0x7ff0000000000000 := by decide +kernel
theorem Rg.soreN {D : Int} {c : Nat → Int} (h : Rg D c) : ∀ n : Nat, n ≤ 4 → 0 ≤ zsum c 113 n ∧ zsum c 113 n ≤ 9 * n
  | 0, _ => ⟨Int.le_refl 0, Int.le_refl 0⟩
  | n + 1, hn => by
    have h1 := Rg.soreN h n (by omega)
    have h2 := h.sore (show n < 4 by omega)
    show 0 ≤ zsum c 113 n + c (113 + n) ∧ zsum c 113 n + c (113 + n) ≤ _
    omega
theorem zmean_n {D : Int} {c : Nat → Int} (h : Rg D c) (h0 : c 10 ≠ 0) : vf_n64 (zmean c) := by
  have g := h.women
  have g2 := h.soreN (c 10).toNat (by omega)
  have e := vf_mean ⟨(zsum c 113 (c 10).toNat).toNat, by omega⟩ ⟨(c 10).toNat - 1, by omega⟩
  dsimp only at e
  rw [show (((c 10).toNat - 1 + 1 : Nat) : Int) = c 10 by omega, Int.toNat_of_nonneg g2.1] at e
  exact e
theorem zshare_n {D : Int} {c : Nat → Int} (h : Rg D c) : vf_n32 (zshare c) ∧ vf_n64 (FP.f2d (zshare c)) := by
  have g2 := h.tornN 32 (by omega)
  have e := vf_share ⟨(zsum c 149 32).toNat, by omega⟩
  have e2 := vf_share2 ⟨(zsum c 149 32).toNat, by omega⟩
  dsimp only at e e2
  rw [Int.toNat_of_nonneg g2.1] at e e2
  exact ⟨e, e2⟩
theorem kf_10 : Cond.constantFloat RX10 317 1107296256 ∈ lw_good := tg 188 (by decide +kernel) (by decide +kernel)
theorem kf_11 : Cond.constantFloat RX11 195 1107296256 ∈ lw_good := tg 1500 (by decide +kernel) (by decide +kernel)
