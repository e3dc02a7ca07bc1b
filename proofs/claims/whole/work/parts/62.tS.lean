/-! ===== the model reads a text: where it stands, what it was told ===== -/
def imx (t : Nat → Int) (n p : Nat) : Int := if p < n then t p else -1
def tS (τ : Nat → Nat → Int) (f : Nat → Int) (p : Nat) : Nat → Nat → Int := zs (zs τ 38 f) 32 (va_up (τ 32) 14 (p : Int))
section TS
variable {τ : Nat → Nat → Int} {f g : Nat → Int} {p q i k : Nat}
theorem tS_at : tS τ f p 32 14 = (p : Int) := by unfold tS; rw [zs_eq, va_e, if_pos rfl]
theorem tS_32 (h : i ≠ 14) : tS τ f p 32 i = τ 32 i := by unfold tS; rw [zs_eq, vne h]
theorem tS_38 : tS τ f p 38 = f := by unfold tS; rw [zs_ne (by decide), zs_eq]
theorem tS_n (h1 : k ≠ 32) (h2 : k ≠ 38) : tS τ f p k = τ k := by unfold tS; rw [zs_ne h1, zs_ne h2]
theorem tS_id (h : τ 32 14 = (p : Int)) : tS τ (τ 38) p = τ := by
  unfold tS
  rw [zs_id, ← h]
  have e : va_up (τ 32) 14 (τ 32 14) = τ 32 := va_id
  rw [e, zs_id]
theorem tS_go : zs (tS τ f p) 32 (va_up (tS τ f p 32) 14 (q : Int)) = tS τ f q := by
  unfold tS
  rw [zs_zs, zs_eq, va_va]
theorem tS_told : zs (tS τ f p) 38 g = tS τ g p := by
  unfold tS
  rw [zs_comm (show 32 ≠ 38 by decide), zs_zs]
end TS
def nuf (f : Nat → Int) (place : Nat) (r : Int × Nat) : Nat → Int := if r.1 = -1 then f else va_up f place r.1
theorem imx_i {t : Nat → Int} {n p : Nat} (h : iT t n) : -1 ≤ imx t n p ∧ imx t n p ≤ 65535 := by
  unfold imx
  split
  · rename_i hp; have := h p hp; omega
  · omega
theorem imx_x {t : Nat → Int} {n p : Nat} (h : p < n) : imx t n p = inx t n p := by unfold imx inx; rw [if_pos h, if_pos h]
theorem imx_d {t : Nat → Int} {n p : Nat} {w : Int} (hw : 1 ≤ w) : imx t n p = w ↔ inx t n p = w := by
  unfold imx inx
  split
  · exact Iff.rfl
  · constructor <;> intro h <;> omega
theorem imx_g {t : Nat → Int} {n p : Nat} : (48 ≤ imx t n p ∧ imx t n p ≤ 57) ↔ (48 ≤ inx t n p ∧ inx t n p ≤ 57) := by
  unfold imx inx
  split
  · exact Iff.rfl
  · constructor <;> intro h <;> omega
theorem imx_gx {t : Nat → Int} {n p : Nat} (h : 48 ≤ imx t n p) : inx t n p = imx t n p := by
  unfold imx inx at *
  split
  · rfl
  · rename_i hp; rw [if_neg hp] at h; omega
/-- a call by a contract that leaves open what it is -/
theorem z_cVK {X : zC} {own own' : String} {cc bytes : ByteArray} {nL d b pc maxL idx d' n a oc N : Nat} {lo : List (Nat × vV)} {sk av rest : List vV} {st : zT} {y : MethodName} {ret : Option FieldType} {T : u_T} {fs : List (Option Nat)} {K : zK} (h : zOk X own cc nL d) (hm : MV y (.code y bytes maxL ret) own') (hlk : Cond.methodLink own idx y ∈ lw_good) (hp : zMp y n maxL) (hC : Ctr X.1 y (.code y bytes maxL ret) d' 0 (vr a :: av) st K) (hdd : Nat.ble (d' + 1) d = true) (hz : zsh[a]? = some (.inl (oc, fs))) (hcl : zCl[oc]? = some (own', T, N)) (hsk : sk = av.reverse ++ vr a :: rest) (hn : av.length = n) (hrs : Nat.ble (rest.map zcat).sum 8 = true) (hd : decode cc pc = .ok (.invokevirtual idx, 3)) (hK : ∀ o s, K o s → ∃ v, o = .inl (some v)) (k : ∀ v s, K (.inl (some v)) s → Z X b (pc + 3) lo (v :: rest) s) : Z X b pc lo sk st :=
  z_callV h hm hlk hp hC (Nat.le_of_ble_eq_true hdd) (Nat.zero_le b) hz hcl hn hsk hrs hd (fun v' st' q => by obtain ⟨v, hv⟩ := hK _ _ q; cases hv; exact k v st' q) (fun cls st' q => by obtain ⟨v, hv⟩ := hK _ _ q; cases hv)
/-- a branch whose condition is of no use -/
theorem z_ifU {X : zC} {own : String} {cc : ByteArray} {nL d b pc : Nat} {lo : List (Nat × vV)} {sk : List vV} {st : zT} (h : zOk X own cc nL d) {x off : Int} (tgt : Nat) (hd : decode cc pc = .ok (.ifCond .ge off, 3)) (ht : (pc : Int) + off = (tgt : Int)) (kt : Z X b tgt lo sk st) (kf : Z X b (pc + 3) lo sk st) : Z X b pc lo (vi x :: sk) st :=
  fun H locs cells slots ls hP hS hc hs hl => lv_if_ge h.1 h.2.1 hd ht (fun _ => kt H locs cells slots ls hP hS hc hs hl) (fun _ => kf H locs cells slots ls hP hS hc hs hl)
