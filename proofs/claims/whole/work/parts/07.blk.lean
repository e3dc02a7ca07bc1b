/-! ===== straight stretches: run as a function, the walk follows ===== -/
def zlen : Instr → Nat
  | .bipush _ => 2
  | .sipush _ => 3
  | .iload _ => 2
  | .aload _ => 2
  | .istore _ => 2
  | .iinc _ _ => 3
  | .getfield _ => 3
  | .putfield _ => 3
  | _ => 1
def zcv : Instr → Bool
  | .bipush n => decide ((Int8.ofInt n).toInt32 = Int32.ofInt n)
  | .sipush n => decide ((Int16.ofInt n).toInt32 = Int32.ofInt n)
  | _ => true
def zd (cc : ByteArray) : Nat → List Instr → Nat → Bool
  | pc, [], pc' => Nat.beq pc pc'
  | pc, i :: r, pc' => decide (decode cc pc = .ok (i, zlen i)) && (zcv i && zd cc (pc + zlen i) r pc')
abbrev zR : Type := Option (List (Nat × vV) × List vV × zT)
def zxl (i : Nat) (lo : List (Nat × vV)) (sk : List vV) (st : zT) : zR := match zget i lo with
  | some (.inl x) => some (lo, vi x :: sk, st)
  | _ => none
def zxa (i : Nat) (lo : List (Nat × vV)) (sk : List vV) (st : zT) : zR := match zget i lo with
  | some (.inr (.inl (some x))) => some (lo, vr x :: sk, st)
  | _ => none
def zxs (nL i : Nat) (lo : List (Nat × vV)) (x : Int) (sk : List vV) (st : zT) : zR := match Nat.blt i nL with
  | true => some ((i, vi x) :: zrm1 i lo, sk, st)
  | false => none
def zxi (nL i : Nat) (v : Int) (lo : List (Nat × vV)) (sk : List vV) (st : zT) : zR := match zget i lo, Nat.blt i nL with
  | some (.inl x), true => some ((i, vi (x + v)) :: zrm1 i lo, sk, st)
  | _, _ => none
def zxg (oc : Nat) (ft : List (Nat × Nat × Bool)) (c a : Nat) (lo : List (Nat × vV)) (sk : List vV) (st : zT) : zR := match zfget c ft, zsh[a]? with
  | some (f, _), some (.inl (ci, fs)) => match Nat.beq ci oc, fs[f]? with
    | true, some (some j) => some (lo, vr j :: sk, st)
    | true, some none => some (lo, vi (st.1 a f) :: sk, st)
    | _, _ => none
  | _, _ => none
def zxp (oc : Nat) (ft : List (Nat × Nat × Bool)) (c a : Nat) (v : Int) (lo : List (Nat × vV)) (sk : List vV) (st : zT) : zR := match zfget c ft, zsh[a]? with
  | some (f, true), some (.inl (ci, fs)) => match Nat.beq ci oc, fs[f]? with
    | true, some none => some (lo, sk, (zup st.1 a f v, st.2))
    | _, _ => none
  | _, _ => none
def zx1 (nL oc : Nat) (ft : List (Nat × Nat × Bool)) (i : Instr) (lo : List (Nat × vV)) (sk : List vV) (st : zT) : zR :=
  match i, sk with
  | .iconst n, sk => some (lo, .inl n :: sk, st)
  | .bipush n, sk => some (lo, .inl n :: sk, st)
  | .sipush n, sk => some (lo, .inl n :: sk, st)
  | .iload_n k, sk => zxl k.val lo sk st
  | .iload k, sk => zxl k lo sk st
  | .aload_n k, sk => zxa k.val lo sk st
  | .aload k, sk => zxa k lo sk st
  | .istore_n k, .inl x :: sk => zxs nL k.val lo x sk st
  | .istore k, .inl x :: sk => zxs nL k lo x sk st
  | .iinc k n, sk => zxi nL k n lo sk st
  | .iadd, .inl y :: .inl x :: sk => some (lo, .inl (x + y) :: sk, st)
  | .isub, .inl y :: .inl x :: sk => some (lo, .inl (x - y) :: sk, st)
  | .imul, .inl y :: .inl x :: sk => some (lo, .inl (x * y) :: sk, st)
  | .ineg, .inl x :: sk => some (lo, .inl (-x) :: sk, st)
  | .dup, .inl x :: sk => some (lo, .inl x :: .inl x :: sk, st)
  | .dup, .inr (.inl (some x)) :: sk => some (lo, vr x :: vr x :: sk, st)
  | .dup2, .inl y :: .inr (.inl (some x)) :: sk => some (lo, .inl y :: vr x :: .inl y :: vr x :: sk, st)
  | .pop, .inl _ :: sk => some (lo, sk, st)
  | .getfield c, .inr (.inl (some a)) :: sk => zxg oc ft c a lo sk st
  | .putfield c, .inl v :: .inr (.inl (some a)) :: sk => zxp oc ft c a v lo sk st
  | _, _ => none
def zrun (nL oc : Nat) (ft : List (Nat × Nat × Bool)) : List Instr → List (Nat × vV) → List vV → zT → zR
  | [], lo, sk, st => some (lo, sk, st)
  | i :: r, lo, sk, st => match zx1 nL oc ft i lo sk st with
    | some (lo1, sk1, st1) => zrun nL oc ft r lo1 sk1 st1
    | none => none
section BLK
variable {X : zC} {own : String} {cc : ByteArray} {nL d b pc oc : Nat} {lo lo' : List (Nat × vV)} {sk sk' : List vV} {st st' : zT} {ft : List (Nat × Nat × Bool)}
theorem z_dup2 (h : zOk X own cc nL d) {v w : vV} (hd : decode cc pc = .ok (.dup2, 1)) (hv : zcat v = 1) (hw : zcat w = 1) (k : Z X b (pc + 1) lo (v :: w :: v :: w :: sk) st) : Z X b pc lo (v :: w :: sk) st :=
  fun H locs cells slots ls hP hS hc hs hl => lv_dup2_11 h.1 h.2.1 hd (by rw [zre_cat]; exact hv) (by rw [zre_cat]; exact hw) (k H locs cells slots ls hP hS hc hs hl)
theorem zxl_ok {i : Nat} (hx : zxl i lo sk st = some (lo', sk', st')) : ∃ x : Int, zget i lo = some (vi x) ∧ lo' = lo ∧ sk' = vi x :: sk ∧ st' = st := by
  unfold zxl at hx
  split at hx
  · rename_i x hg; cases hx; exact ⟨x, hg, rfl, rfl, rfl⟩
  · cases hx
theorem zxa_ok {i : Nat} (hx : zxa i lo sk st = some (lo', sk', st')) : ∃ x : Nat, zget i lo = some (vr x) ∧ lo' = lo ∧ sk' = vr x :: sk ∧ st' = st := by
  unfold zxa at hx
  split at hx
  · rename_i x hg; cases hx; exact ⟨x, hg, rfl, rfl, rfl⟩
  · cases hx
theorem zxs_ok {nL i : Nat} {x : Int} (hx : zxs nL i lo x sk st = some (lo', sk', st')) : Nat.blt i nL = true ∧ lo' = (i, vi x) :: zrm1 i lo ∧ sk' = sk ∧ st' = st := by
  unfold zxs at hx
  split at hx
  · rename_i hg; cases hx; exact ⟨hg, rfl, rfl, rfl⟩
  · cases hx
theorem zxi_ok {nL i : Nat} {v : Int} (hx : zxi nL i v lo sk st = some (lo', sk', st')) : ∃ x : Int, zget i lo = some (vi x) ∧ Nat.blt i nL = true ∧ lo' = (i, vi (x + v)) :: zrm1 i lo ∧ sk' = sk ∧ st' = st := by
  unfold zxi at hx
  split at hx
  · rename_i x hg hb; cases hx; exact ⟨x, hg, hb, rfl, rfl, rfl⟩
  · cases hx
theorem z_x1 (h : zOk X own cc nL d) (hF : zFok own oc ft) {i : Instr} (hx : zx1 nL oc ft i lo sk st = some (lo', sk', st')) (hd : decode cc pc = .ok (i, zlen i)) (hv : zcv i = true) (k : Z X b (pc + zlen i) lo' sk' st') : Z X b pc lo sk st := by
  unfold zx1 at hx
  split at hx
  · cases hx; exact z_iconst h hd k
  · cases hx; exact z_bipush h hd (of_decide_eq_true hv) k
  · cases hx; exact z_sipush h hd (of_decide_eq_true hv) k
  · obtain ⟨x, hg, rfl, rfl, rfl⟩ := zxl_ok hx; exact z_iload_n h hd hg k
  · obtain ⟨x, hg, rfl, rfl, rfl⟩ := zxl_ok hx; exact z_iload h hd hg k
  · obtain ⟨x, hg, rfl, rfl, rfl⟩ := zxa_ok hx; exact z_aload_n h hd hg k
  · obtain ⟨x, hg, rfl, rfl, rfl⟩ := zxa_ok hx; exact z_aload h hd hg k
  · obtain ⟨hg, rfl, rfl, rfl⟩ := zxs_ok hx; exact z_istore_n h hd hg k
  · obtain ⟨hg, rfl, rfl, rfl⟩ := zxs_ok hx; exact z_istore h hd hg k
  · obtain ⟨x, hg, hb, rfl, rfl, rfl⟩ := zxi_ok hx; exact z_iinc h hd hg hb k
  · cases hx; exact z_iadd h hd k
  · cases hx; exact z_isub h hd k
  · cases hx; exact z_imul h hd k
  · cases hx; exact z_ineg h hd k
  · cases hx; exact z_dup h hd rfl k
  · cases hx; exact z_dup h hd rfl k
  · cases hx; exact z_dup2 h hd rfl rfl k
  · cases hx; exact z_pop h hd rfl k
  · unfold zxg at hx
    split at hx
    · rename_i f w ci fs hq hs
      split at hx
      · rename_i j hb hf
        cases hx
        cases Nat.eq_of_beq_eq_true hb
        exact z_get (ci := 0) h hF hq hs (some j) hf rfl hd k
      · rename_i hb hf
        cases hx
        cases Nat.eq_of_beq_eq_true hb
        exact z_get (ci := 0) h hF hq hs none hf rfl hd k
      · cases hx
    · cases hx
  · unfold zxp at hx
    split at hx
    · rename_i f ci fs hq hs
      split at hx
      · rename_i hb hf
        cases hx
        cases Nat.eq_of_beq_eq_true hb
        obtain ⟨σ, l2⟩ := st
        exact z_put h hF hq hs hf hd k
      · cases hx
    · cases hx
  · cases hx
theorem z_runs (h : zOk X own cc nL d) (hF : zFok own oc ft) {pc' : Nat} : ∀ (is : List Instr) (pc : Nat) (lo : List (Nat × vV)) (sk : List vV) (st : zT), zd cc pc is pc' = true → zrun nL oc ft is lo sk st = some (lo', sk', st') → Z X b pc' lo' sk' st' → Z X b pc lo sk st
  | [], pc, lo, sk, st, hd, hx, k => by
    have hp : pc = pc' := Nat.eq_of_beq_eq_true hd
    cases hx
    rw [hp]; exact k
  | i :: r, pc, lo, sk, st, hd, hx, k => by
    unfold zd at hd
    simp only [Bool.and_eq_true, decide_eq_true_eq] at hd
    unfold zrun at hx
    split at hx
    · rename_i lo1 sk1 st1 h1
      exact z_x1 h hF h1 hd.1 hd.2.1 (z_runs h hF r _ _ _ _ hd.2.2 hx k)
    · cases hx
/-- a straight stretch -/
theorem z_b (h : zOk X own cc nL d) (hF : zFok own oc ft) (is : List Instr) (pc' : Nat) (hd : zd cc pc is pc' = true) (hx : zrun nL oc ft is lo sk st = some (lo', sk', st')) (k : Z X b pc' lo' sk' st') : Z X b pc lo sk st := z_runs h hF is pc lo sk st hd hx k
end BLK
/-- within an int -/
abbrev zi (x : Int) : Prop := -2147483648 ≤ x ∧ x < 2147483648
theorem zi_t {x : Int} (h : zi x) : (Int32.ofInt x).toInt = x := by
  rw [Int32.toInt_ofInt]
  show x.bmod (2 ^ 32) = x
  obtain ⟨h1, h2⟩ := h
  rw [Int.bmod_eq_of_le] <;> omega
theorem zi_le {x y : Int} (hx : zi x) (hy : zi y) : Int32.ofInt x ≤ Int32.ofInt y ↔ x ≤ y := by rw [Int32.le_iff_toInt_le, zi_t hx, zi_t hy]
theorem zi_lt {x y : Int} (hx : zi x) (hy : zi y) : Int32.ofInt x < Int32.ofInt y ↔ x < y := by rw [Int32.lt_iff_toInt_lt, zi_t hx, zi_t hy]
theorem zi_eq {x y : Int} (hx : zi x) (hy : zi y) : Int32.ofInt x = Int32.ofInt y ↔ x = y := by rw [← Int32.toInt_inj, zi_t hx, zi_t hy]
theorem zi_0 : zi 0 := by constructor <;> omega
section BR
variable {X : zC} {own : String} {cc : ByteArray} {nL d b pc : Nat} {lo : List (Nat × vV)} {sk : List vV} {st : zT}
theorem z_ic_eq (h : zOk X own cc nL d) {x y : Int} {off : Int} (tgt : Nat) (hd : decode cc pc = .ok (.if_icmp .eq off, 3)) (ht : (pc : Int) + off = (tgt : Int)) (hx : zi x) (hy : zi y) (kt : x = y → Z X b tgt lo sk st) (kf : x ≠ y → Z X b (pc + 3) lo sk st) : Z X b pc lo (vi y :: vi x :: sk) st :=
  fun H locs cells slots ls hP hS hc hs hl => lv_icmp_eq h.1 h.2.1 hd ht (fun q => kt ((zi_eq hx hy).mp q) H locs cells slots ls hP hS hc hs hl) (fun q => kf (fun z => q ((zi_eq hx hy).mpr z)) H locs cells slots ls hP hS hc hs hl)
theorem z_if_eq (h : zOk X own cc nL d) {x : Int} {off : Int} (tgt : Nat) (hd : decode cc pc = .ok (.ifCond .eq off, 3)) (ht : (pc : Int) + off = (tgt : Int)) (hx : zi x) (kt : x = 0 → Z X b tgt lo sk st) (kf : x ≠ 0 → Z X b (pc + 3) lo sk st) : Z X b pc lo (vi x :: sk) st :=
  have hy : zi 0 := zi_0
  fun H locs cells slots ls hP hS hc hs hl => lv_if_eq h.1 h.2.1 hd ht (fun q => kt ((zi_eq hx hy).mp q) H locs cells slots ls hP hS hc hs hl) (fun q => kf (fun z => q ((zi_eq hx hy).mpr z)) H locs cells slots ls hP hS hc hs hl)
theorem z_ic_ne (h : zOk X own cc nL d) {x y : Int} {off : Int} (tgt : Nat) (hd : decode cc pc = .ok (.if_icmp .ne off, 3)) (ht : (pc : Int) + off = (tgt : Int)) (hx : zi x) (hy : zi y) (kt : x ≠ y → Z X b tgt lo sk st) (kf : x = y → Z X b (pc + 3) lo sk st) : Z X b pc lo (vi y :: vi x :: sk) st :=
  fun H locs cells slots ls hP hS hc hs hl => lv_icmp_ne h.1 h.2.1 hd ht (fun q => kt (fun z => q ((zi_eq hx hy).mpr z)) H locs cells slots ls hP hS hc hs hl) (fun q => kf ((zi_eq hx hy).mp q) H locs cells slots ls hP hS hc hs hl)
theorem z_if_ne (h : zOk X own cc nL d) {x : Int} {off : Int} (tgt : Nat) (hd : decode cc pc = .ok (.ifCond .ne off, 3)) (ht : (pc : Int) + off = (tgt : Int)) (hx : zi x) (kt : x ≠ 0 → Z X b tgt lo sk st) (kf : x = 0 → Z X b (pc + 3) lo sk st) : Z X b pc lo (vi x :: sk) st :=
  have hy : zi 0 := zi_0
  fun H locs cells slots ls hP hS hc hs hl => lv_if_ne h.1 h.2.1 hd ht (fun q => kt (fun z => q ((zi_eq hx hy).mpr z)) H locs cells slots ls hP hS hc hs hl) (fun q => kf ((zi_eq hx hy).mp q) H locs cells slots ls hP hS hc hs hl)
theorem z_ic_lt (h : zOk X own cc nL d) {x y : Int} {off : Int} (tgt : Nat) (hd : decode cc pc = .ok (.if_icmp .lt off, 3)) (ht : (pc : Int) + off = (tgt : Int)) (hx : zi x) (hy : zi y) (kt : x < y → Z X b tgt lo sk st) (kf : y ≤ x → Z X b (pc + 3) lo sk st) : Z X b pc lo (vi y :: vi x :: sk) st :=
  fun H locs cells slots ls hP hS hc hs hl => lv_icmp_lt h.1 h.2.1 hd ht (fun q => kt ((zi_lt hx hy).mp q) H locs cells slots ls hP hS hc hs hl) (fun q => kf (Int.not_lt.mp (fun z => q ((zi_lt hx hy).mpr z))) H locs cells slots ls hP hS hc hs hl)
theorem z_if_lt (h : zOk X own cc nL d) {x : Int} {off : Int} (tgt : Nat) (hd : decode cc pc = .ok (.ifCond .lt off, 3)) (ht : (pc : Int) + off = (tgt : Int)) (hx : zi x) (kt : x < 0 → Z X b tgt lo sk st) (kf : 0 ≤ x → Z X b (pc + 3) lo sk st) : Z X b pc lo (vi x :: sk) st :=
  have hy : zi 0 := zi_0
  fun H locs cells slots ls hP hS hc hs hl => lv_if_lt h.1 h.2.1 hd ht (fun q => kt ((zi_lt hx hy).mp q) H locs cells slots ls hP hS hc hs hl) (fun q => kf (Int.not_lt.mp (fun z => q ((zi_lt hx hy).mpr z))) H locs cells slots ls hP hS hc hs hl)
theorem z_ic_ge (h : zOk X own cc nL d) {x y : Int} {off : Int} (tgt : Nat) (hd : decode cc pc = .ok (.if_icmp .ge off, 3)) (ht : (pc : Int) + off = (tgt : Int)) (hx : zi x) (hy : zi y) (kt : y ≤ x → Z X b tgt lo sk st) (kf : x < y → Z X b (pc + 3) lo sk st) : Z X b pc lo (vi y :: vi x :: sk) st :=
  fun H locs cells slots ls hP hS hc hs hl => lv_icmp_ge h.1 h.2.1 hd ht (fun q => kt ((zi_le hy hx).mp q) H locs cells slots ls hP hS hc hs hl) (fun q => kf (Int.not_le.mp (fun z => q ((zi_le hy hx).mpr z))) H locs cells slots ls hP hS hc hs hl)
theorem z_if_ge (h : zOk X own cc nL d) {x : Int} {off : Int} (tgt : Nat) (hd : decode cc pc = .ok (.ifCond .ge off, 3)) (ht : (pc : Int) + off = (tgt : Int)) (hx : zi x) (kt : 0 ≤ x → Z X b tgt lo sk st) (kf : x < 0 → Z X b (pc + 3) lo sk st) : Z X b pc lo (vi x :: sk) st :=
  have hy : zi 0 := zi_0
  fun H locs cells slots ls hP hS hc hs hl => lv_if_ge h.1 h.2.1 hd ht (fun q => kt ((zi_le hy hx).mp q) H locs cells slots ls hP hS hc hs hl) (fun q => kf (Int.not_le.mp (fun z => q ((zi_le hy hx).mpr z))) H locs cells slots ls hP hS hc hs hl)
theorem z_ic_gt (h : zOk X own cc nL d) {x y : Int} {off : Int} (tgt : Nat) (hd : decode cc pc = .ok (.if_icmp .gt off, 3)) (ht : (pc : Int) + off = (tgt : Int)) (hx : zi x) (hy : zi y) (kt : y < x → Z X b tgt lo sk st) (kf : x ≤ y → Z X b (pc + 3) lo sk st) : Z X b pc lo (vi y :: vi x :: sk) st :=
  fun H locs cells slots ls hP hS hc hs hl => lv_icmp_gt h.1 h.2.1 hd ht (fun q => kt ((zi_lt hy hx).mp q) H locs cells slots ls hP hS hc hs hl) (fun q => kf (Int.not_lt.mp (fun z => q ((zi_lt hy hx).mpr z))) H locs cells slots ls hP hS hc hs hl)
theorem z_if_gt (h : zOk X own cc nL d) {x : Int} {off : Int} (tgt : Nat) (hd : decode cc pc = .ok (.ifCond .gt off, 3)) (ht : (pc : Int) + off = (tgt : Int)) (hx : zi x) (kt : 0 < x → Z X b tgt lo sk st) (kf : x ≤ 0 → Z X b (pc + 3) lo sk st) : Z X b pc lo (vi x :: sk) st :=
  have hy : zi 0 := zi_0
  fun H locs cells slots ls hP hS hc hs hl => lv_if_gt h.1 h.2.1 hd ht (fun q => kt ((zi_lt hy hx).mp q) H locs cells slots ls hP hS hc hs hl) (fun q => kf (Int.not_lt.mp (fun z => q ((zi_lt hy hx).mpr z))) H locs cells slots ls hP hS hc hs hl)
theorem z_ic_le (h : zOk X own cc nL d) {x y : Int} {off : Int} (tgt : Nat) (hd : decode cc pc = .ok (.if_icmp .le off, 3)) (ht : (pc : Int) + off = (tgt : Int)) (hx : zi x) (hy : zi y) (kt : x ≤ y → Z X b tgt lo sk st) (kf : y < x → Z X b (pc + 3) lo sk st) : Z X b pc lo (vi y :: vi x :: sk) st :=
  fun H locs cells slots ls hP hS hc hs hl => lv_icmp_le h.1 h.2.1 hd ht (fun q => kt ((zi_le hx hy).mp q) H locs cells slots ls hP hS hc hs hl) (fun q => kf (Int.not_le.mp (fun z => q ((zi_le hx hy).mpr z))) H locs cells slots ls hP hS hc hs hl)
theorem z_if_le (h : zOk X own cc nL d) {x : Int} {off : Int} (tgt : Nat) (hd : decode cc pc = .ok (.ifCond .le off, 3)) (ht : (pc : Int) + off = (tgt : Int)) (hx : zi x) (kt : x ≤ 0 → Z X b tgt lo sk st) (kf : 0 < x → Z X b (pc + 3) lo sk st) : Z X b pc lo (vi x :: sk) st :=
  have hy : zi 0 := zi_0
  fun H locs cells slots ls hP hS hc hs hl => lv_if_le h.1 h.2.1 hd ht (fun q => kt ((zi_le hx hy).mp q) H locs cells slots ls hP hS hc hs hl) (fun q => kf (Int.not_le.mp (fun z => q ((zi_le hx hy).mpr z))) H locs cells slots ls hP hS hc hs hl)
theorem zi_div {x y : Int} (hx : 0 ≤ x ∧ x < 2147483648) (hy : 0 < y ∧ y < 2147483648) : Int32.ofInt (x / y) = Int32.ofInt x / Int32.ofInt y := by
  obtain ⟨a, rfl⟩ : ∃ a : Nat, x = (a : Int) := ⟨x.toNat, by omega⟩
  obtain ⟨b, rfl⟩ : ∃ b : Nat, y = (b : Int) := ⟨y.toNat, by omega⟩
  rw [← Int.natCast_ediv]
  exact (pk_div (a := a) (d := b) (by omega) (by omega) (by omega)).symm
theorem z_idiv (h : zOk X own cc nL d) {x y : Int} (hd : decode cc pc = .ok (.idiv, 1)) (hx : 0 ≤ x ∧ x < 2147483648) (hy : 0 < y ∧ y < 2147483648) (k : Z X b (pc + 1) lo (vi (x / y) :: sk) st) : Z X b pc lo (vi y :: vi x :: sk) st := by
  intro H locs cells slots ls hP hS hc hs hl
  have k1 := k H locs cells slots ls hP hS hc hs hl
  have e : zre X.1 (vi (x / y)) = .int (Int32.ofInt x / Int32.ofInt y) := congrArg Value.int (zi_div hx hy)
  rw [List.map_cons, e] at k1
  exact lv_idiv h.1 h.2.1 hd (by rw [show (0 : Int32) = Int32.ofInt 0 from rfl, zi_eq ⟨by omega, by omega⟩ zi_0]; omega) k1
theorem z_irem (h : zOk X own cc nL d) {x y : Int} (hd : decode cc pc = .ok (.irem, 1)) (hx : 0 ≤ x ∧ x < 2147483648) (hy : 0 < y ∧ y < 2147483648) (k : Z X b (pc + 1) lo (vi (x % y) :: sk) st) : Z X b pc lo (vi y :: vi x :: sk) st := by
  intro H locs cells slots ls hP hS hc hs hl
  have k1 := k H locs cells slots ls hP hS hc hs hl
  have e : zre X.1 (vi (x % y)) = .int (Int32.ofInt x - Int32.ofInt x / Int32.ofInt y * Int32.ofInt y) := congrArg Value.int (by
    rw [← zi_div hx hy, ← Int32.ofInt_mul, ← Int32.ofInt_sub]
    congr 1
    have := Int.mul_ediv_add_emod x y
    rw [Int.mul_comm] at this
    omega)
  rw [List.map_cons, e] at k1
  exact lv_irem h.1 h.2.1 hd (by rw [show (0 : Int32) = Int32.ofInt 0 from rfl, zi_eq ⟨by omega, by omega⟩ zi_0]; omega) k1
theorem zin {i : Int} {j n : Nat} (hj : j < n) (hn : n ≤ 1000000) (hi : i = (j : Int)) : vp_in (Int32.ofInt i) n ∧ (Int32.ofInt i).toNatClampNeg = j := by
  have ht : (Int32.ofInt i).toInt = i := zi_t ⟨by omega, by omega⟩
  refine ⟨vp_in_iff.mpr ⟨by omega, by omega⟩, ?_⟩
  show (Int32.ofInt i).toInt.toNat = j
  omega
theorem z_iald (h : zOk X own cc nL d) {a n : Nat} {i : Int} (j : Nat) (hs0 : zsh[a]? = some (.inr (0, n))) (hj : j < n) (hn : n ≤ 1000000) (hi : i = (j : Int)) (hd : decode cc pc = .ok (.iaload, 1)) (k : Z X b (pc + 1) lo (vi (st.1 a j) :: sk) st) : Z X b pc lo (vi i :: vr a :: sk) st := by
  intro H locs cells slots ls hP hS hc hs hl
  obtain ⟨h1, h2⟩ := zin hj hn hi
  refine va_iald h.1 h.2.1 h.2.2.2.2.2.2.1.1 hP a 0 (zws_at hs0) rfl h1 hd ?_
  rw [h2]
  exact k H locs cells slots ls hP hS hc hs hl
theorem z_cald (h : zOk X own cc nL d) {a n : Nat} {i : Int} (j : Nat) (hs0 : zsh[a]? = some (.inr (1, n))) (hj : j < n) (hn : n ≤ 1000000) (hi : i = (j : Int)) (hd : decode cc pc = .ok (.caload, 1)) (k : Z X b (pc + 1) lo (vi (st.1 a j) :: sk) st) : Z X b pc lo (vi i :: vr a :: sk) st := by
  intro H locs cells slots ls hP hS hc hs hl
  obtain ⟨h1, h2⟩ := zin hj hn hi
  refine va_cald h.1 h.2.1 h.2.2.2.2.2.2.1.1 hP a 1 (zws_at hs0) rfl h1 hd ?_
  rw [h2]
  exact k H locs cells slots ls hP hS hc hs hl
theorem z_iast (h : zOk X own cc nL d) {a n : Nat} {i v : Int} {σ : Nat → Nat → Int} {l2 : (Nat → Int64) × (Nat → UInt64)} (j : Nat) (hs0 : zsh[a]? = some (.inr (0, n))) (hj : j < n) (hn : n ≤ 1000000) (hi : i = (j : Int)) (hd : decode cc pc = .ok (.iastore, 1)) (k : Z X b (pc + 1) lo sk (zup σ a j v, l2)) : Z X b pc lo (vi v :: vi i :: vr a :: sk) (σ, l2) := by
  intro H locs cells slots ls hP hS hc hs hl
  obtain ⟨h1, h2⟩ := zin hj hn hi
  refine va_iast h.1 h.2.1 h.2.2.2.2.2.2.1.1 hP (zws_D h.2.2.2.2.2.2.1.2.2.2.2.2.1 _) hS a 0 (zws_at hs0) rfl h1 hd (fun H1 locs1 hP1 _ hS1 => ?_)
  rw [h2, zset_a (lo := l2.1) (dd := l2.2) (Or.inl rfl) hs0] at hP1
  exact k H1 locs1 cells slots ls hP1 hS1 hc hs hl
theorem z_cast (h : zOk X own cc nL d) {a n : Nat} {i v : Int} {σ : Nat → Nat → Int} {l2 : (Nat → Int64) × (Nat → UInt64)} (j : Nat) (hs0 : zsh[a]? = some (.inr (1, n))) (hj : j < n) (hn : n ≤ 1000000) (hi : i = (j : Int)) (hv : 0 ≤ v ∧ v < 65536) (hd : decode cc pc = .ok (.castore, 1)) (k : Z X b (pc + 1) lo sk (zup σ a j v, l2)) : Z X b pc lo (vi v :: vi i :: vr a :: sk) (σ, l2) := by
  intro H locs cells slots ls hP hS hc hs hl
  obtain ⟨h1, h2⟩ := zin hj hn hi
  refine va_cast h.1 h.2.1 h.2.2.2.2.2.2.1.1 hP (zws_D h.2.2.2.2.2.2.1.2.2.2.2.2.1 _) hS a 1 (zws_at hs0) rfl h1 hd (fun H1 locs1 hP1 _ hS1 => ?_)
  have hc9 : vp_nar .char (Int32.ofInt v) = Int32.ofInt v := by
    obtain ⟨q, rfl⟩ : ∃ q : Nat, v = (q : Int) := ⟨v.toNat, by omega⟩
    have h9 := (pk_charN (q := q) (by omega)).1
    rw [Int32.ofInt_eq_ofNat]
    unfold vp_nar
    rw [show Int32.ofNat q = nI q from rfl, h9]
  rw [h2, hc9, zset_a (lo := l2.1) (dd := l2.2) (Or.inr rfl) hs0] at hP1
  exact k H1 locs1 cells slots ls hP1 hS1 hc hs hl
theorem z_alen (h : zOk X own cc nL d) {a t n : Nat} (hs0 : zsh[a]? = some (.inr (t, n))) (hd : decode cc pc = .ok (.arraylength, 1)) (k : Z X b (pc + 1) lo (vi (n : Int) :: sk) st) : Z X b pc lo (vr a :: sk) st := by
  intro H locs cells slots ls hP hS hc hs hl
  have e := zws_at (E := X.1) (st := st) hs0
  match t, e with
  | 0, e => exact va_alen h.1 h.2.1 h.2.2.2.2.2.2.1.1 hP a 0 e rfl rfl hd (k H locs cells slots ls hP hS hc hs hl)
  | 1, e => exact va_alen h.1 h.2.1 h.2.2.2.2.2.2.1.1 hP a 1 e rfl rfl hd (k H locs cells slots ls hP hS hc hs hl)
  | 2, e => exact va_alen h.1 h.2.1 h.2.2.2.2.2.2.1.1 hP a 2 e rfl rfl hd (k H locs cells slots ls hP hS hc hs hl)
  | 3, e => exact va_alen h.1 h.2.1 h.2.2.2.2.2.2.1.1 hP a 3 e rfl rfl hd (k H locs cells slots ls hP hS hc hs hl)
  | _ + 4, e => exact va_alen h.1 h.2.1 h.2.2.2.2.2.2.1.1 hP a 4 e rfl rfl hd (k H locs cells slots ls hP hS hc hs hl)
theorem z_aald (h : zOk X own cc nL d) {i : Int} (j : Nat) (hj : j < 9) (hi : i = (j : Int)) (hd : decode cc pc = .ok (.aaload, 1)) (k : Z X b (pc + 1) lo (vr (3 + j) :: sk) st) : Z X b pc lo (vi i :: vr 13 :: sk) st := by
  intro H locs cells slots ls hP hS hc hs hl
  obtain ⟨h1, h2⟩ := zin hj (by omega) hi
  refine va_aldq h.1 h.2.1 h.2.2.2.2.2.2.1.1 hP 13 4 (zws_at (k := 13) rfl) rfl h1 hd ?_
  rw [h2]
  exact k H locs cells slots ls hP hS hc hs hl
end BR
