/-! ===== Input ===== -/
section SW
variable {X : zC} {own : String} {cc : ByteArray} {nL d b pc : Nat} {lo : List (Nat × vV)} {sk : List vV} {st : zT}
theorem z_tIn (h : zOk X own cc nL d) {dflt l0 h0 : Int} {offs : Array Int} {len : Nat} {x off : Int} (tgt : Nat) (hd : decode cc pc = .ok (.tableswitch dflt l0 h0 offs, len)) (hx : zi x) (h1 : ¬ x < l0) (h2 : ¬ h0 < x) (ho : offs[(x - l0).toNat]? = some off) (ht : (pc : Int) + off = (tgt : Int)) (k : Z X b tgt lo sk st) : Z X b pc lo (vi x :: sk) st :=
  fun H locs cells slots ls hP hS hc hs hl => lv_tableIn h.1 h.2.1 hd (by rw [zi_t hx]; exact h1) (by rw [zi_t hx]; exact h2) (by rw [zi_t hx]; exact ho) ht (k H locs cells slots ls hP hS hc hs hl)
theorem z_tOut (h : zOk X own cc nL d) {dflt l0 h0 : Int} {offs : Array Int} {len : Nat} {x : Int} (tgt : Nat) (hd : decode cc pc = .ok (.tableswitch dflt l0 h0 offs, len)) (hx : zi x) (h1 : x < l0 ∨ h0 < x) (ht : (pc : Int) + dflt = (tgt : Int)) (k : Z X b tgt lo sk st) : Z X b pc lo (vi x :: sk) st :=
  fun H locs cells slots ls hP hS hc hs hl => lv_tableOut h.1 h.2.1 hd (by rw [zi_t hx]; exact h1) ht (k H locs cells slots ls hP hS hc hs hl)
theorem z_lk (h : zOk X own cc nL d) {dflt : Int} {ps : Array (Int × Int)} {len : Nat} {x off : Int} (tgt : Nat) (hd : decode cc pc = .ok (.lookupswitch dflt ps, len)) (hx : zi x) (hp : (ps.toList.zip (ps.toList.drop 1)).all (fun (a, next) => a.1 < next.1) = true) (ho : Op.lookupswitch.offset ps.toList dflt x = off) (ht : (pc : Int) + off = (tgt : Int)) (k : Z X b tgt lo sk st) : Z X b pc lo (vi x :: sk) st :=
  fun H locs cells slots ls hP hS hc hs hl => lv_lookup h.1 h.2.1 hd hp (by rw [zi_t hx]; exact ho) ht (k H locs cells slots ls hP hS hc hs hl)
theorem z_lkn {a o d x : Int} {r : List (Int × Int)} (h : a ≠ x) : Op.lookupswitch.offset ((a, o) :: r) d x = Op.lookupswitch.offset r d x := by
  rw [Op.lookupswitch.offset_cons, if_neg h]
end SW
/-- the sign at p of a text of n signs; none: 0 -/
def inx (t : Nat → Int) (n p : Nat) : Int := if p < n then t p else 0
abbrev iT (t : Nat → Int) (n : Nat) : Prop := ∀ p, p < n → 0 ≤ t p ∧ t p ≤ 65535
theorem inx_r {t : Nat → Int} {n : Nat} (h : iT t n) (p : Nat) : 0 ≤ inx t n p ∧ inx t n p ≤ 65535 := by
  unfold inx
  split
  · exact h p ‹_›
  · exact ⟨by decide, by decide⟩
/-- the cursor's place -/
def icu (σ : Nat → Nat → Int) (p : Nat) : Nat → Nat → Int := zs σ 15 (va_up (σ 15) 5 (p : Int))
theorem icu_p (σ : Nat → Nat → Int) (p : Nat) : icu σ p 15 5 = (p : Int) := by unfold icu; rw [zs_eq]; simp [va_up]
theorem icu_o (σ : Nat → Nat → Int) (p : Nat) {i : Nat} (h : i ≠ 5) : icu σ p 15 i = σ 15 i := by unfold icu; rw [zs_eq, vne h]
theorem icu_n (σ : Nat → Nat → Int) (p : Nat) {k : Nat} (h : k ≠ 15) : icu σ p k = σ k := by unfold icu; rw [zs_ne h]
theorem icu_icu (σ : Nat → Nat → Int) (p q : Nat) : icu (icu σ p) q = icu σ q := by
  unfold icu
  rw [zs_zs, zs_eq]
  congr 1
  funext i
  simp only [va_up]
  split <;> rfl
theorem icu_id {σ : Nat → Nat → Int} {p : Nat} (h : σ 15 5 = (p : Int)) : icu σ p = σ := by
  unfold icu
  rw [← h]
  have e : va_up (σ 15) 5 (σ 15 5) = σ 15 := by
    funext i
    simp only [va_up]
    split
    · subst_vars; rfl
    · rfl
  rw [e, zs_id]
theorem zup_icu {σ : Nat → Nat → Int} {p : Nat} (h : σ 15 5 = (p : Int)) : zup σ 15 5 (σ 15 5 + 1) = icu σ (p + 1) := by
  rw [zup_zs, h]; rfl
def ilnk (k : Int) : Int := if k = 107 then 62 else if k = 115 then 64 else if k = 119 then 58 else 0
def ifd (k : Int) : Nat := if k = 107 ∨ k = 112 then 2 else 1
def isd (k : Int) : Nat := if k = 107 then 1 else 2
/-- a number of at most k digits from p on -/
def inum (t : Nat → Int) (n : Nat) : Nat → Nat → Int → Int × Nat
  | 0, p, v => (v, p)
  | k + 1, p, v => if 48 ≤ inx t n p ∧ inx t n p ≤ 57 then inum t n k (p + 1) ((if v = -1 then 0 else v * 10) + (inx t n p - 48)) else (v, p)
theorem zc_nar {v : Int} (h : 0 ≤ v ∧ v ≤ 65535) : narrow .char (.int (Int32.ofInt v)) = .int (Int32.ofInt v) := by
  obtain ⟨q, rfl⟩ : ∃ q : Nat, v = (q : Int) := ⟨v.toNat, by omega⟩
  exact (pk_charN (q := q) (by omega)).1
set_option maxHeartbeats 1000000 in
theorem c_X2_length {E : zE} {st : zT} : Rv E yX2_length (Cond.code yX2_length cX2_length 1 (Option.some FieldType.int)) 0 [vr 15] (st) (vi (st.1 15 4)) (st) := by
  refine Ctr_of (own := RX2) (by decide +kernel) rfl rfl (fun Y hX hR hnx => ?_)
  refine z_b hX fo_X2 [.aload_n 0, .getfield 29] 4 (by decide +kernel) rfl ?_
  exact z_iret hX hR (by decide +kernel) ⟨rfl, rfl⟩
set_option maxHeartbeats 1000000 in
theorem c_X2_errorAt {E : zE} {st : zT} : Rv E yX2_errorAt (Cond.code yX2_errorAt cX2_errorAt 1 (Option.some FieldType.int)) 0 [vr 15] (st) (vi (st.1 15 7)) (st) := by
  refine Ctr_of (own := RX2) (by decide +kernel) rfl rfl (fun Y hX hR hnx => ?_)
  refine z_b hX fo_X2 [.aload_n 0, .getfield 25] 4 (by decide +kernel) rfl ?_
  exact z_iret hX hR (by decide +kernel) ⟨rfl, rfl⟩
set_option maxHeartbeats 1000000 in
theorem c_X2_orders {E : zE} {st : zT} : Rv E yX2_orders (Cond.code yX2_orders cX2_orders 1 (Option.some FieldType.int)) 0 [vr 15] (st) (vi (st.1 15 6)) (st) := by
  refine Ctr_of (own := RX2) (by decide +kernel) rfl rfl (fun Y hX hR hnx => ?_)
  refine z_b hX fo_X2 [.aload_n 0, .getfield 32] 4 (by decide +kernel) rfl ?_
  exact z_iret hX hR (by decide +kernel) ⟨rfl, rfl⟩
set_option maxHeartbeats 1000000 in
theorem c_X2_kind {E : zE} {i : Nat} {st : zT} (hi : i < 30) (hv : 0 ≤ st.1 17 i ∧ st.1 17 i ≤ 65535) : Rv E yX2_kind (Cond.code yX2_kind cX2_kind 2 (Option.some FieldType.char)) 0 [vr 15, vi (i : Int)] (st) (vi (st.1 17 i)) (st) := by
  refine Ctr_of (own := RX2) (by decide +kernel) rfl rfl (fun Y hX hR hnx => ?_)
  refine z_b hX fo_X2 [.iload_n 1] 1 (by decide +kernel) rfl ?_
  refine z_if_lt hX (off := 21) 22 (by decide +kernel) (by decide) ⟨by omega, by omega⟩ (fun c1 => by exfalso; omega) (fun c1 => ?_)
  refine z_b hX fo_X2 [.iload_n 1, .aload_n 0, .getfield 15] 9 (by decide +kernel) rfl ?_
  refine z_alen hX rfl (by decide +kernel) ?_
  refine z_ic_ge hX (off := 12) 22 (by decide +kernel) (by decide) ⟨by omega, by omega⟩ ⟨by omega, by omega⟩ (fun c10 => by exfalso; omega) (fun c10 => ?_)
  refine z_b hX fo_X2 [.aload_n 0, .getfield 15, .iload_n 1] 18 (by decide +kernel) rfl ?_
  refine z_cald hX (i) rfl (by omega) (by decide) (by omega) (by decide +kernel) ?_
  refine z_goto hX (off := 4) 23 (by decide +kernel) (by decide) ?_
  exact z_zret hX hR (zc_nar hv) (by decide +kernel) ⟨rfl, rfl⟩
set_option maxHeartbeats 1000000 in
theorem c_X2_first {E : zE} {i : Nat} {st : zT} (hi : i < 30) : Rv E yX2_first (Cond.code yX2_first cX2_first 2 (Option.some FieldType.int)) 0 [vr 15, vi (i : Int)] (st) (vi (st.1 18 i)) (st) := by
  refine Ctr_of (own := RX2) (by decide +kernel) rfl rfl (fun Y hX hR hnx => ?_)
  refine z_b hX fo_X2 [.iload_n 1] 1 (by decide +kernel) rfl ?_
  refine z_if_lt hX (off := 21) 22 (by decide +kernel) (by decide) ⟨by omega, by omega⟩ (fun c1 => by exfalso; omega) (fun c1 => ?_)
  refine z_b hX fo_X2 [.iload_n 1, .aload_n 0, .getfield 18] 9 (by decide +kernel) rfl ?_
  refine z_alen hX rfl (by decide +kernel) ?_
  refine z_ic_ge hX (off := 12) 22 (by decide +kernel) (by decide) ⟨by omega, by omega⟩ ⟨by omega, by omega⟩ (fun c10 => by exfalso; omega) (fun c10 => ?_)
  refine z_b hX fo_X2 [.aload_n 0, .getfield 18, .iload_n 1] 18 (by decide +kernel) rfl ?_
  refine z_iald hX (i) rfl (by omega) (by decide) (by omega) (by decide +kernel) ?_
  refine z_goto hX (off := 4) 23 (by decide +kernel) (by decide) ?_
  exact z_iret hX hR (by decide +kernel) ⟨rfl, rfl⟩
set_option maxHeartbeats 1000000 in
theorem c_X2_second {E : zE} {i : Nat} {st : zT} (hi : i < 30) : Rv E yX2_second (Cond.code yX2_second cX2_second 2 (Option.some FieldType.int)) 0 [vr 15, vi (i : Int)] (st) (vi (st.1 19 i)) (st) := by
  refine Ctr_of (own := RX2) (by decide +kernel) rfl rfl (fun Y hX hR hnx => ?_)
  refine z_b hX fo_X2 [.iload_n 1] 1 (by decide +kernel) rfl ?_
  refine z_if_lt hX (off := 21) 22 (by decide +kernel) (by decide) ⟨by omega, by omega⟩ (fun c1 => by exfalso; omega) (fun c1 => ?_)
  refine z_b hX fo_X2 [.iload_n 1, .aload_n 0, .getfield 22] 9 (by decide +kernel) rfl ?_
  refine z_alen hX rfl (by decide +kernel) ?_
  refine z_ic_ge hX (off := 12) 22 (by decide +kernel) (by decide) ⟨by omega, by omega⟩ ⟨by omega, by omega⟩ (fun c10 => by exfalso; omega) (fun c10 => ?_)
  refine z_b hX fo_X2 [.aload_n 0, .getfield 22, .iload_n 1] 18 (by decide +kernel) rfl ?_
  refine z_iald hX (i) rfl (by omega) (by decide) (by omega) (by decide +kernel) ?_
  refine z_goto hX (off := 4) 23 (by decide +kernel) (by decide) ?_
  exact z_iret hX hR (by decide +kernel) ⟨rfl, rfl⟩
set_option maxHeartbeats 1000000 in
theorem c_X2_next {E : zE} {t : Nat → Int} {p n : Nat} {σ : Nat → Nat → Int} {l : (Nat → Int64) × (Nat → UInt64)} (h5 : σ 15 5 = (p : Int)) (h4 : σ 15 4 = (n : Int)) (h16 : σ 16 = t) (hn : n ≤ 60) (hp : p ≤ 100) (ht : iT t n) : Rv E yX2_next (Cond.code yX2_next cX2_next 1 (Option.some FieldType.char)) 0 [vr 15] ((σ, l)) (vi (inx t n p)) ((σ, l)) := by
  refine Ctr_of (own := RX2) (by decide +kernel) rfl rfl (fun Y hX hR hnx => ?_)
  refine z_b hX fo_X2 [.aload_n 0, .getfield 35] 4 (by decide +kernel) rfl ?_
  dsimp only
  rw [h5]
  refine z_if_lt hX (off := 38) 42 (by decide +kernel) (by decide) ⟨by omega, by omega⟩ (fun c4 => by exfalso; omega) (fun c4 => ?_)
  refine z_b hX fo_X2 [.aload_n 0, .getfield 35, .aload_n 0, .getfield 29] 15 (by decide +kernel) rfl ?_
  dsimp only
  rw [h5, h4]
  refine z_ic_ge hX (off := 27) 42 (by decide +kernel) (by decide) ⟨by omega, by omega⟩ ⟨by omega, by omega⟩ (fun c15 => ?_) (fun c15 => ?_)
  · refine z_b hX fo_X2 [.iconst 0] 43 (by decide +kernel) rfl ?_
    exact z_zret hX hR (zc_nar (by first | exact ht p (by omega) | exact ⟨by decide, by decide⟩)) (by decide +kernel) ⟨by unfold inx; first | rw [if_pos (by omega)] | rw [if_neg (by omega)], rfl⟩
  · refine z_b hX fo_X2 [.aload_n 0, .getfield 35, .aload_n 0, .getfield 9] 26 (by decide +kernel) rfl ?_
    refine z_alen hX rfl (by decide +kernel) ?_
    dsimp only
    rw [h5]
    refine z_ic_ge hX (off := 15) 42 (by decide +kernel) (by decide) ⟨by omega, by omega⟩ ⟨by omega, by omega⟩ (fun c27 => by exfalso; omega) (fun c27 => ?_)
    refine z_b hX fo_X2 [.aload_n 0, .getfield 9, .aload_n 0, .getfield 35] 38 (by decide +kernel) rfl ?_
    dsimp only
    rw [h5]
    refine z_cald hX (p) rfl (by omega) (by decide) (by omega) (by decide +kernel) ?_
    dsimp only
    rw [h16]
    refine z_goto hX (off := 4) 43 (by decide +kernel) (by decide) ?_
    exact z_zret hX hR (zc_nar (by first | exact ht p (by omega) | exact ⟨by decide, by decide⟩)) (by decide +kernel) ⟨by unfold inx; first | rw [if_pos (by omega)] | rw [if_neg (by omega)], rfl⟩
set_option maxHeartbeats 1000000 in
theorem c_X2_firstDigits {E : zE} {k : Int} {st : zT} (hk : 0 ≤ k ∧ k ≤ 65535) : Rv E yX2_firstDigits (Cond.code yX2_firstDigits cX2_firstDigits 1 (Option.some FieldType.int)) 0 [vi k] (st) (vi (ifd k : Int)) (st) := by
  refine Ctr_of (own := RX2) (by decide +kernel) rfl rfl (fun Y hX hR hnx => ?_)
  refine z_b hX fo_X2 [.iload_n 0, .bipush 107] 3 (by decide +kernel) rfl ?_
  refine z_ic_eq hX (off := 9) 12 (by decide +kernel) (by decide) ⟨by omega, by omega⟩ ⟨by omega, by omega⟩ (fun c3 => ?_) (fun c3 => ?_)
  · refine z_b hX fo_X2 [.iconst 2] 13 (by decide +kernel) rfl ?_
    refine z_goto hX (off := 4) 17 (by decide +kernel) (by decide) ?_
    exact z_iret hX hR (by decide +kernel) ⟨by unfold ifd; first | rw [if_pos (by omega)]; rfl | rw [if_neg (by omega)]; rfl, rfl⟩
  · refine z_b hX fo_X2 [.iload_n 0, .bipush 112] 9 (by decide +kernel) rfl ?_
    refine z_ic_ne hX (off := 7) 16 (by decide +kernel) (by decide) ⟨by omega, by omega⟩ ⟨by omega, by omega⟩ (fun c9 => ?_) (fun c9 => ?_)
    · refine z_b hX fo_X2 [.iconst 1] 17 (by decide +kernel) rfl ?_
      exact z_iret hX hR (by decide +kernel) ⟨by unfold ifd; first | rw [if_pos (by omega)]; rfl | rw [if_neg (by omega)]; rfl, rfl⟩
    · refine z_b hX fo_X2 [.iconst 2] 13 (by decide +kernel) rfl ?_
      refine z_goto hX (off := 4) 17 (by decide +kernel) (by decide) ?_
      exact z_iret hX hR (by decide +kernel) ⟨by unfold ifd; first | rw [if_pos (by omega)]; rfl | rw [if_neg (by omega)]; rfl, rfl⟩
set_option maxHeartbeats 1000000 in
theorem c_X2_secondDigits {E : zE} {k : Int} {st : zT} (hk : 0 ≤ k ∧ k ≤ 65535) : Rv E yX2_secondDigits (Cond.code yX2_secondDigits cX2_secondDigits 1 (Option.some FieldType.int)) 0 [vi k] (st) (vi (isd k : Int)) (st) := by
  refine Ctr_of (own := RX2) (by decide +kernel) rfl rfl (fun Y hX hR hnx => ?_)
  refine z_b hX fo_X2 [.iload_n 0, .bipush 107] 3 (by decide +kernel) rfl ?_
  refine z_ic_ne hX (off := 7) 10 (by decide +kernel) (by decide) ⟨by omega, by omega⟩ ⟨by omega, by omega⟩ (fun c3 => ?_) (fun c3 => ?_)
  · refine z_b hX fo_X2 [.iconst 2] 11 (by decide +kernel) rfl ?_
    exact z_iret hX hR (by decide +kernel) ⟨by unfold isd; first | rw [if_pos (by omega)]; rfl | rw [if_neg (by omega)]; rfl, rfl⟩
  · refine z_b hX fo_X2 [.iconst 1] 7 (by decide +kernel) rfl ?_
    refine z_goto hX (off := 4) 11 (by decide +kernel) (by decide) ?_
    exact z_iret hX hR (by decide +kernel) ⟨by unfold isd; first | rw [if_pos (by omega)]; rfl | rw [if_neg (by omega)]; rfl, rfl⟩
set_option maxHeartbeats 1000000 in
theorem c_X2_linkOf {E : zE} {k : Int} {st : zT} (hk : 0 ≤ k ∧ k ≤ 65535) : Rv E yX2_linkOf (Cond.code yX2_linkOf cX2_linkOf 1 (Option.some FieldType.char)) 0 [vi k] (st) (vi (ilnk k)) (st) := by
  refine Ctr_of (own := RX2) (by decide +kernel) rfl rfl (fun Y hX hR hnx => ?_)
  refine z_b hX fo_X2 [.iload_n 0] 1 (by decide +kernel) rfl ?_
  rcases (show k = 107 ∨ k = 115 ∨ k = 119 ∨ (107 ≠ k ∧ 115 ≠ k ∧ 119 ≠ k) by omega) with hs | hs | hs | hs
  · refine z_lk hX (dflt := 44) (ps := #[(107, 41), (115, 35), (119, 38)]) (len := 35) (off := 41) 42 (by decide +kernel) ⟨by omega, by omega⟩ (by decide +kernel) (by rw [hs]; rfl) (by decide) ?_
    refine z_b hX fo_X2 [.bipush 62] 44 (by decide +kernel) rfl ?_
    exact z_zret hX hR (zc_nar ⟨by decide, by decide⟩) (by decide +kernel) ⟨by unfold ilnk; first | rw [hs]; rfl | rw [if_neg (by omega), if_neg (by omega), if_neg (by omega)], rfl⟩
  · refine z_lk hX (dflt := 44) (ps := #[(107, 41), (115, 35), (119, 38)]) (len := 35) (off := 35) 36 (by decide +kernel) ⟨by omega, by omega⟩ (by decide +kernel) (by rw [hs]; rfl) (by decide) ?_
    refine z_b hX fo_X2 [.bipush 64] 38 (by decide +kernel) rfl ?_
    exact z_zret hX hR (zc_nar ⟨by decide, by decide⟩) (by decide +kernel) ⟨by unfold ilnk; first | rw [hs]; rfl | rw [if_neg (by omega), if_neg (by omega), if_neg (by omega)], rfl⟩
  · refine z_lk hX (dflt := 44) (ps := #[(107, 41), (115, 35), (119, 38)]) (len := 35) (off := 38) 39 (by decide +kernel) ⟨by omega, by omega⟩ (by decide +kernel) (by rw [hs]; rfl) (by decide) ?_
    refine z_b hX fo_X2 [.bipush 58] 41 (by decide +kernel) rfl ?_
    exact z_zret hX hR (zc_nar ⟨by decide, by decide⟩) (by decide +kernel) ⟨by unfold ilnk; first | rw [hs]; rfl | rw [if_neg (by omega), if_neg (by omega), if_neg (by omega)], rfl⟩
  · refine z_lk hX (dflt := 44) (ps := #[(107, 41), (115, 35), (119, 38)]) (len := 35) (off := 44) 45 (by decide +kernel) ⟨by omega, by omega⟩ (by decide +kernel) (by rw [z_lkn (by omega)]; rw [z_lkn (by omega)]; rw [z_lkn (by omega)]; rfl) (by decide) ?_
    refine z_b hX fo_X2 [.iconst 0] 46 (by decide +kernel) rfl ?_
    exact z_zret hX hR (zc_nar ⟨by decide, by decide⟩) (by decide +kernel) ⟨by unfold ilnk; first | rw [hs]; rfl | rw [if_neg (by omega), if_neg (by omega), if_neg (by omega)], rfl⟩
set_option maxHeartbeats 1000000 in
theorem c_take1 {E : zE} {t : Nat → Int} {p n : Nat} {σ : Nat → Nat → Int} {l : (Nat → Int64) × (Nat → UInt64)} (h5 : σ 15 5 = (p : Int)) (h4 : σ 15 4 = (n : Int)) (h16 : σ 16 = t) (hn : n ≤ 60) (hp : p ≤ 90) (ht : iT t n) {w : Int} (hw : 0 ≤ w ∧ w ≤ 65535) (hx : inx t n p = w) : Rv E yX2_take (Cond.code yX2_take cX2_take 2 (Option.some FieldType.boolean)) 1 [vr 15, vi w] ((σ, l)) (vi 1) ((icu σ (p + 1), l)) := by
  refine Ctr_of (own := RX2) (by decide +kernel) rfl rfl (fun Y hX hR hnx => ?_)
  refine z_b hX fo_X2 [.aload_n 0] 1 (by decide +kernel) rfl ?_
  refine z_cV hX m_X2_next l_X2_49 p_X2_next (c_X2_next h5 h4 h16 hn (by omega) ht) rfl rfl rfl rfl rfl rfl (by decide +kernel) ?_
  refine z_b hX fo_X2 [.iload_n 1] 5 (by decide +kernel) rfl ?_
  refine z_ic_eq hX (off := 5) 10 (by decide +kernel) (by decide) (by rw [hx]; exact ⟨by omega, by omega⟩) ⟨by omega, by omega⟩ (fun c5 => ?_) (fun c5 => by exact absurd hx c5)
  refine z_b hX fo_X2 [.aload_n 0, .dup, .getfield 35, .iconst 1, .iadd, .putfield 35, .iconst 1] 21 (by decide +kernel) rfl ?_
  exact z_zret hX hR (by decide +kernel) (by decide +kernel) ⟨rfl, by dsimp only; rw [zup_icu h5]⟩
set_option maxHeartbeats 1000000 in
theorem c_take0 {E : zE} {t : Nat → Int} {p n : Nat} {σ : Nat → Nat → Int} {l : (Nat → Int64) × (Nat → UInt64)} (h5 : σ 15 5 = (p : Int)) (h4 : σ 15 4 = (n : Int)) (h16 : σ 16 = t) (hn : n ≤ 60) (hp : p ≤ 90) (ht : iT t n) {w : Int} (hw : 0 ≤ w ∧ w ≤ 65535) (hx : inx t n p ≠ w) : Rv E yX2_take (Cond.code yX2_take cX2_take 2 (Option.some FieldType.boolean)) 1 [vr 15, vi w] ((σ, l)) (vi 0) ((σ, l)) := by
  refine Ctr_of (own := RX2) (by decide +kernel) rfl rfl (fun Y hX hR hnx => ?_)
  refine z_b hX fo_X2 [.aload_n 0] 1 (by decide +kernel) rfl ?_
  refine z_cV hX m_X2_next l_X2_49 p_X2_next (c_X2_next h5 h4 h16 hn (by omega) ht) rfl rfl rfl rfl rfl rfl (by decide +kernel) ?_
  have hr := inx_r ht p
  refine z_b hX fo_X2 [.iload_n 1] 5 (by decide +kernel) rfl ?_
  refine z_ic_eq hX (off := 5) 10 (by decide +kernel) (by decide) ⟨by omega, by omega⟩ ⟨by omega, by omega⟩ (fun c5 => by exact absurd c5 hx) (fun c5 => ?_)
  refine z_b hX fo_X2 [.iconst 0] 9 (by decide +kernel) rfl ?_
  exact z_zret hX hR (by decide +kernel) (by decide +kernel) ⟨rfl, rfl⟩
set_option maxHeartbeats 1000000 in
theorem c_X2_takeNumber {E : zE} {t : Nat → Int} {p n : Nat} {σ : Nat → Nat → Int} {l : (Nat → Int64) × (Nat → UInt64)} (h5 : σ 15 5 = (p : Int)) (h4 : σ 15 4 = (n : Int)) (h16 : σ 16 = t) (hn : n ≤ 60) (hp : p ≤ 80) (ht : iT t n) {k : Nat} (hk : k ≤ 2) : Rv E yX2_takeNumber (Cond.code yX2_takeNumber cX2_takeNumber 4 (Option.some FieldType.int)) 1 [vr 15, vi (k : Int)] ((σ, l)) (vi (inum t n k p (-1)).1) ((icu σ (inum t n k p (-1)).2, l)) := by
  refine Ctr_of (own := RX2) (by decide +kernel) rfl rfl (fun Y hX hR hnx => ?_)
  refine z_b hX fo_X2 [.iconst (-1), .istore_n 2, .iconst 0, .istore_n 3] 4 (by decide +kernel) rfl ?_
  have loop : ∀ (m : Nat) (i q : Nat) (x v : Int), x = (i : Int) → i + m = k → q ≤ p + i → (i = 0 ∧ v = -1 ∨ i = 1 ∧ 0 ≤ v ∧ v ≤ 9 ∨ i = 2 ∧ 0 ≤ v ∧ v ≤ 99) → inum t n k p (-1) = inum t n m q v → Z (E, Y) 0 4 [(3, vi x), (2, vi v), (0, vr 15), (1, vi (k : Int))] [] (icu σ q, l) := by
    intro m
    induction m with
    | zero =>
      intro i q x v hi hm hq hv he
      refine z_b hX fo_X2 [.iload_n 3, .iload_n 1] 6 (by decide +kernel) rfl ?_
      refine z_ic_ge hX (off := 59) 65 (by decide +kernel) (by decide) ⟨by omega, by omega⟩ ⟨by omega, by omega⟩ (fun c6 => ?_) (fun c6 => by exfalso; omega)
      refine z_b hX fo_X2 [.iload_n 2] 66 (by decide +kernel) rfl ?_
      exact z_iret hX hR (by decide +kernel) ⟨by rw [he]; rfl, by rw [he]; rfl⟩
    | succ m ih =>
      intro i q x v hi hm hq hv he
      have hr := inx_r ht q
      refine z_b hX fo_X2 [.iload_n 3, .iload_n 1] 6 (by decide +kernel) rfl ?_
      refine z_ic_ge hX (off := 59) 65 (by decide +kernel) (by decide) ⟨by omega, by omega⟩ ⟨by omega, by omega⟩ (fun c6 => by exfalso; omega) (fun c6 => ?_)
      refine z_b hX fo_X2 [.aload_n 0] 10 (by decide +kernel) rfl ?_
      refine z_cV hX m_X2_next l_X2_49 p_X2_next (c_X2_next (σ := icu σ q) (icu_p σ q) ((icu_o σ q (by decide)).trans h4) ((icu_n σ q (by decide)).trans h16) hn (by omega) ht) rfl rfl rfl rfl rfl rfl (by decide +kernel) ?_
      refine z_b hX fo_X2 [.bipush 48] 15 (by decide +kernel) rfl ?_
      refine z_ic_lt hX (off := 50) 65 (by decide +kernel) (by decide) ⟨by omega, by omega⟩ ⟨by omega, by omega⟩ (fun c15 => ?_) (fun c15 => ?_)
      · refine z_b hX fo_X2 [.iload_n 2] 66 (by decide +kernel) rfl ?_
        exact z_iret hX hR (by decide +kernel) ⟨by rw [he, show inum t n (m + 1) q v = (v, q) from if_neg (by omega)], by rw [he, show inum t n (m + 1) q v = (v, q) from if_neg (by omega)]⟩
      · refine z_b hX fo_X2 [.aload_n 0] 19 (by decide +kernel) rfl ?_
        refine z_cV hX m_X2_next l_X2_49 p_X2_next (c_X2_next (σ := icu σ q) (icu_p σ q) ((icu_o σ q (by decide)).trans h4) ((icu_n σ q (by decide)).trans h16) hn (by omega) ht) rfl rfl rfl rfl rfl rfl (by decide +kernel) ?_
        refine z_b hX fo_X2 [.bipush 57] 24 (by decide +kernel) rfl ?_
        refine z_ic_gt hX (off := 41) 65 (by decide +kernel) (by decide) ⟨by omega, by omega⟩ ⟨by omega, by omega⟩ (fun c24 => ?_) (fun c24 => ?_)
        · refine z_b hX fo_X2 [.iload_n 2] 66 (by decide +kernel) rfl ?_
          exact z_iret hX hR (by decide +kernel) ⟨by rw [he, show inum t n (m + 1) q v = (v, q) from if_neg (by omega)], by rw [he, show inum t n (m + 1) q v = (v, q) from if_neg (by omega)]⟩
        · refine z_b hX fo_X2 [.iload_n 2, .iconst (-1)] 29 (by decide +kernel) rfl ?_
          refine z_ic_ne hX (off := 7) 36 (by decide +kernel) (by decide) ⟨by omega, by omega⟩ ⟨by omega, by omega⟩ (fun c29 => ?_) (fun c29 => ?_)
          · refine z_b hX fo_X2 [.iload_n 2, .bipush 10, .imul, .aload_n 0] 41 (by decide +kernel) rfl ?_
            refine z_cV hX m_X2_next l_X2_49 p_X2_next (c_X2_next (σ := icu σ q) (icu_p σ q) ((icu_o σ q (by decide)).trans h4) ((icu_n σ q (by decide)).trans h16) hn (by omega) ht) rfl rfl rfl rfl rfl rfl (by decide +kernel) ?_
            refine z_b hX fo_X2 [.bipush 48, .isub, .iadd, .istore_n 2, .aload_n 0, .dup, .getfield 35, .iconst 1, .iadd, .putfield 35, .iinc 3 1] 62 (by decide +kernel) rfl ?_
            refine z_goto hX (off := (-58)) 4 (by decide +kernel) (by decide) ?_
            dsimp only
            rw [zup_icu (σ := icu σ q) (icu_p σ q), icu_icu]
            exact ih (i + 1) (q + 1) _ _ (by omega) (by omega) (by omega) (by omega) (he.trans ((if_pos ⟨by omega, by omega⟩).trans (by first | rw [if_pos c29] | rw [if_neg c29])))
          · refine z_b hX fo_X2 [.iconst 0] 33 (by decide +kernel) rfl ?_
            refine z_goto hX (off := 7) 40 (by decide +kernel) (by decide) ?_
            refine z_b hX fo_X2 [.aload_n 0] 41 (by decide +kernel) rfl ?_
            refine z_cV hX m_X2_next l_X2_49 p_X2_next (c_X2_next (σ := icu σ q) (icu_p σ q) ((icu_o σ q (by decide)).trans h4) ((icu_n σ q (by decide)).trans h16) hn (by omega) ht) rfl rfl rfl rfl rfl rfl (by decide +kernel) ?_
            refine z_b hX fo_X2 [.bipush 48, .isub, .iadd, .istore_n 2, .aload_n 0, .dup, .getfield 35, .iconst 1, .iadd, .putfield 35, .iinc 3 1] 62 (by decide +kernel) rfl ?_
            refine z_goto hX (off := (-58)) 4 (by decide +kernel) (by decide) ?_
            dsimp only
            rw [zup_icu (σ := icu σ q) (icu_p σ q), icu_icu]
            exact ih (i + 1) (q + 1) _ _ (by omega) (by omega) (by omega) (by omega) (he.trans ((if_pos ⟨by omega, by omega⟩).trans (by first | rw [if_pos c29] | rw [if_neg c29])))
  have h0 := loop k 0 p 0 (-1) rfl (by omega) (by omega) (by omega) rfl
  rw [icu_id h5] at h0
  exact h0
/-- one order at p, and the place behind what was taken -/
def ior2 (k f : Int) (s : Int × Nat) : Option (Int × Int × Int) × Nat := if s.1 = -1 then (none, s.2) else (some (k, f, s.1), s.2)
def ior1 (t : Nat → Int) (n : Nat) (k : Int) (f : Int × Nat) : Option (Int × Int × Int) × Nat := if f.1 = -1 then (none, f.2) else if ilnk k = 0 then (some (k, f.1, 0), f.2) else if inx t n f.2 = ilnk k then ior2 k f.1 (inum t n (isd k) (f.2 + 1) (-1)) else (none, f.2)
def iord (t : Nat → Int) (n p : Nat) : Option (Int × Int × Int) × Nat := if iknd (inx t n p) = 0 then (none, p) else if inx t n p = 117 then (some (inx t n p, 0, 0), p + 1) else ior1 t n (inx t n p) (inum t n (ifd (inx t n p)) (p + 1) (-1))
/-- an order laid as the q-th -/
def ikp (q : Nat) (o : Int × Int × Int) (σ : Nat → Nat → Int) : Nat → Nat → Int := zs (zs (zs (zs σ 17 (va_up (σ 17) q o.1)) 18 (va_up (σ 18) q o.2.1)) 19 (va_up (σ 19) q o.2.2)) 15 (va_up (σ 15) 6 ((q : Int) + 1))
def iko (q : Nat) (o : Option (Int × Int × Int)) (σ : Nat → Nat → Int) : Nat → Nat → Int := match o with
  | none => σ
  | some x => ikp q x σ
def io1 (o : Option (Int × Int × Int)) : Int := match o with
  | none => 0
  | some _ => 1
theorem iknd_i (k : Int) : iknd k = 0 ∨ iknd k = 1 := by unfold iknd; split <;> simp
theorem iknd_n {t : Nat → Int} {n p : Nat} (h : iknd (inx t n p) ≠ 0) : p < n := by
  by_cases q : p < n
  · exact q
  · unfold inx at h; rw [if_neg q] at h; exact absurd rfl h
theorem ifd_2 (k : Int) : ifd k ≤ 2 := by unfold ifd; split <;> omega
theorem isd_2 (k : Int) : isd k ≤ 2 := by unfold isd; split <;> omega
theorem ilnk_i (k : Int) : 0 ≤ ilnk k ∧ ilnk k ≤ 65535 := by
  unfold ilnk
  split
  · exact ⟨by decide, by decide⟩
  · split
    · exact ⟨by decide, by decide⟩
    · split <;> exact ⟨by decide, by decide⟩
theorem inum_q {t : Nat → Int} {n : Nat} : ∀ (k p : Nat) (v : Int), p ≤ (inum t n k p v).2 ∧ (inum t n k p v).2 ≤ p + k
  | 0, p, v => ⟨Nat.le_refl _, Nat.le_refl _⟩
  | k + 1, p, v => by
    unfold inum
    split
    · have h := inum_q (t := t) (n := n) k (p + 1) ((if v = -1 then 0 else v * 10) + (inx t n p - 48)); omega
    · exact ⟨Nat.le_refl _, by dsimp only; omega⟩
theorem inum_v {t : Nat → Int} {n k p : Nat} (hk : k ≤ 2) : -1 ≤ (inum t n k p (-1)).1 ∧ (inum t n k p (-1)).1 ≤ 99 := by
  rcases (show k = 0 ∨ k = 1 ∨ k = 2 by omega) with rfl | rfl | rfl
  · unfold inum; dsimp only; omega
  · unfold inum; unfold inum
    split
    · rw [if_pos rfl]; dsimp only; omega
    · dsimp only; omega
  · unfold inum; unfold inum; unfold inum
    split
    · rw [if_pos rfl]
      split
      · rw [if_neg (by omega)]; dsimp only; omega
      · dsimp only; omega
    · dsimp only; omega
theorem zup15 {σ : Nat → Nat → Int} {a i : Nat} {v : Int} {j : Nat} (h : 15 ≠ a) : zup σ a i v 15 j = σ 15 j := by rw [zup_ne h]
theorem ikp_eq {σ : Nat → Nat → Int} {q : Nat} {x y z : Int} : zup (zup (zup (zup σ 17 q x) 18 q y) 19 q z) 15 6 ((q : Int) + 1) = ikp q (x, y, z) σ := by
  unfold ikp
  simp only [zup_zs]
  rw [zs_ne (show 18 ≠ 17 by decide), zs_ne (show 19 ≠ 18 by decide), zs_ne (show 19 ≠ 17 by decide), zs_ne (show 15 ≠ 19 by decide), zs_ne (show 15 ≠ 18 by decide), zs_ne (show 15 ≠ 17 by decide)]
set_option maxHeartbeats 1000000 in
theorem c_X2_keep {E : zE} {q : Nat} {σ : Nat → Nat → Int} {l : (Nat → Int64) × (Nat → UInt64)} (h6 : σ 15 6 = (q : Int)) (hq : q < 30) {x y z : Int} (hx : 0 ≤ x ∧ x ≤ 65535) : Rn E yX2_keep (Cond.code yX2_keep cX2_keep 4 (Option.none : Option FieldType)) 0 [vr 15, vi x, vi y, vi z] ((σ, l)) ((ikp q (x, y, z) σ, l)) := by
  refine Ctr_of (own := RX2) (by decide +kernel) rfl rfl (fun Y hX hR hnx => ?_)
  refine z_b hX fo_X2 [.aload_n 0, .getfield 32] 4 (by decide +kernel) rfl ?_
  dsimp only
  rw [h6]
  refine z_if_lt hX (off := 79) 83 (by decide +kernel) (by decide) ⟨by omega, by omega⟩ (fun c4 => by exfalso; omega) (fun c4 => ?_)
  refine z_b hX fo_X2 [.aload_n 0, .getfield 32, .aload_n 0, .getfield 15] 15 (by decide +kernel) rfl ?_
  refine z_alen hX rfl (by decide +kernel) ?_
  dsimp only
  rw [h6]
  refine z_ic_ge hX (off := 67) 83 (by decide +kernel) (by decide) ⟨by omega, by omega⟩ ⟨by omega, by omega⟩ (fun c16 => by exfalso; omega) (fun c16 => ?_)
  refine z_b hX fo_X2 [.aload_n 0, .getfield 32, .aload_n 0, .getfield 18] 27 (by decide +kernel) rfl ?_
  refine z_alen hX rfl (by decide +kernel) ?_
  dsimp only
  rw [h6]
  refine z_ic_ge hX (off := 55) 83 (by decide +kernel) (by decide) ⟨by omega, by omega⟩ ⟨by omega, by omega⟩ (fun c28 => by exfalso; omega) (fun c28 => ?_)
  refine z_b hX fo_X2 [.aload_n 0, .getfield 32, .aload_n 0, .getfield 22] 39 (by decide +kernel) rfl ?_
  refine z_alen hX rfl (by decide +kernel) ?_
  dsimp only
  rw [h6]
  refine z_ic_ge hX (off := 43) 83 (by decide +kernel) (by decide) ⟨by omega, by omega⟩ ⟨by omega, by omega⟩ (fun c40 => by exfalso; omega) (fun c40 => ?_)
  refine z_b hX fo_X2 [.aload_n 0, .getfield 15, .aload_n 0, .getfield 32, .iload_n 1] 52 (by decide +kernel) rfl ?_
  dsimp only
  rw [h6]
  refine z_cast hX (q) rfl (by omega) (by decide) (by omega) (by omega) (by decide +kernel) ?_
  refine z_b hX fo_X2 [.aload_n 0, .getfield 18, .aload_n 0, .getfield 32, .iload_n 2] 62 (by decide +kernel) rfl ?_
  dsimp only
  rw [zup15 (by decide), h6]
  refine z_iast hX (q) rfl (by omega) (by decide) (by omega) (by decide +kernel) ?_
  refine z_b hX fo_X2 [.aload_n 0, .getfield 22, .aload_n 0, .getfield 32, .iload_n 3] 72 (by decide +kernel) rfl ?_
  dsimp only
  rw [zup15 (by decide), zup15 (by decide), h6]
  refine z_iast hX (q) rfl (by omega) (by decide) (by omega) (by decide +kernel) ?_
  refine z_b hX fo_X2 [.aload_n 0, .dup, .getfield 32, .iconst 1, .iadd, .putfield 32] 83 (by decide +kernel) rfl ?_
  dsimp only
  rw [zup15 (by decide), zup15 (by decide), zup15 (by decide), h6, ikp_eq]
  exact z_vret hX hR (by decide +kernel) ⟨rfl, rfl⟩
set_option maxHeartbeats 1000000 in
theorem c_X2_takeOrder {E : zE} {t : Nat → Int} {p n : Nat} {σ : Nat → Nat → Int} {l : (Nat → Int64) × (Nat → UInt64)} (h5 : σ 15 5 = (p : Int)) (h4 : σ 15 4 = (n : Int)) (h16 : σ 16 = t) (hn : n ≤ 60) (hp : p ≤ 62) (ht : iT t n) {q : Nat} (h6 : σ 15 6 = (q : Int)) (hq : 2 * q ≤ p) : Rv E yX2_takeOrder (Cond.code yX2_takeOrder cX2_takeOrder 5 (Option.some FieldType.boolean)) 5 [vr 15] ((σ, l)) (vi (io1 (iord t n p).1)) ((iko q (iord t n p).1 (icu σ (iord t n p).2), l)) := by
  refine Ctr_of (own := RX2) (by decide +kernel) rfl rfl (fun Y hX hR hnx => ?_)
  have hr := inx_r ht p
  refine z_b hX fo_X2 [.aload_n 0] 1 (by decide +kernel) rfl ?_
  refine z_cV hX m_X2_next l_X2_49 p_X2_next (c_X2_next h5 h4 h16 hn (by omega) ht) rfl rfl rfl rfl rfl rfl (by decide +kernel) ?_
  refine z_b hX fo_X2 [.istore_n 1, .iload_n 1] 6 (by decide +kernel) rfl ?_
  refine z_cS hX m_X2_isKind l_X2_53 p_X2_isKind (c_X2_isKind hr) rfl rfl rfl rfl (by decide +kernel) ?_
  refine z_if_ne hX (off := 5) 14 (by decide +kernel) (by decide) (by have := iknd_i (inx t n p); exact ⟨by omega, by omega⟩) (fun c9 => ?_) (fun c9 => ?_)
  · refine z_b hX fo_X2 [.aload_n 0, .dup, .getfield 35, .iconst 1, .iadd, .putfield 35] 24 (by decide +kernel) rfl ?_
    dsimp only
    rw [zup_icu h5]
    have hpn := iknd_n c9
    by_cases hu : (inx t n p) = 117
    · refine z_b hX fo_X2 [.iload_n 1, .bipush 117] 27 (by decide +kernel) rfl ?_
      refine z_ic_ne hX (off := 7) 34 (by decide +kernel) (by decide) ⟨by omega, by omega⟩ ⟨by omega, by omega⟩ (fun c27 => by exact absurd hu c27) (fun c27 => ?_)
      refine z_b hX fo_X2 [.iconst 0] 31 (by decide +kernel) rfl ?_
      refine z_goto hX (off := 11) 42 (by decide +kernel) (by decide) ?_
      refine z_b hX fo_X2 [.istore_n 2, .iload_n 2, .iconst (-1)] 45 (by decide +kernel) rfl ?_
      refine z_ic_ne hX (off := 5) 50 (by decide +kernel) (by decide) ⟨by decide, by decide⟩ ⟨by decide, by decide⟩ (fun c45 => ?_) (fun c45 => by exact absurd c45 (by decide))
      refine z_b hX fo_X2 [.iload_n 1] 51 (by decide +kernel) rfl ?_
      refine z_cS hX m_X2_linkOf l_X2_64 p_X2_linkOf (c_X2_linkOf hr) rfl rfl rfl rfl (by decide +kernel) ?_
      refine z_b hX fo_X2 [.istore_n 3, .iload_n 3] 56 (by decide +kernel) rfl ?_
      refine z_if_ne hX (off := 12) 68 (by decide +kernel) (by decide) (by have := ilnk_i (inx t n p); exact ⟨by omega, by omega⟩) (fun c56 => by rw [hu] at c56; exact absurd c56 (by decide)) (fun c56 => ?_)
      refine z_b hX fo_X2 [.aload_n 0, .iload_n 1, .iload_n 2, .iconst 0] 63 (by decide +kernel) rfl ?_
      refine z_cV0 hX m_X2_keep l_X2_68 p_X2_keep (c_X2_keep (σ := icu σ (p + 1)) (q := q) ((icu_o σ (p + 1) (by decide)).trans h6) (by omega) hr) rfl rfl rfl rfl rfl rfl (by decide +kernel) ?_
      refine z_b hX fo_X2 [.iconst 1] 67 (by decide +kernel) rfl ?_
      exact z_zret hX hR (by decide +kernel) (by decide +kernel) ⟨by rw [show iord t n p = (some ((inx t n p), 0, 0), p + 1) from (if_neg c9).trans (if_pos hu)]; rfl, by rw [show iord t n p = (some ((inx t n p), 0, 0), p + 1) from (if_neg c9).trans (if_pos hu)]; rfl⟩
    · refine z_b hX fo_X2 [.iload_n 1, .bipush 117] 27 (by decide +kernel) rfl ?_
      refine z_ic_ne hX (off := 7) 34 (by decide +kernel) (by decide) ⟨by omega, by omega⟩ ⟨by omega, by omega⟩ (fun c27 => ?_) (fun c27 => by exact absurd c27 hu)
      refine z_b hX fo_X2 [.aload_n 0, .iload_n 1] 36 (by decide +kernel) rfl ?_
      refine z_cS hX m_X2_firstDigits l_X2_56 p_X2_firstDigits (c_X2_firstDigits hr) rfl rfl rfl rfl (by decide +kernel) ?_
      refine z_cV hX m_X2_takeNumber l_X2_60 p_X2_takeNumber (c_X2_takeNumber (σ := icu σ (p + 1)) (icu_p σ (p + 1)) ((icu_o σ (p + 1) (by decide)).trans h4) ((icu_n σ (p + 1) (by decide)).trans h16) hn (by omega) ht (k := ifd (inx t n p)) (ifd_2 _)) rfl rfl rfl rfl rfl rfl (by decide +kernel) ?_
      rw [icu_icu]
      refine z_b hX fo_X2 [.istore_n 2, .iload_n 2, .iconst (-1)] 45 (by decide +kernel) rfl ?_
      refine z_ic_ne hX (off := 5) 50 (by decide +kernel) (by decide) (by have := inum_v (t := t) (n := n) (p := p + 1) (ifd_2 (inx t n p)); exact ⟨by omega, by omega⟩) ⟨by decide, by decide⟩ (fun c45 => ?_) (fun c45 => ?_)
      · refine z_b hX fo_X2 [.iload_n 1] 51 (by decide +kernel) rfl ?_
        refine z_cS hX m_X2_linkOf l_X2_64 p_X2_linkOf (c_X2_linkOf hr) rfl rfl rfl rfl (by decide +kernel) ?_
        refine z_b hX fo_X2 [.istore_n 3, .iload_n 3] 56 (by decide +kernel) rfl ?_
        refine z_if_ne hX (off := 12) 68 (by decide +kernel) (by decide) (by have := ilnk_i (inx t n p); exact ⟨by omega, by omega⟩) (fun c56 => ?_) (fun c56 => ?_)
        · have hb1 := inum_q (t := t) (n := n) (ifd (inx t n p)) (p + 1) (-1)
          have hb2 := ifd_2 (inx t n p)
          by_cases hw : inx t n (inum t n (ifd (inx t n p)) (p + 1) (-1)).2 = ilnk (inx t n p)
          · refine z_b hX fo_X2 [.aload_n 0, .iload_n 3] 70 (by decide +kernel) rfl ?_
            refine z_cV hX m_X2_take l_X2_45 p_X2_take (c_take1 (σ := icu σ (inum t n (ifd (inx t n p)) (p + 1) (-1)).2) (icu_p σ (inum t n (ifd (inx t n p)) (p + 1) (-1)).2) ((icu_o σ (inum t n (ifd (inx t n p)) (p + 1) (-1)).2 (by decide)).trans h4) ((icu_n σ (inum t n (ifd (inx t n p)) (p + 1) (-1)).2 (by decide)).trans h16) hn (by omega) ht (ilnk_i _) hw) rfl rfl rfl rfl rfl rfl (by decide +kernel) ?_
            rw [icu_icu]
            refine z_if_eq hX (off := 14) 87 (by decide +kernel) (by decide) ⟨by decide, by decide⟩ (fun c73 => by exact absurd c73 (by decide)) (fun c73 => ?_)
            refine z_b hX fo_X2 [.aload_n 0, .iload_n 1] 78 (by decide +kernel) rfl ?_
            refine z_cS hX m_X2_secondDigits l_X2_72 p_X2_secondDigits (c_X2_secondDigits hr) rfl rfl rfl rfl (by decide +kernel) ?_
            refine z_cV hX m_X2_takeNumber l_X2_60 p_X2_takeNumber (c_X2_takeNumber (σ := icu σ ((inum t n (ifd (inx t n p)) (p + 1) (-1)).2 + 1)) (icu_p σ ((inum t n (ifd (inx t n p)) (p + 1) (-1)).2 + 1)) ((icu_o σ ((inum t n (ifd (inx t n p)) (p + 1) (-1)).2 + 1) (by decide)).trans h4) ((icu_n σ ((inum t n (ifd (inx t n p)) (p + 1) (-1)).2 + 1) (by decide)).trans h16) hn (by omega) ht (k := isd (inx t n p)) (isd_2 _)) rfl rfl rfl rfl rfl rfl (by decide +kernel) ?_
            rw [icu_icu]
            refine z_goto hX (off := 4) 88 (by decide +kernel) (by decide) ?_
            refine z_b hX fo_X2 [.istore 4, .iload 4, .iconst (-1)] 93 (by decide +kernel) rfl ?_
            refine z_ic_ne hX (off := 5) 98 (by decide +kernel) (by decide) (by have := inum_v (t := t) (n := n) (p := (inum t n (ifd (inx t n p)) (p + 1) (-1)).2 + 1) (isd_2 (inx t n p)); exact ⟨by omega, by omega⟩) ⟨by decide, by decide⟩ (fun c93 => ?_) (fun c93 => ?_)
            · refine z_b hX fo_X2 [.aload_n 0, .iload_n 1, .iload_n 2, .iload 4] 103 (by decide +kernel) rfl ?_
              refine z_cV0 hX m_X2_keep l_X2_68 p_X2_keep (c_X2_keep (σ := icu σ (inum t n (isd (inx t n p)) ((inum t n (ifd (inx t n p)) (p + 1) (-1)).2 + 1) (-1)).2) (q := q) ((icu_o σ (inum t n (isd (inx t n p)) ((inum t n (ifd (inx t n p)) (p + 1) (-1)).2 + 1) (-1)).2 (by decide)).trans h6) (by omega) hr) rfl rfl rfl rfl rfl rfl (by decide +kernel) ?_
              refine z_b hX fo_X2 [.iconst 1] 107 (by decide +kernel) rfl ?_
              exact z_zret hX hR (by decide +kernel) (by decide +kernel) ⟨by rw [show iord t n p = (some ((inx t n p), (inum t n (ifd (inx t n p)) (p + 1) (-1)).1, (inum t n (isd (inx t n p)) ((inum t n (ifd (inx t n p)) (p + 1) (-1)).2 + 1) (-1)).1), (inum t n (isd (inx t n p)) ((inum t n (ifd (inx t n p)) (p + 1) (-1)).2 + 1) (-1)).2) from (if_neg c9).trans ((if_neg hu).trans ((if_neg c45).trans ((if_neg c56).trans ((if_pos hw).trans (if_neg c93)))))]; rfl, by rw [show iord t n p = (some ((inx t n p), (inum t n (ifd (inx t n p)) (p + 1) (-1)).1, (inum t n (isd (inx t n p)) ((inum t n (ifd (inx t n p)) (p + 1) (-1)).2 + 1) (-1)).1), (inum t n (isd (inx t n p)) ((inum t n (ifd (inx t n p)) (p + 1) (-1)).2 + 1) (-1)).2) from (if_neg c9).trans ((if_neg hu).trans ((if_neg c45).trans ((if_neg c56).trans ((if_pos hw).trans (if_neg c93)))))]; rfl⟩
            · refine z_b hX fo_X2 [.iconst 0] 97 (by decide +kernel) rfl ?_
              exact z_zret hX hR (by decide +kernel) (by decide +kernel) ⟨by rw [show iord t n p = (none, (inum t n (isd (inx t n p)) ((inum t n (ifd (inx t n p)) (p + 1) (-1)).2 + 1) (-1)).2) from (if_neg c9).trans ((if_neg hu).trans ((if_neg c45).trans ((if_neg c56).trans ((if_pos hw).trans (if_pos c93)))))]; rfl, by rw [show iord t n p = (none, (inum t n (isd (inx t n p)) ((inum t n (ifd (inx t n p)) (p + 1) (-1)).2 + 1) (-1)).2) from (if_neg c9).trans ((if_neg hu).trans ((if_neg c45).trans ((if_neg c56).trans ((if_pos hw).trans (if_pos c93)))))]; rfl⟩
          · refine z_b hX fo_X2 [.aload_n 0, .iload_n 3] 70 (by decide +kernel) rfl ?_
            refine z_cV hX m_X2_take l_X2_45 p_X2_take (c_take0 (σ := icu σ (inum t n (ifd (inx t n p)) (p + 1) (-1)).2) (icu_p σ (inum t n (ifd (inx t n p)) (p + 1) (-1)).2) ((icu_o σ (inum t n (ifd (inx t n p)) (p + 1) (-1)).2 (by decide)).trans h4) ((icu_n σ (inum t n (ifd (inx t n p)) (p + 1) (-1)).2 (by decide)).trans h16) hn (by omega) ht (ilnk_i _) hw) rfl rfl rfl rfl rfl rfl (by decide +kernel) ?_
            refine z_if_eq hX (off := 14) 87 (by decide +kernel) (by decide) ⟨by decide, by decide⟩ (fun c73 => ?_) (fun c73 => by exact absurd c73 (by decide))
            refine z_b hX fo_X2 [.iconst (-1), .istore 4, .iload 4, .iconst (-1)] 93 (by decide +kernel) rfl ?_
            refine z_ic_ne hX (off := 5) 98 (by decide +kernel) (by decide) ⟨by decide, by decide⟩ ⟨by decide, by decide⟩ (fun c93 => by exact absurd c93 (by decide)) (fun c93 => ?_)
            refine z_b hX fo_X2 [.iconst 0] 97 (by decide +kernel) rfl ?_
            exact z_zret hX hR (by decide +kernel) (by decide +kernel) ⟨by rw [show iord t n p = (none, (inum t n (ifd (inx t n p)) (p + 1) (-1)).2) from (if_neg c9).trans ((if_neg hu).trans ((if_neg c45).trans ((if_neg c56).trans (if_neg hw))))]; rfl, by rw [show iord t n p = (none, (inum t n (ifd (inx t n p)) (p + 1) (-1)).2) from (if_neg c9).trans ((if_neg hu).trans ((if_neg c45).trans ((if_neg c56).trans (if_neg hw))))]; rfl⟩
        · refine z_b hX fo_X2 [.aload_n 0, .iload_n 1, .iload_n 2, .iconst 0] 63 (by decide +kernel) rfl ?_
          refine z_cV0 hX m_X2_keep l_X2_68 p_X2_keep (c_X2_keep (σ := icu σ (inum t n (ifd (inx t n p)) (p + 1) (-1)).2) (q := q) ((icu_o σ (inum t n (ifd (inx t n p)) (p + 1) (-1)).2 (by decide)).trans h6) (by omega) hr) rfl rfl rfl rfl rfl rfl (by decide +kernel) ?_
          refine z_b hX fo_X2 [.iconst 1] 67 (by decide +kernel) rfl ?_
          exact z_zret hX hR (by decide +kernel) (by decide +kernel) ⟨by rw [show iord t n p = (some ((inx t n p), (inum t n (ifd (inx t n p)) (p + 1) (-1)).1, 0), (inum t n (ifd (inx t n p)) (p + 1) (-1)).2) from (if_neg c9).trans ((if_neg hu).trans ((if_neg c45).trans (if_pos c56)))]; rfl, by rw [show iord t n p = (some ((inx t n p), (inum t n (ifd (inx t n p)) (p + 1) (-1)).1, 0), (inum t n (ifd (inx t n p)) (p + 1) (-1)).2) from (if_neg c9).trans ((if_neg hu).trans ((if_neg c45).trans (if_pos c56)))]; rfl⟩
      · refine z_b hX fo_X2 [.iconst 0] 49 (by decide +kernel) rfl ?_
        exact z_zret hX hR (by decide +kernel) (by decide +kernel) ⟨by rw [show iord t n p = (none, (inum t n (ifd (inx t n p)) (p + 1) (-1)).2) from (if_neg c9).trans ((if_neg hu).trans (if_pos c45))]; rfl, by rw [show iord t n p = (none, (inum t n (ifd (inx t n p)) (p + 1) (-1)).2) from (if_neg c9).trans ((if_neg hu).trans (if_pos c45))]; rfl⟩
  · refine z_b hX fo_X2 [.iconst 0] 13 (by decide +kernel) rfl ?_
    exact z_zret hX hR (by decide +kernel) (by decide +kernel) ⟨by rw [show iord t n p = (none, p) from if_pos c9]; rfl, by rw [show iord t n p = (none, p) from if_pos c9]; exact congrArg (fun s => (s, l)) (icu_id h5).symm⟩
/-- a whole text from p on, at most so many orders: well, the cursor at its end, what was kept -/
def ipr (t : Nat → Int) (n : Nat) : Nat → Nat → Bool × Nat × List (Int × Int × Int)
  | 0, p => (false, p, [])
  | m + 1, p => match iord t n p with
    | (none, p2) => (false, p2, [])
    | (some o, p2) => if n ≤ p2 then (true, p2, [o]) else if inx t n p2 = 59 then ((ipr t n m (p2 + 1)).1, (ipr t n m (p2 + 1)).2.1, o :: (ipr t n m (p2 + 1)).2.2) else (false, p2, [o])
def ilay : Nat → List (Int × Int × Int) → (Nat → Nat → Int) → Nat → Nat → Int
  | _, [], σ => σ
  | q, o :: r, σ => ilay (q + 1) r (ikp q o σ)
section IPR
variable {t : Nat → Int} {n m p p2 q : Nat} {o : Int × Int × Int} {σ : Nat → Nat → Int}
theorem ipr_none (h : iord t n p = (none, p2)) : ipr t n (m + 1) p = (false, p2, []) := by
  show (match iord t n p with | (none, p2) => _ | (some o, p2) => _) = _
  rw [h]
theorem ipr_end (h : iord t n p = (some o, p2)) (h2 : n ≤ p2) : ipr t n (m + 1) p = (true, p2, [o]) := by
  show (match iord t n p with | (none, p2) => _ | (some o, p2) => _) = _
  rw [h]; exact if_pos h2
theorem ipr_stop (h : iord t n p = (some o, p2)) (h2 : ¬ n ≤ p2) (h3 : inx t n p2 ≠ 59) : ipr t n (m + 1) p = (false, p2, [o]) := by
  show (match iord t n p with | (none, p2) => _ | (some o, p2) => _) = _
  rw [h]; exact (if_neg h2).trans (if_neg h3)
theorem ipr_go (h : iord t n p = (some o, p2)) (h2 : ¬ n ≤ p2) (h3 : inx t n p2 = 59) : ipr t n (m + 1) p = ((ipr t n m (p2 + 1)).1, (ipr t n m (p2 + 1)).2.1, o :: (ipr t n m (p2 + 1)).2.2) := by
  show (match iord t n p with | (none, p2) => _ | (some o, p2) => _) = _
  rw [h]; exact (if_neg h2).trans (if_pos h3)
theorem iord_q (h : iord t n p = (some o, p2)) : p + 1 ≤ p2 ∧ p2 ≤ p + 6 ∧ p < n := by
  unfold iord at h
  split at h
  · cases h
  · rename_i hk
    have hpn := iknd_n hk
    split at h
    · cases h; exact ⟨by omega, by omega, hpn⟩
    · have h1 := inum_q (t := t) (n := n) (ifd (inx t n p)) (p + 1) (-1)
      have h2 := ifd_2 (inx t n p)
      unfold ior1 at h
      split at h
      · cases h
      · split at h
        · cases h; exact ⟨by omega, by omega, hpn⟩
        · split at h
          · have h3 := inum_q (t := t) (n := n) (isd (inx t n p)) ((inum t n (ifd (inx t n p)) (p + 1) (-1)).2 + 1) (-1)
            have h4 := isd_2 (inx t n p)
            unfold ior2 at h
            split at h
            · cases h
            · cases h; exact ⟨by omega, by omega, hpn⟩
          · cases h
theorem ikp_15 {i : Nat} (h : i ≠ 6) : ikp q o σ 15 i = σ 15 i := by unfold ikp; rw [zs_eq, vne h]
theorem ikp_6 : ikp q o σ 15 6 = ((q + 1 : Nat) : Int) := by unfold ikp; rw [zs_eq]; simp [va_up]
theorem ikp_o {k : Nat} (h1 : k ≠ 15) (h2 : k ≠ 17) (h3 : k ≠ 18) (h4 : k ≠ 19) : ikp q o σ k = σ k := by unfold ikp; rw [zs_ne h1, zs_ne h4, zs_ne h3, zs_ne h2]
theorem va_comm {c : Nat → Int} {i j : Nat} {v w : Int} (h : i ≠ j) : va_up (va_up c i v) j w = va_up (va_up c j w) i v := by
  funext k
  simp only [va_up]
  by_cases h1 : k = j
  · subst h1; rw [if_pos rfl, if_neg (Ne.symm h), if_pos rfl]
  · rw [if_neg h1, if_neg h1]
theorem ikp_icu : ikp q o (icu σ p) = icu (ikp q o σ) p := by
  unfold ikp icu
  rw [zs_ne (show 17 ≠ 15 by decide), zs_ne (show 18 ≠ 15 by decide), zs_ne (show 19 ≠ 15 by decide), zs_eq, zs_eq, zs_zs]
  rw [zs_comm (show 15 ≠ 17 by decide), zs_comm (show 15 ≠ 18 by decide), zs_comm (show 15 ≠ 19 by decide), zs_zs, va_comm (by decide)]
theorem ilay_icu : ∀ (L : List (Int × Int × Int)) (q p e : Nat) (σ : Nat → Nat → Int), icu (ilay q L (icu σ p)) e = icu (ilay q L σ) e
  | [], q, p, e, σ => icu_icu σ p e
  | o :: r, q, p, e, σ => by
    show icu (ilay (q + 1) r (ikp q o (icu σ p))) e = icu (ilay (q + 1) r (ikp q o σ)) e
    rw [ikp_icu, ilay_icu r]
def ib1 (b : Bool) : Int := match b with
  | true => 1
  | false => 0
end IPR
set_option maxHeartbeats 1000000 in
theorem c_X2_isText {E : zE} {t : Nat → Int} {n : Nat} {σ : Nat → Nat → Int} {l : (Nat → Int64) × (Nat → UInt64)} (h5 : σ 15 5 = (0 : Nat)) (h4 : σ 15 4 = (n : Int)) (h16 : σ 16 = t) (h6 : σ 15 6 = (0 : Nat)) (hn : n ≤ 60) (ht : iT t n) : Rv E yX2_isText (Cond.code yX2_isText cX2_isText 2 (Option.some FieldType.boolean)) 6 [vr 15] ((σ, l)) (vi (ib1 (ipr t n 61 0).1)) ((icu (ilay 0 (ipr t n 61 0).2.2 σ) (ipr t n 61 0).2.1, l)) := by
  refine Ctr_of (own := RX2) (by decide +kernel) rfl rfl (fun Y hX hR hnx => ?_)
  refine z_b hX fo_X2 [.iconst 0, .istore_n 1] 2 (by decide +kernel) rfl ?_
  have loop : ∀ (m : Nat) (i p q : Nat) (x : Int) (σ1 : Nat → Nat → Int), x = (i : Int) → i + m = 61 → σ1 15 5 = (p : Int) → σ1 15 4 = (n : Int) → σ1 16 = t → σ1 15 6 = (q : Int) → 2 * q ≤ p → p ≤ 60 → (ipr t n 61 0).1 = (ipr t n m p).1 → icu (ilay 0 (ipr t n 61 0).2.2 σ) (ipr t n 61 0).2.1 = icu (ilay q (ipr t n m p).2.2 σ1) (ipr t n m p).2.1 → Z (E, Y) 0 2 [(1, vi x), (0, vr 15)] [] (σ1, l) := by
    intro m
    induction m with
    | zero =>
      intro i p q x σ1 hi hm g5 g4 g16 g6 g2 gp he hs
      refine z_b hX fo_X2 [.iload_n 1, .bipush 60] 5 (by decide +kernel) rfl ?_
      refine z_ic_gt hX (off := 42) 47 (by decide +kernel) (by decide) ⟨by omega, by omega⟩ ⟨by omega, by omega⟩ (fun c5 => ?_) (fun c5 => by exfalso; omega)
      refine z_b hX fo_X2 [.iconst 0] 48 (by decide +kernel) rfl ?_
      exact z_zret hX hR (by decide +kernel) (by decide +kernel) ⟨by rw [he]; rfl, by rw [hs]; exact congrArg (fun s => (s, l)) (icu_id g5).symm⟩
    | succ m ih =>
      intro i p q x σ1 hi hm g5 g4 g16 g6 g2 gp he hs
      refine z_b hX fo_X2 [.iload_n 1, .bipush 60] 5 (by decide +kernel) rfl ?_
      refine z_ic_gt hX (off := 42) 47 (by decide +kernel) (by decide) ⟨by omega, by omega⟩ ⟨by omega, by omega⟩ (fun c5 => by exfalso; omega) (fun c5 => ?_)
      refine z_b hX fo_X2 [.aload_n 0] 9 (by decide +kernel) rfl ?_
      refine z_cV hX m_X2_takeOrder l_X2_42 p_X2_takeOrder (c_X2_takeOrder g5 g4 g16 hn (by omega) ht g6 g2) rfl rfl rfl rfl rfl rfl (by decide +kernel) ?_
      generalize ho : iord t n p = r
      rcases r with ⟨_ | o, p2⟩
      · dsimp only [iko, io1]
        refine z_if_ne hX (off := 5) 17 (by decide +kernel) (by decide) ⟨by decide, by decide⟩ (fun c12 => by exact absurd c12 (by decide)) (fun c12 => ?_)
        refine z_b hX fo_X2 [.iconst 0] 16 (by decide +kernel) rfl ?_
        exact z_zret hX hR (by decide +kernel) (by decide +kernel) ⟨by rw [he, ipr_none ho]; rfl, by rw [hs, ipr_none ho]; rfl⟩
      · have hq2 := iord_q ho
        dsimp only [iko, io1]
        refine z_if_ne hX (off := 5) 17 (by decide +kernel) (by decide) ⟨by decide, by decide⟩ (fun c12 => ?_) (fun c12 => by exact absurd c12 (by decide))
        refine z_b hX fo_X2 [.aload_n 0, .getfield 35, .aload_n 0, .getfield 29] 25 (by decide +kernel) rfl ?_
        dsimp only
        rw [ikp_15 (by decide), ikp_15 (by decide), icu_p, icu_o _ _ (by decide), g4]
        refine z_ic_lt hX (off := 5) 30 (by decide +kernel) (by decide) ⟨by omega, by omega⟩ ⟨by omega, by omega⟩ (fun c25 => ?_) (fun c25 => ?_)
        · by_cases hw : inx t n p2 = 59
          · refine z_b hX fo_X2 [.aload_n 0, .bipush 59] 33 (by decide +kernel) rfl ?_
            refine z_cV hX m_X2_take l_X2_45 p_X2_take (c_take1 (σ := (ikp q o (icu σ1 p2))) ((ikp_15 (by decide)).trans (icu_p σ1 p2)) ((ikp_15 (by decide)).trans ((icu_o σ1 p2 (by decide)).trans g4)) ((ikp_o (by decide) (by decide) (by decide) (by decide)).trans ((icu_n σ1 p2 (by decide)).trans g16)) hn (by omega) ht ⟨by decide, by decide⟩ hw) rfl rfl rfl rfl rfl rfl (by decide +kernel) ?_
            refine z_if_ne hX (off := 5) 41 (by decide +kernel) (by decide) ⟨by decide, by decide⟩ (fun c36 => ?_) (fun c36 => by exact absurd c36 (by decide))
            refine z_b hX fo_X2 [.iinc 1 1] 44 (by decide +kernel) rfl ?_
            refine z_goto hX (off := (-42)) 2 (by decide +kernel) (by decide) ?_
            try dsimp only
            have e := ipr_go (m := m) ho (by omega) hw
            refine ih (i + 1) (p2 + 1) (q + 1) _ _ (by omega) (by omega) (icu_p _ _) ?_ ?_ ?_ (by omega) (by omega) (by rw [he, e]) ?_
            · rw [icu_o _ _ (by decide), ikp_15 (by decide), icu_o _ _ (by decide)]; exact g4
            · rw [icu_n _ _ (by decide), ikp_o (by decide) (by decide) (by decide) (by decide), icu_n _ _ (by decide)]; exact g16
            · rw [icu_o _ _ (by decide)]; exact ikp_6
            · rw [hs, e, ilay_icu, ikp_icu, ilay_icu]; rfl
          · refine z_b hX fo_X2 [.aload_n 0, .bipush 59] 33 (by decide +kernel) rfl ?_
            refine z_cV hX m_X2_take l_X2_45 p_X2_take (c_take0 (σ := (ikp q o (icu σ1 p2))) ((ikp_15 (by decide)).trans (icu_p σ1 p2)) ((ikp_15 (by decide)).trans ((icu_o σ1 p2 (by decide)).trans g4)) ((ikp_o (by decide) (by decide) (by decide) (by decide)).trans ((icu_n σ1 p2 (by decide)).trans g16)) hn (by omega) ht ⟨by decide, by decide⟩ hw) rfl rfl rfl rfl rfl rfl (by decide +kernel) ?_
            refine z_if_ne hX (off := 5) 41 (by decide +kernel) (by decide) ⟨by decide, by decide⟩ (fun c36 => by exact absurd c36 (by decide)) (fun c36 => ?_)
            refine z_b hX fo_X2 [.iconst 0] 40 (by decide +kernel) rfl ?_
            exact z_zret hX hR (by decide +kernel) (by decide +kernel) ⟨by rw [he, ipr_stop ho (by omega) hw]; rfl, by rw [hs, ipr_stop ho (by omega) hw]; exact congrArg (fun s => (s, l)) ikp_icu⟩
        · refine z_b hX fo_X2 [.iconst 1] 29 (by decide +kernel) rfl ?_
          exact z_zret hX hR (by decide +kernel) (by decide +kernel) ⟨by rw [he, ipr_end ho (by omega)]; rfl, by rw [hs, ipr_end ho (by omega)]; exact congrArg (fun s => (s, l)) ikp_icu⟩
  exact loop 61 0 0 0 0 σ rfl rfl h5 h4 h16 h6 (by omega) (by omega) rfl rfl
def izr (σ : Nat → Nat → Int) : Nat → Nat → Int := zs σ 15 (va_up (va_up (σ 15) 5 0) 6 0)
/-- what parsing makes of the input -/
def ipz (σ : Nat → Nat → Int) (t : Nat → Int) (n : Nat) : Nat → Nat → Int := zup (zup (icu (ilay 0 (ipr t n 61 0).2.2 (izr σ)) (ipr t n 61 0).2.1) 15 7 (if (ipr t n 61 0).1 = true then -1 else ((ipr t n 61 0).2.1 : Int))) 15 4 0
theorem izr_eq {σ : Nat → Nat → Int} : zup (zup σ 15 5 0) 15 6 0 = izr σ := by
  unfold izr; rw [zup_zs, zup_zs, zs_zs, zs_eq]
theorem ib1_t {b : Bool} (h : ib1 b ≠ 0) : b = true := by cases b with
  | true => rfl
  | false => exact absurd rfl h
theorem ib1_f {b : Bool} (h : ib1 b = 0) : ¬ b = true := by cases b with
  | true => exact absurd h (by decide)
  | false => decide
theorem ib1_i (b : Bool) : ib1 b = 0 ∨ ib1 b = 1 := by cases b <;> simp [ib1]
set_option maxHeartbeats 1000000 in
theorem c_X2_parse {E : zE} {t : Nat → Int} {n : Nat} {σ : Nat → Nat → Int} {l : (Nat → Int64) × (Nat → UInt64)} (h4 : σ 15 4 = (n : Int)) (h16 : σ 16 = t) (hn : n ≤ 60) (ht : iT t n) : Rn E yX2_parse (Cond.code yX2_parse cX2_parse 1 (Option.none : Option FieldType)) 7 [vr 15] ((σ, l)) ((ipz σ t n, l)) := by
  refine Ctr_of (own := RX2) (by decide +kernel) rfl rfl (fun Y hX hR hnx => ?_)
  refine z_b hX fo_X2 [.aload_n 0, .iconst 0, .putfield 35, .aload_n 0, .iconst 0, .putfield 32, .aload_n 0, .aload_n 0] 12 (by decide +kernel) rfl ?_
  dsimp only
  rw [izr_eq]
  refine z_cV hX m_X2_isText l_X2_38 p_X2_isText (c_X2_isText (σ := izr σ) (t := t) (n := n) rfl (by unfold izr; rw [zs_eq, vne (by decide), vne (by decide)]; exact h4) (by unfold izr; rw [zs_ne (by decide)]; exact h16) rfl hn ht) rfl rfl rfl rfl rfl rfl (by decide +kernel) ?_
  refine z_if_eq hX (off := 7) 22 (by decide +kernel) (by decide) (by have := ib1_i (ipr t n 61 0).1; exact ⟨by omega, by omega⟩) (fun c15 => ?_) (fun c15 => ?_)
  · refine z_b hX fo_X2 [.aload_n 0, .getfield 35] 26 (by decide +kernel) rfl ?_
    try (dsimp only; rw [icu_p])
    refine z_b hX fo_X2 [.putfield 25, .aload_n 0, .iconst 0, .putfield 29] 34 (by decide +kernel) rfl ?_
    exact z_vret hX hR (by decide +kernel) ⟨rfl, by dsimp only; unfold ipz; first | rw [if_pos (ib1_t c15)] | rw [if_neg (ib1_f c15)]⟩
  · refine z_b hX fo_X2 [.iconst (-1)] 19 (by decide +kernel) rfl ?_
    refine z_goto hX (off := 7) 26 (by decide +kernel) (by decide) ?_
    try (dsimp only; rw [icu_p])
    refine z_b hX fo_X2 [.putfield 25, .aload_n 0, .iconst 0, .putfield 29] 34 (by decide +kernel) rfl ?_
    exact z_vret hX hR (by decide +kernel) ⟨rfl, by dsimp only; unfold ipz; first | rw [if_pos (ib1_t c15)] | rw [if_neg (ib1_f c15)]⟩
set_option maxHeartbeats 1000000 in
theorem c_X2_isFull {E : zE} {n : Nat} {σ : Nat → Nat → Int} {l : (Nat → Int64) × (Nat → UInt64)} (h4 : σ 15 4 = (n : Int)) (hn : n ≤ 60) : Rv E yX2_isFull (Cond.code yX2_isFull cX2_isFull 1 (Option.some FieldType.boolean)) 0 [vr 15] ((σ, l)) (vi (if 60 ≤ n then 1 else 0)) ((σ, l)) := by
  refine Ctr_of (own := RX2) (by decide +kernel) rfl rfl (fun Y hX hR hnx => ?_)
  refine z_b hX fo_X2 [.aload_n 0, .getfield 29, .aload_n 0, .getfield 9] 8 (by decide +kernel) rfl ?_
  refine z_alen hX rfl (by decide +kernel) ?_
  dsimp only
  rw [h4]
  refine z_ic_lt hX (off := 7) 16 (by decide +kernel) (by decide) ⟨by omega, by omega⟩ ⟨by omega, by omega⟩ (fun c9 => ?_) (fun c9 => ?_)
  · refine z_b hX fo_X2 [.iconst 0] 17 (by decide +kernel) rfl ?_
    exact z_zret hX hR (by decide +kernel) (by decide +kernel) ⟨by first | rw [if_pos (by omega)] | rw [if_neg (by omega)], rfl⟩
  · refine z_b hX fo_X2 [.iconst 1] 13 (by decide +kernel) rfl ?_
    refine z_goto hX (off := 4) 17 (by decide +kernel) (by decide) ?_
    exact z_zret hX hR (by decide +kernel) (by decide +kernel) ⟨by first | rw [if_pos (by omega)] | rw [if_neg (by omega)], rfl⟩
set_option maxHeartbeats 1000000 in
theorem c_X2_add {E : zE} {n : Nat} {x : Int} {σ : Nat → Nat → Int} {l : (Nat → Int64) × (Nat → UInt64)} (h4 : σ 15 4 = (n : Int)) (hn : n < 60) (hx : 0 ≤ x ∧ x ≤ 65535) : Rv E yX2_add (Cond.code yX2_add cX2_add 2 (Option.some FieldType.int)) 0 [vr 15, vi x] ((σ, l)) (vi ((n : Int) + 1)) ((zs (zs σ 16 (va_up (σ 16) n x)) 15 (va_up (σ 15) 4 ((n : Int) + 1)), l)) := by
  refine Ctr_of (own := RX2) (by decide +kernel) rfl rfl (fun Y hX hR hnx => ?_)
  refine z_b hX fo_X2 [.aload_n 0, .getfield 29] 4 (by decide +kernel) rfl ?_
  dsimp only
  rw [h4]
  refine z_if_lt hX (off := 35) 39 (by decide +kernel) (by decide) ⟨by omega, by omega⟩ (fun c4 => by exfalso; omega) (fun c4 => ?_)
  refine z_b hX fo_X2 [.aload_n 0, .getfield 29, .aload_n 0, .getfield 9] 15 (by decide +kernel) rfl ?_
  refine z_alen hX rfl (by decide +kernel) ?_
  dsimp only
  rw [h4]
  refine z_ic_ge hX (off := 23) 39 (by decide +kernel) (by decide) ⟨by omega, by omega⟩ ⟨by omega, by omega⟩ (fun c16 => by exfalso; omega) (fun c16 => ?_)
  refine z_b hX fo_X2 [.aload_n 0, .getfield 9, .aload_n 0, .getfield 29, .iload_n 1] 28 (by decide +kernel) rfl ?_
  dsimp only
  rw [h4]
  refine z_cast hX (n) rfl (by omega) (by decide) (by omega) (by omega) (by decide +kernel) ?_
  refine z_b hX fo_X2 [.aload_n 0, .dup, .getfield 29, .iconst 1, .iadd, .putfield 29, .aload_n 0, .getfield 29] 43 (by decide +kernel) rfl ?_
  dsimp only
  rw [zup_zs, zup_zs, zs_ne (show 15 ≠ 16 by decide), h4]
  exact z_iret hX hR (by decide +kernel) ⟨by rw [zs_eq]; simp [va_up], rfl⟩
