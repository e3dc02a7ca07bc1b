/-! ===== String.indexOf on the one text that isKind asks ===== -/
def RJ0 : String := "java/lang/String"
def RJ1 : String := "java/lang/StringLatin1"
abbrev cJ0_length_8abf5 : ByteArray := prog_26_method_54_code
def yJ0_length_8abf5 : MethodName := ⟨RJ0, "length", "()I"⟩
abbrev cJ0_indexOf_0f7a4 : ByteArray := prog_26_method_79_code
def yJ0_indexOf_0f7a4 : MethodName := ⟨RJ0, "indexOf", "(I)I"⟩
abbrev cJ0_indexOf_7cf53 : ByteArray := prog_26_method_80_code
def yJ0_indexOf_7cf53 : MethodName := ⟨RJ0, "indexOf", "(II)I"⟩
abbrev cJ0_coder_7d493 : ByteArray := prog_26_method_152_code
def yJ0_coder_7d493 : MethodName := ⟨RJ0, "coder", "()B"⟩
abbrev cJ0_isLatin1_aae02 : ByteArray := prog_26_method_154_code
def yJ0_isLatin1_aae02 : MethodName := ⟨RJ0, "isLatin1", "()Z"⟩
abbrev cJ1_canEncode_9a6ad : ByteArray := prog_27_method_4_code
def yJ1_canEncode_9a6ad : MethodName := ⟨RJ1, "canEncode", "(I)Z"⟩
abbrev cJ1_indexOf_4cfef : ByteArray := prog_27_method_22_code
def yJ1_indexOf_4cfef : MethodName := ⟨RJ1, "indexOf", "([BIII)I"⟩
abbrev cJ1_indexOfChar_4cfef : ByteArray := prog_27_method_23_code
def yJ1_indexOfChar_4cfef : MethodName := ⟨RJ1, "indexOfChar", "([BIII)I"⟩
theorem m_J0_length_8abf5 : MV yJ0_length_8abf5 (Cond.code yJ0_length_8abf5 cJ0_length_8abf5 1 (Option.some FieldType.int)) RJ0 := ⟨tg 903 (by decide +kernel) (by decide +kernel), tg 901 (by decide +kernel) (by decide +kernel), tg 902 (by decide +kernel) (by decide +kernel), tg 16 (by decide +kernel) (by decide +kernel), rfl⟩
theorem p_J0_length_8abf5 : zMp yJ0_length_8abf5 0 1 := ⟨by decide +kernel, by decide +kernel, by decide +kernel, by decide⟩
theorem m_J0_indexOf_0f7a4 : MV yJ0_indexOf_0f7a4 (Cond.code yJ0_indexOf_0f7a4 cJ0_indexOf_0f7a4 2 (Option.some FieldType.int)) RJ0 := ⟨tg 889 (by decide +kernel) (by decide +kernel), tg 887 (by decide +kernel) (by decide +kernel), tg 888 (by decide +kernel) (by decide +kernel), tg 16 (by decide +kernel) (by decide +kernel), rfl⟩
theorem p_J0_indexOf_0f7a4 : zMp yJ0_indexOf_0f7a4 1 2 := ⟨by decide +kernel, by decide +kernel, by decide +kernel, by decide⟩
theorem m_J0_indexOf_7cf53 : MV yJ0_indexOf_7cf53 (Cond.code yJ0_indexOf_7cf53 cJ0_indexOf_7cf53 3 (Option.some FieldType.int)) RJ0 := ⟨tg 893 (by decide +kernel) (by decide +kernel), tg 891 (by decide +kernel) (by decide +kernel), tg 892 (by decide +kernel) (by decide +kernel), tg 16 (by decide +kernel) (by decide +kernel), rfl⟩
theorem p_J0_indexOf_7cf53 : zMp yJ0_indexOf_7cf53 2 3 := ⟨by decide +kernel, by decide +kernel, by decide +kernel, by decide⟩
theorem m_J0_coder_7d493 : MV yJ0_coder_7d493 (Cond.code yJ0_coder_7d493 cJ0_coder_7d493 1 (Option.some FieldType.byte)) RJ0 := ⟨tg 907 (by decide +kernel) (by decide +kernel), tg 905 (by decide +kernel) (by decide +kernel), tg 906 (by decide +kernel) (by decide +kernel), tg 16 (by decide +kernel) (by decide +kernel), rfl⟩
theorem p_J0_coder_7d493 : zMp yJ0_coder_7d493 0 1 := ⟨by decide +kernel, by decide +kernel, by decide +kernel, by decide⟩
theorem m_J0_isLatin1_aae02 : MV yJ0_isLatin1_aae02 (Cond.code yJ0_isLatin1_aae02 cJ0_isLatin1_aae02 1 (Option.some FieldType.boolean)) RJ0 := ⟨tg 897 (by decide +kernel) (by decide +kernel), tg 895 (by decide +kernel) (by decide +kernel), tg 896 (by decide +kernel) (by decide +kernel), tg 16 (by decide +kernel) (by decide +kernel), rfl⟩
theorem p_J0_isLatin1_aae02 : zMp yJ0_isLatin1_aae02 0 1 := ⟨by decide +kernel, by decide +kernel, by decide +kernel, by decide⟩
theorem m_J1_canEncode_9a6ad : MS yJ1_canEncode_9a6ad (Cond.code yJ1_canEncode_9a6ad cJ1_canEncode_9a6ad 1 (Option.some FieldType.boolean)) RJ1 := ⟨tg 913 (by decide +kernel) (by decide +kernel), tg 912 (by decide +kernel) (by decide +kernel), tg 22 (by decide +kernel) (by decide +kernel), rfl⟩
theorem p_J1_canEncode_9a6ad : zMp yJ1_canEncode_9a6ad 1 1 := ⟨by decide +kernel, by decide +kernel, by decide +kernel, by decide⟩
theorem m_J1_indexOf_4cfef : MS yJ1_indexOf_4cfef (Cond.code yJ1_indexOf_4cfef cJ1_indexOf_4cfef 4 (Option.some FieldType.int)) RJ1 := ⟨tg 910 (by decide +kernel) (by decide +kernel), tg 909 (by decide +kernel) (by decide +kernel), tg 22 (by decide +kernel) (by decide +kernel), rfl⟩
theorem p_J1_indexOf_4cfef : zMp yJ1_indexOf_4cfef 4 4 := ⟨by decide +kernel, by decide +kernel, by decide +kernel, by decide⟩
theorem m_J1_indexOfChar_4cfef : MS yJ1_indexOfChar_4cfef (Cond.code yJ1_indexOfChar_4cfef cJ1_indexOfChar_4cfef 6 (Option.some FieldType.int)) RJ1 := ⟨tg 918 (by decide +kernel) (by decide +kernel), tg 917 (by decide +kernel) (by decide +kernel), tg 22 (by decide +kernel) (by decide +kernel), rfl⟩
theorem p_J1_indexOfChar_4cfef : zMp yJ1_indexOfChar_4cfef 4 6 := ⟨by decide +kernel, by decide +kernel, by decide +kernel, by decide⟩
theorem lX2_77 : Cond.methodLink RX2 77 yJ0_indexOf_0f7a4 ∈ lw_good := tg 886 (by decide +kernel) (by decide +kernel)
theorem lJ0_633 : Cond.methodLink RJ0 633 yJ0_indexOf_7cf53 ∈ lw_good := tg 890 (by decide +kernel) (by decide +kernel)
theorem lJ0_492 : Cond.methodLink RJ0 492 yJ0_isLatin1_aae02 ∈ lw_good := tg 894 (by decide +kernel) (by decide +kernel)
theorem lJ0_505 : Cond.methodLink RJ0 505 yJ0_length_8abf5 ∈ lw_good := tg 900 (by decide +kernel) (by decide +kernel)
theorem lJ0_335 : Cond.methodLink RJ0 335 yJ0_coder_7d493 ∈ lw_good := tg 904 (by decide +kernel) (by decide +kernel)
theorem lJ0_637 : Cond.methodLink RJ0 637 yJ1_indexOf_4cfef ∈ lw_good := tg 908 (by decide +kernel) (by decide +kernel)
theorem lJ1_88 : Cond.methodLink RJ1 88 yJ1_canEncode_9a6ad ∈ lw_good := tg 911 (by decide +kernel) (by decide +kernel)
theorem lJ1_95 : Cond.methodLink RJ1 95 yJ1_indexOfChar_4cfef ∈ lw_good := tg 916 (by decide +kernel) (by decide +kernel)
theorem lJ1_92 : Cond.methodLink RJ1 92 Lib.Math.max.name ∈ lw_good := tg 914 (by decide +kernel) (by decide +kernel)
theorem lJ1_38 : Cond.methodLink RJ1 38 Lib.Math.min.name ∈ lw_good := tg 915 (by decide +kernel) (by decide +kernel)
def zbyt (j : Nat) : Int := ([115, 119, 107, 108, 117, 103, 112] : List Int).getD j 0
section STR
variable {X : zC} {own own' : String} {cc bytes : ByteArray} {nL d b pc maxL idx d' n : Nat} {lo : List (Nat × vV)} {sk av rest : List vV} {st st1 : zT} {y : MethodName} {ret : Option FieldType} {v : vV}
theorem zOk_y (h : zOk X own cc nL d) : zY X.1 X.2.1.2.2.2 := h.2.2.2.2.2.2.1.2.2.2.2.2.2
theorem z_ldcK (h : zOk X RX2 cc nL d) (hd : decode cc pc = .ok (.ldc 75, 2)) (k : Z X b (pc + 2) lo (vr 40 :: sk) st) : Z X b pc lo sk st :=
  fun H locs cells slots ls hP hS hc hs hl => va_ldcS h.1 h.2.1 h.2.2.2.2.1 (zOk_y h).1.2 hd (k H locs cells slots ls hP hS hc hs hl)
theorem z_getC (h : zOk X RJ0 cc nL d) (hd : decode cc pc = .ok (.getfield 15, 3)) (k : Z X b (pc + 3) lo (vi 0 :: sk) st) : Z X b pc lo (vr 40 :: sk) st :=
  fun H locs cells slots ls hP hS hc hs hl => vk_getf (ref := RJ0) (o := RJ0) (n := "coder") (d := "B") h.1 h.2.1 ((zOk_y h).1.1.1 0 (by decide)).2.1 hS h.2.2.2.2.1 (h.2.2.2.2.2.1 _ (tg 1532 (by decide +kernel) (by decide +kernel))) (fun _ z => z) hd (k H locs cells slots ls hP hS hc hs hl)
theorem z_getB (h : zOk X RJ0 cc nL d) (hd : decode cc pc = .ok (.getfield 9, 3)) (k : Z X b (pc + 3) lo (vr 41 :: sk) st) : Z X b pc lo (vr 40 :: sk) st :=
  fun H locs cells slots ls hP hS hc hs hl => vk_getf (ref := RJ0) (o := RJ0) (n := "value") (d := "[B") h.1 h.2.1 ((zOk_y h).1.1.1 0 (by decide)).2.2.1 hS h.2.2.2.2.1 (h.2.2.2.2.2.1 _ (tg 1533 (by decide +kernel) (by decide +kernel))) (fun _ z => z) hd (k H locs cells slots ls hP hS hc hs hl)
theorem z_getZ (h : zOk X RJ0 cc nL d) (hd : decode cc pc = .ok (.getstatic 38, 3)) (k : Z X b (pc + 3) lo (vi 1 :: sk) st) : Z X b pc lo sk st :=
  fun H locs cells slots ls hP hS hc hs hl => va_gets (ref := RJ0) (C := RJ0) (n := "COMPACT_STRINGS") (d := "Z") h.1 h.2.1 (zOk_y h).2 hS h.2.2.2.2.1 (h.2.2.2.2.2.1 _ (tg 898 (by decide +kernel) (by decide +kernel))) (fun _ z => z) hd (k H locs cells slots ls hP hS hc hs hl)
theorem z_lenK (h : zOk X own cc nL d) (hd : decode cc pc = .ok (.arraylength, 1)) (k : Z X b (pc + 1) lo (vi 7 :: sk) st) : Z X b pc lo (vr 41 :: sk) st :=
  fun H locs cells slots ls hP hS hc hs hl => va_tlen h.1 h.2.1 ((zOk_y h).1.1.1 0 (by decide)).2.2.2 hS (v := Int32.ofInt 7) (by decide) hd (k H locs cells slots ls hP hS hc hs hl)
theorem z_bald (h : zOk X own cc nL d) {i : Int} (j : Nat) (hj : j < 7) (hi : i = (j : Int)) (hd : decode cc pc = .ok (.baload, 1)) (k : Z X b (pc + 1) lo (vi (zbyt j) :: sk) st) : Z X b pc lo (vi i :: vr 41 :: sk) st := by
  intro H locs cells slots ls hP hS hc hs hl
  obtain ⟨h1, h2⟩ := zin hj (by decide) hi
  refine va_tb h.1 h.2.1 ((zOk_y h).1.1.1 0 (by decide)).2.2.2 hS h1 ?_ hd (k H locs cells slots ls hP hS hc hs hl)
  rw [h2]
  show Value.int (([115, 119, 107, 108, 117, 103, 112] : List Int32).getD j 0) = Value.int (Int32.ofInt (zbyt j))
  rcases (show j = 0 ∨ j = 1 ∨ j = 2 ∨ j = 3 ∨ j = 4 ∨ j = 5 ∨ j = 6 by omega) with rfl | rfl | rfl | rfl | rfl | rfl | rfl <;> rfl
theorem z_i2b (h : zOk X own cc nL d) {x y : Int} (hd : decode cc pc = .ok (.i2b, 1)) (e : (Int32.ofInt x).toInt8.toInt32 = Int32.ofInt y) (k : Z X b (pc + 1) lo (vi y :: sk) st) : Z X b pc lo (vi x :: sk) st :=
  fun H locs cells slots ls hP hS hc hs hl => lv_i2b h.1 h.2.1 hd e (k H locs cells slots ls hP hS hc hs hl)
theorem z_cK (h : zOk X own cc nL d) (hm : MV y (.code y bytes maxL ret) RJ0) (hlk : Cond.methodLink own idx y ∈ lw_good) (hp : zMp y n maxL) (hC : Rv X.1 y (.code y bytes maxL ret) d' (vr 40 :: av) st v st1) (hdd : Nat.ble (d' + 1) d = true) (hsk : sk = av.reverse ++ vr 40 :: rest) (hn : av.length = n) (hrs : Nat.ble (rest.map zcat).sum 8 = true) (hd : decode cc pc = .ok (.invokevirtual idx, 3)) (k : Z X b (pc + 3) lo (v :: rest) st1) : Z X b pc lo sk st := by
  intro H locs cells slots ls hP hS hc hs hl
  have hts := h.2.2.2.2.2.1
  have hsz : ls.size = nL := by rw [hl.1, h.2.2.2.1]
  have hrecv := vk_recv (zOk_y h).1.1 (i := 0) (by decide) hS
  refine z_after h (c' := 0) (Nat.zero_le b) hS hc hs hl (vx_runV (C := RJ0) (As := av.map (zre X.1)) (b := X.1.2.2.2.1 40) (n := n) ⟨h.1, h.2.1, h.2.2.1, h.2.2.2.2.1, hts⟩ hC ⟨z_callB h hm.1 hm.2.2.2.1 hm.2.2.2.2 hlk hp (Nat.le_of_ble_eq_true hdd), hts _ hm.2.1, hts _ hm.2.2.1⟩ ⟨zPc_blind, hrecv, z_pre (av := vr 40 :: av) h hP hS⟩ rfl (by rw [List.length_map]; exact hn) hsz ?_ (lv_room (by rw [zcats]; exact Nat.le_of_ble_eq_true hrs)) hd ⟨?_, ?_⟩) (fun v' st' q => by obtain ⟨q1, q2⟩ := q; cases q1; subst q2; exact k) (fun cls st' q => by obtain ⟨q1, -⟩ := q; cases q1)
  · show sk.map (zre X.1) = _
    rw [hsk, List.map_append, List.map_reverse]
    rfl
  · have := h.2.2.2.2.2.2.2.2.2.2.1; omega
  · have := h.2.2.2.2.2.2.2.2.2.2.2; omega
end STR
theorem zb_nar {v : Int} (h : v = 0 ∨ v = 1) : narrow .boolean (.int (Int32.ofInt v)) = .int (Int32.ofInt v) := by rcases h with rfl | rfl <;> decide +kernel
set_option maxHeartbeats 1000000 in
theorem c_J0_coder_7d493 {E : zE} {st : zT} : Rv E yJ0_coder_7d493 (Cond.code yJ0_coder_7d493 cJ0_coder_7d493 1 (Option.some FieldType.byte)) 0 [vr 40] (st) (vi 0) (st) := by
  refine Ctr_of (own := RJ0) (by decide +kernel) rfl rfl (fun Y hX hR hnx => ?_)
  refine z_getZ hX (by decide +kernel) ?_
  refine z_if_eq hX (off := 10) 13 (by decide +kernel) (by decide) ⟨by decide, by decide⟩ (fun c => absurd c (by decide)) (fun _ => ?_)
  refine z_b hX (fo_no RJ0) [.aload_n 0] 7 (by decide +kernel) rfl ?_
  refine z_getC hX (by decide +kernel) ?_
  refine z_goto hX (off := 4) 14 (by decide +kernel) (by decide) ?_
  exact z_zret hX hR (by decide +kernel) (by decide +kernel) ⟨rfl, rfl⟩
set_option maxHeartbeats 1000000 in
theorem c_J0_isLatin1_aae02 {E : zE} {st : zT} : Rv E yJ0_isLatin1_aae02 (Cond.code yJ0_isLatin1_aae02 cJ0_isLatin1_aae02 1 (Option.some FieldType.boolean)) 0 [vr 40] (st) (vi 1) (st) := by
  refine Ctr_of (own := RJ0) (by decide +kernel) rfl rfl (fun Y hX hR hnx => ?_)
  refine z_getZ hX (by decide +kernel) ?_
  refine z_if_eq hX (off := 14) 17 (by decide +kernel) (by decide) ⟨by decide, by decide⟩ (fun c => absurd c (by decide)) (fun _ => ?_)
  refine z_b hX (fo_no RJ0) [.aload_n 0] 7 (by decide +kernel) rfl ?_
  refine z_getC hX (by decide +kernel) ?_
  refine z_if_ne hX (off := 7) 17 (by decide +kernel) (by decide) ⟨by decide, by decide⟩ (fun c => absurd rfl c) (fun _ => ?_)
  refine z_b hX (fo_no RJ0) [.iconst 1] 14 (by decide +kernel) rfl ?_
  refine z_goto hX (off := 4) 18 (by decide +kernel) (by decide) ?_
  exact z_zret hX hR (by decide +kernel) (by decide +kernel) ⟨rfl, rfl⟩
set_option maxHeartbeats 1000000 in
theorem c_J0_length_8abf5 {E : zE} {st : zT} : Rv E yJ0_length_8abf5 (Cond.code yJ0_length_8abf5 cJ0_length_8abf5 1 (Option.some FieldType.int)) 1 [vr 40] (st) (vi 7) (st) := by
  refine Ctr_of (own := RJ0) (by decide +kernel) rfl rfl (fun Y hX hR hnx => ?_)
  refine z_b hX (fo_no RJ0) [.aload_n 0] 1 (by decide +kernel) rfl ?_
  refine z_getB hX (by decide +kernel) ?_
  refine z_lenK hX (by decide +kernel) ?_
  refine z_b hX (fo_no RJ0) [.aload_n 0] 6 (by decide +kernel) rfl ?_
  refine z_cK hX m_J0_coder_7d493 lJ0_335 p_J0_coder_7d493 c_J0_coder_7d493 rfl (by rfl) rfl rfl (by decide +kernel) ?_
  refine z_ishr hX (by decide +kernel) ?_
  exact z_iret hX hR (by decide +kernel) ⟨by congr 3, rfl⟩
set_option maxHeartbeats 1000000 in
theorem c_J1_canEncode_9a6ad {E : zE} {x : Int} {st : zT} (hx : 0 ≤ x ∧ x ≤ 65535) : Rv E yJ1_canEncode_9a6ad (Cond.code yJ1_canEncode_9a6ad cJ1_canEncode_9a6ad 1 (Option.some FieldType.boolean)) 0 [vi x] (st) (vi (if x ≤ 255 then 1 else 0)) (st) := by
  refine Ctr_of (own := RJ1) (by decide +kernel) rfl rfl (fun Y hX hR hnx => ?_)
  refine z_b hX (fo_no RJ1) [.iload_n 0] 1 (by decide +kernel) rfl ?_
  refine z_if_lt hX (off := 14) 15 (by decide +kernel) (by decide) ⟨by omega, by omega⟩ (fun c => by exfalso; omega) (fun _ => ?_)
  refine z_b hX (fo_no RJ1) [.iload_n 0, .sipush 255] 8 (by decide +kernel) rfl ?_
  refine z_ic_gt hX (off := 7) 15 (by decide +kernel) (by decide) ⟨by omega, by omega⟩ ⟨by decide, by decide⟩ (fun c => ?_) (fun c => ?_)
  · refine z_b hX (fo_no RJ1) [.iconst 0] 16 (by decide +kernel) rfl ?_
    exact z_zret hX hR (by decide +kernel) (by decide +kernel) ⟨by rw [if_neg (by omega)], rfl⟩
  · refine z_b hX (fo_no RJ1) [.iconst 1] 12 (by decide +kernel) rfl ?_
    refine z_goto hX (off := 4) 16 (by decide +kernel) (by decide) ?_
    exact z_zret hX hR (by decide +kernel) (by decide +kernel) ⟨by rw [if_pos (by omega)], rfl⟩
/-- the place of a byte from j on, m more to see; none: -1 -/
def zplc (y : Int) : Nat → Nat → Int
  | _, 0 => -1
  | j, m + 1 => if zbyt j = y then (j : Int) else zplc y (j + 1) m
theorem zbyt_i (j : Nat) : zi (zbyt j) := by
  unfold zbyt
  match j with
  | 0 | 1 | 2 | 3 | 4 | 5 | 6 => exact ⟨by decide, by decide⟩
  | n + 7 => show zi 0; exact zi_0
def zi8 (x : Int) : Int := if x < 128 then x else x - 256
theorem zi8_b : ∀ n : Fin 256, (Int32.ofInt ((n.val : Nat) : Int)).toInt8.toInt32 = Int32.ofInt (zi8 ((n.val : Nat) : Int)) := by decide +kernel
theorem zi8_of {x : Int} (hx : 0 ≤ x ∧ x ≤ 255) : (Int32.ofInt x).toInt8.toInt32 = Int32.ofInt (zi8 x) := by
  have h := zi8_b ⟨x.toNat, by omega⟩
  have e : ((x.toNat : Nat) : Int) = x := by omega
  dsimp only at h
  rw [e] at h
  exact h
set_option maxHeartbeats 1000000 in
theorem c_J1_indexOfChar_4cfef {E : zE} {x : Int} {st : zT} (hx : 0 ≤ x ∧ x ≤ 255) : Rv E yJ1_indexOfChar_4cfef (Cond.code yJ1_indexOfChar_4cfef cJ1_indexOfChar_4cfef 6 (Option.some FieldType.int)) 0 [vr 41, vi x, vi 0, vi 7] (st) (vi (zplc (zi8 x) 0 7)) (st) := by
  refine Ctr_of (own := RJ1) (by decide +kernel) rfl rfl (fun Y hX hR hnx => ?_)
  have h8 : zi (zi8 x) := by unfold zi8; split <;> exact ⟨by omega, by omega⟩
  refine z_b hX (fo_no RJ1) [.iload_n 1] 1 (by decide +kernel) rfl ?_
  refine z_i2b hX (by decide +kernel) (zi8_of hx) ?_
  refine z_b hX (fo_no RJ1) [.istore 4, .iload_n 2, .istore 5] 7 (by decide +kernel) rfl ?_
  have loop : ∀ (m j : Nat), j + m = 7 → zplc (zi8 x) 0 7 = zplc (zi8 x) j m → Z (E, Y) 0 7 [(5, vi ((j : Nat) : Int)), (4, vi (zi8 x)), (0, vr 41), (1, vi x), (2, vi 0), (3, vi 7)] [] st := by
    intro m
    induction m with
    | zero =>
      intro j hj he
      refine z_b hX (fo_no RJ1) [.iload 5, .iload_n 3] 10 (by decide +kernel) rfl ?_
      refine z_ic_ge hX (off := 21) 31 (by decide +kernel) (by decide) ⟨by omega, by omega⟩ ⟨by decide, by decide⟩ (fun _ => ?_) (fun c => by exfalso; omega)
      refine z_b hX (fo_no RJ1) [.iconst (-1)] 32 (by decide +kernel) rfl ?_
      exact z_iret hX hR (by decide +kernel) ⟨by rw [he]; rfl, rfl⟩
    | succ m ih =>
      intro j hj he
      refine z_b hX (fo_no RJ1) [.iload 5, .iload_n 3] 10 (by decide +kernel) rfl ?_
      refine z_ic_ge hX (off := 21) 31 (by decide +kernel) (by decide) ⟨by omega, by omega⟩ ⟨by decide, by decide⟩ (fun c => by exfalso; omega) (fun _ => ?_)
      refine z_b hX (fo_no RJ1) [.aload_n 0, .iload 5] 16 (by decide +kernel) rfl ?_
      refine z_bald hX j (by omega) rfl (by decide +kernel) ?_
      refine z_b hX (fo_no RJ1) [.iload 4] 19 (by decide +kernel) rfl ?_
      refine z_ic_ne hX (off := 6) 25 (by decide +kernel) (by decide) (zbyt_i j) h8 (fun c => ?_) (fun c => ?_)
      · refine z_b hX (fo_no RJ1) [.iinc 5 1] 28 (by decide +kernel) rfl ?_
        refine z_goto hX (off := (-21)) 7 (by decide +kernel) (by decide) ?_
        exact ih (j + 1) (by omega) (he.trans (if_neg c))
      · refine z_b hX (fo_no RJ1) [.iload 5] 24 (by decide +kernel) rfl ?_
        exact z_iret hX hR (by decide +kernel) ⟨by rw [he, show zplc (zi8 x) j (m + 1) = (j : Int) from if_pos c], rfl⟩
  exact loop 7 0 rfl rfl
set_option maxHeartbeats 1000000 in
theorem c_J1_indexOf_4cfef {E : zE} {x : Int} {st : zT} (hx : 0 ≤ x ∧ x ≤ 65535) : Rv E yJ1_indexOf_4cfef (Cond.code yJ1_indexOf_4cfef cJ1_indexOf_4cfef 4 (Option.some FieldType.int)) 1 [vr 41, vi x, vi 0, vi 7] (st) (vi (if x ≤ 255 then zplc (zi8 x) 0 7 else -1)) (st) := by
  refine Ctr_of (own := RJ1) (by decide +kernel) rfl rfl (fun Y hX hR hnx => ?_)
  refine z_b hX (fo_no RJ1) [.iload_n 1] 1 (by decide +kernel) rfl ?_
  refine z_cS hX m_J1_canEncode_9a6ad lJ1_88 p_J1_canEncode_9a6ad (c_J1_canEncode_9a6ad hx) rfl (by rfl) rfl rfl (by decide +kernel) ?_
  refine z_if_ne hX (off := 5) 9 (by decide +kernel) (by decide) (by split <;> exact ⟨by decide, by decide⟩) (fun c => ?_) (fun c => ?_)
  · have hx2 : x ≤ 255 := by by_cases q : x ≤ 255; exact q; rw [if_neg q] at c; exact absurd rfl c
    refine z_b hX (fo_no RJ1) [.iload_n 2, .iconst 0] 11 (by decide +kernel) rfl ?_
    refine z_max hX lJ1_92 (by decide +kernel) ⟨by decide, by decide⟩ ⟨by decide, by decide⟩ rfl ?_
    refine z_b hX (fo_no RJ1) [.istore_n 2, .iload_n 3, .aload_n 0] 17 (by decide +kernel) rfl ?_
    refine z_lenK hX (by decide +kernel) ?_
    refine z_min hX lJ1_38 (by decide +kernel) ⟨by decide, by decide⟩ ⟨by decide, by decide⟩ rfl ?_
    refine z_b hX (fo_no RJ1) [.istore_n 3, .iload_n 2, .iload_n 3] 24 (by decide +kernel) rfl ?_
    refine z_ic_lt hX (off := 5) 29 (by decide +kernel) (by decide) ⟨by decide, by decide⟩ ⟨by decide, by decide⟩ (fun _ => ?_) (fun c => absurd c (by decide))
    refine z_b hX (fo_no RJ1) [.aload_n 0, .iload_n 1, .iload_n 2, .iload_n 3] 33 (by decide +kernel) rfl ?_
    refine z_cS hX m_J1_indexOfChar_4cfef lJ1_95 p_J1_indexOfChar_4cfef (c_J1_indexOfChar_4cfef ⟨hx.1, hx2⟩) rfl (by rfl) rfl rfl (by decide +kernel) ?_
    exact z_iret hX hR (by decide +kernel) ⟨by rw [if_pos hx2], rfl⟩
  · have hx2 : ¬ x ≤ 255 := by intro q; rw [if_pos q] at c; exact absurd c (by decide)
    refine z_b hX (fo_no RJ1) [.iconst (-1)] 8 (by decide +kernel) rfl ?_
    exact z_iret hX hR (by decide +kernel) ⟨by rw [if_neg hx2], rfl⟩
set_option maxHeartbeats 1000000 in
theorem c_J0_indexOf_7cf53 {E : zE} {x : Int} {st : zT} (hx : 0 ≤ x ∧ x ≤ 65535) : Rv E yJ0_indexOf_7cf53 (Cond.code yJ0_indexOf_7cf53 cJ0_indexOf_7cf53 3 (Option.some FieldType.int)) 2 [vr 40, vi x, vi 0] (st) (vi (if x ≤ 255 then zplc (zi8 x) 0 7 else -1)) (st) := by
  refine Ctr_of (own := RJ0) (by decide +kernel) rfl rfl (fun Y hX hR hnx => ?_)
  refine z_b hX (fo_no RJ0) [.aload_n 0] 1 (by decide +kernel) rfl ?_
  refine z_cK hX m_J0_isLatin1_aae02 lJ0_492 p_J0_isLatin1_aae02 c_J0_isLatin1_aae02 rfl (by rfl) rfl rfl (by decide +kernel) ?_
  refine z_if_eq hX (off := 19) 23 (by decide +kernel) (by decide) ⟨by decide, by decide⟩ (fun c => absurd c (by decide)) (fun _ => ?_)
  refine z_b hX (fo_no RJ0) [.aload_n 0] 8 (by decide +kernel) rfl ?_
  refine z_getB hX (by decide +kernel) ?_
  refine z_b hX (fo_no RJ0) [.iload_n 1, .iload_n 2, .aload_n 0] 14 (by decide +kernel) rfl ?_
  refine z_cK hX m_J0_length_8abf5 lJ0_505 p_J0_length_8abf5 c_J0_length_8abf5 rfl (by rfl) rfl rfl (by decide +kernel) ?_
  refine z_cS hX m_J1_indexOf_4cfef lJ0_637 p_J1_indexOf_4cfef (c_J1_indexOf_4cfef hx) rfl (by rfl) rfl rfl (by decide +kernel) ?_
  refine z_goto hX (off := 16) 36 (by decide +kernel) (by decide) ?_
  exact z_iret hX hR (by decide +kernel) ⟨rfl, rfl⟩
set_option maxHeartbeats 1000000 in
theorem c_J0_indexOf_0f7a4 {E : zE} {x : Int} {st : zT} (hx : 0 ≤ x ∧ x ≤ 65535) : Rv E yJ0_indexOf_0f7a4 (Cond.code yJ0_indexOf_0f7a4 cJ0_indexOf_0f7a4 2 (Option.some FieldType.int)) 3 [vr 40, vi x] (st) (vi (if x ≤ 255 then zplc (zi8 x) 0 7 else -1)) (st) := by
  refine Ctr_of (own := RJ0) (by decide +kernel) rfl rfl (fun Y hX hR hnx => ?_)
  refine z_b hX (fo_no RJ0) [.aload_n 0, .iload_n 1, .iconst 0] 3 (by decide +kernel) rfl ?_
  refine z_cK hX m_J0_indexOf_7cf53 lJ0_633 p_J0_indexOf_7cf53 (c_J0_indexOf_7cf53 hx) rfl (by rfl) rfl rfl (by decide +kernel) ?_
  exact z_iret hX hR (by decide +kernel) ⟨rfl, rfl⟩
def iknd (x : Int) : Int := if x = 115 ∨ x = 119 ∨ x = 107 ∨ x = 108 ∨ x = 117 ∨ x = 103 ∨ x = 112 then 1 else 0
theorem zplc_k {x : Int} (hx : 0 ≤ x ∧ x ≤ 65535) : zi (if x ≤ 255 then zplc (zi8 x) 0 7 else -1) ∧ ((if x ≤ 255 then zplc (zi8 x) 0 7 else -1) < 0 ↔ iknd x = 0) := by
  have e : ∀ y : Int, zplc y 0 7 = if 115 = y then 0 else if 119 = y then 1 else if 107 = y then 2 else if 108 = y then 3 else if 117 = y then 4 else if 103 = y then 5 else if 112 = y then 6 else -1 := fun y => rfl
  rw [e]
  unfold zi8 iknd zi
  split <;> (try split) <;> repeat' split
  all_goals (first | omega | (simp; omega))
set_option maxHeartbeats 1000000 in
theorem c_X2_isKind {E : zE} {x : Int} {st : zT} (hx : 0 ≤ x ∧ x ≤ 65535) : Rv E yX2_isKind (Cond.code yX2_isKind cX2_isKind 1 (Option.some FieldType.boolean)) 4 [vi x] st (vi (iknd x)) st := by
  refine Ctr_of (own := RX2) (by decide +kernel) rfl rfl (fun Y hX hR hnx => ?_)
  obtain ⟨h1, h2⟩ := zplc_k hx
  refine z_ldcK hX (by decide +kernel) ?_
  refine z_b hX (fo_no RX2) [.iload_n 0] 3 (by decide +kernel) rfl ?_
  refine z_cK hX m_J0_indexOf_0f7a4 lX2_77 p_J0_indexOf_0f7a4 (c_J0_indexOf_0f7a4 hx) rfl (by rfl) rfl rfl (by decide +kernel) ?_
  refine z_if_lt hX (off := 7) 13 (by decide +kernel) (by decide) h1 (fun c => ?_) (fun c => ?_)
  · refine z_b hX (fo_no RX2) [.iconst 0] 14 (by decide +kernel) rfl ?_
    exact z_zret hX hR (by decide +kernel) (by decide +kernel) ⟨by rw [h2.mp c], rfl⟩
  · refine z_b hX (fo_no RX2) [.iconst 1] 10 (by decide +kernel) rfl ?_
    refine z_goto hX (off := 4) 14 (by decide +kernel) (by decide) ?_
    have h3 : iknd x = 1 := by
      have h4 : ¬ iknd x = 0 := fun q => absurd (h2.mpr q) (by omega)
      unfold iknd at h4 ⊢
      split
      · rfl
      · rename_i q; rw [if_neg q] at h4; exact absurd rfl h4
    exact z_zret hX hR (by decide +kernel) (by decide +kernel) ⟨by rw [h3], rfl⟩
