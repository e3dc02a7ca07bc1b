/-! ===== the law from its entry ===== -/
theorem zws_P {E : zE} {st : zT} {H : Heap} (h : ∀ (k : Nat) (c : zS), zsh[k]? = some c → va_at E.2.1 zCl (E.2.2.2.1 k, zcell E st k c) H) : va_P E.2.1 zCl (zws E st) H := by
  intro k q hq
  rw [zws_get] at hq
  cases hz : zsh[k]? with
  | none => rw [hz] at hq; cases hq
  | some c => rw [hz] at hq; cases hq; exact h k c hz
theorem arrV_cg {cA : ClassId} {n : Nat} {f g : Nat → Value} (h : ∀ j, j < n → f j = g j) : arrV cA n f = arrV cA n g := by
  unfold arrV
  congr 1
  apply Array.ext_getElem?
  intro i
  by_cases hi : i < n
  · simp [hi, h i hi]
  · simp [hi]
section YS
variable {X : zC} {A : Nat → Prop} {own : String} {cc : ByteArray} {nL d b n pc a : Nat} {lo : List (Nat × Value)} {sk : List Value} {ws : va_W}
theorem y_astore (h : yOk X A own cc nL d) {i : Nat} {lo' : List (Nat × Value)} (hd : decode cc pc = .ok (.astore i, 2)) (hn : Nat.blt i nL = true) (hlo : (i, Value.ref a) :: lo.filter (fun q => !(q.1 == i) && !(q.1 + 1 == i && q.2.category == 2)) = lo') (kk : Yj X A b n (pc + 2) lo' sk ws) : Yj X A b n pc lo (.ref a :: sk) ws :=
  fun H locs cells slots ls hP hD hS hc hs hl => lv_astore h.1 h.2.1 hd hl (by rw [h.2.2.2.1]; exact Nat.le_of_ble_eq_true hn) hlo (fun ls' hl' => kk H locs cells slots ls' hP hD hS hc hs hl')
theorem y_istore (h : yOk X A own cc nL d) {i : Nat} {x : Int32} {lo' : List (Nat × Value)} (hd : decode cc pc = .ok (.istore i, 2)) (hn : Nat.blt i nL = true) (hlo : (i, Value.int x) :: lo.filter (fun q => !(q.1 == i) && !(q.1 + 1 == i && q.2.category == 2)) = lo') (kk : Yj X A b n (pc + 2) lo' sk ws) : Yj X A b n pc lo (.int x :: sk) ws :=
  fun H locs cells slots ls hP hD hS hc hs hl => lv_istore h.1 h.2.1 hd hl (by rw [h.2.2.2.1]; exact Nat.le_of_ble_eq_true hn) hlo (fun ls' hl' => kk H locs cells slots ls' hP hD hS hc hs hl')
end YS
theorem zv0 {k i : Nat} (h1 : ¬ (21 ≤ k ∧ k ≤ 31)) (h2 : k ≠ 33) (h3 : ¬ ((k = 15 ∧ i = 7) ∨ (k = 32 ∧ i = 13))) : Int32.ofInt (zt00 k i) = 0 := by rw [zt00_0 h1 h2 h3]; rfl
theorem zv1 : Int32.ofInt (zt00 15 7) = -1 := by decide +kernel
theorem zv2 : Int32.ofInt (zt00 32 13) = -1 := by decide +kernel
theorem za1 {k : Nat} (h : 21 ≤ k ∧ k ≤ 31) : (fun j => Int32.ofInt (zt00 k j)) = rmI := by rw [zt00_r h]; exact rmI_e
theorem za3 : (fun j => Int32.ofInt (zt00 33 j)) = rmI := by
  rw [show zt00 33 = zc00 from (by unfold zt00; rw [if_neg (by omega), if_pos rfl, gm00])]
  exact rmI_e
theorem za2 {k : Nat} (h1 : ¬ (21 ≤ k ∧ k ≤ 31)) (h2 : k ≠ 33) (h3 : k ≠ 15) (h4 : k ≠ 32) : (fun j => Int32.ofInt (zt00 k j)) = fun _ => 0 := by rw [zt00_f h1 h2 h3 h4]; rfl
def zpos : Nat → Nat := fun k => ([0, 1, 3, 7, 9, 11, 13, 15, 17, 19, 21, 23, 5, 6, 25, 26, 27, 28, 29, 30, 38, 2, 4, 8, 10, 12, 14, 16, 18, 20, 22, 24, 31, 32, 33, 34, 35, 36, 37, 39]).getD k 0
theorem zpos_i : ∀ i j : Fin 40, zpos i.val = zpos j.val → i = j := by decide +kernel
def zad (qc q1 g1 q2 g2 q3 ha hr0 hg0 hr1 hg1 hr2 hg2 hr3 hg3 hr4 hg4 hr5 hg5 hr6 hg6 hr7 hg7 hr8 hg8 q4 q5 a5 b5 c5 d5 qm m0 m1 m2 m3 m4 m5 ql qd k1 k2 b : Nat) : Nat → Nat := fun k => ([qc, q1, q2, hr0, hr1, hr2, hr3, hr4, hr5, hr6, hr7, hr8, q3, ha, q4, q5, a5, b5, c5, d5, ql, g1, g2, hg0, hg1, hg2, hg3, hg4, hg5, hg6, hg7, hg8, qm, m0, m1, m2, m3, m4, m5, qd, k1, k2, b]).getD k 0
abbrev wAll (E0 : zE) (qc q1 g1 q2 g2 q3 ha hr0 hg0 hr1 hg1 hr2 hg2 hr3 hg3 hr4 hg4 hr5 hg5 hr6 hg6 hr7 hg7 hr8 hg8 q4 q5 a5 b5 c5 d5 qm m0 m1 m2 m3 m4 m5 ql qd : Nat) : va_W := (wTop E0 qc q1 g1 q2 g2 q3 ha hr0 hg0 hr1 hg1 hr2 hg2 hr3 hg3 hr4 hg4 hr5 hg5 hr6 hg6 hr7 hg7 hr8 hg8 q4 q5 a5 b5 c5 d5 ++ wMod E0 qm m0 m1 m2 m3 m4 m5 ++ [(ql, .inl (E0.2.2.1 2, (1, .inr (.inl (fun _ => 0)))))] ++ [(qd, .inl (E0.2.2.1 3, (1, .inr (.inr (.inr (.inl (fun _ => 0))))))) ])
theorem wAll_at (E0 : zE) (qc q1 g1 q2 g2 q3 ha hr0 hg0 hr1 hg1 hr2 hg2 hr3 hg3 hr4 hg4 hr5 hg5 hr6 hg6 hr7 hg7 hr8 hg8 q4 q5 a5 b5 c5 d5 qm m0 m1 m2 m3 m4 m5 ql qd k1 k2 b : Nat) : ∀ i : Nat, i < 40 → ∃ e, (wAll E0 qc q1 g1 q2 g2 q3 ha hr0 hg0 hr1 hg1 hr2 hg2 hr3 hg3 hr4 hg4 hr5 hg5 hr6 hg6 hr7 hg7 hr8 hg8 q4 q5 a5 b5 c5 d5 qm m0 m1 m2 m3 m4 m5 ql qd)[zpos i]? = some (zad qc q1 g1 q2 g2 q3 ha hr0 hg0 hr1 hg1 hr2 hg2 hr3 hg3 hr4 hg4 hr5 hg5 hr6 hg6 hr7 hg7 hr8 hg8 q4 q5 a5 b5 c5 d5 qm m0 m1 m2 m3 m4 m5 ql qd k1 k2 b i, e) := by
  intro i hi
  match i, hi with
  | 0, _ => exact ⟨_, rfl⟩
  | 1, _ => exact ⟨_, rfl⟩
  | 2, _ => exact ⟨_, rfl⟩
  | 3, _ => exact ⟨_, rfl⟩
  | 4, _ => exact ⟨_, rfl⟩
  | 5, _ => exact ⟨_, rfl⟩
  | 6, _ => exact ⟨_, rfl⟩
  | 7, _ => exact ⟨_, rfl⟩
  | 8, _ => exact ⟨_, rfl⟩
  | 9, _ => exact ⟨_, rfl⟩
  | 10, _ => exact ⟨_, rfl⟩
  | 11, _ => exact ⟨_, rfl⟩
  | 12, _ => exact ⟨_, rfl⟩
  | 13, _ => exact ⟨_, rfl⟩
  | 14, _ => exact ⟨_, rfl⟩
  | 15, _ => exact ⟨_, rfl⟩
  | 16, _ => exact ⟨_, rfl⟩
  | 17, _ => exact ⟨_, rfl⟩
  | 18, _ => exact ⟨_, rfl⟩
  | 19, _ => exact ⟨_, rfl⟩
  | 20, _ => exact ⟨_, rfl⟩
  | 21, _ => exact ⟨_, rfl⟩
  | 22, _ => exact ⟨_, rfl⟩
  | 23, _ => exact ⟨_, rfl⟩
  | 24, _ => exact ⟨_, rfl⟩
  | 25, _ => exact ⟨_, rfl⟩
  | 26, _ => exact ⟨_, rfl⟩
  | 27, _ => exact ⟨_, rfl⟩
  | 28, _ => exact ⟨_, rfl⟩
  | 29, _ => exact ⟨_, rfl⟩
  | 30, _ => exact ⟨_, rfl⟩
  | 31, _ => exact ⟨_, rfl⟩
  | 32, _ => exact ⟨_, rfl⟩
  | 33, _ => exact ⟨_, rfl⟩
  | 34, _ => exact ⟨_, rfl⟩
  | 35, _ => exact ⟨_, rfl⟩
  | 36, _ => exact ⟨_, rfl⟩
  | 37, _ => exact ⟨_, rfl⟩
  | 38, _ => exact ⟨_, rfl⟩
  | 39, _ => exact ⟨_, rfl⟩
  | i + 40, hi => exact absurd hi (by omega)
theorem wAll_D {E0 : zE} {A : Nat → Prop} (qc q1 g1 q2 g2 q3 ha hr0 hg0 hr1 hg1 hr2 hg2 hr3 hg3 hr4 hg4 hr5 hg5 hr6 hg6 hr7 hg7 hr8 hg8 q4 q5 a5 b5 c5 d5 qm m0 m1 m2 m3 m4 m5 ql qd k1 k2 b : Nat) (hD : va_D A (wAll E0 qc q1 g1 q2 g2 q3 ha hr0 hg0 hr1 hg1 hr2 hg2 hr3 hg3 hr4 hg4 hr5 hg5 hr6 hg6 hr7 hg7 hr8 hg8 q4 q5 a5 b5 c5 d5 qm m0 m1 m2 m3 m4 m5 ql qd)) : (∀ i j : Nat, i < 40 → j < 40 → zad qc q1 g1 q2 g2 q3 ha hr0 hg0 hr1 hg1 hr2 hg2 hr3 hg3 hr4 hg4 hr5 hg5 hr6 hg6 hr7 hg7 hr8 hg8 q4 q5 a5 b5 c5 d5 qm m0 m1 m2 m3 m4 m5 ql qd k1 k2 b i = zad qc q1 g1 q2 g2 q3 ha hr0 hg0 hr1 hg1 hr2 hg2 hr3 hg3 hr4 hg4 hr5 hg5 hr6 hg6 hr7 hg7 hr8 hg8 q4 q5 a5 b5 c5 d5 qm m0 m1 m2 m3 m4 m5 ql qd k1 k2 b j → i = j) ∧ ∀ i : Nat, i < 40 → A (zad qc q1 g1 q2 g2 q3 ha hr0 hg0 hr1 hg1 hr2 hg2 hr3 hg3 hr4 hg4 hr5 hg5 hr6 hg6 hr7 hg7 hr8 hg8 q4 q5 a5 b5 c5 d5 qm m0 m1 m2 m3 m4 m5 ql qd k1 k2 b i) := by
  refine ⟨fun i j hi hj he => ?_, fun i hi => ?_⟩
  · obtain ⟨e1, h1⟩ := wAll_at E0 qc q1 g1 q2 g2 q3 ha hr0 hg0 hr1 hg1 hr2 hg2 hr3 hg3 hr4 hg4 hr5 hg5 hr6 hg6 hr7 hg7 hr8 hg8 q4 q5 a5 b5 c5 d5 qm m0 m1 m2 m3 m4 m5 ql qd k1 k2 b i hi
    obtain ⟨e2, h2⟩ := wAll_at E0 qc q1 g1 q2 g2 q3 ha hr0 hg0 hr1 hg1 hr2 hg2 hr3 hg3 hr4 hg4 hr5 hg5 hr6 hg6 hr7 hg7 hr8 hg8 q4 q5 a5 b5 c5 d5 qm m0 m1 m2 m3 m4 m5 ql qd k1 k2 b j hj
    have h3 := hD.1 _ _ _ _ h1 h2 he
    exact congrArg Fin.val (zpos_i ⟨i, hi⟩ ⟨j, hj⟩ h3)
  · obtain ⟨e1, h1⟩ := wAll_at E0 qc q1 g1 q2 g2 q3 ha hr0 hg0 hr1 hg1 hr2 hg2 hr3 hg3 hr4 hg4 hr5 hg5 hr6 hg6 hr7 hg7 hr8 hg8 q4 q5 a5 b5 c5 d5 qm m0 m1 m2 m3 m4 m5 ql qd k1 k2 b i hi
    exact hD.2 _ _ h1
theorem wAll_P {l : Launch} {DG : va_G} {aC : Nat → ClassId} {a0 : Nat → Nat} {bs : Nat} (qc q1 g1 q2 g2 q3 ha hr0 hg0 hr1 hg1 hr2 hg2 hr3 hg3 hr4 hg4 hr5 hg5 hr6 hg6 hr7 hg7 hr8 hg8 q4 q5 a5 b5 c5 d5 qm m0 m1 m2 m3 m4 m5 ql qd k1 k2 b : Nat) {H : Heap} (hP : va_P DG zCl (wAll (l, DG, aC, a0, bs) qc q1 g1 q2 g2 q3 ha hr0 hg0 hr1 hg1 hr2 hg2 hr3 hg3 hr4 hg4 hr5 hg5 hr6 hg6 hr7 hg7 hr8 hg8 q4 q5 a5 b5 c5 d5 qm m0 m1 m2 m3 m4 m5 ql qd) H) : va_P DG zCl (zws (l, DG, aC, zad qc q1 g1 q2 g2 q3 ha hr0 hg0 hr1 hg1 hr2 hg2 hr3 hg3 hr4 hg4 hr5 hg5 hr6 hg6 hr7 hg7 hr8 hg8 q4 q5 a5 b5 c5 d5 qm m0 m1 m2 m3 m4 m5 ql qd k1 k2 b, bs) (zt00, (fun _ => 0), fun _ => 0)) H := by
  refine zws_P (E := (l, DG, aC, zad qc q1 g1 q2 g2 q3 ha hr0 hg0 hr1 hg1 hr2 hg2 hr3 hg3 hr4 hg4 hr5 hg5 hr6 hg6 hr7 hg7 hr8 hg8 q4 q5 a5 b5 c5 d5 qm m0 m1 m2 m3 m4 m5 ql qd k1 k2 b, bs)) (fun k c hc => ?_)
  match k, hc with
  | 0, hc =>
    cases hc
    show va_at DG zCl (_, .inr (0, [.ref (zad qc q1 g1 q2 g2 q3 ha hr0 hg0 hr1 hg1 hr2 hg2 hr3 hg3 hr4 hg4 hr5 hg5 hr6 hg6 hr7 hg7 hr8 hg8 q4 q5 a5 b5 c5 d5 qm m0 m1 m2 m3 m4 m5 ql qd k1 k2 b 1), .ref (zad qc q1 g1 q2 g2 q3 ha hr0 hg0 hr1 hg1 hr2 hg2 hr3 hg3 hr4 hg4 hr5 hg5 hr6 hg6 hr7 hg7 hr8 hg8 q4 q5 a5 b5 c5 d5 qm m0 m1 m2 m3 m4 m5 ql qd k1 k2 b 2), .ref (zad qc q1 g1 q2 g2 q3 ha hr0 hg0 hr1 hg1 hr2 hg2 hr3 hg3 hr4 hg4 hr5 hg5 hr6 hg6 hr7 hg7 hr8 hg8 q4 q5 a5 b5 c5 d5 qm m0 m1 m2 m3 m4 m5 ql qd k1 k2 b 12), .ref (zad qc q1 g1 q2 g2 q3 ha hr0 hg0 hr1 hg1 hr2 hg2 hr3 hg3 hr4 hg4 hr5 hg5 hr6 hg6 hr7 hg7 hr8 hg8 q4 q5 a5 b5 c5 d5 qm m0 m1 m2 m3 m4 m5 ql qd k1 k2 b 14), .ref (zad qc q1 g1 q2 g2 q3 ha hr0 hg0 hr1 hg1 hr2 hg2 hr3 hg3 hr4 hg4 hr5 hg5 hr6 hg6 hr7 hg7 hr8 hg8 q4 q5 a5 b5 c5 d5 qm m0 m1 m2 m3 m4 m5 ql qd k1 k2 b 15), .int (Int32.ofInt (zt00 0 5))])) H
    rw [zv0 (k := 0) (i := 5) (by omega) (by omega) (by omega)]
    exact hP 0 _ rfl
  | 1, hc =>
    cases hc
    exact hP 1 _ rfl
  | 2, hc =>
    cases hc
    exact hP 3 _ rfl
  | 3, hc =>
    cases hc
    exact hP 7 _ rfl
  | 4, hc =>
    cases hc
    exact hP 9 _ rfl
  | 5, hc =>
    cases hc
    exact hP 11 _ rfl
  | 6, hc =>
    cases hc
    exact hP 13 _ rfl
  | 7, hc =>
    cases hc
    exact hP 15 _ rfl
  | 8, hc =>
    cases hc
    exact hP 17 _ rfl
  | 9, hc =>
    cases hc
    exact hP 19 _ rfl
  | 10, hc =>
    cases hc
    exact hP 21 _ rfl
  | 11, hc =>
    cases hc
    exact hP 23 _ rfl
  | 12, hc =>
    cases hc
    show va_at DG zCl (_, .inr (2, [.ref (zad qc q1 g1 q2 g2 q3 ha hr0 hg0 hr1 hg1 hr2 hg2 hr3 hg3 hr4 hg4 hr5 hg5 hr6 hg6 hr7 hg7 hr8 hg8 q4 q5 a5 b5 c5 d5 qm m0 m1 m2 m3 m4 m5 ql qd k1 k2 b 13), .int (Int32.ofInt (zt00 12 1)), .int (Int32.ofInt (zt00 12 2))])) H
    rw [zv0 (k := 12) (i := 1) (by omega) (by omega) (by omega), zv0 (k := 12) (i := 2) (by omega) (by omega) (by omega)]
    exact hP 5 _ rfl
  | 13, hc =>
    cases hc
    have h1 : H[ha]? = some (vp_cell (aC 4) (zq9 (hf9 hr0 hr1 hr2 hr3 hr4 hr5 hr6 hr7 hr8))) := hP 6 _ rfl
    show H[ha]? = some (vp_cell (aC 4) (9, .inr (.inr (.inr (.inr (fun i => some (zad qc q1 g1 q2 g2 q3 ha hr0 hg0 hr1 hg1 hr2 hg2 hr3 hg3 hr4 hg4 hr5 hg5 hr6 hg6 hr7 hg7 hr8 hg8 q4 q5 a5 b5 c5 d5 qm m0 m1 m2 m3 m4 m5 ql qd k1 k2 b (3 + i))))))))
    rw [h1, vp_cell_q, vp_cell_q]
    congr 1
  | 14, hc =>
    cases hc
    show va_at DG zCl (_, .inr (3, [.int (Int32.ofInt (zt00 14 0)), .int (Int32.ofInt (zt00 14 1))])) H
    rw [zv0 (k := 14) (i := 0) (by omega) (by omega) (by omega), zv0 (k := 14) (i := 1) (by omega) (by omega) (by omega)]
    exact hP 25 _ rfl
  | 15, hc =>
    cases hc
    show va_at DG zCl (_, .inr (4, [.ref (zad qc q1 g1 q2 g2 q3 ha hr0 hg0 hr1 hg1 hr2 hg2 hr3 hg3 hr4 hg4 hr5 hg5 hr6 hg6 hr7 hg7 hr8 hg8 q4 q5 a5 b5 c5 d5 qm m0 m1 m2 m3 m4 m5 ql qd k1 k2 b 16), .ref (zad qc q1 g1 q2 g2 q3 ha hr0 hg0 hr1 hg1 hr2 hg2 hr3 hg3 hr4 hg4 hr5 hg5 hr6 hg6 hr7 hg7 hr8 hg8 q4 q5 a5 b5 c5 d5 qm m0 m1 m2 m3 m4 m5 ql qd k1 k2 b 17), .ref (zad qc q1 g1 q2 g2 q3 ha hr0 hg0 hr1 hg1 hr2 hg2 hr3 hg3 hr4 hg4 hr5 hg5 hr6 hg6 hr7 hg7 hr8 hg8 q4 q5 a5 b5 c5 d5 qm m0 m1 m2 m3 m4 m5 ql qd k1 k2 b 18), .ref (zad qc q1 g1 q2 g2 q3 ha hr0 hg0 hr1 hg1 hr2 hg2 hr3 hg3 hr4 hg4 hr5 hg5 hr6 hg6 hr7 hg7 hr8 hg8 q4 q5 a5 b5 c5 d5 qm m0 m1 m2 m3 m4 m5 ql qd k1 k2 b 19), .int (Int32.ofInt (zt00 15 4)), .int (Int32.ofInt (zt00 15 5)), .int (Int32.ofInt (zt00 15 6)), .int (Int32.ofInt (zt00 15 7))])) H
    rw [zv0 (k := 15) (i := 4) (by omega) (by omega) (by omega), zv0 (k := 15) (i := 5) (by omega) (by omega) (by omega), zv0 (k := 15) (i := 6) (by omega) (by omega) (by omega), zv1]
    exact hP 26 _ rfl
  | 16, hc =>
    cases hc
    show H[_]? = some (vp_cell (aC 1) (60, .inl (fun j => Int32.ofInt (zt00 16 j))))
    rw [za2 (k := 16) (by omega) (by omega) (by omega) (by omega)]
    exact hP 27 _ rfl
  | 17, hc =>
    cases hc
    show H[_]? = some (vp_cell (aC 1) (30, .inl (fun j => Int32.ofInt (zt00 17 j))))
    rw [za2 (k := 17) (by omega) (by omega) (by omega) (by omega)]
    exact hP 28 _ rfl
  | 18, hc =>
    cases hc
    show H[_]? = some (vp_cell (aC 0) (30, .inl (fun j => Int32.ofInt (zt00 18 j))))
    rw [za2 (k := 18) (by omega) (by omega) (by omega) (by omega)]
    exact hP 29 _ rfl
  | 19, hc =>
    cases hc
    show H[_]? = some (vp_cell (aC 0) (30, .inl (fun j => Int32.ofInt (zt00 19 j))))
    rw [za2 (k := 19) (by omega) (by omega) (by omega) (by omega)]
    exact hP 30 _ rfl
  | 20, hc =>
    cases hc
    exact hP 38 _ rfl
  | 21, hc =>
    cases hc
    show H[_]? = some (vp_cell (aC 0) (181, .inl (fun j => Int32.ofInt (zt00 21 j))))
    rw [za1 (k := 21) ⟨by decide, by decide⟩]
    exact hP 2 _ rfl
  | 22, hc =>
    cases hc
    show H[_]? = some (vp_cell (aC 0) (181, .inl (fun j => Int32.ofInt (zt00 22 j))))
    rw [za1 (k := 22) ⟨by decide, by decide⟩]
    exact hP 4 _ rfl
  | 23, hc =>
    cases hc
    show H[_]? = some (vp_cell (aC 0) (181, .inl (fun j => Int32.ofInt (zt00 23 j))))
    rw [za1 (k := 23) ⟨by decide, by decide⟩]
    exact hP 8 _ rfl
  | 24, hc =>
    cases hc
    show H[_]? = some (vp_cell (aC 0) (181, .inl (fun j => Int32.ofInt (zt00 24 j))))
    rw [za1 (k := 24) ⟨by decide, by decide⟩]
    exact hP 10 _ rfl
  | 25, hc =>
    cases hc
    show H[_]? = some (vp_cell (aC 0) (181, .inl (fun j => Int32.ofInt (zt00 25 j))))
    rw [za1 (k := 25) ⟨by decide, by decide⟩]
    exact hP 12 _ rfl
  | 26, hc =>
    cases hc
    show H[_]? = some (vp_cell (aC 0) (181, .inl (fun j => Int32.ofInt (zt00 26 j))))
    rw [za1 (k := 26) ⟨by decide, by decide⟩]
    exact hP 14 _ rfl
  | 27, hc =>
    cases hc
    show H[_]? = some (vp_cell (aC 0) (181, .inl (fun j => Int32.ofInt (zt00 27 j))))
    rw [za1 (k := 27) ⟨by decide, by decide⟩]
    exact hP 16 _ rfl
  | 28, hc =>
    cases hc
    show H[_]? = some (vp_cell (aC 0) (181, .inl (fun j => Int32.ofInt (zt00 28 j))))
    rw [za1 (k := 28) ⟨by decide, by decide⟩]
    exact hP 18 _ rfl
  | 29, hc =>
    cases hc
    show H[_]? = some (vp_cell (aC 0) (181, .inl (fun j => Int32.ofInt (zt00 29 j))))
    rw [za1 (k := 29) ⟨by decide, by decide⟩]
    exact hP 20 _ rfl
  | 30, hc =>
    cases hc
    show H[_]? = some (vp_cell (aC 0) (181, .inl (fun j => Int32.ofInt (zt00 30 j))))
    rw [za1 (k := 30) ⟨by decide, by decide⟩]
    exact hP 22 _ rfl
  | 31, hc =>
    cases hc
    show H[_]? = some (vp_cell (aC 0) (181, .inl (fun j => Int32.ofInt (zt00 31 j))))
    rw [za1 (k := 31) ⟨by decide, by decide⟩]
    exact hP 24 _ rfl
  | 32, hc =>
    cases hc
    show va_at DG zCl (_, .inr (5, [.ref (zad qc q1 g1 q2 g2 q3 ha hr0 hg0 hr1 hg1 hr2 hg2 hr3 hg3 hr4 hg4 hr5 hg5 hr6 hg6 hr7 hg7 hr8 hg8 q4 q5 a5 b5 c5 d5 qm m0 m1 m2 m3 m4 m5 ql qd k1 k2 b 33), .ref (zad qc q1 g1 q2 g2 q3 ha hr0 hg0 hr1 hg1 hr2 hg2 hr3 hg3 hr4 hg4 hr5 hg5 hr6 hg6 hr7 hg7 hr8 hg8 q4 q5 a5 b5 c5 d5 qm m0 m1 m2 m3 m4 m5 ql qd k1 k2 b 34), .ref (zad qc q1 g1 q2 g2 q3 ha hr0 hg0 hr1 hg1 hr2 hg2 hr3 hg3 hr4 hg4 hr5 hg5 hr6 hg6 hr7 hg7 hr8 hg8 q4 q5 a5 b5 c5 d5 qm m0 m1 m2 m3 m4 m5 ql qd k1 k2 b 35), .ref (zad qc q1 g1 q2 g2 q3 ha hr0 hg0 hr1 hg1 hr2 hg2 hr3 hg3 hr4 hg4 hr5 hg5 hr6 hg6 hr7 hg7 hr8 hg8 q4 q5 a5 b5 c5 d5 qm m0 m1 m2 m3 m4 m5 ql qd k1 k2 b 36), .int (Int32.ofInt (zt00 32 4)), .int (Int32.ofInt (zt00 32 5)), .int (Int32.ofInt (zt00 32 6)), .int (Int32.ofInt (zt00 32 7)), .int (Int32.ofInt (zt00 32 8)), .int (Int32.ofInt (zt00 32 9)), .int (Int32.ofInt (zt00 32 10)), .ref (zad qc q1 g1 q2 g2 q3 ha hr0 hg0 hr1 hg1 hr2 hg2 hr3 hg3 hr4 hg4 hr5 hg5 hr6 hg6 hr7 hg7 hr8 hg8 q4 q5 a5 b5 c5 d5 qm m0 m1 m2 m3 m4 m5 ql qd k1 k2 b 37), .int (Int32.ofInt (zt00 32 12)), .int (Int32.ofInt (zt00 32 13)), .int (Int32.ofInt (zt00 32 14)), .ref (zad qc q1 g1 q2 g2 q3 ha hr0 hg0 hr1 hg1 hr2 hg2 hr3 hg3 hr4 hg4 hr5 hg5 hr6 hg6 hr7 hg7 hr8 hg8 q4 q5 a5 b5 c5 d5 qm m0 m1 m2 m3 m4 m5 ql qd k1 k2 b 38), .int (Int32.ofInt (zt00 32 16))])) H
    rw [zv0 (k := 32) (i := 4) (by omega) (by omega) (by omega), zv0 (k := 32) (i := 5) (by omega) (by omega) (by omega), zv0 (k := 32) (i := 6) (by omega) (by omega) (by omega), zv0 (k := 32) (i := 7) (by omega) (by omega) (by omega), zv0 (k := 32) (i := 8) (by omega) (by omega) (by omega), zv0 (k := 32) (i := 9) (by omega) (by omega) (by omega), zv0 (k := 32) (i := 10) (by omega) (by omega) (by omega), zv0 (k := 32) (i := 12) (by omega) (by omega) (by omega), zv2, zv0 (k := 32) (i := 14) (by omega) (by omega) (by omega), zv0 (k := 32) (i := 16) (by omega) (by omega) (by omega)]
    exact hP 31 _ rfl
  | 33, hc =>
    cases hc
    show H[_]? = some (vp_cell (aC 0) (150, .inl (fun j => Int32.ofInt (zt00 33 j))))
    rw [za3]
    exact hP 32 _ rfl
  | 34, hc =>
    cases hc
    show H[_]? = some (vp_cell (aC 0) (1200, .inl (fun j => Int32.ofInt (zt00 34 j))))
    rw [za2 (k := 34) (by omega) (by omega) (by omega) (by omega)]
    exact hP 33 _ rfl
  | 35, hc =>
    cases hc
    show H[_]? = some (vp_cell (aC 0) (150, .inl (fun j => Int32.ofInt (zt00 35 j))))
    rw [za2 (k := 35) (by omega) (by omega) (by omega) (by omega)]
    exact hP 34 _ rfl
  | 36, hc =>
    cases hc
    show H[_]? = some (vp_cell (aC 0) (150, .inl (fun j => Int32.ofInt (zt00 36 j))))
    rw [za2 (k := 36) (by omega) (by omega) (by omega) (by omega)]
    exact hP 35 _ rfl
  | 37, hc =>
    cases hc
    show H[_]? = some (vp_cell (aC 0) (60, .inl (fun j => Int32.ofInt (zt00 37 j))))
    rw [za2 (k := 37) (by omega) (by omega) (by omega) (by omega)]
    exact hP 36 _ rfl
  | 38, hc =>
    cases hc
    show H[_]? = some (vp_cell (aC 0) (96, .inl (fun j => Int32.ofInt (zt00 38 j))))
    rw [za2 (k := 38) (by omega) (by omega) (by omega) (by omega)]
    exact hP 37 _ rfl
  | 39, hc =>
    cases hc
    exact hP 39 _ rfl
  | k + 40, hc => cases hc
