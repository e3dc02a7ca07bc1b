/-! ===== the law from its entry: the walk ===== -/
theorem law_end {p : Program} {e : Env} {s : State} {m : MethodId} {below : List Frame} {meth : Method} {c : Code} {E : zE} {b L : Nat} {xs : Nat → Int32} (C0 : lw_At p s m meth c b L xs) (hbs : E.2.2.2.2 = s.heap.size) : ∀ (bb : Nat) (lo : List (Nat × vV)) (st : zT), Z (E, ((p, e, room_1, s), (m, #[Value.ref b], below), (meth, c), lw_Z below #[Value.ref b] s, (603072, 7207018, 10))) bb 2671 lo [vi 1] st := by
  intro bb lo st H locs cells slots ls hP hS hc hs hl
  obtain ⟨hx, hb, hr, hml, hown, hts, hX, hbl, hlocks, hgv⟩ := C0
  refine va_forget (fun q hq => by have h1 := hS.2.2 q hq; rw [← hbs]; exact h1) ?_
  refine W.widen (k := 603072) (n := 7207018) (Nat.le_trans (Nat.le_add_right _ _) hc) (Nat.le_trans (Nat.le_add_right _ _) hs) ?_
  refine W.base ?_
  exact lw_ret (Drawn.sameBut.refl s.drawn lw_cs) hx hb hr hlocks (by decide +kernel)
theorem law_at28 {p : Program} {e : Env} {s : State} {m : MethodId} {below : List Frame} {meth : Method} {c : Code} {l : Launch} (hflags : l.flags = flags0) {b L : Nat} {xs : Nat → Int32} (hL : L ≤ 2048) (C0 : lw_At p s m meth c b L xs) {DG : va_G} {aC : Nat → ClassId} (hK : ∀ (l : Launch) (ad : Nat → Nat) (base : Nat), va_K DG zCl (ztys (l, DG, aC, ad, base)) s) (qc q1 g1 q2 g2 q3 ha hr0 hg0 hr1 hg1 hr2 hg2 hr3 hg3 hr4 hg4 hr5 hg5 hr6 hg6 hr7 hg7 hr8 hg8 q4 q5 a5 b5 c5 d5 qm m0 m1 m2 m3 m4 m5 ql qd : Nat) : Yj ((l, DG, aC, (fun _ => 0), s.heap.size), ((p, e, room_1, s), (m, #[Value.ref b], below), (meth, c), lw_Z below #[Value.ref b] s, (603072, 7207018, 10))) (fun q => s.heap.size ≤ q) 512 3072 28 [(5, .int 0), (4, .ref qd), (3, .ref ql), (2, .ref qm), (1, .ref qc), (0, .ref b)] [] (wAll (l, DG, aC, (fun _ => 0), s.heap.size) qc q1 g1 q2 g2 q3 ha hr0 hg0 hr1 hg1 hr2 hg2 hr3 hg3 hr4 hg4 hr5 hg5 hr6 hg6 hr7 hg7 hr8 hg8 q4 q5 a5 b5 c5 d5 qm m0 m1 m2 m3 m4 m5 ql qd) := by
  intro H locs cells slots ls hP hD hS hc hs hl
  obtain ⟨hx, hb, hr, hml, hown, hts, hX, hbl, hlocks, hgv⟩ := id C0
  obtain ⟨k1, k2, hZ⟩ := zX_start hflags hts hgv hK
  obtain ⟨d1, d2⟩ := wAll_D qc q1 g1 q2 g2 q3 ha hr0 hg0 hr1 hg1 hr2 hg2 hr3 hg3 hr4 hg4 hr5 hg5 hr6 hg6 hr7 hg7 hr8 hg8 q4 q5 a5 b5 c5 d5 qm m0 m1 m2 m3 m4 m5 ql qd k1 k2 b hD
  have hzx := hZ (zad qc q1 g1 q2 g2 q3 ha hr0 hg0 hr1 hg1 hr2 hg2 hr3 hg3 hr4 hg4 hr5 hg5 hr6 hg6 hr7 hg7 hr8 hg8 q4 q5 a5 b5 c5 d5 qm m0 m1 m2 m3 m4 m5 ql qd k1 k2 b) rfl rfl ⟨d1, d2⟩
  have hok : zOk ((l, DG, aC, zad qc q1 g1 q2 g2 q3 ha hr0 hg0 hr1 hg1 hr2 hg2 hr3 hg3 hr4 hg4 hr5 hg5 hr6 hg6 hr7 hg7 hr8 hg8 q4 q5 a5 b5 c5 d5 qm m0 m1 m2 m3 m4 m5 ql qd k1 k2 b, s.heap.size), ((p, e, room_1, s), (m, #[Value.ref b], below), (meth, c), lw_Z below #[Value.ref b] s, (603072, 7207018, 10))) RL cL_law 10 15 :=
    ⟨hx, hb, hml, rfl, hown, lw_gd hts, hzx, hlocks, Nat.le_of_ble_eq_true rfl, Nat.le_of_ble_eq_true rfl, Nat.le_refl _, Nat.le_refl _⟩
  have hsc : zSc ((l, DG, aC, zad qc q1 g1 q2 g2 q3 ha hr0 hg0 hr1 hg1 hr2 hg2 hr3 hg3 hr4 hg4 hr5 hg5 hr6 hg6 hr7 hg7 hr8 hg8 q4 q5 a5 b5 c5 d5 qm m0 m1 m2 m3 m4 m5 ql qd k1 k2 b, s.heap.size), ((p, e, room_1, s), (m, #[Value.ref b], below), (meth, c), lw_Z below #[Value.ref b] s, (603072, 7207018, 10))) L xs := ⟨hX, hbl, Nat.not_le.mpr hbl⟩
  have k0 := law_loop hok hsc (zNc_start hgv) hL (law_end C0 rfl) 512 0 512 0 zc00 zR00 zt00 ((fun _ => 0), fun _ => 0) (by omega) (by omega) (Nat.le_refl _) (by decide) LwS_00
  refine k0 H locs cells slots ls (wAll_P qc q1 g1 q2 g2 q3 ha hr0 hg0 hr1 hg1 hr2 hg2 hr3 hg3 hr4 hg4 hr5 hg5 hr6 hg6 hr7 hg7 hr8 hg8 q4 q5 a5 b5 c5 d5 qm m0 m1 m2 m3 m4 m5 ql qd k1 k2 b hP) hS hc hs ⟨hl.1, hl.2.1, fun q hq => ?_⟩
  have hq2 : q ∈ [((5, .int 0) : Nat × Value), (0, .ref b), (1, .ref qc), (2, .ref qm), (3, .ref ql), (4, .ref qd)] := hq
  simp only [List.mem_cons, List.not_mem_nil, or_false] at hq2
  rcases hq2 with rfl | rfl | rfl | rfl | rfl | rfl
  · exact hl.2.2 _ (List.mem_of_getElem? (i := 0) rfl)
  · exact hl.2.2 _ (List.mem_of_getElem? (i := 5) rfl)
  · exact hl.2.2 _ (List.mem_of_getElem? (i := 4) rfl)
  · exact hl.2.2 _ (List.mem_of_getElem? (i := 3) rfl)
  · exact hl.2.2 _ (List.mem_of_getElem? (i := 2) rfl)
  · exact hl.2.2 _ (List.mem_of_getElem? (i := 1) rfl)
theorem whole_start {p : Program} {e : Env} {s : State} {m : MethodId} {below : List Frame} {meth : Method} {c : Code} (l : Launch) (hflags : l.flags = flags0) {b L : Nat} {xs : Nat → Int32} (hL : L ≤ 2048) (C0 : lw_At p s m meth c b L xs) : W p l e room_1 s m #[Value.ref b] below meth c s.heap [] 0 0 (lw_Z below #[Value.ref b] s) (entryFrame m ([Value.ref b] : List Value).toArray 10) := by
  obtain ⟨hx, hb, hr, hml, hown, hts, hXs, hbl, hlocks, hgv⟩ := id C0
  obtain ⟨DG, aC, hK⟩ := zK_start hts
  have hX : yOk ((l, DG, aC, (fun _ => 0), s.heap.size), ((p, e, room_1, s), (m, #[Value.ref b], below), (meth, c), lw_Z below #[Value.ref b] s, (603072, 7207018, 10))) (fun q => s.heap.size ≤ q) RL cL_law 10 15 :=
    ⟨hx, hb, hml, rfl, hown, lw_gd hts, ⟨hK _ _ _, va_AO.of (hts (.arrayOver (.object RX6)) (tm_1 (i := 55) (by decide +kernel))), va_Nw.of rfl (hts wNst (List.mem_append_right _ (by decide +kernel)))⟩, hlocks, Nat.le_of_ble_eq_true rfl, Nat.le_of_ble_eq_true rfl, Nat.le_refl _, Nat.le_refl _, fun q h => h⟩
  have hl := lv_entry ([.ref b]) (n := 10) (Nat.le_of_ble_eq_true rfl)
  rw [lg_entry_eq]
  generalize (lg_sl ([.ref b]) ++ List.replicate (10 - (lg_sl ([.ref b])).length) Slot.unset).toArray = ls at hl ⊢
  have hl : lv_has ls 10 [(0, .ref b)] := hl
  have main : Yj ((l, DG, aC, (fun _ => 0), s.heap.size), ((p, e, room_1, s), (m, #[Value.ref b], below), (meth, c), lw_Z below #[Value.ref b] s, (603072, 7207018, 10))) (fun q => s.heap.size ≤ q) 552 7077 0 [(0, .ref b)] [] [] := by
    refine y_mk hX (fs := [.null, .null, .null, .null, .null, .int 0]) (N := 6) (ci := 0) rfl ws_X10 tyX10 tyX10_ok k_L_8 ib_10 m_X10_init.2.2 (by intro j hj; match j, hj with | 0, _ => rfl | 1, _ => rfl | 2, _ => rfl | 3, _ => rfl | 4, _ => rfl | 5, _ => rfl) i_X10 m_X10_init.1 rfl rfl m_X10_init.2.1 l_L_147 pi_X10 (by decide) (by decide) (by decide) (by decide +kernel) (by decide +kernel) (by decide +kernel) (Nat.le_of_ble_eq_true rfl) (fun qc w hw => ?_)
    obtain ⟨q1, g1, q2, g2, q3, ha, hr0, hg0, hr1, hg1, hr2, hg2, hr3, hg3, hr4, hg4, hr5, hg5, hr6, hg6, hr7, hg7, hr8, hg8, q4, q5, a5, b5, c5, d5, rfl⟩ := hw
    refine y_astore_n hX (i := 1) (lo' := [(1, .ref qc), (0, .ref b)]) (by decide +kernel) rfl rfl ?_
    refine y_mk hX (fs := [.null, .null, .null, .null, .int 0, .int 0, .int 0, .int 0, .int 0, .int 0, .int 0, .null, .int 0, .int 0, .int 0, .null, .int 0]) (N := 17) (ci := 5) rfl ws_X11 tyX11 tyX11_ok k_L_148 ib_11 m_X11_init.2.2 (by intro j hj; match j, hj with | 0, _ => rfl | 1, _ => rfl | 2, _ => rfl | 3, _ => rfl | 4, _ => rfl | 5, _ => rfl | 6, _ => rfl | 7, _ => rfl | 8, _ => rfl | 9, _ => rfl | 10, _ => rfl | 11, _ => rfl | 12, _ => rfl | 13, _ => rfl | 14, _ => rfl | 15, _ => rfl | 16, _ => rfl | j + 17, hj => exact absurd hj (by omega)) i_X11 m_X11_init.1 rfl rfl m_X11_init.2.1 l_L_150 pi_X11 (by decide) (by decide) (by decide) (by decide +kernel) (by decide +kernel) (by decide +kernel) (Nat.le_of_ble_eq_true rfl) (fun qm w hw => ?_)
    obtain ⟨m0, m1, m2, m3, m4, m5, rfl⟩ := hw
    refine y_astore_n hX (i := 2) (lo' := [(2, .ref qm), (1, .ref qc), (0, .ref b)]) (by decide +kernel) rfl rfl ?_
    refine y_iconst hX (i := 1) (v := 1) (by decide +kernel) (by decide) ?_
    refine y_arr hX (atype := .long) (ty := .long) (t := 2) (N := 1) (a0 := (1, .inr (.inl (fun _ => 0)))) rfl (fun C => by intro z; cases z) rfl ac_long (fun _ => rfl) (by decide) (by decide) (by decide) (by decide +kernel) (by decide) (by decide) (fun ql => ?_)
    refine y_astore_n hX (i := 3) (lo' := [(3, .ref ql), (2, .ref qm), (1, .ref qc), (0, .ref b)]) (by decide +kernel) rfl rfl ?_
    refine y_iconst hX (i := 1) (v := 1) (by decide +kernel) (by decide) ?_
    refine y_arr hX (atype := .double) (ty := .double) (t := 3) (N := 1) (a0 := (1, .inr (.inr (.inr (.inl (fun _ => 0)))))) rfl (fun C => by intro z; cases z) rfl ac_double (fun _ => rfl) (by decide) (by decide) (by decide) (by decide +kernel) (by decide) (by decide) (fun qd => ?_)
    refine y_astore hX (i := 4) (lo' := [(4, .ref qd), (3, .ref ql), (2, .ref qm), (1, .ref qc), (0, .ref b)]) (by decide +kernel) rfl rfl ?_
    refine y_iconst hX (i := 0) (v := 0) (by decide +kernel) (by decide) ?_
    refine y_istore hX (i := 5) (lo' := [(5, .int 0), (4, .ref qd), (3, .ref ql), (2, .ref qm), (1, .ref qc), (0, .ref b)]) (by decide +kernel) rfl rfl ?_
    exact law_at28 hflags hL C0 hK qc q1 g1 q2 g2 q3 ha hr0 hg0 hr1 hg1 hr2 hg2 hr3 hg3 hr4 hg4 hr5 hg5 hr6 hg6 hr7 hg7 hr8 hg8 q4 q5 a5 b5 c5 d5 qm m0 m1 m2 m3 m4 m5 ql qd
  exact main s.heap [] 0 0 ls (fun k q h => by cases h) ⟨fun i j p q h => (by cases h), fun k q h => (by cases h)⟩ va_S.rf (Nat.le_of_ble_eq_true rfl) (Nat.le_of_ble_eq_true rfl) hl
