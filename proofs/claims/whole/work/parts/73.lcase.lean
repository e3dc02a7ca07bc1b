/-! ===== the law: its cases ===== -/
theorem wk6 {i : Nat} {lo : List (Nat × vV)} (h5 : zget 5 lo = some (vi (i : Int))) (h0 : zget 0 lo = some (vr 42)) (h1 : zget 1 lo = some (vr 0)) (h2 : zget 2 lo = some (vr 32)) (h3 : zget 3 lo = some (vr 20)) (h4 : zget 4 lo = some (vr 39)) : ∀ q ∈ lL i, zget q.1 lo = some q.2 := by
  intro q hq
  simp only [lL, List.mem_cons, List.not_mem_nil, or_false] at hq
  rcases hq with rfl | rfl | rfl | rfl | rfl | rfl
  · exact h5
  · exact h0
  · exact h1
  · exact h2
  · exact h3
  · exact h4
def zbl (x : Int) : Int := if x = 0 then 0 else 1
theorem zbl_b (x : Int) : zbl x = 0 ∨ zbl x = 1 := by unfold zbl; split <;> omega
theorem z_if_ne2 {X : zC} {own : String} {cc : ByteArray} {nL d b pc : Nat} {lo : List (Nat × vV)} {sk : List vV} {st : zT} (h : zOk X own cc nL d) {x : Int} (d0 : decode cc pc = .ok (.ifCond .eq 7, 3)) (d1 : decode cc (pc + 3) = .ok (.iconst 1, 1)) (d2 : decode cc (pc + 3 + 1) = .ok (.goto 4, 3)) (d3 : decode cc (pc + 7) = .ok (.iconst 0, 1)) (hz : zi x) (k : Z X b (pc + 8) lo (vi (zbl x) :: sk) st) : Z X b pc lo (vi x :: sk) st := by
  refine z_if_eq h (pc + 7) d0 (by omega) hz (fun h0 => ?_) (fun h0 => ?_)
  · refine z_iconst h d3 ?_
    rw [show zbl x = 0 from if_pos h0] at k
    exact k
  · refine z_iconst h d1 ?_
    refine z_goto h (pc + 8) d2 (by omega) ?_
    rw [show zbl x = 1 from if_neg h0] at k
    exact k
theorem z_c16 (x : Int32) : 0 ≤ ((x.toUInt32 % 65536).toInt32).toInt ∧ ((x.toUInt32 % 65536).toInt32).toInt ≤ 65535 := by
  have h : (x.toUInt32 % 65536).toNat < 65536 := by
    rw [UInt32.toNat_mod]
    exact Nat.mod_lt _ (by decide)
  have h2 : ((x.toUInt32 % 65536).toInt32).toInt = ((x.toUInt32 % 65536).toNat : Int) := by
    rw [UInt32.toInt32, Int32.toInt]
    show (x.toUInt32 % 65536).toBitVec.toInt = _
    rw [BitVec.toInt_eq_toNat_of_lt (by show 2 * (x.toUInt32 % 65536).toNat < 2 ^ 32; omega)]
    rfl
  omega
theorem law_0 {X : zC} {L i b : Nat} {xs : Nat → Int32} {D : Int} {c : Nat → Int} {R : aQ} {τ : Nat → Nat → Int} {l : (Nat → Int64) × (Nat → UInt64)} (hX : zOk X RL cL_law 10 15) (hS : zSc X L xs) (hN : zNc X.2.1.2.2.2) (hL : L ≤ 2048) (hi : i + 4 ≤ L) (hs : LwS D c R τ) (hD : D + 1800 ≤ 1000000) (hb : 1 ≤ b) (hk : ∀ (c' : Nat → Int) (R' : aQ) (τ' : Nat → Nat → Int) (l' : (Nat → Int64) × (Nat → UInt64)), LwS (D + 1800) c' R' τ' → Z X (b - 1) 2664 (lL i) [] (τ', l')) : Z X b 232 (lL i) [] (τ, l) := by
  have hI := hs.1
  have hK := hs.2.2.1
  rw [show (τ, l) = (zs τ 21 c, l) from by rw [hs.eq]]
  refine z_b hX (fo_no RL) [.aload_n 1, .aload_n 0, .iload 5, .iconst 1, .iadd] 238 (by decide +kernel) rfl ?_
  refine z_sld hX hS (i + 1) (by omega) hL (by omega) (by decide +kernel) ?_
  refine z_b hX (fo_no RL) [.aload_n 3] 240 (by decide +kernel) rfl ?_
  refine z_callN hX hN m_L_coat l_L_151 p_L_coat (c_L_coat hI hK (zi_x _)) (by decide) hb rfl rfl rfl (by decide +kernel) (fun v st q => ?_) (fun cls st q => by obtain ⟨k, σ1, lg, q1, -⟩ := q; cases q1)
  obtain ⟨k, σ1, lg, q1, rfl, hc, hf, hr⟩ := q
  cases q1
  obtain ⟨m1, m2, m3⟩ := hs.mid (c' := _) hf
  refine z_b hX (fo_no RL) [.istore 6, .aload_n 2, .aload_n 0, .iload 5, .iconst 1, .iadd] 251 (by decide +kernel) rfl ?_
  refine z_sld hX hS (i + 1) (by omega) hL (by omega) (by decide +kernel) ?_
  rw [← m1]
  refine z_cVK hX m_X11_coat l_L_156 p_X11_coat (c_X11_coat (w := false) hI m2 m3 (zi_x _)) rfl rfl rfl rfl rfl rfl (by decide +kernel) (fun o s q => by obtain ⟨v, σ2, q1, -⟩ := q; exact ⟨_, q1⟩) (fun v st q => ?_)
  obtain ⟨v, σ2, q1, rfl, hM2, hr2, hlow, h62⟩ := q.w
  cases q1
  refine z_b hX (fo_no RL) [.istore 7] 257 (by decide +kernel) rfl ?_
  have ha := law_and hr hr2 (fun e he => cd2_in (aCoat_x he))
  refine z_tail hX (off := 2379) 2664 (by decide +kernel) (by decide) rfl rfl rfl rfl ⟨(congrFun (zs_ne (by decide) _) 7).trans ha.1, ha.2⟩ ?_
  exact z_wk (wk6 rfl rfl rfl rfl rfl rfl) (hk _ _ _ _ (LwS.next (aCoat_I hI) hc hM2 hlow h62 m3))
theorem law_1 {X : zC} {L i b : Nat} {xs : Nat → Int32} {D : Int} {c : Nat → Int} {R : aQ} {τ : Nat → Nat → Int} {l : (Nat → Int64) × (Nat → UInt64)} (hX : zOk X RL cL_law 10 15) (hS : zSc X L xs) (hN : zNc X.2.1.2.2.2) (hL : L ≤ 2048) (hi : i + 4 ≤ L) (hs : LwS D c R τ) (hD : D + 1800 ≤ 1000000) (hb : 1 ≤ b) (hk : ∀ (c' : Nat → Int) (R' : aQ) (τ' : Nat → Nat → Int) (l' : (Nat → Int64) × (Nat → UInt64)), LwS (D + 1800) c' R' τ' → Z X (b - 1) 2664 (lL i) [] (τ', l')) : Z X b 288 (lL i) [] (τ, l) := by
  have hI := hs.1
  have hK := hs.2.2.1
  rw [show (τ, l) = (zs τ 21 c, l) from by rw [hs.eq]]
  refine z_b hX (fo_no RL) [.aload_n 1, .aload_n 0, .iload 5, .iconst 1, .iadd] 294 (by decide +kernel) rfl ?_
  refine z_sld hX hS (i + 1) (by omega) hL (by omega) (by decide +kernel) ?_
  refine z_b hX (fo_no RL) [.aload_n 0, .iload 5, .iconst 2, .iadd] 300 (by decide +kernel) rfl ?_
  refine z_sld hX hS (i + 2) (by omega) hL (by omega) (by decide +kernel) ?_
  refine z_b hX (fo_no RL) [.aload_n 3] 302 (by decide +kernel) rfl ?_
  refine z_callN hX hN m_L_act l_L_160 p_L_act (c_L_act hI hK (zi_x _) (zi_x _)) (by decide) hb rfl rfl rfl (by decide +kernel) (fun v st q => ?_) (fun cls st q => by obtain ⟨k, σ1, lg, q1, -⟩ := q; cases q1)
  obtain ⟨k, σ1, lg, q1, rfl, hc, hf, hr⟩ := q
  cases q1
  obtain ⟨m1, m2, m3⟩ := hs.mid (c' := _) hf
  refine z_b hX (fo_no RL) [.istore 6, .aload_n 2, .aload_n 0, .iload 5, .iconst 1, .iadd] 313 (by decide +kernel) rfl ?_
  refine z_sld hX hS (i + 1) (by omega) hL (by omega) (by decide +kernel) ?_
  refine z_b hX (fo_no RL) [.aload_n 0, .iload 5, .iconst 2, .iadd] 319 (by decide +kernel) rfl ?_
  refine z_sld hX hS (i + 2) (by omega) hL (by omega) (by decide +kernel) ?_
  rw [← m1]
  refine z_cVK hX m_X11_act l_L_163 p_X11_act (c_X11_act (w := false) hI m2 m3 (zi_x _) (zi_x _)) rfl rfl rfl rfl rfl rfl (by decide +kernel) (fun o s q => by obtain ⟨v, σ2, q1, -⟩ := q; exact ⟨_, q1⟩) (fun v st q => ?_)
  obtain ⟨v, σ2, q1, rfl, hM2, hr2, hlow, h62⟩ := q.w
  cases q1
  refine z_b hX (fo_no RL) [.istore 7] 325 (by decide +kernel) rfl ?_
  have ha := law_and hr hr2 (fun e he => cd2_in (aAct_x he))
  refine z_tail hX (off := 2311) 2664 (by decide +kernel) (by decide) rfl rfl rfl rfl ⟨(congrFun (zs_ne (by decide) _) 7).trans ha.1, ha.2⟩ ?_
  exact z_wk (wk6 rfl rfl rfl rfl rfl rfl) (hk _ _ _ _ (LwS.next (aAct_I hI) hc hM2 hlow h62 m3))
theorem law_2 {X : zC} {L i b : Nat} {xs : Nat → Int32} {D : Int} {c : Nat → Int} {R : aQ} {τ : Nat → Nat → Int} {l : (Nat → Int64) × (Nat → UInt64)} (hX : zOk X RL cL_law 10 15) (hS : zSc X L xs) (hN : zNc X.2.1.2.2.2) (hL : L ≤ 2048) (hi : i + 4 ≤ L) (hs : LwS D c R τ) (hD : D + 1800 ≤ 1000000) (hb : 1 ≤ b) (hk : ∀ (c' : Nat → Int) (R' : aQ) (τ' : Nat → Nat → Int) (l' : (Nat → Int64) × (Nat → UInt64)), LwS (D + 1800) c' R' τ' → Z X (b - 1) 2664 (lL i) [] (τ', l')) : Z X b 356 (lL i) [] (τ, l) := by
  have hI := hs.1
  have hK := hs.2.2.1
  rw [show (τ, l) = (zs τ 21 c, l) from by rw [hs.eq]]
  refine z_b hX (fo_no RL) [.aload_n 1, .aload_n 0, .iload 5, .iconst 1, .iadd] 362 (by decide +kernel) rfl ?_
  refine z_sld hX hS (i + 1) (by omega) hL (by omega) (by decide +kernel) ?_
  refine z_b hX (fo_no RL) [.aload_n 0, .iload 5, .iconst 2, .iadd] 368 (by decide +kernel) rfl ?_
  refine z_sld hX hS (i + 2) (by omega) hL (by omega) (by decide +kernel) ?_
  refine z_b hX (fo_no RL) [.aload_n 3] 370 (by decide +kernel) rfl ?_
  refine z_callN hX hN m_L_wear l_L_164 p_L_wear (c_L_wear hI hK (zi_x _) (zi_x _)) (by decide) hb rfl rfl rfl (by decide +kernel) (fun v st q => ?_) (fun cls st q => by obtain ⟨k, σ1, lg, q1, -⟩ := q; cases q1)
  obtain ⟨k, σ1, lg, q1, rfl, hc, hf, hr⟩ := q
  cases q1
  obtain ⟨m1, m2, m3⟩ := hs.mid (c' := _) hf
  refine z_b hX (fo_no RL) [.istore 6, .aload_n 2, .aload_n 0, .iload 5, .iconst 1, .iadd] 381 (by decide +kernel) rfl ?_
  refine z_sld hX hS (i + 1) (by omega) hL (by omega) (by decide +kernel) ?_
  refine z_b hX (fo_no RL) [.aload_n 0, .iload 5, .iconst 2, .iadd] 387 (by decide +kernel) rfl ?_
  refine z_sld hX hS (i + 2) (by omega) hL (by omega) (by decide +kernel) ?_
  rw [← m1]
  refine z_cVK hX m_X11_wear l_L_166 p_X11_wear (c_X11_wear (w := false) hI m2 m3 (zi_x _) (zi_x _)) rfl rfl rfl rfl rfl rfl (by decide +kernel) (fun o s q => by obtain ⟨v, σ2, q1, -⟩ := q; exact ⟨_, q1⟩) (fun v st q => ?_)
  obtain ⟨v, σ2, q1, rfl, hM2, hr2, hlow, h62⟩ := q.w
  cases q1
  refine z_b hX (fo_no RL) [.istore 7] 393 (by decide +kernel) rfl ?_
  have ha := law_and hr hr2 (fun e he => cd2_in (aWear_x he))
  refine z_tail hX (off := 2243) 2664 (by decide +kernel) (by decide) rfl rfl rfl rfl ⟨(congrFun (zs_ne (by decide) _) 7).trans ha.1, ha.2⟩ ?_
  exact z_wk (wk6 rfl rfl rfl rfl rfl rfl) (hk _ _ _ _ (LwS.next (aWear_I hI) hc hM2 hlow h62 m3))
theorem law_3 {X : zC} {L i b : Nat} {xs : Nat → Int32} {D : Int} {c : Nat → Int} {R : aQ} {τ : Nat → Nat → Int} {l : (Nat → Int64) × (Nat → UInt64)} (hX : zOk X RL cL_law 10 15) (hS : zSc X L xs) (hN : zNc X.2.1.2.2.2) (hL : L ≤ 2048) (hi : i + 4 ≤ L) (hs : LwS D c R τ) (hD : D + 1800 ≤ 1000000) (hb : 1 ≤ b) (hk : ∀ (c' : Nat → Int) (R' : aQ) (τ' : Nat → Nat → Int) (l' : (Nat → Int64) × (Nat → UInt64)), LwS (D + 1800) c' R' τ' → Z X (b - 1) 2664 (lL i) [] (τ', l')) : Z X b 424 (lL i) [] (τ, l) := by
  have hI := hs.1
  have hK := hs.2.2.1
  rw [show (τ, l) = (zs τ 21 c, l) from by rw [hs.eq]]
  refine z_b hX (fo_no RL) [.aload_n 1, .aload_n 0, .iload 5, .iconst 1, .iadd] 430 (by decide +kernel) rfl ?_
  refine z_sld hX hS (i + 1) (by omega) hL (by omega) (by decide +kernel) ?_
  refine z_b hX (fo_no RL) [.aload_n 0, .iload 5, .iconst 2, .iadd] 436 (by decide +kernel) rfl ?_
  refine z_sld hX hS (i + 2) (by omega) hL (by omega) (by decide +kernel) ?_
  refine z_b hX (fo_no RL) [.aload_n 3] 438 (by decide +kernel) rfl ?_
  refine z_callN hX hN m_L_rip l_L_167 p_L_rip (c_L_rip hI hK (zi_x _) (zi_x _)) (by decide) hb rfl rfl rfl (by decide +kernel) (fun v st q => ?_) (fun cls st q => by obtain ⟨k, σ1, lg, q1, -⟩ := q; cases q1)
  obtain ⟨k, σ1, lg, q1, rfl, hc, hf, hr⟩ := q
  cases q1
  obtain ⟨m1, m2, m3⟩ := hs.mid (c' := _) hf
  refine z_b hX (fo_no RL) [.istore 6, .aload_n 2, .aload_n 0, .iload 5, .iconst 1, .iadd] 449 (by decide +kernel) rfl ?_
  refine z_sld hX hS (i + 1) (by omega) hL (by omega) (by decide +kernel) ?_
  refine z_b hX (fo_no RL) [.aload_n 0, .iload 5, .iconst 2, .iadd] 455 (by decide +kernel) rfl ?_
  refine z_sld hX hS (i + 2) (by omega) hL (by omega) (by decide +kernel) ?_
  rw [← m1]
  refine z_cVK hX m_X11_rip l_L_169 p_X11_rip (c_X11_rip (w := false) hI m2 m3 (zi_x _) (zi_x _)) rfl rfl rfl rfl rfl rfl (by decide +kernel) (fun o s q => by obtain ⟨v, σ2, q1, -⟩ := q; exact ⟨_, q1⟩) (fun v st q => ?_)
  obtain ⟨v, σ2, q1, rfl, hM2, hr2, hlow, h62⟩ := q.w
  cases q1
  refine z_b hX (fo_no RL) [.istore 7] 461 (by decide +kernel) rfl ?_
  have ha := law_and hr hr2 (fun e he => cd2_in (aRip_x he))
  refine z_tail hX (off := 2175) 2664 (by decide +kernel) (by decide) rfl rfl rfl rfl ⟨(congrFun (zs_ne (by decide) _) 7).trans ha.1, ha.2⟩ ?_
  exact z_wk (wk6 rfl rfl rfl rfl rfl rfl) (hk _ _ _ _ (LwS.next (aRip_I hI) hc hM2 hlow h62 m3))
theorem law_4 {X : zC} {L i b : Nat} {xs : Nat → Int32} {D : Int} {c : Nat → Int} {R : aQ} {τ : Nat → Nat → Int} {l : (Nat → Int64) × (Nat → UInt64)} (hX : zOk X RL cL_law 10 15) (hS : zSc X L xs) (hN : zNc X.2.1.2.2.2) (hL : L ≤ 2048) (hi : i + 4 ≤ L) (hs : LwS D c R τ) (hD : D + 1800 ≤ 1000000) (hb : 1 ≤ b) (hk : ∀ (c' : Nat → Int) (R' : aQ) (τ' : Nat → Nat → Int) (l' : (Nat → Int64) × (Nat → UInt64)), LwS (D + 1800) c' R' τ' → Z X (b - 1) 2664 (lL i) [] (τ', l')) : Z X b 492 (lL i) [] (τ, l) := by
  have hI := hs.1
  have hK := hs.2.2.1
  rw [show (τ, l) = (zs τ 21 c, l) from by rw [hs.eq]]
  refine z_b hX (fo_no RL) [.aload_n 1, .aload_n 0, .iload 5, .iconst 1, .iadd] 498 (by decide +kernel) rfl ?_
  refine z_sld hX hS (i + 1) (by omega) hL (by omega) (by decide +kernel) ?_
  refine z_b hX (fo_no RL) [.aload_n 0, .iload 5, .iconst 2, .iadd] 504 (by decide +kernel) rfl ?_
  refine z_sld hX hS (i + 2) (by omega) hL (by omega) (by decide +kernel) ?_
  refine z_b hX (fo_no RL) [.aload_n 3] 506 (by decide +kernel) rfl ?_
  refine z_callN hX hN m_L_lose l_L_170 p_L_lose (c_L_lose hI hK (zi_x _) (zi_x _)) (by decide) hb rfl rfl rfl (by decide +kernel) (fun v st q => ?_) (fun cls st q => by obtain ⟨k, σ1, lg, q1, -⟩ := q; cases q1)
  obtain ⟨k, σ1, lg, q1, rfl, hc, hf, hr⟩ := q
  cases q1
  obtain ⟨m1, m2, m3⟩ := hs.mid (c' := _) hf
  refine z_b hX (fo_no RL) [.istore 6, .aload_n 2, .aload_n 0, .iload 5, .iconst 1, .iadd] 517 (by decide +kernel) rfl ?_
  refine z_sld hX hS (i + 1) (by omega) hL (by omega) (by decide +kernel) ?_
  refine z_b hX (fo_no RL) [.aload_n 0, .iload 5, .iconst 2, .iadd] 523 (by decide +kernel) rfl ?_
  refine z_sld hX hS (i + 2) (by omega) hL (by omega) (by decide +kernel) ?_
  rw [← m1]
  refine z_cVK hX m_X11_lose l_L_172 p_X11_lose (c_X11_lose (w := false) hI m2 m3 (zi_x _) (zi_x _)) rfl rfl rfl rfl rfl rfl (by decide +kernel) (fun o s q => by obtain ⟨v, σ2, q1, -⟩ := q; exact ⟨_, q1⟩) (fun v st q => ?_)
  obtain ⟨v, σ2, q1, rfl, hM2, hr2, hlow, h62⟩ := q.w
  cases q1
  refine z_b hX (fo_no RL) [.istore 7] 529 (by decide +kernel) rfl ?_
  have ha := law_and hr hr2 (fun e he => cd2_in (aLose_x he))
  refine z_tail hX (off := 2107) 2664 (by decide +kernel) (by decide) rfl rfl rfl rfl ⟨(congrFun (zs_ne (by decide) _) 7).trans ha.1, ha.2⟩ ?_
  exact z_wk (wk6 rfl rfl rfl rfl rfl rfl) (hk _ _ _ _ (LwS.next (aLose_I hI) hc hM2 hlow h62 m3))
theorem law_5 {X : zC} {L i b : Nat} {xs : Nat → Int32} {D : Int} {c : Nat → Int} {R : aQ} {τ : Nat → Nat → Int} {l : (Nat → Int64) × (Nat → UInt64)} (hX : zOk X RL cL_law 10 15) (hS : zSc X L xs) (hN : zNc X.2.1.2.2.2) (hL : L ≤ 2048) (hi : i + 4 ≤ L) (hs : LwS D c R τ) (hD : D + 1800 ≤ 1000000) (hb : 1 ≤ b) (hk : ∀ (c' : Nat → Int) (R' : aQ) (τ' : Nat → Nat → Int) (l' : (Nat → Int64) × (Nat → UInt64)), LwS (D + 1800) c' R' τ' → Z X (b - 1) 2664 (lL i) [] (τ', l')) : Z X b 560 (lL i) [] (τ, l) := by
  have hI := hs.1
  have hK := hs.2.2.1
  rw [show (τ, l) = (zs τ 21 c, l) from by rw [hs.eq]]
  refine z_b hX (fo_no RL) [.aload_n 1, .aload_n 0, .iload 5, .iconst 1, .iadd] 566 (by decide +kernel) rfl ?_
  refine z_sld hX hS (i + 1) (by omega) hL (by omega) (by decide +kernel) ?_
  refine z_b hX (fo_no RL) [.aload_n 0, .iload 5, .iconst 2, .iadd] 572 (by decide +kernel) rfl ?_
  refine z_sld hX hS (i + 2) (by omega) hL (by omega) (by decide +kernel) ?_
  refine z_b hX (fo_no RL) [.aload_n 3] 574 (by decide +kernel) rfl ?_
  refine z_callN hX hN m_L_coatOf l_L_173 p_L_coatOf (c_L_coatOf hI hK (zi_x _) (zi_x _)) (by decide) hb rfl rfl rfl (by decide +kernel) (fun v st q => ?_) (fun cls st q => by obtain ⟨k, σ1, lg, q1, -⟩ := q; cases q1)
  obtain ⟨k, σ1, lg, q1, rfl, hc, hf, hr⟩ := q
  cases q1
  obtain ⟨m1, m2, m3⟩ := hs.mid (c' := _) hf
  refine z_b hX (fo_no RL) [.istore 6, .aload_n 2, .aload_n 0, .iload 5, .iconst 1, .iadd] 585 (by decide +kernel) rfl ?_
  refine z_sld hX hS (i + 1) (by omega) hL (by omega) (by decide +kernel) ?_
  refine z_b hX (fo_no RL) [.aload_n 0, .iload 5, .iconst 2, .iadd] 591 (by decide +kernel) rfl ?_
  refine z_sld hX hS (i + 2) (by omega) hL (by omega) (by decide +kernel) ?_
  rw [← m1]
  refine z_cVK hX m_X11_coatOf l_L_175 p_X11_coatOf (c_X11_coatOf (w := false) hI m2 m3 (zi_x _) (zi_x _)) rfl rfl rfl rfl rfl rfl (by decide +kernel) (fun o s q => by obtain ⟨v, σ2, q1, -⟩ := q; exact ⟨_, q1⟩) (fun v st q => ?_)
  obtain ⟨v, σ2, q1, rfl, hM2, hr2, hlow, h62⟩ := q.w
  cases q1
  refine z_b hX (fo_no RL) [.istore 7] 597 (by decide +kernel) rfl ?_
  have ha := law_and hr hr2 (fun e he => cd2_in (aCoatOf_x he))
  refine z_tail hX (off := 2039) 2664 (by decide +kernel) (by decide) rfl rfl rfl rfl ⟨(congrFun (zs_ne (by decide) _) 7).trans ha.1, ha.2⟩ ?_
  exact z_wk (wk6 rfl rfl rfl rfl rfl rfl) (hk _ _ _ _ (LwS.next (aCoatOf_I hI) hc hM2 hlow h62 m3))
theorem law_6 {X : zC} {L i b : Nat} {xs : Nat → Int32} {D : Int} {c : Nat → Int} {R : aQ} {τ : Nat → Nat → Int} {l : (Nat → Int64) × (Nat → UInt64)} (hX : zOk X RL cL_law 10 15) (hS : zSc X L xs) (hN : zNc X.2.1.2.2.2) (hL : L ≤ 2048) (hi : i + 4 ≤ L) (hs : LwS D c R τ) (hD : D + 1800 ≤ 1000000) (hb : 1 ≤ b) (hk : ∀ (c' : Nat → Int) (R' : aQ) (τ' : Nat → Nat → Int) (l' : (Nat → Int64) × (Nat → UInt64)), LwS (D + 1800) c' R' τ' → Z X (b - 1) 2664 (lL i) [] (τ', l')) : Z X b 628 (lL i) [] (τ, l) := by
  have hI := hs.1
  have hK := hs.2.2.1
  rw [show (τ, l) = (zs τ 21 c, l) from by rw [hs.eq]]
  refine z_b hX (fo_no RL) [.aload_n 1, .aload_n 0, .iload 5, .iconst 1, .iadd] 634 (by decide +kernel) rfl ?_
  refine z_sld hX hS (i + 1) (by omega) hL (by omega) (by decide +kernel) ?_
  refine z_b hX (fo_no RL) [.aload_n 0, .iload 5, .iconst 2, .iadd] 640 (by decide +kernel) rfl ?_
  refine z_sld hX hS (i + 2) (by omega) hL (by omega) (by decide +kernel) ?_
  refine z_b hX (fo_no RL) [.aload_n 3] 642 (by decide +kernel) rfl ?_
  refine z_callN hX hN m_L_actOf l_L_176 p_L_actOf (c_L_actOf hI hK (zi_x _) (zi_x _)) (by decide) hb rfl rfl rfl (by decide +kernel) (fun v st q => ?_) (fun cls st q => by obtain ⟨k, σ1, lg, q1, -⟩ := q; cases q1)
  obtain ⟨k, σ1, lg, q1, rfl, hc, hf, hr⟩ := q
  cases q1
  obtain ⟨m1, m2, m3⟩ := hs.mid (c' := _) hf
  refine z_b hX (fo_no RL) [.istore 6, .aload_n 2, .aload_n 0, .iload 5, .iconst 1, .iadd] 653 (by decide +kernel) rfl ?_
  refine z_sld hX hS (i + 1) (by omega) hL (by omega) (by decide +kernel) ?_
  refine z_b hX (fo_no RL) [.aload_n 0, .iload 5, .iconst 2, .iadd] 659 (by decide +kernel) rfl ?_
  refine z_sld hX hS (i + 2) (by omega) hL (by omega) (by decide +kernel) ?_
  rw [← m1]
  refine z_cVK hX m_X11_actOf l_L_178 p_X11_actOf (c_X11_actOf (w := false) hI m2 m3 (zi_x _) (zi_x _)) rfl rfl rfl rfl rfl rfl (by decide +kernel) (fun o s q => by obtain ⟨v, σ2, q1, -⟩ := q; exact ⟨_, q1⟩) (fun v st q => ?_)
  obtain ⟨v, σ2, q1, rfl, hM2, hr2, hlow, h62⟩ := q.w
  cases q1
  refine z_b hX (fo_no RL) [.istore 7] 665 (by decide +kernel) rfl ?_
  have ha := law_and hr hr2 (fun e he => cd2_in (aActOf_x he))
  refine z_tail hX (off := 1971) 2664 (by decide +kernel) (by decide) rfl rfl rfl rfl ⟨(congrFun (zs_ne (by decide) _) 7).trans ha.1, ha.2⟩ ?_
  exact z_wk (wk6 rfl rfl rfl rfl rfl rfl) (hk _ _ _ _ (LwS.next (aActOf_I hI) hc hM2 hlow h62 m3))
theorem law_8 {X : zC} {L i b : Nat} {xs : Nat → Int32} {D : Int} {c : Nat → Int} {R : aQ} {τ : Nat → Nat → Int} {l : (Nat → Int64) × (Nat → UInt64)} (hX : zOk X RL cL_law 10 15) (hS : zSc X L xs) (hN : zNc X.2.1.2.2.2) (hL : L ≤ 2048) (hi : i + 4 ≤ L) (hs : LwS D c R τ) (hD : D + 1800 ≤ 1000000) (hb : 1 ≤ b) (hk : ∀ (c' : Nat → Int) (R' : aQ) (τ' : Nat → Nat → Int) (l' : (Nat → Int64) × (Nat → UInt64)), LwS (D + 1800) c' R' τ' → Z X (b - 1) 2664 (lL i) [] (τ', l')) : Z X b 771 (lL i) [] (τ, l) := by
  have hI := hs.1
  have hK := hs.2.2.1
  rw [show (τ, l) = (zs τ 21 c, l) from by rw [hs.eq]]
  refine z_b hX (fo_no RL) [.aload_n 1, .aload_n 0, .iload 5, .iconst 1, .iadd] 777 (by decide +kernel) rfl ?_
  refine z_sld hX hS (i + 1) (by omega) hL (by omega) (by decide +kernel) ?_
  refine z_b hX (fo_no RL) [.aload_n 3] 779 (by decide +kernel) rfl ?_
  refine z_callN hX hN m_L_best l_L_182 p_L_best (c_L_best hI hK (zi_x _)) (by decide) hb rfl rfl rfl (by decide +kernel) (fun v st q => ?_) (fun cls st q => by obtain ⟨k, σ1, lg, q1, -⟩ := q; cases q1)
  obtain ⟨k, σ1, lg, q1, rfl, hc, hf, hr⟩ := q
  cases q1
  obtain ⟨m1, m2, m3⟩ := hs.mid (c' := _) hf
  refine z_b hX (fo_no RL) [.istore 6, .aload_n 2, .aload_n 0, .iload 5, .iconst 1, .iadd] 790 (by decide +kernel) rfl ?_
  refine z_sld hX hS (i + 1) (by omega) hL (by omega) (by decide +kernel) ?_
  rw [← m1]
  refine z_cVK hX m_X11_best l_L_184 p_X11_best (c_X11_best (w := false) hI m2 m3 (zi_x _)) rfl rfl rfl rfl rfl rfl (by decide +kernel) (fun o s q => by obtain ⟨v, σ2, q1, -⟩ := q; exact ⟨_, q1⟩) (fun v st q => ?_)
  obtain ⟨v, σ2, q1, rfl, hM2, hr2, hlow, h62⟩ := q.w
  cases q1
  refine z_b hX (fo_no RL) [.istore 7] 796 (by decide +kernel) rfl ?_
  have ha := law_and hr hr2 (fun e he => cd2_in (aBest_x he))
  refine z_tail hX (off := 1840) 2664 (by decide +kernel) (by decide) rfl rfl rfl rfl ⟨(congrFun (zs_ne (by decide) _) 7).trans ha.1, ha.2⟩ ?_
  exact z_wk (wk6 rfl rfl rfl rfl rfl rfl) (hk _ _ _ _ (LwS.next (aBest_I hI) hc hM2 hlow h62 m3))
theorem law_9 {X : zC} {L i b : Nat} {xs : Nat → Int32} {D : Int} {c : Nat → Int} {R : aQ} {τ : Nat → Nat → Int} {l : (Nat → Int64) × (Nat → UInt64)} (hX : zOk X RL cL_law 10 15) (hS : zSc X L xs) (hN : zNc X.2.1.2.2.2) (hL : L ≤ 2048) (hi : i + 4 ≤ L) (hs : LwS D c R τ) (hD : D + 1800 ≤ 1000000) (hb : 1 ≤ b) (hk : ∀ (c' : Nat → Int) (R' : aQ) (τ' : Nat → Nat → Int) (l' : (Nat → Int64) × (Nat → UInt64)), LwS (D + 1800) c' R' τ' → Z X (b - 1) 2664 (lL i) [] (τ', l')) : Z X b 827 (lL i) [] (τ, l) := by
  have hI := hs.1
  have hK := hs.2.2.1
  rw [show (τ, l) = (zs τ 21 c, l) from by rw [hs.eq]]
  refine z_b hX (fo_no RL) [.aload_n 1, .aload_n 0, .iload 5, .iconst 1, .iadd] 833 (by decide +kernel) rfl ?_
  refine z_sld hX hS (i + 1) (by omega) hL (by omega) (by decide +kernel) ?_
  refine z_b hX (fo_no RL) [.aload_n 0, .iload 5, .iconst 2, .iadd] 839 (by decide +kernel) rfl ?_
  refine z_sld hX hS (i + 2) (by omega) hL (by omega) (by decide +kernel) ?_
  refine z_b hX (fo_no RL) [.aload_n 3] 841 (by decide +kernel) rfl ?_
  refine z_callN hX hN m_L_work l_L_185 p_L_work (c_L_work hI hK (zi_x _) (zi_x _)) (by decide) hb rfl rfl rfl (by decide +kernel) (fun v st q => ?_) (fun cls st q => by obtain ⟨k, σ1, lg, q1, -⟩ := q; cases q1)
  obtain ⟨k, σ1, lg, q1, rfl, hc, hf, hr⟩ := q
  cases q1
  obtain ⟨m1, m2, m3⟩ := hs.mid (c' := _) hf
  refine z_b hX (fo_no RL) [.istore 6, .aload_n 2, .aload_n 0, .iload 5, .iconst 1, .iadd] 852 (by decide +kernel) rfl ?_
  refine z_sld hX hS (i + 1) (by omega) hL (by omega) (by decide +kernel) ?_
  refine z_b hX (fo_no RL) [.aload_n 0, .iload 5, .iconst 2, .iadd] 858 (by decide +kernel) rfl ?_
  refine z_sld hX hS (i + 2) (by omega) hL (by omega) (by decide +kernel) ?_
  rw [← m1]
  refine z_cVK hX m_X11_work l_L_187 p_X11_work (c_X11_work (w := false) hI m2 m3 (zi_x _) (zi_x _)) rfl rfl rfl rfl rfl rfl (by decide +kernel) (fun o s q => by obtain ⟨v, σ2, q1, -⟩ := q; exact ⟨_, q1⟩) (fun v st q => ?_)
  obtain ⟨v, σ2, q1, rfl, hM2, hr2, hlow, h62⟩ := q.w
  cases q1
  refine z_b hX (fo_no RL) [.istore 7] 864 (by decide +kernel) rfl ?_
  have ha := law_and hr hr2 (fun e he => cd2_in (aWork_x he))
  refine z_tail hX (off := 1772) 2664 (by decide +kernel) (by decide) rfl rfl rfl rfl ⟨(congrFun (zs_ne (by decide) _) 7).trans ha.1, ha.2⟩ ?_
  exact z_wk (wk6 rfl rfl rfl rfl rfl rfl) (hk _ _ _ _ (LwS.next (aWork_I hI) hc hM2 hlow h62 m3))
theorem law_10 {X : zC} {L i b : Nat} {xs : Nat → Int32} {D : Int} {c : Nat → Int} {R : aQ} {τ : Nat → Nat → Int} {l : (Nat → Int64) × (Nat → UInt64)} (hX : zOk X RL cL_law 10 15) (hS : zSc X L xs) (hN : zNc X.2.1.2.2.2) (hL : L ≤ 2048) (hi : i + 4 ≤ L) (hs : LwS D c R τ) (hD : D + 1800 ≤ 1000000) (hb : 1 ≤ b) (hk : ∀ (c' : Nat → Int) (R' : aQ) (τ' : Nat → Nat → Int) (l' : (Nat → Int64) × (Nat → UInt64)), LwS (D + 1800) c' R' τ' → Z X (b - 1) 2664 (lL i) [] (τ', l')) : Z X b 895 (lL i) [] (τ, l) := by
  have hI := hs.1
  have hK := hs.2.2.1
  rw [show (τ, l) = (zs τ 21 c, l) from by rw [hs.eq]]
  refine z_b hX (fo_no RL) [.aload_n 1, .aload_n 0, .iload 5, .iconst 1, .iadd] 901 (by decide +kernel) rfl ?_
  refine z_sld hX hS (i + 1) (by omega) hL (by omega) (by decide +kernel) ?_
  refine z_b hX (fo_no RL) [.aload_n 0, .iload 5, .iconst 2, .iadd] 907 (by decide +kernel) rfl ?_
  refine z_sld hX hS (i + 2) (by omega) hL (by omega) (by decide +kernel) ?_
  refine z_b hX (fo_no RL) [.aload_n 3] 909 (by decide +kernel) rfl ?_
  refine z_callN hX hN m_L_workAgain l_L_188 p_L_workAgain (c_L_workAgain hI hK (zi_x _) (zi_x _)) (by decide) hb rfl rfl rfl (by decide +kernel) (fun v st q => ?_) (fun cls st q => by obtain ⟨k, σ1, lg, q1, -⟩ := q; cases q1)
  obtain ⟨k, σ1, lg, q1, rfl, hc, hf, hr⟩ := q
  cases q1
  obtain ⟨m1, m2, m3⟩ := hs.mid (c' := _) hf
  refine z_b hX (fo_no RL) [.istore 6, .aload_n 2, .aload_n 0, .iload 5, .iconst 1, .iadd] 920 (by decide +kernel) rfl ?_
  refine z_sld hX hS (i + 1) (by omega) hL (by omega) (by decide +kernel) ?_
  refine z_b hX (fo_no RL) [.aload_n 0, .iload 5, .iconst 2, .iadd] 926 (by decide +kernel) rfl ?_
  refine z_sld hX hS (i + 2) (by omega) hL (by omega) (by decide +kernel) ?_
  rw [← m1]
  refine z_cVK hX m_X11_workAgain l_L_190 p_X11_workAgain (c_X11_workAgain (w := false) hI m2 m3 (zi_x _) (zi_x _)) rfl rfl rfl rfl rfl rfl (by decide +kernel) (fun o s q => by obtain ⟨v, σ2, q1, -⟩ := q; exact ⟨_, q1⟩) (fun v st q => ?_)
  obtain ⟨v, σ2, q1, rfl, hM2, hr2, hlow, h62⟩ := q.w
  cases q1
  refine z_b hX (fo_no RL) [.istore 7] 932 (by decide +kernel) rfl ?_
  have ha := law_and hr hr2 (fun e he => cd2_in (aWork_x he))
  refine z_tail hX (off := 1704) 2664 (by decide +kernel) (by decide) rfl rfl rfl rfl ⟨(congrFun (zs_ne (by decide) _) 7).trans ha.1, ha.2⟩ ?_
  exact z_wk (wk6 rfl rfl rfl rfl rfl rfl) (hk _ _ _ _ (LwS.next (aWork_I hI) hc hM2 hlow h62 m3))
theorem law_11 {X : zC} {L i b : Nat} {xs : Nat → Int32} {D : Int} {c : Nat → Int} {R : aQ} {τ : Nat → Nat → Int} {l : (Nat → Int64) × (Nat → UInt64)} (hX : zOk X RL cL_law 10 15) (hS : zSc X L xs) (hN : zNc X.2.1.2.2.2) (hL : L ≤ 2048) (hi : i + 4 ≤ L) (hs : LwS D c R τ) (hD : D + 1800 ≤ 1000000) (hb : 1 ≤ b) (hk : ∀ (c' : Nat → Int) (R' : aQ) (τ' : Nat → Nat → Int) (l' : (Nat → Int64) × (Nat → UInt64)), LwS (D + 1800) c' R' τ' → Z X (b - 1) 2664 (lL i) [] (τ', l')) : Z X b 963 (lL i) [] (τ, l) := by
  have hI := hs.1
  have hK := hs.2.2.1
  rw [show (τ, l) = (zs τ 21 c, l) from by rw [hs.eq]]
  refine z_b hX (fo_no RL) [.aload_n 1, .aload_n 3] 965 (by decide +kernel) rfl ?_
  refine z_callN hX hN m_L_seamstress l_L_191 p_L_seamstress (c_L_seamstress hI hK ) (by decide) hb rfl rfl rfl (by decide +kernel) (fun v st q => ?_) (fun cls st q => by obtain ⟨k, σ1, lg, q1, -⟩ := q; cases q1)
  obtain ⟨k, σ1, lg, q1, rfl, hc, hf, hr⟩ := q
  cases q1
  obtain ⟨m1, m2, m3⟩ := hs.mid (c' := _) hf
  refine z_b hX (fo_no RL) [.istore 6, .aload_n 2] 971 (by decide +kernel) rfl ?_
  rw [← m1]
  refine z_cVK hX m_X11_seamstress l_L_194 p_X11_seamstress (c_X11_seamstress (w := false) hI m2 m3 ) rfl rfl rfl rfl rfl rfl (by decide +kernel) (fun o s q => by obtain ⟨v, σ2, q1, -⟩ := q; exact ⟨_, q1⟩) (fun v st q => ?_)
  obtain ⟨v, σ2, q1, rfl, hM2, hr2, hlow, h62⟩ := q.w
  cases q1
  refine z_b hX (fo_no RL) [.istore 7] 976 (by decide +kernel) rfl ?_
  have ha := law_and hr hr2 (fun e he => cd1_in (aWoman_x he))
  refine z_tail hX (off := 1660) 2664 (by decide +kernel) (by decide) rfl rfl rfl rfl ⟨(congrFun (zs_ne (by decide) _) 7).trans ha.1, ha.2⟩ ?_
  exact z_wk (wk6 rfl rfl rfl rfl rfl rfl) (hk _ _ _ _ (LwS.next (aWoman_I hI) hc hM2 hlow h62 m3))
theorem law_12 {X : zC} {L i b : Nat} {xs : Nat → Int32} {D : Int} {c : Nat → Int} {R : aQ} {τ : Nat → Nat → Int} {l : (Nat → Int64) × (Nat → UInt64)} (hX : zOk X RL cL_law 10 15) (hS : zSc X L xs) (hN : zNc X.2.1.2.2.2) (hL : L ≤ 2048) (hi : i + 4 ≤ L) (hs : LwS D c R τ) (hD : D + 1800 ≤ 1000000) (hb : 1 ≤ b) (hk : ∀ (c' : Nat → Int) (R' : aQ) (τ' : Nat → Nat → Int) (l' : (Nat → Int64) × (Nat → UInt64)), LwS (D + 1800) c' R' τ' → Z X (b - 1) 2664 (lL i) [] (τ', l')) : Z X b 1007 (lL i) [] (τ, l) := by
  have hI := hs.1
  have hK := hs.2.2.1
  rw [show (τ, l) = (zs τ 21 c, l) from by rw [hs.eq]]
  refine z_b hX (fo_no RL) [.aload_n 1, .aload_n 0, .iload 5, .iconst 1, .iadd] 1013 (by decide +kernel) rfl ?_
  refine z_sld hX hS (i + 1) (by omega) hL (by omega) (by decide +kernel) ?_
  refine z_b hX (fo_no RL) [.aload_n 0, .iload 5, .iconst 2, .iadd] 1019 (by decide +kernel) rfl ?_
  refine z_sld hX hS (i + 2) (by omega) hL (by omega) (by decide +kernel) ?_
  refine z_b hX (fo_no RL) [.aload_n 3] 1021 (by decide +kernel) rfl ?_
  refine z_callN hX hN m_L_seamstressOf l_L_195 p_L_seamstressOf (c_L_seamstressOf hI hK (zi_x _) (zi_x _)) (by decide) hb rfl rfl rfl (by decide +kernel) (fun v st q => ?_) (fun cls st q => by obtain ⟨k, σ1, lg, q1, -⟩ := q; cases q1)
  obtain ⟨k, σ1, lg, q1, rfl, hc, hf, hr⟩ := q
  cases q1
  obtain ⟨m1, m2, m3⟩ := hs.mid (c' := _) hf
  refine z_b hX (fo_no RL) [.istore 6, .aload_n 2, .aload_n 0, .iload 5, .iconst 1, .iadd] 1032 (by decide +kernel) rfl ?_
  refine z_sld hX hS (i + 1) (by omega) hL (by omega) (by decide +kernel) ?_
  refine z_b hX (fo_no RL) [.aload_n 0, .iload 5, .iconst 2, .iadd] 1038 (by decide +kernel) rfl ?_
  refine z_sld hX hS (i + 2) (by omega) hL (by omega) (by decide +kernel) ?_
  rw [← m1]
  refine z_cVK hX m_X11_seamstressOf l_L_197 p_X11_seamstressOf (c_X11_seamstressOf (w := false) hI m2 m3 (zi_x _) (zi_x _)) rfl rfl rfl rfl rfl rfl (by decide +kernel) (fun o s q => by obtain ⟨v, σ2, q1, -⟩ := q; exact ⟨_, q1⟩) (fun v st q => ?_)
  obtain ⟨v, σ2, q1, rfl, hM2, hr2, hlow, h62⟩ := q.w
  cases q1
  refine z_b hX (fo_no RL) [.istore 7] 1044 (by decide +kernel) rfl ?_
  have ha := law_and hr hr2 (fun e he => cd2_in (aWomanOf_x he))
  refine z_tail hX (off := 1592) 2664 (by decide +kernel) (by decide) rfl rfl rfl rfl ⟨(congrFun (zs_ne (by decide) _) 7).trans ha.1, ha.2⟩ ?_
  exact z_wk (wk6 rfl rfl rfl rfl rfl rfl) (hk _ _ _ _ (LwS.next (aWomanOf_I hI) hc hM2 hlow h62 m3))
theorem law_13 {X : zC} {L i b : Nat} {xs : Nat → Int32} {D : Int} {c : Nat → Int} {R : aQ} {τ : Nat → Nat → Int} {l : (Nat → Int64) × (Nat → UInt64)} (hX : zOk X RL cL_law 10 15) (hS : zSc X L xs) (hN : zNc X.2.1.2.2.2) (hL : L ≤ 2048) (hi : i + 4 ≤ L) (hs : LwS D c R τ) (hD : D + 1800 ≤ 1000000) (hb : 1 ≤ b) (hk : ∀ (c' : Nat → Int) (R' : aQ) (τ' : Nat → Nat → Int) (l' : (Nat → Int64) × (Nat → UInt64)), LwS (D + 1800) c' R' τ' → Z X (b - 1) 2664 (lL i) [] (τ', l')) : Z X b 1075 (lL i) [] (τ, l) := by
  have hI := hs.1
  have hK := hs.2.2.1
  rw [show (τ, l) = (zs τ 21 c, l) from by rw [hs.eq]]
  refine z_b hX (fo_no RL) [.aload_n 1, .aload_n 0, .iload 5, .iconst 1, .iadd] 1081 (by decide +kernel) rfl ?_
  refine z_sld hX hS (i + 1) (by omega) hL (by omega) (by decide +kernel) ?_
  refine z_b hX (fo_no RL) [.aload_n 0, .iload 5, .iconst 2, .iadd] 1087 (by decide +kernel) rfl ?_
  refine z_sld hX hS (i + 2) (by omega) hL (by omega) (by decide +kernel) ?_
  refine z_b hX (fo_no RL) [.aload_n 3] 1089 (by decide +kernel) rfl ?_
  refine z_callN hX hN m_L_bring l_L_198 p_L_bring (c_L_bring hI hK (zi_x _) (zi_x _)) (by decide) hb rfl rfl rfl (by decide +kernel) (fun v st q => ?_) (fun cls st q => by obtain ⟨k, σ1, lg, q1, -⟩ := q; cases q1)
  obtain ⟨k, σ1, lg, q1, rfl, hc, hf, hr⟩ := q
  cases q1
  obtain ⟨m1, m2, m3⟩ := hs.mid (c' := _) hf
  refine z_b hX (fo_no RL) [.istore 6, .aload_n 2, .aload_n 0, .iload 5, .iconst 1, .iadd] 1100 (by decide +kernel) rfl ?_
  refine z_sld hX hS (i + 1) (by omega) hL (by omega) (by decide +kernel) ?_
  refine z_b hX (fo_no RL) [.aload_n 0, .iload 5, .iconst 2, .iadd] 1106 (by decide +kernel) rfl ?_
  refine z_sld hX hS (i + 2) (by omega) hL (by omega) (by decide +kernel) ?_
  rw [← m1]
  refine z_cVK hX m_X11_bring l_L_200 p_X11_bring (c_X11_bring (w := false) hI m2 m3 (zi_x _) (zi_x _)) rfl rfl rfl rfl rfl rfl (by decide +kernel) (fun o s q => by obtain ⟨v, σ2, q1, -⟩ := q; exact ⟨_, q1⟩) (fun v st q => ?_)
  obtain ⟨v, σ2, q1, rfl, hM2, hr2, hlow, h62⟩ := q.w
  cases q1
  refine z_b hX (fo_no RL) [.istore 7] 1112 (by decide +kernel) rfl ?_
  have ha := law_and hr hr2 (fun e he => cd1_in (aBring_x he))
  refine z_tail hX (off := 1524) 2664 (by decide +kernel) (by decide) rfl rfl rfl rfl ⟨(congrFun (zs_ne (by decide) _) 7).trans ha.1, ha.2⟩ ?_
  exact z_wk (wk6 rfl rfl rfl rfl rfl rfl) (hk _ _ _ _ (LwS.next (aBring_I hI) hc hM2 hlow h62 m3))
theorem law_14 {X : zC} {L i b : Nat} {xs : Nat → Int32} {D : Int} {c : Nat → Int} {R : aQ} {τ : Nat → Nat → Int} {l : (Nat → Int64) × (Nat → UInt64)} (hX : zOk X RL cL_law 10 15) (hS : zSc X L xs) (hN : zNc X.2.1.2.2.2) (hL : L ≤ 2048) (hi : i + 4 ≤ L) (hs : LwS D c R τ) (hD : D + 1800 ≤ 1000000) (hb : 1 ≤ b) (hk : ∀ (c' : Nat → Int) (R' : aQ) (τ' : Nat → Nat → Int) (l' : (Nat → Int64) × (Nat → UInt64)), LwS (D + 1800) c' R' τ' → Z X (b - 1) 2664 (lL i) [] (τ', l')) : Z X b 1143 (lL i) [] (τ, l) := by
  have hI := hs.1
  have hK := hs.2.2.1
  rw [show (τ, l) = (zs τ 21 c, l) from by rw [hs.eq]]
  refine z_b hX (fo_no RL) [.aload_n 1, .aload_n 0, .iload 5, .iconst 1, .iadd] 1149 (by decide +kernel) rfl ?_
  refine z_sld hX hS (i + 1) (by omega) hL (by omega) (by decide +kernel) ?_
  refine z_b hX (fo_no RL) [.aload_n 0, .iload 5, .iconst 2, .iadd] 1155 (by decide +kernel) rfl ?_
  refine z_sld hX hS (i + 2) (by omega) hL (by omega) (by decide +kernel) ?_
  refine z_b hX (fo_no RL) [.aload_n 3] 1157 (by decide +kernel) rfl ?_
  refine z_callN hX hN m_L_sew l_L_201 p_L_sew (c_L_sew hI hK (zi_x _) (zi_x _)) (by decide) hb rfl rfl rfl (by decide +kernel) (fun v st q => ?_) (fun cls st q => by obtain ⟨k, σ1, lg, q1, -⟩ := q; cases q1)
  obtain ⟨k, σ1, lg, q1, rfl, hc, hf, hr⟩ := q
  cases q1
  obtain ⟨m1, m2, m3⟩ := hs.mid (c' := _) hf
  refine z_b hX (fo_no RL) [.istore 6, .aload_n 2, .aload_n 0, .iload 5, .iconst 1, .iadd] 1168 (by decide +kernel) rfl ?_
  refine z_sld hX hS (i + 1) (by omega) hL (by omega) (by decide +kernel) ?_
  refine z_b hX (fo_no RL) [.aload_n 0, .iload 5, .iconst 2, .iadd] 1174 (by decide +kernel) rfl ?_
  refine z_sld hX hS (i + 2) (by omega) hL (by omega) (by decide +kernel) ?_
  rw [← m1]
  refine z_cVK hX m_X11_sew l_L_203 p_X11_sew (c_X11_sew (w := false) hI m2 m3 (zi_x _) (zi_x _)) rfl rfl rfl rfl rfl rfl (by decide +kernel) (fun o s q => by obtain ⟨v, σ2, q1, -⟩ := q; exact ⟨_, q1⟩) (fun v st q => ?_)
  obtain ⟨v, σ2, q1, rfl, hM2, hr2, hlow, h62⟩ := q.w
  cases q1
  refine z_b hX (fo_no RL) [.istore 7] 1180 (by decide +kernel) rfl ?_
  have ha := law_and hr hr2 (fun e he => cd2_in (aSew_x he))
  refine z_tail hX (off := 1456) 2664 (by decide +kernel) (by decide) rfl rfl rfl rfl ⟨(congrFun (zs_ne (by decide) _) 7).trans ha.1, ha.2⟩ ?_
  exact z_wk (wk6 rfl rfl rfl rfl rfl rfl) (hk _ _ _ _ (LwS.next (aSew_I hI) hc hM2 hlow h62 m3))
theorem law_15 {X : zC} {L i b : Nat} {xs : Nat → Int32} {D : Int} {c : Nat → Int} {R : aQ} {τ : Nat → Nat → Int} {l : (Nat → Int64) × (Nat → UInt64)} (hX : zOk X RL cL_law 10 15) (hS : zSc X L xs) (hN : zNc X.2.1.2.2.2) (hL : L ≤ 2048) (hi : i + 4 ≤ L) (hs : LwS D c R τ) (hD : D + 1800 ≤ 1000000) (hb : 1 ≤ b) (hk : ∀ (c' : Nat → Int) (R' : aQ) (τ' : Nat → Nat → Int) (l' : (Nat → Int64) × (Nat → UInt64)), LwS (D + 1800) c' R' τ' → Z X (b - 1) 2664 (lL i) [] (τ', l')) : Z X b 1211 (lL i) [] (τ, l) := by
  have hI := hs.1
  have hK := hs.2.2.1
  rw [show (τ, l) = (zs τ 21 c, l) from by rw [hs.eq]]
  refine z_b hX (fo_no RL) [.aload_n 1, .aload_n 0, .iload 5, .iconst 1, .iadd] 1217 (by decide +kernel) rfl ?_
  refine z_sld hX hS (i + 1) (by omega) hL (by omega) (by decide +kernel) ?_
  refine z_b hX (fo_no RL) [.aload_n 0, .iload 5, .iconst 2, .iadd] 1223 (by decide +kernel) rfl ?_
  refine z_sld hX hS (i + 2) (by omega) hL (by omega) (by decide +kernel) ?_
  refine z_b hX (fo_no RL) [.aload_n 0, .iload 5, .iconst 3, .iadd] 1229 (by decide +kernel) rfl ?_
  refine z_sld hX hS (i + 3) (by omega) hL (by omega) (by decide +kernel) ?_
  refine z_b hX (fo_no RL) [.aload_n 3] 1231 (by decide +kernel) rfl ?_
  refine z_callN hX hN m_L_spangle l_L_204 p_L_spangle (c_L_spangle hI hK (zi_x _) (zi_x _) (zi_x _)) (by decide) hb rfl rfl rfl (by decide +kernel) (fun v st q => ?_) (fun cls st q => by obtain ⟨k, σ1, lg, q1, -⟩ := q; cases q1)
  obtain ⟨k, σ1, lg, q1, rfl, hc, hf, hr⟩ := q
  cases q1
  obtain ⟨m1, m2, m3⟩ := hs.mid (c' := _) hf
  refine z_b hX (fo_no RL) [.istore 6, .aload_n 2, .aload_n 0, .iload 5, .iconst 1, .iadd] 1242 (by decide +kernel) rfl ?_
  refine z_sld hX hS (i + 1) (by omega) hL (by omega) (by decide +kernel) ?_
  refine z_b hX (fo_no RL) [.aload_n 0, .iload 5, .iconst 2, .iadd] 1248 (by decide +kernel) rfl ?_
  refine z_sld hX hS (i + 2) (by omega) hL (by omega) (by decide +kernel) ?_
  refine z_b hX (fo_no RL) [.aload_n 0, .iload 5, .iconst 3, .iadd] 1254 (by decide +kernel) rfl ?_
  refine z_sld hX hS (i + 3) (by omega) hL (by omega) (by decide +kernel) ?_
  rw [← m1]
  refine z_cVK hX m_X11_spangle l_L_207 p_X11_spangle (c_X11_spangle (w := false) hI m2 m3 (zi_x _) (zi_x _) (zi_x _)) rfl rfl rfl rfl rfl rfl (by decide +kernel) (fun o s q => by obtain ⟨v, σ2, q1, -⟩ := q; exact ⟨_, q1⟩) (fun v st q => ?_)
  obtain ⟨v, σ2, q1, rfl, hM2, hr2, hlow, h62⟩ := q.w
  cases q1
  refine z_b hX (fo_no RL) [.istore 7] 1260 (by decide +kernel) rfl ?_
  have ha := law_and hr hr2 (fun e he => cd3_in (aSpangle_x he))
  refine z_tail hX (off := 1376) 2664 (by decide +kernel) (by decide) rfl rfl rfl rfl ⟨(congrFun (zs_ne (by decide) _) 7).trans ha.1, ha.2⟩ ?_
  exact z_wk (wk6 rfl rfl rfl rfl rfl rfl) (hk _ _ _ _ (LwS.next (aSpangle_I hI) hc hM2 hlow h62 m3))
theorem law_16 {X : zC} {L i b : Nat} {xs : Nat → Int32} {D : Int} {c : Nat → Int} {R : aQ} {τ : Nat → Nat → Int} {l : (Nat → Int64) × (Nat → UInt64)} (hX : zOk X RL cL_law 10 15) (hS : zSc X L xs) (hN : zNc X.2.1.2.2.2) (hL : L ≤ 2048) (hi : i + 4 ≤ L) (hs : LwS D c R τ) (hD : D + 1800 ≤ 1000000) (hb : 1 ≤ b) (hk : ∀ (c' : Nat → Int) (R' : aQ) (τ' : Nat → Nat → Int) (l' : (Nat → Int64) × (Nat → UInt64)), LwS (D + 1800) c' R' τ' → Z X (b - 1) 2664 (lL i) [] (τ', l')) : Z X b 1291 (lL i) [] (τ, l) := by
  have hI := hs.1
  have hK := hs.2.2.1
  rw [show (τ, l) = (zs τ 21 c, l) from by rw [hs.eq]]
  refine z_b hX (fo_no RL) [.aload_n 1, .aload_n 0, .iload 5, .iconst 1, .iadd] 1297 (by decide +kernel) rfl ?_
  refine z_sld hX hS (i + 1) (by omega) hL (by omega) (by decide +kernel) ?_
  refine z_b hX (fo_no RL) [.aload_n 0, .iload 5, .iconst 2, .iadd] 1303 (by decide +kernel) rfl ?_
  refine z_sld hX hS (i + 2) (by omega) hL (by omega) (by decide +kernel) ?_
  refine z_b hX (fo_no RL) [.aload_n 3] 1305 (by decide +kernel) rfl ?_
  refine z_callN hX hN m_L_letOut l_L_208 p_L_letOut (c_L_letOut hI hK (zi_x _) (zi_x _)) (by decide) hb rfl rfl rfl (by decide +kernel) (fun v st q => ?_) (fun cls st q => by obtain ⟨k, σ1, lg, q1, -⟩ := q; cases q1)
  obtain ⟨k, σ1, lg, q1, rfl, hc, hf, hr⟩ := q
  cases q1
  obtain ⟨m1, m2, m3⟩ := hs.mid (c' := _) hf
  refine z_b hX (fo_no RL) [.istore 6, .aload_n 2, .aload_n 0, .iload 5, .iconst 1, .iadd] 1316 (by decide +kernel) rfl ?_
  refine z_sld hX hS (i + 1) (by omega) hL (by omega) (by decide +kernel) ?_
  refine z_b hX (fo_no RL) [.aload_n 0, .iload 5, .iconst 2, .iadd] 1322 (by decide +kernel) rfl ?_
  refine z_sld hX hS (i + 2) (by omega) hL (by omega) (by decide +kernel) ?_
  rw [← m1]
  refine z_cVK hX m_X11_letOut l_L_210 p_X11_letOut (c_X11_letOut (w := false) hI m2 m3 (zi_x _) (zi_x _)) rfl rfl rfl rfl rfl rfl (by decide +kernel) (fun o s q => by obtain ⟨v, σ2, q1, -⟩ := q; exact ⟨_, q1⟩) (fun v st q => ?_)
  obtain ⟨v, σ2, q1, rfl, hM2, hr2, hlow, h62⟩ := q.w
  cases q1
  refine z_b hX (fo_no RL) [.istore 7] 1328 (by decide +kernel) rfl ?_
  have ha := law_and hr hr2 (fun e he => cd2_in (aLetOut_x he))
  refine z_tail hX (off := 1308) 2664 (by decide +kernel) (by decide) rfl rfl rfl rfl ⟨(congrFun (zs_ne (by decide) _) 7).trans ha.1, ha.2⟩ ?_
  exact z_wk (wk6 rfl rfl rfl rfl rfl rfl) (hk _ _ _ _ (LwS.next (aLetOut_I hI) hc hM2 hlow h62 m3))
theorem law_17 {X : zC} {L i b : Nat} {xs : Nat → Int32} {D : Int} {c : Nat → Int} {R : aQ} {τ : Nat → Nat → Int} {l : (Nat → Int64) × (Nat → UInt64)} (hX : zOk X RL cL_law 10 15) (hS : zSc X L xs) (hN : zNc X.2.1.2.2.2) (hL : L ≤ 2048) (hi : i + 4 ≤ L) (hs : LwS D c R τ) (hD : D + 1800 ≤ 1000000) (hb : 1 ≤ b) (hk : ∀ (c' : Nat → Int) (R' : aQ) (τ' : Nat → Nat → Int) (l' : (Nat → Int64) × (Nat → UInt64)), LwS (D + 1800) c' R' τ' → Z X (b - 1) 2664 (lL i) [] (τ', l')) : Z X b 1359 (lL i) [] (τ, l) := by
  have hI := hs.1
  have hK := hs.2.2.1
  rw [show (τ, l) = (zs τ 21 c, l) from by rw [hs.eq]]
  refine z_b hX (fo_no RL) [.aload_n 1, .aload_n 0, .iload 5, .iconst 1, .iadd] 1365 (by decide +kernel) rfl ?_
  refine z_sld hX hS (i + 1) (by omega) hL (by omega) (by decide +kernel) ?_
  refine z_b hX (fo_no RL) [.aload_n 3] 1367 (by decide +kernel) rfl ?_
  refine z_callN hX hN m_L_tear l_L_211 p_L_tear (c_L_tear hI hK (zi_x _)) (by decide) hb rfl rfl rfl (by decide +kernel) (fun v st q => ?_) (fun cls st q => by obtain ⟨k, σ1, lg, q1, -⟩ := q; cases q1)
  obtain ⟨k, σ1, lg, q1, rfl, hc, hf, hr⟩ := q
  cases q1
  obtain ⟨m1, m2, m3⟩ := hs.mid (c' := _) hf
  refine z_b hX (fo_no RL) [.istore 6, .aload_n 2, .aload_n 0, .iload 5, .iconst 1, .iadd] 1378 (by decide +kernel) rfl ?_
  refine z_sld hX hS (i + 1) (by omega) hL (by omega) (by decide +kernel) ?_
  rw [← m1]
  refine z_cVK hX m_X11_tear l_L_213 p_X11_tear (c_X11_tear (w := false) hI m2 m3 (zi_x _)) rfl rfl rfl rfl rfl rfl (by decide +kernel) (fun o s q => by obtain ⟨v, σ2, q1, -⟩ := q; exact ⟨_, q1⟩) (fun v st q => ?_)
  obtain ⟨v, σ2, q1, rfl, hM2, hr2, hlow, h62⟩ := q.w
  cases q1
  refine z_b hX (fo_no RL) [.istore 7] 1384 (by decide +kernel) rfl ?_
  have ha := law_and hr hr2 (fun e he => cd1_in (aTear_x he))
  refine z_tail hX (off := 1252) 2664 (by decide +kernel) (by decide) rfl rfl rfl rfl ⟨(congrFun (zs_ne (by decide) _) 7).trans ha.1, ha.2⟩ ?_
  exact z_wk (wk6 rfl rfl rfl rfl rfl rfl) (hk _ _ _ _ (LwS.next (aTear_I hI) hc hM2 hlow h62 m3))
theorem law_18 {X : zC} {L i b : Nat} {xs : Nat → Int32} {D : Int} {c : Nat → Int} {R : aQ} {τ : Nat → Nat → Int} {l : (Nat → Int64) × (Nat → UInt64)} (hX : zOk X RL cL_law 10 15) (hS : zSc X L xs) (hN : zNc X.2.1.2.2.2) (hL : L ≤ 2048) (hi : i + 4 ≤ L) (hs : LwS D c R τ) (hD : D + 1800 ≤ 1000000) (hb : 1 ≤ b) (hk : ∀ (c' : Nat → Int) (R' : aQ) (τ' : Nat → Nat → Int) (l' : (Nat → Int64) × (Nat → UInt64)), LwS (D + 1800) c' R' τ' → Z X (b - 1) 2664 (lL i) [] (τ', l')) : Z X b 1415 (lL i) [] (τ, l) := by
  have hI := hs.1
  have hK := hs.2.2.1
  rw [show (τ, l) = (zs τ 21 c, l) from by rw [hs.eq]]
  refine z_b hX (fo_no RL) [.aload_n 1, .aload_n 0, .iload 5, .iconst 1, .iadd] 1421 (by decide +kernel) rfl ?_
  refine z_sld hX hS (i + 1) (by omega) hL (by omega) (by decide +kernel) ?_
  refine z_b hX (fo_no RL) [.aload_n 3] 1423 (by decide +kernel) rfl ?_
  refine z_callN hX hN m_L_patch l_L_214 p_L_patch (c_L_patch hI hK (zi_x _)) (by decide) hb rfl rfl rfl (by decide +kernel) (fun v st q => ?_) (fun cls st q => by obtain ⟨k, σ1, lg, q1, -⟩ := q; cases q1)
  obtain ⟨k, σ1, lg, q1, rfl, hc, hf, hr⟩ := q
  cases q1
  obtain ⟨m1, m2, m3⟩ := hs.mid (c' := _) hf
  refine z_b hX (fo_no RL) [.istore 6, .aload_n 2, .aload_n 0, .iload 5, .iconst 1, .iadd] 1434 (by decide +kernel) rfl ?_
  refine z_sld hX hS (i + 1) (by omega) hL (by omega) (by decide +kernel) ?_
  rw [← m1]
  refine z_cVK hX m_X11_patch l_L_216 p_X11_patch (c_X11_patch (w := false) hI m2 m3 (zi_x _)) rfl rfl rfl rfl rfl rfl (by decide +kernel) (fun o s q => by obtain ⟨v, σ2, q1, -⟩ := q; exact ⟨_, q1⟩) (fun v st q => ?_)
  obtain ⟨v, σ2, q1, rfl, hM2, hr2, hlow, h62⟩ := q.w
  cases q1
  refine z_b hX (fo_no RL) [.istore 7] 1440 (by decide +kernel) rfl ?_
  have ha := law_and hr hr2 (fun e he => cd2_in (aPatch_x he))
  refine z_tail hX (off := 1196) 2664 (by decide +kernel) (by decide) rfl rfl rfl rfl ⟨(congrFun (zs_ne (by decide) _) 7).trans ha.1, ha.2⟩ ?_
  exact z_wk (wk6 rfl rfl rfl rfl rfl rfl) (hk _ _ _ _ (LwS.next (aPatch_I hI) hc hM2 hlow h62 m3))
theorem law_19 {X : zC} {L i b : Nat} {xs : Nat → Int32} {D : Int} {c : Nat → Int} {R : aQ} {τ : Nat → Nat → Int} {l : (Nat → Int64) × (Nat → UInt64)} (hX : zOk X RL cL_law 10 15) (hS : zSc X L xs) (hN : zNc X.2.1.2.2.2) (hL : L ≤ 2048) (hi : i + 4 ≤ L) (hs : LwS D c R τ) (hD : D + 1800 ≤ 1000000) (hb : 1 ≤ b) (hk : ∀ (c' : Nat → Int) (R' : aQ) (τ' : Nat → Nat → Int) (l' : (Nat → Int64) × (Nat → UInt64)), LwS (D + 1800) c' R' τ' → Z X (b - 1) 2664 (lL i) [] (τ', l')) : Z X b 1471 (lL i) [] (τ, l) := by
  have hI := hs.1
  have hK := hs.2.2.1
  rw [show (τ, l) = (zs τ 21 c, l) from by rw [hs.eq]]
  refine z_b hX (fo_no RL) [.aload_n 1, .aload_n 0, .iload 5, .iconst 1, .iadd] 1477 (by decide +kernel) rfl ?_
  refine z_sld hX hS (i + 1) (by omega) hL (by omega) (by decide +kernel) ?_
  refine z_b hX (fo_no RL) [.aload_n 3] 1479 (by decide +kernel) rfl ?_
  refine z_callN hX hN m_L_torn l_L_217 p_L_torn (c_L_torn hI hK (zi_x _)) (by decide) hb rfl rfl rfl (by decide +kernel) (fun v st q => ?_) (fun cls st q => by obtain ⟨k, σ1, lg, q1, -⟩ := q; cases q1)
  obtain ⟨k, σ1, lg, q1, rfl, hc, hf, hr⟩ := q
  cases q1
  obtain ⟨m1, m2, m3⟩ := hs.mid (c' := _) hf
  refine z_b hX (fo_no RL) [.istore 6, .aload_n 2, .aload_n 0, .iload 5, .iconst 1, .iadd] 1490 (by decide +kernel) rfl ?_
  refine z_sld hX hS (i + 1) (by omega) hL (by omega) (by decide +kernel) ?_
  rw [← m1]
  refine z_cVK hX m_X11_torn l_L_219 p_X11_torn (c_X11_torn (w := false) hI m2 m3 (zi_x _)) rfl rfl rfl rfl rfl rfl (by decide +kernel) (fun o s q => by obtain ⟨v, σ2, q1, -⟩ := q; exact ⟨_, q1⟩) (fun v st q => ?_)
  obtain ⟨v, σ2, q1, rfl, hM2, hr2, hlow, h62⟩ := q.w
  cases q1
  refine z_b hX (fo_no RL) [.istore 7] 1496 (by decide +kernel) rfl ?_
  have ha := law_and hr hr2 (fun e he => cd2_in (aTorn_x he))
  refine z_tail hX (off := 1140) 2664 (by decide +kernel) (by decide) rfl rfl rfl rfl ⟨(congrFun (zs_ne (by decide) _) 7).trans ha.1, ha.2⟩ ?_
  exact z_wk (wk6 rfl rfl rfl rfl rfl rfl) (hk _ _ _ _ (LwS.next (aTorn_I hI) hc hM2 hlow h62 m3))
theorem law_20 {X : zC} {L i b : Nat} {xs : Nat → Int32} {D : Int} {c : Nat → Int} {R : aQ} {τ : Nat → Nat → Int} {l : (Nat → Int64) × (Nat → UInt64)} (hX : zOk X RL cL_law 10 15) (hS : zSc X L xs) (hN : zNc X.2.1.2.2.2) (hL : L ≤ 2048) (hi : i + 4 ≤ L) (hs : LwS D c R τ) (hD : D + 1800 ≤ 1000000) (hb : 1 ≤ b) (hk : ∀ (c' : Nat → Int) (R' : aQ) (τ' : Nat → Nat → Int) (l' : (Nat → Int64) × (Nat → UInt64)), LwS (D + 1800) c' R' τ' → Z X (b - 1) 2664 (lL i) [] (τ', l')) : Z X b 1527 (lL i) [] (τ, l) := by
  have hI := hs.1
  have hK := hs.2.2.1
  rw [show (τ, l) = (zs τ 21 c, l) from by rw [hs.eq]]
  refine z_b hX (fo_no RL) [.aload_n 1, .aload_n 3] 1529 (by decide +kernel) rfl ?_
  refine z_callN hX hN m_L_trunk l_L_220 p_L_trunk (c_L_trunk hI hK ) (by decide) hb rfl rfl rfl (by decide +kernel) (fun v st q => ?_) (fun cls st q => by obtain ⟨k, σ1, lg, q1, -⟩ := q; cases q1)
  obtain ⟨k, σ1, lg, q1, rfl, hc, hf, hr⟩ := q
  cases q1
  obtain ⟨m1, m2, m3⟩ := hs.mid (c' := _) hf
  refine z_b hX (fo_no RL) [.istore 6, .aload_n 2] 1535 (by decide +kernel) rfl ?_
  rw [← m1]
  refine z_cVK hX m_X11_trunk l_L_222 p_X11_trunk (c_X11_trunk (w := false) hI m2 m3 ) rfl rfl rfl rfl rfl rfl (by decide +kernel) (fun o s q => by obtain ⟨v, σ2, q1, -⟩ := q; exact ⟨_, q1⟩) (fun v st q => ?_)
  obtain ⟨v, σ2, q1, rfl, hM2, hr2, hlow, h62⟩ := q.w
  cases q1
  refine z_b hX (fo_no RL) [.istore 7] 1540 (by decide +kernel) rfl ?_
  have ha := law_and hr hr2 (fun e he => cd1_in (aTrunk_x he))
  refine z_tail hX (off := 1096) 2664 (by decide +kernel) (by decide) rfl rfl rfl rfl ⟨(congrFun (zs_ne (by decide) _) 7).trans ha.1, ha.2⟩ ?_
  exact z_wk (wk6 rfl rfl rfl rfl rfl rfl) (hk _ _ _ _ (LwS.next (aTrunk_I hI) hc hM2 hlow h62 m3))
theorem law_21 {X : zC} {L i b : Nat} {xs : Nat → Int32} {D : Int} {c : Nat → Int} {R : aQ} {τ : Nat → Nat → Int} {l : (Nat → Int64) × (Nat → UInt64)} (hX : zOk X RL cL_law 10 15) (hS : zSc X L xs) (hN : zNc X.2.1.2.2.2) (hL : L ≤ 2048) (hi : i + 4 ≤ L) (hs : LwS D c R τ) (hD : D + 1800 ≤ 1000000) (hb : 1 ≤ b) (hk : ∀ (c' : Nat → Int) (R' : aQ) (τ' : Nat → Nat → Int) (l' : (Nat → Int64) × (Nat → UInt64)), LwS (D + 1800) c' R' τ' → Z X (b - 1) 2664 (lL i) [] (τ', l')) : Z X b 1571 (lL i) [] (τ, l) := by
  have hI := hs.1
  have hK := hs.2.2.1
  rw [show (τ, l) = (zs τ 21 c, l) from by rw [hs.eq]]
  refine z_b hX (fo_no RL) [.aload_n 1, .aload_n 0, .iload 5, .iconst 1, .iadd] 1577 (by decide +kernel) rfl ?_
  refine z_sld hX hS (i + 1) (by omega) hL (by omega) (by decide +kernel) ?_
  refine z_b hX (fo_no RL) [.aload_n 0, .iload 5, .iconst 2, .iadd] 1583 (by decide +kernel) rfl ?_
  refine z_sld hX hS (i + 2) (by omega) hL (by omega) (by decide +kernel) ?_
  refine z_b hX (fo_no RL) [.aload_n 3] 1585 (by decide +kernel) rfl ?_
  refine z_callN hX hN m_L_pack l_L_223 p_L_pack (c_L_pack hI hK (zi_x _) (zi_x _)) (by decide) hb rfl rfl rfl (by decide +kernel) (fun v st q => ?_) (fun cls st q => by obtain ⟨k, σ1, lg, q1, -⟩ := q; cases q1)
  obtain ⟨k, σ1, lg, q1, rfl, hc, hf, hr⟩ := q
  cases q1
  obtain ⟨m1, m2, m3⟩ := hs.mid (c' := _) hf
  refine z_b hX (fo_no RL) [.istore 6, .aload_n 2, .aload_n 0, .iload 5, .iconst 1, .iadd] 1596 (by decide +kernel) rfl ?_
  refine z_sld hX hS (i + 1) (by omega) hL (by omega) (by decide +kernel) ?_
  refine z_b hX (fo_no RL) [.aload_n 0, .iload 5, .iconst 2, .iadd] 1602 (by decide +kernel) rfl ?_
  refine z_sld hX hS (i + 2) (by omega) hL (by omega) (by decide +kernel) ?_
  rw [← m1]
  refine z_cVK hX m_X11_pack l_L_225 p_X11_pack (c_X11_pack (w := false) hI m2 m3 (zi_x _) (zi_x _)) rfl rfl rfl rfl rfl rfl (by decide +kernel) (fun o s q => by obtain ⟨v, σ2, q1, -⟩ := q; exact ⟨_, q1⟩) (fun v st q => ?_)
  obtain ⟨v, σ2, q1, rfl, hM2, hr2, hlow, h62⟩ := q.w
  cases q1
  refine z_b hX (fo_no RL) [.istore 7] 1608 (by decide +kernel) rfl ?_
  have ha := law_and hr hr2 (fun e he => cd2_in (aPack_x he))
  refine z_tail hX (off := 1028) 2664 (by decide +kernel) (by decide) rfl rfl rfl rfl ⟨(congrFun (zs_ne (by decide) _) 7).trans ha.1, ha.2⟩ ?_
  exact z_wk (wk6 rfl rfl rfl rfl rfl rfl) (hk _ _ _ _ (LwS.next (aPack_I hI) hc hM2 hlow h62 m3))
theorem law_22 {X : zC} {L i b : Nat} {xs : Nat → Int32} {D : Int} {c : Nat → Int} {R : aQ} {τ : Nat → Nat → Int} {l : (Nat → Int64) × (Nat → UInt64)} (hX : zOk X RL cL_law 10 15) (hS : zSc X L xs) (hN : zNc X.2.1.2.2.2) (hL : L ≤ 2048) (hi : i + 4 ≤ L) (hs : LwS D c R τ) (hD : D + 1800 ≤ 1000000) (hb : 1 ≤ b) (hk : ∀ (c' : Nat → Int) (R' : aQ) (τ' : Nat → Nat → Int) (l' : (Nat → Int64) × (Nat → UInt64)), LwS (D + 1800) c' R' τ' → Z X (b - 1) 2664 (lL i) [] (τ', l')) : Z X b 1639 (lL i) [] (τ, l) := by
  have hI := hs.1
  have hK := hs.2.2.1
  rw [show (τ, l) = (zs τ 21 c, l) from by rw [hs.eq]]
  refine z_b hX (fo_no RL) [.aload_n 1, .aload_n 0, .iload 5, .iconst 1, .iadd] 1645 (by decide +kernel) rfl ?_
  refine z_sld hX hS (i + 1) (by omega) hL (by omega) (by decide +kernel) ?_
  refine z_b hX (fo_no RL) [.aload_n 3] 1647 (by decide +kernel) rfl ?_
  refine z_callN hX hN m_L_unpack l_L_226 p_L_unpack (c_L_unpack hI hK (zi_x _)) (by decide) hb rfl rfl rfl (by decide +kernel) (fun v st q => ?_) (fun cls st q => by obtain ⟨k, σ1, lg, q1, -⟩ := q; cases q1)
  obtain ⟨k, σ1, lg, q1, rfl, hc, hf, hr⟩ := q
  cases q1
  obtain ⟨m1, m2, m3⟩ := hs.mid (c' := _) hf
  refine z_b hX (fo_no RL) [.istore 6, .aload_n 2, .aload_n 0, .iload 5, .iconst 1, .iadd] 1658 (by decide +kernel) rfl ?_
  refine z_sld hX hS (i + 1) (by omega) hL (by omega) (by decide +kernel) ?_
  rw [← m1]
  refine z_cVK hX m_X11_unpack l_L_228 p_X11_unpack (c_X11_unpack (w := false) hI m2 m3 (zi_x _)) rfl rfl rfl rfl rfl rfl (by decide +kernel) (fun o s q => by obtain ⟨v, σ2, q1, -⟩ := q; exact ⟨_, q1⟩) (fun v st q => ?_)
  obtain ⟨v, σ2, q1, rfl, hM2, hr2, hlow, h62⟩ := q.w
  cases q1
  refine z_b hX (fo_no RL) [.istore 7] 1664 (by decide +kernel) rfl ?_
  have ha := law_and hr hr2 (fun e he => cd2_in (aUnpack_x he))
  refine z_tail hX (off := 972) 2664 (by decide +kernel) (by decide) rfl rfl rfl rfl ⟨(congrFun (zs_ne (by decide) _) 7).trans ha.1, ha.2⟩ ?_
  exact z_wk (wk6 rfl rfl rfl rfl rfl rfl) (hk _ _ _ _ (LwS.next (aUnpack_I hI) hc hM2 hlow h62 m3))
theorem law_23 {X : zC} {L i b : Nat} {xs : Nat → Int32} {D : Int} {c : Nat → Int} {R : aQ} {τ : Nat → Nat → Int} {l : (Nat → Int64) × (Nat → UInt64)} (hX : zOk X RL cL_law 10 15) (hS : zSc X L xs) (hN : zNc X.2.1.2.2.2) (hL : L ≤ 2048) (hi : i + 4 ≤ L) (hs : LwS D c R τ) (hD : D + 1800 ≤ 1000000) (hb : 1 ≤ b) (hk : ∀ (c' : Nat → Int) (R' : aQ) (τ' : Nat → Nat → Int) (l' : (Nat → Int64) × (Nat → UInt64)), LwS (D + 1800) c' R' τ' → Z X (b - 1) 2664 (lL i) [] (τ', l')) : Z X b 1695 (lL i) [] (τ, l) := by
  have hI := hs.1
  have hK := hs.2.2.1
  rw [show (τ, l) = (zs τ 21 c, l) from by rw [hs.eq]]
  refine z_b hX (fo_no RL) [.aload_n 1, .aload_n 0, .iload 5, .iconst 1, .iadd] 1701 (by decide +kernel) rfl ?_
  refine z_sld hX hS (i + 1) (by omega) hL (by omega) (by decide +kernel) ?_
  refine z_b hX (fo_no RL) [.aload_n 0, .iload 5, .iconst 2, .iadd] 1707 (by decide +kernel) rfl ?_
  refine z_sld hX hS (i + 2) (by omega) hL (by omega) (by decide +kernel) ?_
  refine z_b hX (fo_no RL) [.aload_n 3] 1709 (by decide +kernel) rfl ?_
  refine z_callN hX hN m_L_packed l_L_229 p_L_packed (c_L_packed hI hK (zi_x _) (zi_x _)) (by decide) hb rfl rfl rfl (by decide +kernel) (fun v st q => ?_) (fun cls st q => by obtain ⟨k, σ1, lg, q1, -⟩ := q; cases q1)
  obtain ⟨k, σ1, lg, q1, rfl, hc, hf, hr⟩ := q
  cases q1
  obtain ⟨m1, m2, m3⟩ := hs.mid (c' := _) hf
  refine z_b hX (fo_no RL) [.istore 6, .aload_n 2, .aload_n 0, .iload 5, .iconst 1, .iadd] 1720 (by decide +kernel) rfl ?_
  refine z_sld hX hS (i + 1) (by omega) hL (by omega) (by decide +kernel) ?_
  refine z_b hX (fo_no RL) [.aload_n 0, .iload 5, .iconst 2, .iadd] 1726 (by decide +kernel) rfl ?_
  refine z_sld hX hS (i + 2) (by omega) hL (by omega) (by decide +kernel) ?_
  rw [← m1]
  refine z_cVK hX m_X11_packed l_L_231 p_X11_packed (c_X11_packed (w := false) hI m2 m3 (zi_x _) (zi_x _)) rfl rfl rfl rfl rfl rfl (by decide +kernel) (fun o s q => by obtain ⟨v, σ2, q1, -⟩ := q; exact ⟨_, q1⟩) (fun v st q => ?_)
  obtain ⟨v, σ2, q1, rfl, hM2, hr2, hlow, h62⟩ := q.w
  cases q1
  refine z_b hX (fo_no RL) [.istore 7] 1732 (by decide +kernel) rfl ?_
  have ha := law_and hr hr2 (fun e he => cd2_in (aPacked_x he))
  refine z_tail hX (off := 904) 2664 (by decide +kernel) (by decide) rfl rfl rfl rfl ⟨(congrFun (zs_ne (by decide) _) 7).trans ha.1, ha.2⟩ ?_
  exact z_wk (wk6 rfl rfl rfl rfl rfl rfl) (hk _ _ _ _ (LwS.next (aPacked_I hI) hc hM2 hlow h62 m3))
theorem law_24 {X : zC} {L i b : Nat} {xs : Nat → Int32} {D : Int} {c : Nat → Int} {R : aQ} {τ : Nat → Nat → Int} {l : (Nat → Int64) × (Nat → UInt64)} (hX : zOk X RL cL_law 10 15) (hS : zSc X L xs) (hN : zNc X.2.1.2.2.2) (hL : L ≤ 2048) (hi : i + 4 ≤ L) (hs : LwS D c R τ) (hD : D + 1800 ≤ 1000000) (hb : 1 ≤ b) (hk : ∀ (c' : Nat → Int) (R' : aQ) (τ' : Nat → Nat → Int) (l' : (Nat → Int64) × (Nat → UInt64)), LwS (D + 1800) c' R' τ' → Z X (b - 1) 2664 (lL i) [] (τ', l')) : Z X b 1763 (lL i) [] (τ, l) := by
  have hI := hs.1
  have hK := hs.2.2.1
  rw [show (τ, l) = (zs τ 21 c, l) from by rw [hs.eq]]
  refine z_b hX (fo_no RL) [.aload_n 1, .aload_n 0, .iload 5, .iconst 1, .iadd] 1769 (by decide +kernel) rfl ?_
  refine z_sld hX hS (i + 1) (by omega) hL (by omega) (by decide +kernel) ?_
  refine z_b hX (fo_no RL) [.aload_n 3] 1771 (by decide +kernel) rfl ?_
  refine z_callN hX hN m_L_load l_L_232 p_L_load (c_L_load hI hK (zi_x _)) (by decide) hb rfl rfl rfl (by decide +kernel) (fun v st q => ?_) (fun cls st q => by obtain ⟨k, σ1, lg, q1, -⟩ := q; cases q1)
  obtain ⟨k, σ1, lg, q1, rfl, hc, hf, hr⟩ := q
  cases q1
  obtain ⟨m1, m2, m3⟩ := hs.mid (c' := _) hf
  refine z_b hX (fo_no RL) [.istore 6, .aload_n 2, .aload_n 0, .iload 5, .iconst 1, .iadd] 1782 (by decide +kernel) rfl ?_
  refine z_sld hX hS (i + 1) (by omega) hL (by omega) (by decide +kernel) ?_
  rw [← m1]
  refine z_cVK hX m_X11_load l_L_234 p_X11_load (c_X11_load (w := false) hI m2 m3 (zi_x _)) rfl rfl rfl rfl rfl rfl (by decide +kernel) (fun o s q => by obtain ⟨v, σ2, q1, -⟩ := q; exact ⟨_, q1⟩) (fun v st q => ?_)
  obtain ⟨v, σ2, q1, rfl, hM2, hr2, hlow, h62⟩ := q.w
  cases q1
  refine z_b hX (fo_no RL) [.istore 7] 1788 (by decide +kernel) rfl ?_
  have ha := law_and hr hr2 (fun e he => cd2_in (aLoad_x he))
  refine z_tail hX (off := 848) 2664 (by decide +kernel) (by decide) rfl rfl rfl rfl ⟨(congrFun (zs_ne (by decide) _) 7).trans ha.1, ha.2⟩ ?_
  exact z_wk (wk6 rfl rfl rfl rfl rfl rfl) (hk _ _ _ _ (LwS.next (aLoad_I hI) hc hM2 hlow h62 m3))
theorem law_25 {X : zC} {L i b : Nat} {xs : Nat → Int32} {D : Int} {c : Nat → Int} {R : aQ} {τ : Nat → Nat → Int} {l : (Nat → Int64) × (Nat → UInt64)} (hX : zOk X RL cL_law 10 15) (hS : zSc X L xs) (hN : zNc X.2.1.2.2.2) (hL : L ≤ 2048) (hi : i + 4 ≤ L) (hs : LwS D c R τ) (hD : D + 1800 ≤ 1000000) (hb : 1 ≤ b) (hk : ∀ (c' : Nat → Int) (R' : aQ) (τ' : Nat → Nat → Int) (l' : (Nat → Int64) × (Nat → UInt64)), LwS (D + 1800) c' R' τ' → Z X (b - 1) 2664 (lL i) [] (τ', l')) : Z X b 1819 (lL i) [] (τ, l) := by
  have hI := hs.1
  have hK := hs.2.2.1
  rw [show (τ, l) = (zs τ 21 c, l) from by rw [hs.eq]]
  refine z_b hX (fo_no RL) [.aload_n 1, .aload_n 3] 1821 (by decide +kernel) rfl ?_
  refine z_callN hX hN m_L_unload l_L_235 p_L_unload (c_L_unload hI hK ) (by decide) hb rfl rfl rfl (by decide +kernel) (fun v st q => ?_) (fun cls st q => by obtain ⟨k, σ1, lg, q1, -⟩ := q; cases q1)
  obtain ⟨k, σ1, lg, q1, rfl, hc, hf, hr⟩ := q
  cases q1
  obtain ⟨m1, m2, m3⟩ := hs.mid (c' := _) hf
  refine z_b hX (fo_no RL) [.istore 6, .aload_n 2] 1827 (by decide +kernel) rfl ?_
  rw [← m1]
  refine z_cVK hX m_X11_unload l_L_237 p_X11_unload (c_X11_unload (w := false) hI m2 m3 ) rfl rfl rfl rfl rfl rfl (by decide +kernel) (fun o s q => by obtain ⟨v, σ2, q1, -⟩ := q; exact ⟨_, q1⟩) (fun v st q => ?_)
  obtain ⟨v, σ2, q1, rfl, hM2, hr2, hlow, h62⟩ := q.w
  cases q1
  refine z_b hX (fo_no RL) [.istore 7] 1832 (by decide +kernel) rfl ?_
  have ha := law_and hr hr2 (fun e he => cd1_in (aUnload_x he))
  refine z_tail hX (off := 804) 2664 (by decide +kernel) (by decide) rfl rfl rfl rfl ⟨(congrFun (zs_ne (by decide) _) 7).trans ha.1, ha.2⟩ ?_
  exact z_wk (wk6 rfl rfl rfl rfl rfl rfl) (hk _ _ _ _ (LwS.next (aUnload_I hI) hc hM2 hlow h62 m3))
theorem law_26 {X : zC} {L i b : Nat} {xs : Nat → Int32} {D : Int} {c : Nat → Int} {R : aQ} {τ : Nat → Nat → Int} {l : (Nat → Int64) × (Nat → UInt64)} (hX : zOk X RL cL_law 10 15) (hS : zSc X L xs) (hN : zNc X.2.1.2.2.2) (hL : L ≤ 2048) (hi : i + 4 ≤ L) (hs : LwS D c R τ) (hD : D + 1800 ≤ 1000000) (hb : 1 ≤ b) (hk : ∀ (c' : Nat → Int) (R' : aQ) (τ' : Nat → Nat → Int) (l' : (Nat → Int64) × (Nat → UInt64)), LwS (D + 1800) c' R' τ' → Z X (b - 1) 2664 (lL i) [] (τ', l')) : Z X b 1863 (lL i) [] (τ, l) := by
  have hI := hs.1
  have hK := hs.2.2.1
  rw [show (τ, l) = (zs τ 21 c, l) from by rw [hs.eq]]
  refine z_b hX (fo_no RL) [.aload_n 1, .aload_n 0, .iload 5, .iconst 1, .iadd] 1869 (by decide +kernel) rfl ?_
  refine z_sld hX hS (i + 1) (by omega) hL (by omega) (by decide +kernel) ?_
  refine z_b hX (fo_no RL) [.aload_n 3] 1871 (by decide +kernel) rfl ?_
  refine z_callN hX hN m_L_onTrain l_L_238 p_L_onTrain (c_L_onTrain hI hK (zi_x _)) (by decide) hb rfl rfl rfl (by decide +kernel) (fun v st q => ?_) (fun cls st q => by obtain ⟨k, σ1, lg, q1, -⟩ := q; cases q1)
  obtain ⟨k, σ1, lg, q1, rfl, hc, hf, hr⟩ := q
  cases q1
  obtain ⟨m1, m2, m3⟩ := hs.mid (c' := _) hf
  refine z_b hX (fo_no RL) [.istore 6, .aload_n 2, .aload_n 0, .iload 5, .iconst 1, .iadd] 1882 (by decide +kernel) rfl ?_
  refine z_sld hX hS (i + 1) (by omega) hL (by omega) (by decide +kernel) ?_
  rw [← m1]
  refine z_cVK hX m_X11_onTrain l_L_240 p_X11_onTrain (c_X11_onTrain (w := false) hI m2 m3 (zi_x _)) rfl rfl rfl rfl rfl rfl (by decide +kernel) (fun o s q => by obtain ⟨v, σ2, q1, -⟩ := q; exact ⟨_, q1⟩) (fun v st q => ?_)
  obtain ⟨v, σ2, q1, rfl, hM2, hr2, hlow, h62⟩ := q.w
  cases q1
  refine z_b hX (fo_no RL) [.istore 7] 1888 (by decide +kernel) rfl ?_
  have ha := law_and hr hr2 (fun e he => cd1_in (aOnTrain_x he))
  refine z_tail hX (off := 748) 2664 (by decide +kernel) (by decide) rfl rfl rfl rfl ⟨(congrFun (zs_ne (by decide) _) 7).trans ha.1, ha.2⟩ ?_
  exact z_wk (wk6 rfl rfl rfl rfl rfl rfl) (hk _ _ _ _ (LwS.next (aOnTrain_I hI) hc hM2 hlow h62 m3))
theorem law_27 {X : zC} {L i b : Nat} {xs : Nat → Int32} {D : Int} {c : Nat → Int} {R : aQ} {τ : Nat → Nat → Int} {l : (Nat → Int64) × (Nat → UInt64)} (hX : zOk X RL cL_law 10 15) (hS : zSc X L xs) (hN : zNc X.2.1.2.2.2) (hL : L ≤ 2048) (hi : i + 4 ≤ L) (hs : LwS D c R τ) (hD : D + 1800 ≤ 1000000) (hb : 1 ≤ b) (hk : ∀ (c' : Nat → Int) (R' : aQ) (τ' : Nat → Nat → Int) (l' : (Nat → Int64) × (Nat → UInt64)), LwS (D + 1800) c' R' τ' → Z X (b - 1) 2664 (lL i) [] (τ', l')) : Z X b 1919 (lL i) [] (τ, l) := by
  have hI := hs.1
  have hK := hs.2.2.1
  rw [show (τ, l) = (zs τ 21 c, l) from by rw [hs.eq]]
  refine z_b hX (fo_no RL) [.aload_n 1, .aload_n 0, .iload 5, .iconst 1, .iadd] 1925 (by decide +kernel) rfl ?_
  refine z_sld hX hS (i + 1) (by omega) hL (by omega) (by decide +kernel) ?_
  refine z_b hX (fo_no RL) [.aload_n 3] 1927 (by decide +kernel) rfl ?_
  refine z_callN hX hN m_L_unloads l_L_241 p_L_unloads (c_L_unloads hI hK (zi_x _)) (by decide) hb rfl rfl rfl (by decide +kernel) (fun v st q => ?_) (fun cls st q => by obtain ⟨k, σ1, lg, q1, -⟩ := q; cases q1)
  obtain ⟨k, σ1, lg, q1, rfl, hc, hf, hr⟩ := q
  cases q1
  obtain ⟨m1, m2, m3⟩ := hs.mid (c' := _) hf
  refine z_b hX (fo_no RL) [.istore 6, .aload_n 2, .aload_n 0, .iload 5, .iconst 1, .iadd] 1938 (by decide +kernel) rfl ?_
  refine z_sld hX hS (i + 1) (by omega) hL (by omega) (by decide +kernel) ?_
  rw [← m1]
  refine z_cVK hX m_X11_unloads l_L_243 p_X11_unloads (c_X11_unloads (w := false) hI m2 m3 (zi_x _)) rfl rfl rfl rfl rfl rfl (by decide +kernel) (fun o s q => by obtain ⟨v, σ2, q1, -⟩ := q; exact ⟨_, q1⟩) (fun v st q => ?_)
  obtain ⟨v, σ2, q1, rfl, hM2, hr2, hlow, h62⟩ := q.w
  cases q1
  refine z_b hX (fo_no RL) [.istore 7] 1944 (by decide +kernel) rfl ?_
  have ha := law_and hr hr2 (fun e he => cd1_in (aUnloads_x he))
  refine z_tail hX (off := 692) 2664 (by decide +kernel) (by decide) rfl rfl rfl rfl ⟨(congrFun (zs_ne (by decide) _) 7).trans ha.1, ha.2⟩ ?_
  exact z_wk (wk6 rfl rfl rfl rfl rfl rfl) (hk _ _ _ _ (LwS.next (aUnloads_I hI) hc hM2 hlow h62 m3))
theorem law_28 {X : zC} {L i b : Nat} {xs : Nat → Int32} {D : Int} {c : Nat → Int} {R : aQ} {τ : Nat → Nat → Int} {l : (Nat → Int64) × (Nat → UInt64)} (hX : zOk X RL cL_law 10 15) (hS : zSc X L xs) (hN : zNc X.2.1.2.2.2) (hL : L ≤ 2048) (hi : i + 4 ≤ L) (hs : LwS D c R τ) (hD : D + 1800 ≤ 1000000) (hb : 1 ≤ b) (hk : ∀ (c' : Nat → Int) (R' : aQ) (τ' : Nat → Nat → Int) (l' : (Nat → Int64) × (Nat → UInt64)), LwS (D + 1800) c' R' τ' → Z X (b - 1) 2664 (lL i) [] (τ', l')) : Z X b 1975 (lL i) [] (τ, l) := by
  have hI := hs.1
  have hK := hs.2.2.1
  rw [show (τ, l) = (zs τ 21 c, l) from by rw [hs.eq]]
  refine z_b hX (fo_no RL) [.aload_n 1, .aload_n 0, .iload 5, .iconst 1, .iadd] 1981 (by decide +kernel) rfl ?_
  refine z_sld hX hS (i + 1) (by omega) hL (by omega) (by decide +kernel) ?_
  refine z_b hX (fo_no RL) [.aload_n 3] 1983 (by decide +kernel) rfl ?_
  refine z_callN hX hN m_L_goOn l_L_244 p_L_goOn (c_L_goOn hI hK (zi_x _)) (by decide) hb rfl rfl rfl (by decide +kernel) (fun v st q => ?_) (fun cls st q => by obtain ⟨k, σ1, lg, q1, -⟩ := q; cases q1)
  obtain ⟨k, σ1, lg, q1, rfl, hc, hf, hr⟩ := q
  cases q1
  obtain ⟨m1, m2, m3⟩ := hs.mid (c' := _) hf
  refine z_b hX (fo_no RL) [.istore 6, .aload_n 2, .aload_n 0, .iload 5, .iconst 1, .iadd] 1994 (by decide +kernel) rfl ?_
  refine z_sld hX hS (i + 1) (by omega) hL (by omega) (by decide +kernel) ?_
  rw [← m1]
  refine z_cVK hX m_X11_goOn l_L_246 p_X11_goOn (c_X11_goOn (w := false) hI m2 m3 (zi_x _)) rfl rfl rfl rfl rfl rfl (by decide +kernel) (fun o s q => by obtain ⟨v, σ2, q1, -⟩ := q; exact ⟨_, q1⟩) (fun v st q => ?_)
  obtain ⟨v, σ2, q1, rfl, hM2, hr2, hlow, h62⟩ := q.w
  cases q1
  refine z_b hX (fo_no RL) [.istore 7] 2000 (by decide +kernel) rfl ?_
  have ha := law_and hr hr2 (fun e he => cd2_in (aGoOn_x he))
  refine z_tail hX (off := 636) 2664 (by decide +kernel) (by decide) rfl rfl rfl rfl ⟨(congrFun (zs_ne (by decide) _) 7).trans ha.1, ha.2⟩ ?_
  exact z_wk (wk6 rfl rfl rfl rfl rfl rfl) (hk _ _ _ _ (LwS.next (aGoOn_I hI) hc hM2 hlow h62 m3))
theorem law_29 {X : zC} {L i b : Nat} {xs : Nat → Int32} {D : Int} {c : Nat → Int} {R : aQ} {τ : Nat → Nat → Int} {l : (Nat → Int64) × (Nat → UInt64)} (hX : zOk X RL cL_law 10 15) (hS : zSc X L xs) (hN : zNc X.2.1.2.2.2) (hL : L ≤ 2048) (hi : i + 4 ≤ L) (hs : LwS D c R τ) (hD : D + 1800 ≤ 1000000) (hb : 1 ≤ b) (hk : ∀ (c' : Nat → Int) (R' : aQ) (τ' : Nat → Nat → Int) (l' : (Nat → Int64) × (Nat → UInt64)), LwS (D + 1800) c' R' τ' → Z X (b - 1) 2664 (lL i) [] (τ', l')) : Z X b 2031 (lL i) [] (τ, l) := by
  have hI := hs.1
  have hK := hs.2.2.1
  rw [show (τ, l) = (zs τ 21 c, l) from by rw [hs.eq]]
  refine z_b hX (fo_no RL) [.aload_n 1, .aload_n 0, .iload 5, .iconst 1, .iadd] 2037 (by decide +kernel) rfl ?_
  refine z_sld hX hS (i + 1) (by omega) hL (by omega) (by decide +kernel) ?_
  refine z_b hX (fo_no RL) [.aload_n 3] 2039 (by decide +kernel) rfl ?_
  refine z_callN hX hN m_L_tightIn l_L_247 p_L_tightIn (c_L_tightIn hI hK (zi_x _) (by omega)) (by decide) hb rfl rfl rfl (by decide +kernel) (fun v st q => ?_) (fun cls st q => by obtain ⟨k, σ1, lg, q1, -⟩ := q; cases q1)
  obtain ⟨k, σ1, lg, q1, rfl, hc, hf, hr⟩ := q
  cases q1
  obtain ⟨m1, m2, m3⟩ := hs.mid (c' := _) hf
  refine z_b hX (fo_no RL) [.istore 6, .aload_n 2, .aload_n 0, .iload 5, .iconst 1, .iadd] 2050 (by decide +kernel) rfl ?_
  refine z_sld hX hS (i + 1) (by omega) hL (by omega) (by decide +kernel) ?_
  rw [← m1]
  refine z_cVK hX m_X11_tightIn l_L_249 p_X11_tightIn (c_X11_tightIn (w := false) hI m2 m3 (zi_x _) (by omega)) rfl rfl rfl rfl rfl rfl (by decide +kernel) (fun o s q => by obtain ⟨v, σ2, q1, -⟩ := q; exact ⟨_, q1⟩) (fun v st q => ?_)
  obtain ⟨v, σ2, q1, rfl, hM2, hr2, hlow, h62⟩ := q.w
  cases q1
  refine z_b hX (fo_no RL) [.istore 7] 2056 (by decide +kernel) rfl ?_
  have ha := law_and hr hr2 (fun e he => cd2_in (aTight_x he))
  refine z_tail hX (off := 580) 2664 (by decide +kernel) (by decide) rfl rfl rfl rfl ⟨(congrFun (zs_ne (by decide) _) 7).trans ha.1, ha.2⟩ ?_
  exact z_wk (wk6 rfl rfl rfl rfl rfl rfl) (hk _ _ _ _ (LwS.next (aTight_I hI) hc hM2 hlow h62 m3))
theorem law_30 {X : zC} {L i b : Nat} {xs : Nat → Int32} {D : Int} {c : Nat → Int} {R : aQ} {τ : Nat → Nat → Int} {l : (Nat → Int64) × (Nat → UInt64)} (hX : zOk X RL cL_law 10 15) (hS : zSc X L xs) (hN : zNc X.2.1.2.2.2) (hL : L ≤ 2048) (hi : i + 4 ≤ L) (hs : LwS D c R τ) (hD : D + 1800 ≤ 1000000) (hb : 1 ≤ b) (hk : ∀ (c' : Nat → Int) (R' : aQ) (τ' : Nat → Nat → Int) (l' : (Nat → Int64) × (Nat → UInt64)), LwS (D + 1800) c' R' τ' → Z X (b - 1) 2664 (lL i) [] (τ', l')) : Z X b 2087 (lL i) [] (τ, l) := by
  have hI := hs.1
  have hK := hs.2.2.1
  rw [show (τ, l) = (zs τ 21 c, l) from by rw [hs.eq]]
  refine z_b hX (fo_no RL) [.aload_n 1, .aload_n 0, .iload 5, .iconst 1, .iadd] 2093 (by decide +kernel) rfl ?_
  refine z_sld hX hS (i + 1) (by omega) hL (by omega) (by decide +kernel) ?_
  refine z_b hX (fo_no RL) [.aload_n 3] 2095 (by decide +kernel) rfl ?_
  refine z_callN hX hN m_L_pass l_L_250 p_L_pass (c_L_pass hI hK (zi_x _) (by omega)) (by decide) hb rfl rfl rfl (by decide +kernel) (fun v st q => ?_) (fun cls st q => by obtain ⟨k, σ1, lg, q1, -⟩ := q; cases q1)
  obtain ⟨k, σ1, lg, q1, rfl, hc, hf, hr⟩ := q
  cases q1
  obtain ⟨m1, m2, m3⟩ := hs.mid (c' := _) hf
  refine z_b hX (fo_no RL) [.istore 6, .aload_n 2, .aload_n 0, .iload 5, .iconst 1, .iadd] 2106 (by decide +kernel) rfl ?_
  refine z_sld hX hS (i + 1) (by omega) hL (by omega) (by decide +kernel) ?_
  rw [← m1]
  refine z_cVK hX m_X11_pass l_L_252 p_X11_pass (c_X11_pass (w := false) hI m2 m3 (zi_x _) (by omega)) rfl rfl rfl rfl rfl rfl (by decide +kernel) (fun o s q => by obtain ⟨v, σ2, q1, -⟩ := q; exact ⟨_, q1⟩) (fun v st q => ?_)
  obtain ⟨v, σ2, q1, rfl, hM2, hr2, hlow, h62⟩ := q.w
  cases q1
  refine z_b hX (fo_no RL) [.istore 7] 2112 (by decide +kernel) rfl ?_
  have ha := law_and hr hr2 (fun e he => cd1_in (aPass_x he))
  refine z_tail hX (off := 524) 2664 (by decide +kernel) (by decide) rfl rfl rfl rfl ⟨(congrFun (zs_ne (by decide) _) 7).trans ha.1, ha.2⟩ ?_
  exact z_wk (wk6 rfl rfl rfl rfl rfl rfl) (hk _ _ _ _ (LwS.next (aPass_I hI) hc hM2 hlow h62 m3))
theorem law_31 {X : zC} {L i b : Nat} {xs : Nat → Int32} {D : Int} {c : Nat → Int} {R : aQ} {τ : Nat → Nat → Int} {l : (Nat → Int64) × (Nat → UInt64)} (hX : zOk X RL cL_law 10 15) (hS : zSc X L xs) (hN : zNc X.2.1.2.2.2) (hL : L ≤ 2048) (hi : i + 4 ≤ L) (hs : LwS D c R τ) (hD : D + 1800 ≤ 1000000) (hb : 1 ≤ b) (hk : ∀ (c' : Nat → Int) (R' : aQ) (τ' : Nat → Nat → Int) (l' : (Nat → Int64) × (Nat → UInt64)), LwS (D + 1800) c' R' τ' → Z X (b - 1) 2664 (lL i) [] (τ', l')) : Z X b 2143 (lL i) [] (τ, l) := by
  have hI := hs.1
  have hK := hs.2.2.1
  rw [show (τ, l) = (zs τ 21 c, l) from by rw [hs.eq]]
  refine z_b hX (fo_no RL) [.aload_n 1, .aload_n 0, .iload 5, .iconst 1, .iadd] 2149 (by decide +kernel) rfl ?_
  refine z_sld hX hS (i + 1) (by omega) hL (by omega) (by decide +kernel) ?_
  refine z_i2c hX (by decide +kernel) ?_
  refine z_b hX (fo_no RL) [.aload_n 3] 2152 (by decide +kernel) rfl ?_
  refine z_callN hX hN m_L_append l_L_253 p_L_append (c_L_append hI hK (z_c16 _)) (by decide) hb rfl rfl rfl (by decide +kernel) (fun v st q => ?_) (fun cls st q => by obtain ⟨k, σ1, lg, q1, -⟩ := q; cases q1)
  obtain ⟨k, σ1, lg, q1, rfl, hc, hf, hr⟩ := q
  cases q1
  obtain ⟨m1, m2, m3⟩ := hs.mid (c' := _) hf
  refine z_b hX (fo_no RL) [.istore 6, .aload_n 2, .aload_n 0, .iload 5, .iconst 1, .iadd] 2163 (by decide +kernel) rfl ?_
  refine z_sld hX hS (i + 1) (by omega) hL (by omega) (by decide +kernel) ?_
  refine z_i2c hX (by decide +kernel) ?_
  rw [← m1]
  refine z_cVK hX m_X11_append l_L_256 p_X11_append (c_X11_append hI m2) rfl rfl rfl rfl rfl rfl (by decide +kernel) (fun o s q => by obtain ⟨v, σ2, q1, -⟩ := q; exact ⟨_, q1⟩) (fun v st q => ?_)
  obtain ⟨v, σ2, q1, rfl, hM2, hr2, hlow, h62⟩ := q
  cases q1
  refine z_b hX (fo_no RL) [.istore 7] 2170 (by decide +kernel) rfl ?_
  have ha := law_and hr hr2 (fun e he => cd1_in (aAppend_x he))
  refine z_tail hX (off := 466) 2664 (by decide +kernel) (by decide) rfl rfl rfl rfl ⟨(congrFun (zs_ne (by decide) _) 7).trans ha.1, ha.2⟩ ?_
  exact z_wk (wk6 rfl rfl rfl rfl rfl rfl) (hk _ _ _ _ (LwS.next (aAppend_I hI (z_c16 _)) hc hM2 hlow h62 m3))
theorem law_32 {X : zC} {L i b : Nat} {xs : Nat → Int32} {D : Int} {c : Nat → Int} {R : aQ} {τ : Nat → Nat → Int} {l : (Nat → Int64) × (Nat → UInt64)} (hX : zOk X RL cL_law 10 15) (hS : zSc X L xs) (hN : zNc X.2.1.2.2.2) (hL : L ≤ 2048) (hi : i + 4 ≤ L) (hs : LwS D c R τ) (hD : D + 1800 ≤ 1000000) (hb : 1 ≤ b) (hk : ∀ (c' : Nat → Int) (R' : aQ) (τ' : Nat → Nat → Int) (l' : (Nat → Int64) × (Nat → UInt64)), LwS (D + 1800) c' R' τ' → Z X (b - 1) 2664 (lL i) [] (τ', l')) : Z X b 2201 (lL i) [] (τ, l) := by
  have hI := hs.1
  have hK := hs.2.2.1
  rw [show (τ, l) = (zs τ 21 c, l) from by rw [hs.eq]]
  refine z_b hX (fo_no RL) [.aload_n 1, .aload_n 3] 2203 (by decide +kernel) rfl ?_
  refine z_callN hX hN m_L_read l_L_257 p_L_read (c_L_read hI hK hD) (by decide) hb rfl rfl rfl (by decide +kernel) (fun v st q => ?_) (fun cls st q => by obtain ⟨k, σ1, lg, q1, -⟩ := q; cases q1)
  obtain ⟨k, σ1, lg, q1, rfl, hc, hf, hr⟩ := q
  cases q1
  obtain ⟨m1, m2, m3⟩ := hs.mid (c' := _) hf
  refine z_b hX (fo_no RL) [.istore 6, .aload_n 2] 2209 (by decide +kernel) rfl ?_
  rw [← m1]
  refine z_cVK hX m_X11_read l_L_259 p_X11_read (c_X11_read hI hD m2 m3) rfl rfl rfl rfl rfl rfl (by decide +kernel) (fun o s q => by obtain ⟨v, σ2, q1, -⟩ := q; exact ⟨_, q1⟩) (fun v st q => ?_)
  obtain ⟨v, σ2, q1, rfl, hM2, hr2, hlow, h62⟩ := q
  cases q1
  refine z_b hX (fo_no RL) [.istore 7] 2214 (by decide +kernel) rfl ?_
  have ha := law_and hr hr2 (fun e he => cd2_in (aRead_x he))
  refine z_tail hX (off := 422) 2664 (by decide +kernel) (by decide) rfl rfl rfl rfl ⟨(congrFun (zs_ne (by decide) _) 7).trans ha.1, ha.2⟩ ?_
  exact z_wk (wk6 rfl rfl rfl rfl rfl rfl) (hk _ _ _ _ (LwS.next (aRead_I hI) hc hM2 hlow h62 m3))
theorem law_34 {X : zC} {L i b : Nat} {xs : Nat → Int32} {D : Int} {c : Nat → Int} {R : aQ} {τ : Nat → Nat → Int} {l : (Nat → Int64) × (Nat → UInt64)} (hX : zOk X RL cL_law 10 15) (hS : zSc X L xs) (hN : zNc X.2.1.2.2.2) (hL : L ≤ 2048) (hi : i + 4 ≤ L) (hs : LwS D c R τ) (hD : D + 1800 ≤ 1000000) (hb : 1 ≤ b) (hk : ∀ (c' : Nat → Int) (R' : aQ) (τ' : Nat → Nat → Int) (l' : (Nat → Int64) × (Nat → UInt64)), LwS (D + 1800) c' R' τ' → Z X (b - 1) 2664 (lL i) [] (τ', l')) : Z X b 2258 (lL i) [] (τ, l) := by
  have hI := hs.1
  have hK := hs.2.2.1
  rw [show (τ, l) = (zs τ 21 c, l) from by rw [hs.eq]]
  refine z_b hX (fo_no RL) [.aload_n 1, .aload_n 0, .iload 5, .iconst 1, .iadd] 2264 (by decide +kernel) rfl ?_
  refine z_sld hX hS (i + 1) (by omega) hL (by omega) (by decide +kernel) ?_
  refine z_if_ne2 hX (by decide +kernel) (by decide +kernel) (by decide +kernel) (by decide +kernel) (zi_x _) ?_
  refine z_b hX (fo_no RL) [.aload_n 3] 2274 (by decide +kernel) rfl ?_
  refine z_callN hX hN m_L_refusal l_L_264 p_L_refusal (c_L_refusal hI hK (zbl_b _)) (by decide) hb rfl rfl rfl (by decide +kernel) (fun v st q => ?_) (fun cls st q => by obtain ⟨k, σ1, lg, q1, -⟩ := q; cases q1)
  obtain ⟨k, σ1, lg, q1, rfl, hc, hf, hr⟩ := q
  cases q1
  obtain ⟨m1, m2, m3⟩ := hs.mid (c' := _) hf
  refine z_b hX (fo_no RL) [.istore 6, .aload_n 2, .aload_n 0, .iload 5, .iconst 1, .iadd] 2285 (by decide +kernel) rfl ?_
  refine z_sld hX hS (i + 1) (by omega) hL (by omega) (by decide +kernel) ?_
  refine z_if_ne2 hX (by decide +kernel) (by decide +kernel) (by decide +kernel) (by decide +kernel) (zi_x _) ?_
  rw [← m1]
  refine z_cVK hX m_X11_refusal l_L_267 p_X11_refusal (c_X11_refusal hI m2 (zbl_b _)) rfl rfl rfl rfl rfl rfl (by decide +kernel) (fun o s q => by obtain ⟨v, σ2, q1, -⟩ := q; exact ⟨_, q1⟩) (fun v st q => ?_)
  obtain ⟨v, σ2, q1, rfl, hM2, hr2, hlow, h62⟩ := q.w
  cases q1
  refine z_b hX (fo_no RL) [.istore 7] 2299 (by decide +kernel) rfl ?_
  have ha := law_and hr hr2 (fun e he => cd1_in (aRefusal_x he))
  refine z_tail hX (off := 337) 2664 (by decide +kernel) (by decide) rfl rfl rfl rfl ⟨(congrFun (zs_ne (by decide) _) 7).trans ha.1, ha.2⟩ ?_
  exact z_wk (wk6 rfl rfl rfl rfl rfl rfl) (hk _ _ _ _ (LwS.next (aRefusal_I hI) hc hM2 hlow h62 m3))
theorem law_35 {X : zC} {L i b : Nat} {xs : Nat → Int32} {D : Int} {c : Nat → Int} {R : aQ} {τ : Nat → Nat → Int} {l : (Nat → Int64) × (Nat → UInt64)} (hX : zOk X RL cL_law 10 15) (hS : zSc X L xs) (hN : zNc X.2.1.2.2.2) (hL : L ≤ 2048) (hi : i + 4 ≤ L) (hs : LwS D c R τ) (hD : D + 1800 ≤ 1000000) (hb : 1 ≤ b) (hk : ∀ (c' : Nat → Int) (R' : aQ) (τ' : Nat → Nat → Int) (l' : (Nat → Int64) × (Nat → UInt64)), LwS (D + 1800) c' R' τ' → Z X (b - 1) 2664 (lL i) [] (τ', l')) : Z X b 2330 (lL i) [] (τ, l) := by
  have hI := hs.1
  have hK := hs.2.2.1
  rw [show (τ, l) = (zs τ 21 c, l) from by rw [hs.eq]]
  refine z_b hX (fo_no RL) [.aload_n 1, .aload_n 0, .iload 5, .iconst 1, .iadd] 2336 (by decide +kernel) rfl ?_
  refine z_sld hX hS (i + 1) (by omega) hL (by omega) (by decide +kernel) ?_
  refine z_b hX (fo_no RL) [.aload_n 3] 2338 (by decide +kernel) rfl ?_
  refine z_callN hX hN m_L_sign l_L_268 p_L_sign (c_L_sign hI hK (zi_x _)) (by decide) hb rfl rfl rfl (by decide +kernel) (fun v st q => ?_) (fun cls st q => by obtain ⟨k, σ1, lg, q1, -⟩ := q; cases q1)
  obtain ⟨k, σ1, lg, q1, rfl, hc, hf, hr⟩ := q
  cases q1
  obtain ⟨m1, m2, m3⟩ := hs.mid (c' := _) hf
  refine z_b hX (fo_no RL) [.istore 6, .aload_n 2, .aload_n 0, .iload 5, .iconst 1, .iadd] 2349 (by decide +kernel) rfl ?_
  refine z_sld hX hS (i + 1) (by omega) hL (by omega) (by decide +kernel) ?_
  rw [← m1]
  refine z_cVK hX m_X11_sign l_L_270 p_X11_sign (c_X11_sign (w := false) hI m2 m3 (zi_x _)) rfl rfl rfl rfl rfl rfl (by decide +kernel) (fun o s q => by obtain ⟨v, σ2, q1, -⟩ := q; exact ⟨_, q1⟩) (fun v st q => ?_)
  obtain ⟨v, σ2, q1, rfl, hM2, hr2, hlow, h62⟩ := q.w
  cases q1
  refine z_b hX (fo_no RL) [.istore 7] 2355 (by decide +kernel) rfl ?_
  have ha := law_and hr hr2 (fun e he => cd1_in (aSign_x he))
  refine z_tail hX (off := 281) 2664 (by decide +kernel) (by decide) rfl rfl rfl rfl ⟨(congrFun (zs_ne (by decide) _) 7).trans ha.1, ha.2⟩ ?_
  exact z_wk (wk6 rfl rfl rfl rfl rfl rfl) (hk _ _ _ _ (LwS.next (aSign_I hI) hc hM2 hlow h62 m3))
theorem law_36 {X : zC} {L i b : Nat} {xs : Nat → Int32} {D : Int} {c : Nat → Int} {R : aQ} {τ : Nat → Nat → Int} {l : (Nat → Int64) × (Nat → UInt64)} (hX : zOk X RL cL_law 10 15) (hS : zSc X L xs) (hN : zNc X.2.1.2.2.2) (hL : L ≤ 2048) (hi : i + 4 ≤ L) (hs : LwS D c R τ) (hD : D + 1800 ≤ 1000000) (hb : 1 ≤ b) (hk : ∀ (c' : Nat → Int) (R' : aQ) (τ' : Nat → Nat → Int) (l' : (Nat → Int64) × (Nat → UInt64)), LwS (D + 1800) c' R' τ' → Z X (b - 1) 2664 (lL i) [] (τ', l')) : Z X b 2386 (lL i) [] (τ, l) := by
  have hI := hs.1
  have hK := hs.2.2.1
  rw [show (τ, l) = (zs τ 21 c, l) from by rw [hs.eq]]
  refine z_b hX (fo_no RL) [.aload_n 1, .aload_n 0, .iload 5, .iconst 1, .iadd] 2392 (by decide +kernel) rfl ?_
  refine z_sld hX hS (i + 1) (by omega) hL (by omega) (by decide +kernel) ?_
  refine z_b hX (fo_no RL) [.aload_n 3] 2394 (by decide +kernel) rfl ?_
  refine z_callN hX hN m_L_account l_L_271 p_L_account (c_L_account hI hK (zi_x _)) (by decide) hb rfl rfl rfl (by decide +kernel) (fun v st q => ?_) (fun cls st q => by obtain ⟨k, σ1, lg, q1, -⟩ := q; cases q1)
  obtain ⟨k, σ1, lg, q1, rfl, hc, hf, hr⟩ := q
  cases q1
  obtain ⟨m1, m2, m3⟩ := hs.mid (c' := _) hf
  refine z_b hX (fo_no RL) [.istore 6, .aload_n 2, .aload_n 0, .iload 5, .iconst 1, .iadd] 2405 (by decide +kernel) rfl ?_
  refine z_sld hX hS (i + 1) (by omega) hL (by omega) (by decide +kernel) ?_
  rw [← m1]
  refine z_cVK hX m_X11_account l_L_273 p_X11_account (c_X11_account (w := false) hI m2 m3 (zi_x _)) rfl rfl rfl rfl rfl rfl (by decide +kernel) (fun o s q => by obtain ⟨v, σ2, q1, -⟩ := q; exact ⟨_, q1⟩) (fun v st q => ?_)
  obtain ⟨v, σ2, q1, rfl, hM2, hr2, hlow, h62⟩ := q.w
  cases q1
  refine z_b hX (fo_no RL) [.istore 7] 2411 (by decide +kernel) rfl ?_
  have ha := law_and hr hr2 (fun e he => cd1_in (aAccount_x he))
  refine z_tail hX (off := 225) 2664 (by decide +kernel) (by decide) rfl rfl rfl rfl ⟨(congrFun (zs_ne (by decide) _) 7).trans ha.1, ha.2⟩ ?_
  exact z_wk (wk6 rfl rfl rfl rfl rfl rfl) (hk _ _ _ _ (LwS.next (aAccount_I hI) hc hM2 hlow h62 m3))
theorem law_40 {X : zC} {L i b : Nat} {xs : Nat → Int32} {D : Int} {c : Nat → Int} {R : aQ} {τ : Nat → Nat → Int} {l : (Nat → Int64) × (Nat → UInt64)} (hX : zOk X RL cL_law 10 15) (hS : zSc X L xs) (hN : zNc X.2.1.2.2.2) (hL : L ≤ 2048) (hi : i + 4 ≤ L) (hs : LwS D c R τ) (hD : D + 1800 ≤ 1000000) (hb : 1 ≤ b) (hk : ∀ (c' : Nat → Int) (R' : aQ) (τ' : Nat → Nat → Int) (l' : (Nat → Int64) × (Nat → UInt64)), LwS (D + 1800) c' R' τ' → Z X (b - 1) 2664 (lL i) [] (τ', l')) : Z X b 2563 (lL i) [] (τ, l) := by
  have hI := hs.1
  have hK := hs.2.2.1
  rw [show (τ, l) = (zs τ 21 c, l) from by rw [hs.eq]]
  refine z_b hX (fo_no RL) [.aload_n 1, .aload_n 3] 2565 (by decide +kernel) rfl ?_
  refine z_callN hX hN m_L_undo l_L_288 p_L_undo (c_L_undo hI hK ) (by decide) hb rfl rfl rfl (by decide +kernel) (fun v st q => ?_) (fun cls st q => by obtain ⟨k, σ1, lg, q1, -⟩ := q; cases q1)
  obtain ⟨k, σ1, lg, q1, rfl, hc, hf, hr⟩ := q
  cases q1
  obtain ⟨m1, m2, m3⟩ := hs.mid (c' := _) hf
  refine z_b hX (fo_no RL) [.istore 6, .aload_n 2] 2571 (by decide +kernel) rfl ?_
  rw [← m1]
  refine z_cVK hX m_X11_undo l_L_290 p_X11_undo (c_X11_undo hI m2) rfl rfl rfl rfl rfl rfl (by decide +kernel) (fun o s q => by obtain ⟨v, σ2, q1, -⟩ := q; exact ⟨_, q1⟩) (fun v st q => ?_)
  obtain ⟨v, σ2, q1, rfl, hM2, hr2, hlow, h62⟩ := q
  cases q1
  refine z_b hX (fo_no RL) [.istore 7] 2576 (by decide +kernel) rfl ?_
  have ha := law_and hr hr2 (fun e he => cd1_in (aUndo_x he))
  refine z_tail hX (off := 60) 2664 (by decide +kernel) (by decide) rfl rfl rfl rfl ⟨(congrFun (zs_ne (by decide) _) 7).trans ha.1, ha.2⟩ ?_
  exact z_wk (wk6 rfl rfl rfl rfl rfl rfl) (hk _ _ _ _ (LwS.next (aUndo_I hI) hc hM2 hlow h62 m3))
theorem law_42 {X : zC} {L i b : Nat} {xs : Nat → Int32} {D : Int} {c : Nat → Int} {R : aQ} {τ : Nat → Nat → Int} {l : (Nat → Int64) × (Nat → UInt64)} (hX : zOk X RL cL_law 10 15) (hS : zSc X L xs) (hN : zNc X.2.1.2.2.2) (hL : L ≤ 2048) (hi : i + 4 ≤ L) (hs : LwS D c R τ) (hD : D + 1800 ≤ 1000000) (hb : 1 ≤ b) (hk : ∀ (c' : Nat → Int) (R' : aQ) (τ' : Nat → Nat → Int) (l' : (Nat → Int64) × (Nat → UInt64)), LwS (D + 1800) c' R' τ' → Z X (b - 1) 2664 (lL i) [] (τ', l')) : Z X b 2620 (lL i) [] (τ, l) := by
  have hI := hs.1
  have hK := hs.2.2.1
  rw [show (τ, l) = (zs τ 21 c, l) from by rw [hs.eq]]
  refine z_b hX (fo_no RL) [.aload_n 1, .aload_n 3] 2622 (by decide +kernel) rfl ?_
  refine z_callN hX hN m_L_restore l_L_295 p_L_restore (c_L_restore hI hK ) (by decide) hb rfl rfl rfl (by decide +kernel) (fun v st q => ?_) (fun cls st q => by obtain ⟨k, σ1, lg, q1, -⟩ := q; cases q1)
  obtain ⟨k, σ1, lg, q1, rfl, hc, hf, hr⟩ := q
  cases q1
  obtain ⟨m1, m2, m3⟩ := hs.mid (c' := _) hf
  refine z_b hX (fo_no RL) [.istore 6, .aload_n 2] 2628 (by decide +kernel) rfl ?_
  rw [← m1]
  refine z_cVK hX m_X11_restore l_L_297 p_X11_restore (c_X11_restore hI m2) rfl rfl rfl rfl rfl rfl (by decide +kernel) (fun o s q => by obtain ⟨v, σ2, q1, -⟩ := q; exact ⟨_, q1⟩) (fun v st q => ?_)
  obtain ⟨v, σ2, q1, rfl, hM2, hr2, hlow, h62⟩ := q
  cases q1
  refine z_b hX (fo_no RL) [.istore 7] 2633 (by decide +kernel) rfl ?_
  have ha := law_and hr hr2 (fun e he => cd1_in (aRestore_x he))
  refine z_tail hX (off := 3) 2664 (by decide +kernel) (by decide) rfl rfl rfl rfl ⟨(congrFun (zs_ne (by decide) _) 7).trans ha.1, ha.2⟩ ?_
  exact z_wk (wk6 rfl rfl rfl rfl rfl rfl) (hk _ _ _ _ (LwS.next (aRestore_I hI) hc hM2 hlow h62 m3))
