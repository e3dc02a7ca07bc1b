/-! ===== Audit ===== -/
theorem z_ic_neE {X : zC} {own : String} {cc : ByteArray} {nL d b pc : Nat} {lo : List (Nat × vV)} {sk : List vV} {st : zT} (h : zOk X own cc nL d) {x y off : Int} (hd : decode cc pc = .ok (.if_icmp .ne off, 3)) {tgt : Nat} (ht : (pc : Int) + off = (tgt : Int)) (e : x = y) (kf : Z X b (pc + 3) lo sk st) : Z X b pc lo (vi y :: vi x :: sk) st :=
  fun H locs cells slots ls hP hS hc hs hl => lv_icmp_ne h.1 h.2.1 hd ht (fun q => absurd (congrArg Int32.ofInt e) q) (fun _ => kf H locs cells slots ls hP hS hc hs hl)
/-- the accounts that the room answers -/
def zacc (c : Nat → Int) (x : Int) : Int := if x = 0 then c 0 else if x = 1 then c 8 else if x = 2 then c 9 else if x = 3 then c 10 else if x = 4 then c 11 else if x = 5 then c 12 else if x = 6 then zsum c 121 (c 11).toNat else if x = 7 then c 1 else if x = 8 then c 2 else if x = 9 then c 3 else if x = 10 then zsum c 25 (c 8).toNat else if x = 11 then zsum c 37 (c 8).toNat else if x = 12 then c 4 else if x = 13 then c 5 else if x = 14 then c 6 else if x = 15 then zsum c 149 32 else c 7
theorem zacc_0 {c : Nat → Int} : zacc c 0 = c 0 := by unfold zacc;  rw [if_pos rfl]
theorem zacc_1 {c : Nat → Int} : zacc c 1 = c 8 := by unfold zacc; rw [if_neg (by decide)]; rw [if_pos rfl]
theorem zacc_2 {c : Nat → Int} : zacc c 2 = c 9 := by unfold zacc; rw [if_neg (by decide)]; rw [if_neg (by decide)]; rw [if_pos rfl]
theorem zacc_3 {c : Nat → Int} : zacc c 3 = c 10 := by unfold zacc; rw [if_neg (by decide)]; rw [if_neg (by decide)]; rw [if_neg (by decide)]; rw [if_pos rfl]
theorem zacc_4 {c : Nat → Int} : zacc c 4 = c 11 := by unfold zacc; rw [if_neg (by decide)]; rw [if_neg (by decide)]; rw [if_neg (by decide)]; rw [if_neg (by decide)]; rw [if_pos rfl]
theorem zacc_5 {c : Nat → Int} : zacc c 5 = c 12 := by unfold zacc; rw [if_neg (by decide)]; rw [if_neg (by decide)]; rw [if_neg (by decide)]; rw [if_neg (by decide)]; rw [if_neg (by decide)]; rw [if_pos rfl]
theorem zacc_6 {c : Nat → Int} : zacc c 6 = zsum c 121 (c 11).toNat := by unfold zacc; rw [if_neg (by decide)]; rw [if_neg (by decide)]; rw [if_neg (by decide)]; rw [if_neg (by decide)]; rw [if_neg (by decide)]; rw [if_neg (by decide)]; rw [if_pos rfl]
theorem zacc_7 {c : Nat → Int} : zacc c 7 = c 1 := by unfold zacc; rw [if_neg (by decide)]; rw [if_neg (by decide)]; rw [if_neg (by decide)]; rw [if_neg (by decide)]; rw [if_neg (by decide)]; rw [if_neg (by decide)]; rw [if_neg (by decide)]; rw [if_pos rfl]
theorem zacc_8 {c : Nat → Int} : zacc c 8 = c 2 := by unfold zacc; rw [if_neg (by decide)]; rw [if_neg (by decide)]; rw [if_neg (by decide)]; rw [if_neg (by decide)]; rw [if_neg (by decide)]; rw [if_neg (by decide)]; rw [if_neg (by decide)]; rw [if_neg (by decide)]; rw [if_pos rfl]
theorem zacc_9 {c : Nat → Int} : zacc c 9 = c 3 := by unfold zacc; rw [if_neg (by decide)]; rw [if_neg (by decide)]; rw [if_neg (by decide)]; rw [if_neg (by decide)]; rw [if_neg (by decide)]; rw [if_neg (by decide)]; rw [if_neg (by decide)]; rw [if_neg (by decide)]; rw [if_neg (by decide)]; rw [if_pos rfl]
theorem zacc_10 {c : Nat → Int} : zacc c 10 = zsum c 25 (c 8).toNat := by unfold zacc; rw [if_neg (by decide)]; rw [if_neg (by decide)]; rw [if_neg (by decide)]; rw [if_neg (by decide)]; rw [if_neg (by decide)]; rw [if_neg (by decide)]; rw [if_neg (by decide)]; rw [if_neg (by decide)]; rw [if_neg (by decide)]; rw [if_neg (by decide)]; rw [if_pos rfl]
theorem zacc_11 {c : Nat → Int} : zacc c 11 = zsum c 37 (c 8).toNat := by unfold zacc; rw [if_neg (by decide)]; rw [if_neg (by decide)]; rw [if_neg (by decide)]; rw [if_neg (by decide)]; rw [if_neg (by decide)]; rw [if_neg (by decide)]; rw [if_neg (by decide)]; rw [if_neg (by decide)]; rw [if_neg (by decide)]; rw [if_neg (by decide)]; rw [if_neg (by decide)]; rw [if_pos rfl]
theorem zacc_12 {c : Nat → Int} : zacc c 12 = c 4 := by unfold zacc; rw [if_neg (by decide)]; rw [if_neg (by decide)]; rw [if_neg (by decide)]; rw [if_neg (by decide)]; rw [if_neg (by decide)]; rw [if_neg (by decide)]; rw [if_neg (by decide)]; rw [if_neg (by decide)]; rw [if_neg (by decide)]; rw [if_neg (by decide)]; rw [if_neg (by decide)]; rw [if_neg (by decide)]; rw [if_pos rfl]
theorem zacc_13 {c : Nat → Int} : zacc c 13 = c 5 := by unfold zacc; rw [if_neg (by decide)]; rw [if_neg (by decide)]; rw [if_neg (by decide)]; rw [if_neg (by decide)]; rw [if_neg (by decide)]; rw [if_neg (by decide)]; rw [if_neg (by decide)]; rw [if_neg (by decide)]; rw [if_neg (by decide)]; rw [if_neg (by decide)]; rw [if_neg (by decide)]; rw [if_neg (by decide)]; rw [if_neg (by decide)]; rw [if_pos rfl]
theorem zacc_14 {c : Nat → Int} : zacc c 14 = c 6 := by unfold zacc; rw [if_neg (by decide)]; rw [if_neg (by decide)]; rw [if_neg (by decide)]; rw [if_neg (by decide)]; rw [if_neg (by decide)]; rw [if_neg (by decide)]; rw [if_neg (by decide)]; rw [if_neg (by decide)]; rw [if_neg (by decide)]; rw [if_neg (by decide)]; rw [if_neg (by decide)]; rw [if_neg (by decide)]; rw [if_neg (by decide)]; rw [if_neg (by decide)]; rw [if_pos rfl]
theorem zacc_15 {c : Nat → Int} : zacc c 15 = zsum c 149 32 := by unfold zacc; rw [if_neg (by decide)]; rw [if_neg (by decide)]; rw [if_neg (by decide)]; rw [if_neg (by decide)]; rw [if_neg (by decide)]; rw [if_neg (by decide)]; rw [if_neg (by decide)]; rw [if_neg (by decide)]; rw [if_neg (by decide)]; rw [if_neg (by decide)]; rw [if_neg (by decide)]; rw [if_neg (by decide)]; rw [if_neg (by decide)]; rw [if_neg (by decide)]; rw [if_neg (by decide)]; rw [if_pos rfl]
theorem zacc_16 {c : Nat → Int} : zacc c 16 = c 7 := by unfold zacc; rw [if_neg (by decide)]; rw [if_neg (by decide)]; rw [if_neg (by decide)]; rw [if_neg (by decide)]; rw [if_neg (by decide)]; rw [if_neg (by decide)]; rw [if_neg (by decide)]; rw [if_neg (by decide)]; rw [if_neg (by decide)]; rw [if_neg (by decide)]; rw [if_neg (by decide)]; rw [if_neg (by decide)]; rw [if_neg (by decide)]; rw [if_neg (by decide)]; rw [if_neg (by decide)]; rw [if_neg (by decide)];
set_option maxHeartbeats 1000000 in
theorem c_X0_accountOf {E : zE} {x D : Int} {σ : Nat → Nat → Int} {c : Nat → Int} {l : (Nat → Int64) × (Nat → UInt64)} (hg : Inv D c) (hx : 0 ≤ x ∧ x ≤ 16) : Rv E yX0_accountOf (Cond.code yX0_accountOf cX0_accountOf 2 (Option.some FieldType.int)) 3 [vr 1, vi x] ((zs σ 21 c, l)) (vi (zacc c x)) ((zs σ 21 c, l)) := by
  refine Ctr_of (own := RX0) (by decide +kernel) rfl rfl (fun Y hX hR hnx => ?_)
  have g8 := hg.1.coats
  have g11 := hg.1.trunks
  refine z_b hX (fo_no RX0) [.iload_n 1] 1 (by decide +kernel) rfl ?_
  rcases (show x = 0 ∨ x = 1 ∨ x = 2 ∨ x = 3 ∨ x = 4 ∨ x = 5 ∨ x = 6 ∨ x = 7 ∨ x = 8 ∨ x = 9 ∨ x = 10 ∨ x = 11 ∨ x = 12 ∨ x = 13 ∨ x = 14 ∨ x = 15 ∨ x = 16 by omega) with hs | hs | hs | hs | hs | hs | hs | hs | hs | hs | hs | hs | hs | hs | hs | hs | hs
  · have e : zacc c x = c 0 := by rw [hs, zacc_0]
    refine z_tIn hX (dflt := 212) (l0 := 0) (h0 := 16) (offs := #[83, 89, 96, 103, 110, 117, 124, 137, 143, 149, 155, 168, 181, 187, 193, 200, 205]) (len := 83) (off := 83) 84 (by decide +kernel) ⟨by omega, by omega⟩ (by omega) (by omega) (by rw [hs]; rfl) (by decide) ?_
    refine z_b hX (fo_no RX0) [.aload_n 0, .iconst 0] 86 (by decide +kernel) rfl ?_
    refine z_cV hX m_X6_at l_X0_11 p_X6_at (c_at (j := 0) (by omega) (by omega)) rfl rfl rfl rfl rfl rfl (by decide +kernel) ?_
    exact z_iret hX hR (by decide +kernel) ⟨by rw [e], rfl⟩
  · have e : zacc c x = c 8 := by rw [hs, zacc_1]
    refine z_tIn hX (dflt := 212) (l0 := 0) (h0 := 16) (offs := #[83, 89, 96, 103, 110, 117, 124, 137, 143, 149, 155, 168, 181, 187, 193, 200, 205]) (len := 83) (off := 89) 90 (by decide +kernel) ⟨by omega, by omega⟩ (by omega) (by omega) (by rw [hs]; rfl) (by decide) ?_
    refine z_b hX (fo_no RX0) [.aload_n 0, .bipush 8] 93 (by decide +kernel) rfl ?_
    refine z_cV hX m_X6_at l_X0_11 p_X6_at (c_at (j := 8) (by omega) (by omega)) rfl rfl rfl rfl rfl rfl (by decide +kernel) ?_
    exact z_iret hX hR (by decide +kernel) ⟨by rw [e], rfl⟩
  · have e : zacc c x = c 9 := by rw [hs, zacc_2]
    refine z_tIn hX (dflt := 212) (l0 := 0) (h0 := 16) (offs := #[83, 89, 96, 103, 110, 117, 124, 137, 143, 149, 155, 168, 181, 187, 193, 200, 205]) (len := 83) (off := 96) 97 (by decide +kernel) ⟨by omega, by omega⟩ (by omega) (by omega) (by rw [hs]; rfl) (by decide) ?_
    refine z_b hX (fo_no RX0) [.aload_n 0, .bipush 9] 100 (by decide +kernel) rfl ?_
    refine z_cV hX m_X6_at l_X0_11 p_X6_at (c_at (j := 9) (by omega) (by omega)) rfl rfl rfl rfl rfl rfl (by decide +kernel) ?_
    exact z_iret hX hR (by decide +kernel) ⟨by rw [e], rfl⟩
  · have e : zacc c x = c 10 := by rw [hs, zacc_3]
    refine z_tIn hX (dflt := 212) (l0 := 0) (h0 := 16) (offs := #[83, 89, 96, 103, 110, 117, 124, 137, 143, 149, 155, 168, 181, 187, 193, 200, 205]) (len := 83) (off := 103) 104 (by decide +kernel) ⟨by omega, by omega⟩ (by omega) (by omega) (by rw [hs]; rfl) (by decide) ?_
    refine z_b hX (fo_no RX0) [.aload_n 0, .bipush 10] 107 (by decide +kernel) rfl ?_
    refine z_cV hX m_X6_at l_X0_11 p_X6_at (c_at (j := 10) (by omega) (by omega)) rfl rfl rfl rfl rfl rfl (by decide +kernel) ?_
    exact z_iret hX hR (by decide +kernel) ⟨by rw [e], rfl⟩
  · have e : zacc c x = c 11 := by rw [hs, zacc_4]
    refine z_tIn hX (dflt := 212) (l0 := 0) (h0 := 16) (offs := #[83, 89, 96, 103, 110, 117, 124, 137, 143, 149, 155, 168, 181, 187, 193, 200, 205]) (len := 83) (off := 110) 111 (by decide +kernel) ⟨by omega, by omega⟩ (by omega) (by omega) (by rw [hs]; rfl) (by decide) ?_
    refine z_b hX (fo_no RX0) [.aload_n 0, .bipush 11] 114 (by decide +kernel) rfl ?_
    refine z_cV hX m_X6_at l_X0_11 p_X6_at (c_at (j := 11) (by omega) (by omega)) rfl rfl rfl rfl rfl rfl (by decide +kernel) ?_
    exact z_iret hX hR (by decide +kernel) ⟨by rw [e], rfl⟩
  · have e : zacc c x = c 12 := by rw [hs, zacc_5]
    refine z_tIn hX (dflt := 212) (l0 := 0) (h0 := 16) (offs := #[83, 89, 96, 103, 110, 117, 124, 137, 143, 149, 155, 168, 181, 187, 193, 200, 205]) (len := 83) (off := 117) 118 (by decide +kernel) ⟨by omega, by omega⟩ (by omega) (by omega) (by rw [hs]; rfl) (by decide) ?_
    refine z_b hX (fo_no RX0) [.aload_n 0, .bipush 12] 121 (by decide +kernel) rfl ?_
    refine z_cV hX m_X6_at l_X0_11 p_X6_at (c_at (j := 12) (by omega) (by omega)) rfl rfl rfl rfl rfl rfl (by decide +kernel) ?_
    exact z_iret hX hR (by decide +kernel) ⟨by rw [e], rfl⟩
  · have e : zacc c x = zsum c 121 (c 11).toNat := by rw [hs, zacc_6]
    refine z_tIn hX (dflt := 212) (l0 := 0) (h0 := 16) (offs := #[83, 89, 96, 103, 110, 117, 124, 137, 143, 149, 155, 168, 181, 187, 193, 200, 205]) (len := 83) (off := 124) 125 (by decide +kernel) ⟨by omega, by omega⟩ (by omega) (by omega) (by rw [hs]; rfl) (by decide) ?_
    refine z_b hX (fo_no RX0) [.aload_n 0, .bipush 121, .aload_n 0, .bipush 11] 131 (by decide +kernel) rfl ?_
    refine z_cV hX m_X6_at l_X0_11 p_X6_at (c_at (j := 11) (by omega) (by omega)) rfl rfl rfl rfl rfl rfl (by decide +kernel) ?_
    obtain ⟨n, hn⟩ : ∃ n : Nat, c 11 = (n : Int) := ⟨(c 11).toNat, by omega⟩
    rw [hn]
    refine z_cV hX m_X6_sum l_X0_15 p_X6_sum (c_X6_sum (a := 121) (n := n) (by omega)) rfl rfl rfl rfl rfl rfl (by decide +kernel) ?_
    rw [show zsum c 121 n = zacc c x by rw [e]; congr 1; omega]
    exact z_iret hX hR (by decide +kernel) ⟨rfl, rfl⟩
  · have e : zacc c x = c 1 := by rw [hs, zacc_7]
    refine z_tIn hX (dflt := 212) (l0 := 0) (h0 := 16) (offs := #[83, 89, 96, 103, 110, 117, 124, 137, 143, 149, 155, 168, 181, 187, 193, 200, 205]) (len := 83) (off := 137) 138 (by decide +kernel) ⟨by omega, by omega⟩ (by omega) (by omega) (by rw [hs]; rfl) (by decide) ?_
    refine z_b hX (fo_no RX0) [.aload_n 0, .iconst 1] 140 (by decide +kernel) rfl ?_
    refine z_cV hX m_X6_at l_X0_11 p_X6_at (c_at (j := 1) (by omega) (by omega)) rfl rfl rfl rfl rfl rfl (by decide +kernel) ?_
    exact z_iret hX hR (by decide +kernel) ⟨by rw [e], rfl⟩
  · have e : zacc c x = c 2 := by rw [hs, zacc_8]
    refine z_tIn hX (dflt := 212) (l0 := 0) (h0 := 16) (offs := #[83, 89, 96, 103, 110, 117, 124, 137, 143, 149, 155, 168, 181, 187, 193, 200, 205]) (len := 83) (off := 143) 144 (by decide +kernel) ⟨by omega, by omega⟩ (by omega) (by omega) (by rw [hs]; rfl) (by decide) ?_
    refine z_b hX (fo_no RX0) [.aload_n 0, .iconst 2] 146 (by decide +kernel) rfl ?_
    refine z_cV hX m_X6_at l_X0_11 p_X6_at (c_at (j := 2) (by omega) (by omega)) rfl rfl rfl rfl rfl rfl (by decide +kernel) ?_
    exact z_iret hX hR (by decide +kernel) ⟨by rw [e], rfl⟩
  · have e : zacc c x = c 3 := by rw [hs, zacc_9]
    refine z_tIn hX (dflt := 212) (l0 := 0) (h0 := 16) (offs := #[83, 89, 96, 103, 110, 117, 124, 137, 143, 149, 155, 168, 181, 187, 193, 200, 205]) (len := 83) (off := 149) 150 (by decide +kernel) ⟨by omega, by omega⟩ (by omega) (by omega) (by rw [hs]; rfl) (by decide) ?_
    refine z_b hX (fo_no RX0) [.aload_n 0, .iconst 3] 152 (by decide +kernel) rfl ?_
    refine z_cV hX m_X6_at l_X0_11 p_X6_at (c_at (j := 3) (by omega) (by omega)) rfl rfl rfl rfl rfl rfl (by decide +kernel) ?_
    exact z_iret hX hR (by decide +kernel) ⟨by rw [e], rfl⟩
  · have e : zacc c x = zsum c 25 (c 8).toNat := by rw [hs, zacc_10]
    refine z_tIn hX (dflt := 212) (l0 := 0) (h0 := 16) (offs := #[83, 89, 96, 103, 110, 117, 124, 137, 143, 149, 155, 168, 181, 187, 193, 200, 205]) (len := 83) (off := 155) 156 (by decide +kernel) ⟨by omega, by omega⟩ (by omega) (by omega) (by rw [hs]; rfl) (by decide) ?_
    refine z_b hX (fo_no RX0) [.aload_n 0, .bipush 25, .aload_n 0, .bipush 8] 162 (by decide +kernel) rfl ?_
    refine z_cV hX m_X6_at l_X0_11 p_X6_at (c_at (j := 8) (by omega) (by omega)) rfl rfl rfl rfl rfl rfl (by decide +kernel) ?_
    obtain ⟨n, hn⟩ : ∃ n : Nat, c 8 = (n : Int) := ⟨(c 8).toNat, by omega⟩
    rw [hn]
    refine z_cV hX m_X6_sum l_X0_15 p_X6_sum (c_X6_sum (a := 25) (n := n) (by omega)) rfl rfl rfl rfl rfl rfl (by decide +kernel) ?_
    rw [show zsum c 25 n = zacc c x by rw [e]; congr 1; omega]
    exact z_iret hX hR (by decide +kernel) ⟨rfl, rfl⟩
  · have e : zacc c x = zsum c 37 (c 8).toNat := by rw [hs, zacc_11]
    refine z_tIn hX (dflt := 212) (l0 := 0) (h0 := 16) (offs := #[83, 89, 96, 103, 110, 117, 124, 137, 143, 149, 155, 168, 181, 187, 193, 200, 205]) (len := 83) (off := 168) 169 (by decide +kernel) ⟨by omega, by omega⟩ (by omega) (by omega) (by rw [hs]; rfl) (by decide) ?_
    refine z_b hX (fo_no RX0) [.aload_n 0, .bipush 37, .aload_n 0, .bipush 8] 175 (by decide +kernel) rfl ?_
    refine z_cV hX m_X6_at l_X0_11 p_X6_at (c_at (j := 8) (by omega) (by omega)) rfl rfl rfl rfl rfl rfl (by decide +kernel) ?_
    obtain ⟨n, hn⟩ : ∃ n : Nat, c 8 = (n : Int) := ⟨(c 8).toNat, by omega⟩
    rw [hn]
    refine z_cV hX m_X6_sum l_X0_15 p_X6_sum (c_X6_sum (a := 37) (n := n) (by omega)) rfl rfl rfl rfl rfl rfl (by decide +kernel) ?_
    rw [show zsum c 37 n = zacc c x by rw [e]; congr 1; omega]
    exact z_iret hX hR (by decide +kernel) ⟨rfl, rfl⟩
  · have e : zacc c x = c 4 := by rw [hs, zacc_12]
    refine z_tIn hX (dflt := 212) (l0 := 0) (h0 := 16) (offs := #[83, 89, 96, 103, 110, 117, 124, 137, 143, 149, 155, 168, 181, 187, 193, 200, 205]) (len := 83) (off := 181) 182 (by decide +kernel) ⟨by omega, by omega⟩ (by omega) (by omega) (by rw [hs]; rfl) (by decide) ?_
    refine z_b hX (fo_no RX0) [.aload_n 0, .iconst 4] 184 (by decide +kernel) rfl ?_
    refine z_cV hX m_X6_at l_X0_11 p_X6_at (c_at (j := 4) (by omega) (by omega)) rfl rfl rfl rfl rfl rfl (by decide +kernel) ?_
    exact z_iret hX hR (by decide +kernel) ⟨by rw [e], rfl⟩
  · have e : zacc c x = c 5 := by rw [hs, zacc_13]
    refine z_tIn hX (dflt := 212) (l0 := 0) (h0 := 16) (offs := #[83, 89, 96, 103, 110, 117, 124, 137, 143, 149, 155, 168, 181, 187, 193, 200, 205]) (len := 83) (off := 187) 188 (by decide +kernel) ⟨by omega, by omega⟩ (by omega) (by omega) (by rw [hs]; rfl) (by decide) ?_
    refine z_b hX (fo_no RX0) [.aload_n 0, .iconst 5] 190 (by decide +kernel) rfl ?_
    refine z_cV hX m_X6_at l_X0_11 p_X6_at (c_at (j := 5) (by omega) (by omega)) rfl rfl rfl rfl rfl rfl (by decide +kernel) ?_
    exact z_iret hX hR (by decide +kernel) ⟨by rw [e], rfl⟩
  · have e : zacc c x = c 6 := by rw [hs, zacc_14]
    refine z_tIn hX (dflt := 212) (l0 := 0) (h0 := 16) (offs := #[83, 89, 96, 103, 110, 117, 124, 137, 143, 149, 155, 168, 181, 187, 193, 200, 205]) (len := 83) (off := 193) 194 (by decide +kernel) ⟨by omega, by omega⟩ (by omega) (by omega) (by rw [hs]; rfl) (by decide) ?_
    refine z_b hX (fo_no RX0) [.aload_n 0, .bipush 6] 197 (by decide +kernel) rfl ?_
    refine z_cV hX m_X6_at l_X0_11 p_X6_at (c_at (j := 6) (by omega) (by omega)) rfl rfl rfl rfl rfl rfl (by decide +kernel) ?_
    exact z_iret hX hR (by decide +kernel) ⟨by rw [e], rfl⟩
  · have e : zacc c x = zsum c 149 32 := by rw [hs, zacc_15]
    refine z_tIn hX (dflt := 212) (l0 := 0) (h0 := 16) (offs := #[83, 89, 96, 103, 110, 117, 124, 137, 143, 149, 155, 168, 181, 187, 193, 200, 205]) (len := 83) (off := 200) 201 (by decide +kernel) ⟨by omega, by omega⟩ (by omega) (by omega) (by rw [hs]; rfl) (by decide) ?_
    refine z_b hX (fo_no RX0) [.aload_n 0] 202 (by decide +kernel) rfl ?_
    refine z_cV hX m_X6_tornPanels l_X0_19 p_X6_tornPanels c_X6_tornPanels rfl rfl rfl rfl rfl rfl (by decide +kernel) ?_
    exact z_iret hX hR (by decide +kernel) ⟨by rw [e], rfl⟩
  · have e : zacc c x = c 7 := by rw [hs, zacc_16]
    refine z_tIn hX (dflt := 212) (l0 := 0) (h0 := 16) (offs := #[83, 89, 96, 103, 110, 117, 124, 137, 143, 149, 155, 168, 181, 187, 193, 200, 205]) (len := 83) (off := 205) 206 (by decide +kernel) ⟨by omega, by omega⟩ (by omega) (by omega) (by rw [hs]; rfl) (by decide) ?_
    refine z_b hX (fo_no RX0) [.aload_n 0, .bipush 7] 209 (by decide +kernel) rfl ?_
    refine z_cV hX m_X6_at l_X0_11 p_X6_at (c_at (j := 7) (by omega) (by omega)) rfl rfl rfl rfl rfl rfl (by decide +kernel) ?_
    exact z_iret hX hR (by decide +kernel) ⟨by rw [e], rfl⟩
set_option maxHeartbeats 1000000 in
theorem c_X0_spanglesAddUp {E : zE} {D : Int} {σ : Nat → Nat → Int} {c : Nat → Int} {l : (Nat → Int64) × (Nat → UInt64)} (hg : Inv D c) : Rv E yX0_spanglesAddUp (Cond.code yX0_spanglesAddUp cX0_spanglesAddUp 3 (Option.some FieldType.boolean)) 2 [vr 1] ((zs σ 21 c, l)) (vi 1) ((zs σ 21 c, l)) := by
  refine Ctr_of (own := RX0) (by decide +kernel) rfl rfl (fun Y hX hR hnx => ?_)
  have g8 := hg.1.coats
  have hs : c 6 = c 1 + c 4 ∧ c 5 = zsum c 37 (c 8).toNat + c 4 := hg.2.2.2.2.1
  refine z_b hX (fo_no RX0) [.aload_n 0, .iconst 4] 2 (by decide +kernel) rfl ?_
  refine z_cV hX m_X6_at l_X0_11 p_X6_at (c_at (j := 4) (by omega) (by omega)) rfl rfl rfl rfl rfl rfl (by decide +kernel) ?_
  refine z_b hX (fo_no RX0) [.istore_n 1, .aload_n 0, .bipush 37, .aload_n 0, .bipush 8] 12 (by decide +kernel) rfl ?_
  refine z_cV hX m_X6_at l_X0_11 p_X6_at (c_at (j := 8) (by omega) (by omega)) rfl rfl rfl rfl rfl rfl (by decide +kernel) ?_
  obtain ⟨n, hn⟩ : ∃ n : Nat, c 8 = (n : Int) := ⟨(c 8).toNat, by omega⟩
  rw [hn]
  refine z_cV hX m_X6_sum l_X0_15 p_X6_sum (c_X6_sum (a := 37) (n := n) (by omega)) rfl rfl rfl rfl rfl rfl (by decide +kernel) ?_
  refine z_b hX (fo_no RX0) [.istore_n 2, .aload_n 0, .bipush 6] 22 (by decide +kernel) rfl ?_
  refine z_cV hX m_X6_at l_X0_11 p_X6_at (c_at (j := 6) (by omega) (by omega)) rfl rfl rfl rfl rfl rfl (by decide +kernel) ?_
  refine z_b hX (fo_no RX0) [.aload_n 0, .iconst 1] 27 (by decide +kernel) rfl ?_
  refine z_cV hX m_X6_at l_X0_11 p_X6_at (c_at (j := 1) (by omega) (by omega)) rfl rfl rfl rfl rfl rfl (by decide +kernel) ?_
  refine z_b hX (fo_no RX0) [.iload_n 1, .iadd] 32 (by decide +kernel) rfl ?_
  refine z_ic_neE hX (off := 18) (tgt := 50) (by decide +kernel) (by decide) (by omega) ?_
  refine z_b hX (fo_no RX0) [.aload_n 0, .iconst 5] 37 (by decide +kernel) rfl ?_
  refine z_cV hX m_X6_at l_X0_11 p_X6_at (c_at (j := 5) (by omega) (by omega)) rfl rfl rfl rfl rfl rfl (by decide +kernel) ?_
  refine z_b hX (fo_no RX0) [.iload_n 2, .iload_n 1, .iadd] 43 (by decide +kernel) rfl ?_
  refine z_ic_neE hX (off := 7) (tgt := 50) (by decide +kernel) (by decide) (by rw [hs.2, show (c 8).toNat = n by omega]) ?_
  refine z_b hX (fo_no RX0) [.iconst 1] 47 (by decide +kernel) rfl ?_
  refine z_goto hX (off := 4) 51 (by decide +kernel) (by decide) ?_
  exact z_zret hX hR (by decide +kernel) (by decide +kernel) ⟨rfl, rfl⟩
set_option maxHeartbeats 1000000 in
theorem c_X0_trunksAgree {E : zE} {D : Int} {σ : Nat → Nat → Int} {c : Nat → Int} {l : (Nat → Int64) × (Nat → UInt64)} (hg : Inv D c) : Rv E yX0_trunksAgree (Cond.code yX0_trunksAgree cX0_trunksAgree 3 (Option.some FieldType.boolean)) 4 [vr 1] ((zs σ 21 c, l)) (vi 1) ((zs σ 21 c, l)) := by
  refine Ctr_of (own := RX0) (by decide +kernel) rfl rfl (fun Y hX hR hnx => ?_)
  have g8 := hg.1.coats
  have g11 := hg.1.trunks
  refine z_b hX (fo_no RX0) [.iconst 0, .istore_n 1] 2 (by decide +kernel) rfl ?_
  have loop : ∀ (m : Nat) (i : Nat) (x : Int), x = (i : Int) → i + m = 12 → Z (E, Y) 0 2 [(1, vi x), (0, vr 1)] [] (zs σ 21 c, l) := by
    intro m
    induction m with
    | zero =>
      intro i x hx hm
      subst hx
      refine z_b hX (fo_no RX0) [.iload_n 1, .bipush 12] 5 (by decide +kernel) rfl ?_
      refine z_ic_ge hX (off := 50) 55 (by decide +kernel) (by decide) ⟨by omega, by omega⟩ ⟨by omega, by omega⟩ (fun c5 => ?_) (fun c5 => by exfalso; omega)
      refine z_b hX (fo_no RX0) [.iconst 1] 56 (by decide +kernel) rfl ?_
      exact z_zret hX hR (by decide +kernel) (by decide +kernel) ⟨rfl, rfl⟩
    | succ m ih =>
      intro i x hx hm
      subst hx
      refine z_b hX (fo_no RX0) [.iload_n 1, .bipush 12] 5 (by decide +kernel) rfl ?_
      refine z_ic_ge hX (off := 50) 55 (by decide +kernel) (by decide) ⟨by omega, by omega⟩ ⟨by omega, by omega⟩ (fun c5 => by exfalso; omega) (fun c5 => ?_)
      refine z_b hX (fo_no RX0) [.aload_n 0, .iload_n 1] 10 (by decide +kernel) rfl ?_
      refine z_cV hX m_X6_hasCoat l_X0_23 p_X6_hasCoat (c_X6_hasCoat ⟨by omega, by omega⟩ ⟨by omega, by omega⟩) rfl rfl rfl rfl rfl rfl (by decide +kernel) ?_
      refine z_if_eq hX (off := 19) 32 (by decide +kernel) (by decide) z01 (fun c13 => ?_) (fun c13 => ?_)
      · refine z_b hX (fo_no RX0) [.iconst 0, .istore_n 2, .iload_n 2] 35 (by decide +kernel) rfl ?_
        refine z_if_eq hX (off := 14) 49 (by decide +kernel) (by decide) ⟨by decide, by decide⟩ (fun c35 => ?_) (fun c35 => by exact absurd c35 (by decide))
        refine z_b hX (fo_no RX0) [.iinc 1 1] 52 (by decide +kernel) rfl ?_
        refine z_goto hX (off := (-50)) 2 (by decide +kernel) (by decide) ?_
        exact z_lo [0, 2] (ih (i + 1) _ (by omega) (by omega)) rfl
      · refine z_b hX (fo_no RX0) [.aload_n 0, .bipush 61, .iload_n 1, .iadd] 21 (by decide +kernel) rfl ?_
        refine z_cV hX m_X6_at l_X0_11 p_X6_at (c_at (j := 61 + i) (by omega) (by omega)) rfl rfl rfl rfl rfl rfl (by decide +kernel) ?_
        refine z_b hX (fo_no RX0) [.iconst (-1)] 25 (by decide +kernel) rfl ?_
        refine z_ic_eq hX (off := 7) 32 (by decide +kernel) (by decide) (by have := hg.1.tr (k := i) (by omega); exact ⟨by omega, by omega⟩) ⟨by omega, by omega⟩ (fun c25 => ?_) (fun c25 => ?_)
        · refine z_b hX (fo_no RX0) [.iconst 0, .istore_n 2, .iload_n 2] 35 (by decide +kernel) rfl ?_
          refine z_if_eq hX (off := 14) 49 (by decide +kernel) (by decide) ⟨by decide, by decide⟩ (fun c35 => ?_) (fun c35 => by exact absurd c35 (by decide))
          refine z_b hX (fo_no RX0) [.iinc 1 1] 52 (by decide +kernel) rfl ?_
          refine z_goto hX (off := (-50)) 2 (by decide +kernel) (by decide) ?_
          exact z_lo [0, 2] (ih (i + 1) _ (by omega) (by omega)) rfl
        · refine z_b hX (fo_no RX0) [.iconst 1] 29 (by decide +kernel) rfl ?_
          refine z_goto hX (off := 4) 33 (by decide +kernel) (by decide) ?_
          refine z_b hX (fo_no RX0) [.istore_n 2, .iload_n 2] 35 (by decide +kernel) rfl ?_
          refine z_if_eq hX (off := 14) 49 (by decide +kernel) (by decide) ⟨by decide, by decide⟩ (fun c35 => by exact absurd c35 (by decide)) (fun c35 => ?_)
          obtain ⟨t, p, ht, hp, q3, q4, q5, q6⟩ := hg.2.2.1.1 i (by omega) (zif1 c13).2 c25
          have hne : zfnd (fun p => zcoat c t (p : Int)) (i : Int) 0 5 ≠ -1 := fun z => by
            refine zfnd_n _ _ z p (by omega) (by omega) ?_
            show zcoat c t (p : Int) = (i : Int)
            unfold zcoat
            rw [if_pos ⟨by omega, q5⟩, show ((p : Int)).toNat = p by omega]
            exact q6
          refine z_b hX (fo_no RX0) [.aload_n 0, .iload_n 1] 40 (by decide +kernel) rfl ?_
          refine z_cS hX m_X4_placeInTrunk l_X0_27 p_X4_placeInTrunk (c_X4_placeInTrunk (k := i) (t := t) (by omega) q3 q4 (by omega) (hg.1.intr ht) (fun p hp => by have := hg.1.place (k := t * 5 + p) (by omega); rw [show 129 + t * 5 + p = 129 + (t * 5 + p) by omega]; exact ⟨by omega, by omega⟩)) rfl rfl rfl rfl (by decide +kernel) ?_
          refine z_b hX (fo_no RX0) [.iconst (-1)] 44 (by decide +kernel) rfl ?_
          refine z_ic_ne hX (off := 5) 49 (by decide +kernel) (by decide) (by have := zfnd_zi (fun p => zcoat c t (p : Int)) (i : Int) 5 0 (by omega); exact ⟨by omega, by omega⟩) ⟨by omega, by omega⟩ (fun c44 => ?_) (fun c44 => by exact absurd c44 hne)
          refine z_b hX (fo_no RX0) [.iinc 1 1] 52 (by decide +kernel) rfl ?_
          refine z_goto hX (off := (-50)) 2 (by decide +kernel) (by decide) ?_
          exact z_lo [0, 2] (ih (i + 1) _ (by omega) (by omega)) rfl
  exact loop 12 0 0 rfl (by omega)
set_option maxHeartbeats 1000000 in
theorem c_X0_actsAgree {E : zE} {D : Int} {σ : Nat → Nat → Int} {c : Nat → Int} {l : (Nat → Int64) × (Nat → UInt64)} (hg : Inv D c) : Rv E yX0_actsAgree (Cond.code yX0_actsAgree cX0_actsAgree 3 (Option.some FieldType.boolean)) 2 [vr 1] ((zs σ 21 c, l)) (vi 1) ((zs σ 21 c, l)) := by
  refine Ctr_of (own := RX0) (by decide +kernel) rfl rfl (fun Y hX hR hnx => ?_)
  have g8 := hg.1.coats
  have g9 := hg.1.acts
  refine z_b hX (fo_no RX0) [.iconst 0, .istore_n 1] 2 (by decide +kernel) rfl ?_
  have loop : ∀ (m : Nat) (i : Nat) (x : Int), x = (i : Int) → i + m = 12 → Z (E, Y) 0 2 [(1, vi x), (0, vr 1)] [] (zs σ 21 c, l) := by
    intro m
    induction m with
    | zero =>
      intro i x hx hm
      subst hx
      refine z_b hX (fo_no RX0) [.iload_n 1, .bipush 12] 5 (by decide +kernel) rfl ?_
      refine z_ic_ge hX (off := 49) 54 (by decide +kernel) (by decide) ⟨by omega, by omega⟩ ⟨by omega, by omega⟩ (fun c5 => ?_) (fun c5 => by exfalso; omega)
      refine z_b hX (fo_no RX0) [.iconst 1] 55 (by decide +kernel) rfl ?_
      exact z_zret hX hR (by decide +kernel) (by decide +kernel) ⟨rfl, rfl⟩
    | succ m ih =>
      intro i x hx hm
      subst hx
      refine z_b hX (fo_no RX0) [.iload_n 1, .bipush 12] 5 (by decide +kernel) rfl ?_
      refine z_ic_ge hX (off := 49) 54 (by decide +kernel) (by decide) ⟨by omega, by omega⟩ ⟨by omega, by omega⟩ (fun c5 => by exfalso; omega) (fun c5 => ?_)
      refine z_b hX (fo_no RX0) [.aload_n 0, .iload_n 1] 10 (by decide +kernel) rfl ?_
      refine z_cV hX m_X6_hasCoat l_X0_23 p_X6_hasCoat (c_X6_hasCoat ⟨by omega, by omega⟩ ⟨by omega, by omega⟩) rfl rfl rfl rfl rfl rfl (by decide +kernel) ?_
      refine z_if_eq hX (off := 14) 27 (by decide +kernel) (by decide) z01 (fun c13 => ?_) (fun c13 => ?_)
      · refine z_b hX (fo_no RX0) [.iconst (-1), .istore_n 2, .iload_n 2, .iconst (-1)] 31 (by decide +kernel) rfl ?_
        refine z_ic_eq hX (off := 17) 48 (by decide +kernel) (by decide) ⟨by decide, by decide⟩ ⟨by decide, by decide⟩ (fun c31 => ?_) (fun c31 => by exact absurd c31 (by decide))
        refine z_b hX (fo_no RX0) [.iinc 1 1] 51 (by decide +kernel) rfl ?_
        refine z_goto hX (off := (-49)) 2 (by decide +kernel) (by decide) ?_
        exact z_lo [0, 2] (ih (i + 1) _ (by omega) (by omega)) rfl
      · refine z_b hX (fo_no RX0) [.aload_n 0, .bipush 49, .iload_n 1, .iadd] 21 (by decide +kernel) rfl ?_
        refine z_cV hX m_X6_at l_X0_11 p_X6_at (c_at (j := 49 + i) (by omega) (by omega)) rfl rfl rfl rfl rfl rfl (by decide +kernel) ?_
        refine z_goto hX (off := 4) 28 (by decide +kernel) (by decide) ?_
        refine z_b hX (fo_no RX0) [.istore_n 2, .iload_n 2, .iconst (-1)] 31 (by decide +kernel) rfl ?_
        refine z_ic_eq hX (off := 17) 48 (by decide +kernel) (by decide) (by have := hg.1.own (k := i) (by omega); exact ⟨by omega, by omega⟩) ⟨by omega, by omega⟩ (fun c31 => ?_) (fun c31 => ?_)
        · refine z_b hX (fo_no RX0) [.iinc 1 1] 51 (by decide +kernel) rfl ?_
          refine z_goto hX (off := (-49)) 2 (by decide +kernel) (by decide) ?_
          exact z_lo [0, 2] (ih (i + 1) _ (by omega) (by omega)) rfl
        · obtain ⟨a, ha, q3, q4, q5⟩ := hg.2.1.1 i (by omega) (zif1 c13).2 c31
          rw [q3]
          refine z_b hX (fo_no RX0) [.aload_n 0, .bipush 97, .iload_n 2, .iadd] 39 (by decide +kernel) rfl ?_
          refine z_cV hX m_X6_at l_X0_11 p_X6_at (c_at (j := 97 + a) (by omega) (by omega)) rfl rfl rfl rfl rfl rfl (by decide +kernel) ?_
          rw [q5]
          refine z_b hX (fo_no RX0) [.iload_n 1] 43 (by decide +kernel) rfl ?_
          refine z_ic_eq hX (off := 5) 48 (by decide +kernel) (by decide) ⟨by omega, by omega⟩ ⟨by omega, by omega⟩ (fun c43 => ?_) (fun c43 => by exact absurd rfl c43)
          refine z_b hX (fo_no RX0) [.iinc 1 1] 51 (by decide +kernel) rfl ?_
          refine z_goto hX (off := (-49)) 2 (by decide +kernel) (by decide) ?_
          exact z_lo [0, 2] (ih (i + 1) _ (by omega) (by omega)) rfl
  exact loop 12 0 0 rfl (by omega)
