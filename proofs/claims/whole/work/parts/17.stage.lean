/-! ===== Stage ===== -/
def sLoseV (c : Nat → Int) (k : Nat) (n : Int) : Int := (ad c 5 (zmn n (60 - c (37 + k)))) (37 + k) + zmn n (60 - c (37 + k))
def sShow1 (c : Nat → Int) (a k : Nat) : Nat → Int := if c (13 + k) = c (85 + a) then sRip c k 1 else c
def sShow2 (c : Nat → Int) (a k : Nat) : Nat → Int := ad (ad (ad (sShow1 c a k) 7 1) (103 + a) 1) (73 + k) 1
def sShow (c : Nat → Int) (a k : Nat) : Nat → Int := sLose (sShow2 c a k) k 4
theorem Rg.rip {B n : Int} {c : Nat → Int} {k : Nat} (h : Rg B c) (hk : k < 12) (hn : 0 ≤ n) : Rg B (sRip c k n) := by
  have h1 := h.rips hk
  refine h.upa (zbd_rips hk) ?_
  simp only [zmn]
  split <;> omega
theorem Rg.show1 {B : Int} {c : Nat → Int} {a k : Nat} (h : Rg B c) (hk : k < 12) : Rg B (sShow1 c a k) := by
  unfold sShow1
  split
  · exact h.rip hk (by omega)
  · exact h
theorem Rg.show2 {B : Int} {c : Nat → Int} {a k : Nat} (h : Rg B c) (hk : k < 12) (ha : a < 6) : Rg B (sShow2 c a k) :=
  (((h.show1 hk).upan (zbd_n4 (k := 3) (by omega))).upan (zbd_n103 ha)).upan (zbd_n73 hk)
def zdtt (c : Nat → Int) (a : Nat) : Int := if c (97 + a) = -1 then -1 else if c (13 + (c (97 + a)).toNat) - c (85 + a) < 0 then 0 else if c (91 + a) ≤ 0 then -1 else ((c (13 + (c (97 + a)).toNat) - c (85 + a)) / c (91 + a) + 1) * 7 - c 0 % 7
def zrest1 (c : Nat → Int) (i : Nat) : Nat → Int := if (i : Int) < c 10 then va_up (va_up c (109 + i) 8) (113 + i) (zmx 0 ((va_up c (109 + i) 8) (113 + i) - 2)) else c
def zrest : Nat → Nat → (Nat → Int) → (Nat → Int)
  | _, 0, c => c
  | i, m + 1, c => zrest (i + 1) m (zrest1 c i)
theorem vne {c : Nat → Int} {i j : Nat} {v : Int} (h : j ≠ i) : va_up c i v j = c j := if_neg h
theorem Rg.rest1 {B : Int} {c : Nat → Int} {i : Nat} (h : Rg B c) (hi : i < 4) : Rg B (zrest1 c i) := by
  unfold zrest1
  split
  · have h1 := h.sore hi
    refine (h.upb (zbd_hours hi) ⟨by omega, by omega⟩).upb (zbd_sore hi) ?_
    rw [vne (by omega)]
    simp only [zmx]
    split <;> omega
  · exact h
theorem Rg.rest {B : Int} : ∀ (m i : Nat) {c : Nat → Int}, i + m ≤ 4 → Rg B c → Rg B (zrest i m c)
  | 0, _, _, _, h => h
  | m + 1, i, _, hi, h => Rg.rest m (i + 1) (by omega) (h.rest1 (by omega))
def zgrow1 (c : Nat → Int) (i : Nat) : Nat → Int := if (i : Int) < c 9 then ad c (85 + i) (zmn (c (91 + i)) (99 - c (85 + i))) else c
def zgrowV (c : Nat → Int) (i : Nat) : Int := if (i : Int) < c 9 then zmn (c (91 + i)) (99 - c (85 + i)) else 0
def zgrowC : Nat → Nat → (Nat → Int) → (Nat → Int)
  | _, 0, c => c
  | i, m + 1, c => zgrowC (i + 1) m (zgrow1 c i)
def zgrowN : Nat → Nat → (Nat → Int) → Int → Int
  | _, 0, _, g => g
  | i, m + 1, c, g => zgrowN (i + 1) m (zgrow1 c i) (g + zgrowV c i)
theorem Rg.grow1 {B : Int} {c : Nat → Int} {i : Nat} (h : Rg B c) (hi : i < 6) : Rg B (zgrow1 c i) := by
  unfold zgrow1
  split
  · have h1 := h.asize hi
    have h2 := h.grow hi
    refine h.upa (zbd_asize hi) ?_
    simp only [zmn]
    split <;> omega
  · exact h
theorem Rg.growC {B : Int} : ∀ (m i : Nat) {c : Nat → Int}, i + m ≤ 6 → Rg B c → Rg B (zgrowC i m c)
  | 0, _, _, _, h => h
  | m + 1, i, _, hi, h => Rg.growC m (i + 1) (by omega) (h.grow1 (by omega))
def zday1 (c : Nat → Int) : Nat → Int := ad (zrest 0 4 c) 0 1
def zdayC (c : Nat → Int) : Nat → Int := if ((zrest 0 4 c) 0 + 1) % 7 = 0 then zgrowC 0 6 (zday1 c) else zday1 c
def zdayV (c : Nat → Int) : Int := if ((zrest 0 4 c) 0 + 1) % 7 = 0 then zgrowN 0 6 (zday1 c) 0 else 0
def zpassC : Nat → (Nat → Int) → (Nat → Int)
  | 0, c => c
  | n + 1, c => zpassC n (zdayC c)
def zpassN : Nat → (Nat → Int) → Int → Int
  | 0, _, g => g
  | n + 1, c, g => zpassN n (zdayC c) (g + zdayV c)
theorem Rg.day1 {B : Int} {c : Nat → Int} (h : Rg B c) : Rg (B + 1) (zday1 c) := by
  have h1 := (Rg.rest 4 0 (by omega) h)
  have h2 := h1.day
  exact (h1.mono (by omega)).upa zbd_day (by omega)
theorem Rg.dayC {B : Int} {c : Nat → Int} (h : Rg B c) : Rg (B + 1) (zdayC c) := by
  unfold zdayC
  split
  · exact Rg.growC 6 0 (by omega) h.day1
  · exact h.day1
theorem Rg.passC {B : Int} : ∀ (n : Nat) {c : Nat → Int}, Rg B c → Rg (B + n) (zpassC n c)
  | 0, c, h => by simpa [zpassC] using h
  | n + 1, c, h => by
    have := Rg.passC n h.dayC
    rw [show B + ((n + 1 : Nat) : Int) = B + 1 + (n : Int) by omega]
    exact this
set_option maxHeartbeats 1000000 in
theorem c_X8_show {E : zE} {a k : Nat} {B : Int} {σ : Nat → Nat → Int} {c : Nat → Int} {l : (Nat → Int64) × (Nat → UInt64)} (hg : Rg B c) (ha : a < 6) (hk : k < 12) (hak : c (97 + a) = (k : Int)) : Rv E yX8_show (Cond.code yX8_show cX8_show 4 (Option.some FieldType.int)) 3 [vr 1, vi (a : Int)] ((zs σ 21 c, l)) (vi (sLoseV (sShow2 c a k) k 4)) ((zs σ 21 (sShow c a k), l)) := by
  refine Ctr_of (own := RX8) (by decide +kernel) rfl rfl (fun Y hX hR hnx => ?_)
  have h1 := hg.size hk
  have h2 := hg.asize ha
  refine z_b hX (fo_no RX8) [.aload_n 0, .bipush 97, .iload_n 1, .iadd] 5 (by decide +kernel) rfl ?_
  refine z_cV hX m_X6_at l_X8_11 p_X6_at (c_at (j := (97 + a)) (by omega) (by omega)) rfl rfl rfl rfl rfl rfl (by decide +kernel) ?_
  rw [hak]
  refine z_b hX (fo_no RX8) [.istore_n 2, .aload_n 0, .bipush 13, .iload_n 2, .iadd] 14 (by decide +kernel) rfl ?_
  refine z_cV hX m_X6_at l_X8_11 p_X6_at (c_at (j := (13 + k)) (by omega) (by omega)) rfl rfl rfl rfl rfl rfl (by decide +kernel) ?_
  refine z_b hX (fo_no RX8) [.aload_n 0, .bipush 85, .iload_n 1, .iadd] 22 (by decide +kernel) rfl ?_
  refine z_cV hX m_X6_at l_X8_11 p_X6_at (c_at (j := (85 + a)) (by omega) (by omega)) rfl rfl rfl rfl rfl rfl (by decide +kernel) ?_
  refine z_ic_ne hX (off := 7) 32 (by decide +kernel) (by decide) ⟨by omega, by omega⟩ ⟨by omega, by omega⟩ (fun c25 => ?_) (fun c25 => ?_)
  · have e1 : sShow1 c a k = c := if_neg c25
    refine z_b hX (fo_no RX8) [.iconst 0, .istore_n 3, .iload_n 3] 35 (by decide +kernel) rfl ?_
    refine z_if_eq hX (off := 10) 45 (by decide +kernel) (by decide) ⟨by decide, by decide⟩ (fun c35 => ?_) (fun c35 => by exact absurd c35 (by decide))
    refine z_b hX (fo_no RX8) [.aload_n 0, .bipush 7, .iconst 1] 49 (by decide +kernel) rfl ?_
    refine z_cV hX m_X6_add l_X8_21 p_X6_add (c_add (j := 7) (by omega) (by omega)) rfl rfl rfl rfl rfl rfl (by decide +kernel) ?_
    refine z_b hX (fo_no RX8) [.pop, .aload_n 0, .bipush 103, .iload_n 1, .iadd, .iconst 1] 59 (by decide +kernel) rfl ?_
    refine z_cV hX m_X6_add l_X8_21 p_X6_add (c_add (j := (103 + a)) (by omega) (by omega)) rfl rfl rfl rfl rfl rfl (by decide +kernel) ?_
    refine z_b hX (fo_no RX8) [.pop, .aload_n 0, .bipush 73, .iload_n 2, .iadd, .iconst 1] 69 (by decide +kernel) rfl ?_
    refine z_cV hX m_X6_add l_X8_21 p_X6_add (c_add (j := (73 + k)) (by omega) (by omega)) rfl rfl rfl rfl rfl rfl (by decide +kernel) ?_
    refine z_b hX (fo_no RX8) [.pop, .aload_n 0, .iload_n 2, .iconst 4] 76 (by decide +kernel) rfl ?_
    refine z_cS hX m_X9_takeOff l_X8_25 p_X9_takeOff (c_X9_takeOff (by have q := hg.show2 (a := a) hk ha; unfold sShow2 at q; rw [e1] at q; exact q) hk ⟨by omega, by omega⟩) rfl rfl rfl rfl (by decide +kernel) ?_
    exact z_iret hX hR (by decide +kernel) ⟨by unfold sShow2; rw [e1]; rfl, by unfold sShow sShow2; rw [e1]⟩
  · have e1 : sShow1 c a k = sRip c k 1 := if_pos c25
    refine z_b hX (fo_no RX8) [.iconst 1] 29 (by decide +kernel) rfl ?_
    refine z_goto hX (off := 4) 33 (by decide +kernel) (by decide) ?_
    refine z_b hX (fo_no RX8) [.istore_n 3, .iload_n 3] 35 (by decide +kernel) rfl ?_
    refine z_if_eq hX (off := 10) 45 (by decide +kernel) (by decide) ⟨by decide, by decide⟩ (fun c35 => by exact absurd c35 (by decide)) (fun c35 => ?_)
    refine z_b hX (fo_no RX8) [.aload_n 0, .iload_n 2, .iconst 1] 41 (by decide +kernel) rfl ?_
    refine z_cS hX m_X9_addRips l_X8_15 p_X9_addRips (c_X9_addRips hg hk ⟨by omega, by omega⟩) rfl rfl rfl rfl (by decide +kernel) ?_
    refine z_b hX (fo_no RX8) [.pop, .aload_n 0, .bipush 7, .iconst 1] 49 (by decide +kernel) rfl ?_
    refine z_cV hX m_X6_add l_X8_21 p_X6_add (c_add (j := 7) (by omega) (by omega)) rfl rfl rfl rfl rfl rfl (by decide +kernel) ?_
    refine z_b hX (fo_no RX8) [.pop, .aload_n 0, .bipush 103, .iload_n 1, .iadd, .iconst 1] 59 (by decide +kernel) rfl ?_
    refine z_cV hX m_X6_add l_X8_21 p_X6_add (c_add (j := (103 + a)) (by omega) (by omega)) rfl rfl rfl rfl rfl rfl (by decide +kernel) ?_
    refine z_b hX (fo_no RX8) [.pop, .aload_n 0, .bipush 73, .iload_n 2, .iadd, .iconst 1] 69 (by decide +kernel) rfl ?_
    refine z_cV hX m_X6_add l_X8_21 p_X6_add (c_add (j := (73 + k)) (by omega) (by omega)) rfl rfl rfl rfl rfl rfl (by decide +kernel) ?_
    refine z_b hX (fo_no RX8) [.pop, .aload_n 0, .iload_n 2, .iconst 4] 76 (by decide +kernel) rfl ?_
    refine z_cS hX m_X9_takeOff l_X8_25 p_X9_takeOff (c_X9_takeOff (by have q := hg.show2 (a := a) hk ha; unfold sShow2 at q; rw [e1] at q; exact q) hk ⟨by omega, by omega⟩) rfl rfl rfl rfl (by decide +kernel) ?_
    exact z_iret hX hR (by decide +kernel) ⟨by unfold sShow2; rw [e1]; rfl, by unfold sShow sShow2; rw [e1]⟩
set_option maxHeartbeats 1000000 in
theorem c_X8_daysUntilTight {E : zE} {a : Nat} {B : Int} {σ : Nat → Nat → Int} {c : Nat → Int} {l : (Nat → Int64) × (Nat → UInt64)} (hg : Rg B c) (ha : a < 6) (hB : B ≤ 1000000) : Rv E yX8_daysUntilTight (Cond.code yX8_daysUntilTight cX8_daysUntilTight 6 (Option.some FieldType.int)) 1 [vr 1, vi (a : Int)] ((zs σ 21 c, l)) (vi (zdtt c a)) ((zs σ 21 c, l)) := by
  refine Ctr_of (own := RX8) (by decide +kernel) rfl rfl (fun Y hX hR hnx => ?_)
  have h1 := hg.acoat ha
  have h2 := hg.asize ha
  have h3 := hg.grow ha
  have h4 := hg.day
  refine z_b hX (fo_no RX8) [.aload_n 0, .bipush 97, .iload_n 1, .iadd] 5 (by decide +kernel) rfl ?_
  refine z_cV hX m_X6_at l_X8_11 p_X6_at (c_at (j := (97 + a)) (by omega) (by omega)) rfl rfl rfl rfl rfl rfl (by decide +kernel) ?_
  refine z_b hX (fo_no RX8) [.istore_n 2, .iload_n 2, .iconst (-1)] 11 (by decide +kernel) rfl ?_
  refine z_ic_ne hX (off := 5) 16 (by decide +kernel) (by decide) ⟨by omega, by omega⟩ ⟨by omega, by omega⟩ (fun c11 => ?_) (fun c11 => ?_)
  · obtain ⟨k, hk⟩ : ∃ k : Nat, c (97 + a) = (k : Int) := ⟨(c (97 + a)).toNat, by omega⟩
    have e1 : zdtt c a = if c (13 + k) - c (85 + a) < 0 then 0 else if c (91 + a) ≤ 0 then -1 else ((c (13 + k) - c (85 + a)) / c (91 + a) + 1) * 7 - c 0 % 7 := by unfold zdtt; rw [if_neg c11, hk]; rfl
    have h5 := hg.size (show k < 12 by omega)
    rw [hk]
    refine z_b hX (fo_no RX8) [.aload_n 0, .bipush 13, .iload_n 2, .iadd] 21 (by decide +kernel) rfl ?_
    refine z_cV hX m_X6_at l_X8_11 p_X6_at (c_at (j := (13 + k)) (by omega) (by omega)) rfl rfl rfl rfl rfl rfl (by decide +kernel) ?_
    refine z_b hX (fo_no RX8) [.aload_n 0, .bipush 85, .iload_n 1, .iadd] 29 (by decide +kernel) rfl ?_
    refine z_cV hX m_X6_at l_X8_11 p_X6_at (c_at (j := (85 + a)) (by omega) (by omega)) rfl rfl rfl rfl rfl rfl (by decide +kernel) ?_
    refine z_b hX (fo_no RX8) [.isub, .istore_n 3, .iload_n 3] 35 (by decide +kernel) rfl ?_
    refine z_if_ge hX (off := 5) 40 (by decide +kernel) (by decide) ⟨by omega, by omega⟩ (fun c35 => ?_) (fun c35 => ?_)
    · refine z_b hX (fo_no RX8) [.aload_n 0, .bipush 91, .iload_n 1, .iadd] 45 (by decide +kernel) rfl ?_
      refine z_cV hX m_X6_at l_X8_11 p_X6_at (c_at (j := (91 + a)) (by omega) (by omega)) rfl rfl rfl rfl rfl rfl (by decide +kernel) ?_
      refine z_b hX (fo_no RX8) [.istore 4, .iload 4] 52 (by decide +kernel) rfl ?_
      refine z_if_gt hX (off := 5) 57 (by decide +kernel) (by decide) ⟨by omega, by omega⟩ (fun c52 => ?_) (fun c52 => ?_)
      · refine z_b hX (fo_no RX8) [.iload_n 3, .iload 4] 60 (by decide +kernel) rfl ?_
        refine z_idiv hX (by decide +kernel) (by omega) (by omega) ?_
        refine z_b hX (fo_no RX8) [.iconst 1, .iadd, .istore 5, .iload 5, .bipush 7, .imul, .aload_n 0, .iconst 0] 72 (by decide +kernel) rfl ?_
        refine z_cV hX m_X6_at l_X8_11 p_X6_at (c_at (j := 0) (by omega) (by omega)) rfl rfl rfl rfl rfl rfl (by decide +kernel) ?_
        refine z_b hX (fo_no RX8) [.bipush 7] 77 (by decide +kernel) rfl ?_
        refine z_irem hX (by decide +kernel) (by omega) (by omega) ?_
        refine z_b hX (fo_no RX8) [.isub] 79 (by decide +kernel) rfl ?_
        exact z_iret hX hR (by decide +kernel) ⟨by rw [e1, if_neg (by omega), if_neg (by omega)], rfl⟩
      · refine z_b hX (fo_no RX8) [.iconst (-1)] 56 (by decide +kernel) rfl ?_
        exact z_iret hX hR (by decide +kernel) ⟨by rw [e1, if_neg (by omega), if_pos c52], rfl⟩
    · refine z_b hX (fo_no RX8) [.iconst 0] 39 (by decide +kernel) rfl ?_
      exact z_iret hX hR (by decide +kernel) ⟨by rw [e1, if_pos c35], rfl⟩
  · refine z_b hX (fo_no RX8) [.iconst (-1)] 15 (by decide +kernel) rfl ?_
    exact z_iret hX hR (by decide +kernel) ⟨by unfold zdtt; rw [if_pos c11], rfl⟩
set_option maxHeartbeats 1000000 in
theorem c_X8_rest {E : zE} {B : Int} {σ : Nat → Nat → Int} {c : Nat → Int} {l : (Nat → Int64) × (Nat → UInt64)} (hg : Rg B c) : Rn E yX8_rest (Cond.code yX8_rest cX8_rest 3 (Option.none : Option FieldType)) 2 [vr 1] ((zs σ 21 c, l)) ((zs σ 21 (zrest 0 4 c), l)) := by
  refine Ctr_of (own := RX8) (by decide +kernel) rfl rfl (fun Y hX hR hnx => ?_)
  refine z_b hX (fo_no RX8) [.iconst 0, .istore_n 1] 2 (by decide +kernel) rfl ?_
  have loop : ∀ (m : Nat) (i : Nat) (x : Int) (d : Nat → Int), x = (i : Int) → Rg B d → i + m = 4 → zrest i m d = zrest 0 4 c → Z (E, Y) 0 2 [(1, vi x), (0, vr 1)] [] (zs σ 21 d, l) := by
    intro m
    induction m with
    | zero =>
      intro i x d hi hd hm hr
      subst hi
      refine z_b hX (fo_no RX8) [.iload_n 1, .iconst 4] 4 (by decide +kernel) rfl ?_
      refine z_ic_ge hX (off := 51) 55 (by decide +kernel) (by decide) ⟨by omega, by omega⟩ ⟨by omega, by omega⟩ (fun c4 => ?_) (fun c4 => by exfalso; omega)
      exact z_vret hX hR (by decide +kernel) ⟨rfl, by rw [← hr, show i = 4 by omega]; rfl⟩
    | succ m ih =>
      intro i x d hi hd hm hr
      subst hi
      have h10 := hd.women
      refine z_b hX (fo_no RX8) [.iload_n 1, .iconst 4] 4 (by decide +kernel) rfl ?_
      refine z_ic_ge hX (off := 51) 55 (by decide +kernel) (by decide) ⟨by omega, by omega⟩ ⟨by omega, by omega⟩ (fun c4 => by exfalso; omega) (fun c4 => ?_)
      refine z_b hX (fo_no RX8) [.aload_n 0, .iload_n 1] 9 (by decide +kernel) rfl ?_
      refine z_cV hX m_X6_hasSeamstress l_X8_38 p_X6_hasSeamstress (c_X6_hasSeamstress ⟨by omega, by omega⟩ ⟨by omega, by omega⟩) rfl rfl rfl rfl rfl rfl (by decide +kernel) ?_
      refine z_if_eq hX (off := 37) 49 (by decide +kernel) (by decide) ⟨by split <;> decide, by split <;> decide⟩ (fun c12 => ?_) (fun c12 => ?_)
      · have e1 : zrest1 d i = d := if_neg (fun z => zif0 c12 ⟨by omega, z⟩)
        refine z_b hX (fo_no RX8) [.iinc 1 1] 52 (by decide +kernel) rfl ?_
        refine z_goto hX (off := (-50)) 2 (by decide +kernel) (by decide) ?_
        exact z_lo [0, 1] (ih (i + 1) _ _ (by omega) (by have q := hd.rest1 (i := i) (by omega); rw [e1] at q; exact q) (by omega) (by rw [← hr]; show zrest (i + 1) m _ = zrest (i + 1) m (zrest1 d i); rw [e1])) rfl
      · have e1 : zrest1 d i = va_up (va_up d (109 + i) 8) (113 + i) (zmx 0 ((va_up d (109 + i) 8) (113 + i) - 2)) := if_pos (zif1 c12).2
        have hso := hd.sore (show i < 4 by omega)
        have e2 : (va_up d (109 + i) 8) (113 + i) = d (113 + i) := vne (by omega)
        refine z_b hX (fo_no RX8) [.aload_n 0, .bipush 109, .iload_n 1, .iadd, .bipush 8] 22 (by decide +kernel) rfl ?_
        refine z_cV0 hX m_X6_put l_X8_42 p_X6_put (c_put (j := (109 + i)) (by omega) (by omega)) rfl rfl rfl rfl rfl rfl (by decide +kernel) ?_
        refine z_b hX (fo_no RX8) [.aload_n 0, .bipush 113, .iload_n 1, .iadd] 30 (by decide +kernel) rfl ?_
        refine z_cV hX m_X6_at l_X8_11 p_X6_at (c_at (j := (113 + i)) (by omega) (by omega)) rfl rfl rfl rfl rfl rfl (by decide +kernel) ?_
        refine z_b hX (fo_no RX8) [.istore_n 2, .aload_n 0, .bipush 113, .iload_n 1, .iadd, .iconst 0, .iload_n 2, .iconst 2, .isub] 43 (by decide +kernel) rfl ?_
        refine z_max hX lm_X8_46 (by decide +kernel) ⟨by omega, by omega⟩ ⟨by omega, by omega⟩ rfl ?_
        refine z_cV0 hX m_X6_put l_X8_42 p_X6_put (c_put (j := (113 + i)) (by omega) (by omega)) rfl rfl rfl rfl rfl rfl (by decide +kernel) ?_
        refine z_b hX (fo_no RX8) [.iinc 1 1] 52 (by decide +kernel) rfl ?_
        refine z_goto hX (off := (-50)) 2 (by decide +kernel) (by decide) ?_
        exact z_lo [0, 2] (ih (i + 1) _ _ (by omega) (by have q := hd.rest1 (i := i) (by omega); rw [e1] at q; exact q) (by omega) (by rw [← hr]; show zrest (i + 1) m _ = zrest (i + 1) m (zrest1 d i); rw [e1])) rfl
  exact loop 4 0 _ _ rfl hg (by omega) rfl
set_option maxHeartbeats 1000000 in
theorem c_X8_grow {E : zE} {B : Int} {σ : Nat → Nat → Int} {c : Nat → Int} {l : (Nat → Int64) × (Nat → UInt64)} (hg : Rg B c) : Rv E yX8_grow (Cond.code yX8_grow cX8_grow 4 (Option.some FieldType.int)) 2 [vr 1] ((zs σ 21 c, l)) (vi (zgrowN 0 6 c 0)) ((zs σ 21 (zgrowC 0 6 c), l)) := by
  refine Ctr_of (own := RX8) (by decide +kernel) rfl rfl (fun Y hX hR hnx => ?_)
  refine z_b hX (fo_no RX8) [.iconst 0, .istore_n 1, .iconst 0, .istore_n 2] 4 (by decide +kernel) rfl ?_
  have loop : ∀ (m : Nat) (i : Nat) (x g : Int) (d : Nat → Int), x = (i : Int) → Rg B d → i + m = 6 → zgrowC i m d = zgrowC 0 6 c → zgrowN i m d g = zgrowN 0 6 c 0 → Z (E, Y) 0 4 [(2, vi x), (1, vi g), (0, vr 1)] [] (zs σ 21 d, l) := by
    intro m
    induction m with
    | zero =>
      intro i x g d hi hd hm hr hn
      subst hi
      refine z_b hX (fo_no RX8) [.iload_n 2, .bipush 6] 7 (by decide +kernel) rfl ?_
      refine z_ic_ge hX (off := 54) 61 (by decide +kernel) (by decide) ⟨by omega, by omega⟩ ⟨by omega, by omega⟩ (fun c7 => ?_) (fun c7 => by exfalso; omega)
      refine z_b hX (fo_no RX8) [.iload_n 1] 62 (by decide +kernel) rfl ?_
      exact z_iret hX hR (by decide +kernel) ⟨by rw [← hn, show i = 6 by omega]; rfl, by rw [← hr, show i = 6 by omega]; rfl⟩
    | succ m ih =>
      intro i x g d hi hd hm hr hn
      subst hi
      have h9 := hd.acts
      refine z_b hX (fo_no RX8) [.iload_n 2, .bipush 6] 7 (by decide +kernel) rfl ?_
      refine z_ic_ge hX (off := 54) 61 (by decide +kernel) (by decide) ⟨by omega, by omega⟩ ⟨by omega, by omega⟩ (fun c7 => by exfalso; omega) (fun c7 => ?_)
      refine z_b hX (fo_no RX8) [.aload_n 0, .iload_n 2] 12 (by decide +kernel) rfl ?_
      refine z_cV hX m_X6_hasAct l_X8_51 p_X6_hasAct (c_X6_hasAct ⟨by omega, by omega⟩ ⟨by omega, by omega⟩) rfl rfl rfl rfl rfl rfl (by decide +kernel) ?_
      refine z_if_eq hX (off := 40) 55 (by decide +kernel) (by decide) ⟨by split <;> decide, by split <;> decide⟩ (fun c15 => ?_) (fun c15 => ?_)
      · have e1 : zgrow1 d i = d := if_neg (fun z => zif0 c15 ⟨by omega, z⟩)
        have e2 : zgrowV d i = 0 := if_neg (fun z => zif0 c15 ⟨by omega, z⟩)
        refine z_b hX (fo_no RX8) [.iinc 2 1] 58 (by decide +kernel) rfl ?_
        refine z_goto hX (off := (-54)) 4 (by decide +kernel) (by decide) ?_
        exact z_lo [0, 1, 2] (ih (i + 1) _ _ _ (by omega) (by have q := hd.grow1 (i := i) (by omega); rw [e1] at q; exact q) (by omega) (by rw [← hr]; show zgrowC (i + 1) m _ = zgrowC (i + 1) m (zgrow1 d i); rw [e1]) (by rw [← hn]; show zgrowN (i + 1) m _ _ = zgrowN (i + 1) m (zgrow1 d i) (g + zgrowV d i); rw [e1, e2, Int.add_zero])) rfl
      · have e1 : zgrow1 d i = ad d (85 + i) (zmn (d (91 + i)) (99 - d (85 + i))) := if_pos (zif1 c15).2
        have e2 : zgrowV d i = zmn (d (91 + i)) (99 - d (85 + i)) := if_pos (zif1 c15).2
        have g1 := hd.grow (show i < 6 by omega)
        have g2 := hd.asize (show i < 6 by omega)
        refine z_b hX (fo_no RX8) [.aload_n 0, .bipush 91, .iload_n 2, .iadd] 23 (by decide +kernel) rfl ?_
        refine z_cV hX m_X6_at l_X8_11 p_X6_at (c_at (j := (91 + i)) (by omega) (by omega)) rfl rfl rfl rfl rfl rfl (by decide +kernel) ?_
        refine z_b hX (fo_no RX8) [.bipush 99, .aload_n 0, .bipush 85, .iload_n 2, .iadd] 33 (by decide +kernel) rfl ?_
        refine z_cV hX m_X6_at l_X8_11 p_X6_at (c_at (j := (85 + i)) (by omega) (by omega)) rfl rfl rfl rfl rfl rfl (by decide +kernel) ?_
        refine z_b hX (fo_no RX8) [.isub] 37 (by decide +kernel) rfl ?_
        refine z_min hX lm_X8_54 (by decide +kernel) ⟨by omega, by omega⟩ ⟨by omega, by omega⟩ rfl ?_
        refine z_b hX (fo_no RX8) [.istore_n 3, .aload_n 0, .bipush 85, .iload_n 2, .iadd, .iload_n 3] 47 (by decide +kernel) rfl ?_
        refine z_cV hX m_X6_add l_X8_21 p_X6_add (c_add (j := (85 + i)) (by omega) (by omega)) rfl rfl rfl rfl rfl rfl (by decide +kernel) ?_
        refine z_b hX (fo_no RX8) [.pop, .iload_n 1, .iload_n 3, .iadd, .istore_n 1, .iinc 2 1] 58 (by decide +kernel) rfl ?_
        refine z_goto hX (off := (-54)) 4 (by decide +kernel) (by decide) ?_
        exact z_lo [0, 1, 3] (ih (i + 1) _ _ _ (by omega) (by have q := hd.grow1 (i := i) (by omega); rw [e1] at q; exact q) (by omega) (by rw [← hr]; show zgrowC (i + 1) m _ = zgrowC (i + 1) m (zgrow1 d i); rw [e1]) (by rw [← hn]; show zgrowN (i + 1) m _ _ = zgrowN (i + 1) m (zgrow1 d i) (g + zgrowV d i); rw [e1, e2])) rfl
  exact loop 6 0 _ 0 _ rfl hg (by omega) rfl rfl
set_option maxHeartbeats 1000000 in
theorem c_X8_letDaysGoBy {E : zE} {n : Nat} {B : Int} {σ : Nat → Nat → Int} {c : Nat → Int} {l : (Nat → Int64) × (Nat → UInt64)} (hg : Rg B c) (hn : n ≤ 60) (hB : B ≤ 1000000) : Rv E yX8_letDaysGoBy (Cond.code yX8_letDaysGoBy cX8_letDaysGoBy 5 (Option.some FieldType.int)) 3 [vr 1, vi (n : Int)] ((zs σ 21 c, l)) (vi (zpassN n c 0)) ((zs σ 21 (zpassC n c), l)) := by
  refine Ctr_of (own := RX8) (by decide +kernel) rfl rfl (fun Y hX hR hnx => ?_)
  refine z_b hX (fo_no RX8) [.iconst 0, .istore_n 2, .iconst 0, .istore_n 3] 4 (by decide +kernel) rfl ?_
  have loop : ∀ (m : Nat) (i : Nat) (x g : Int) (d : Nat → Int), x = (i : Int) → Rg (B + (i : Int)) d → i + m = n → zpassC m d = zpassC n c → zpassN m d g = zpassN n c 0 → Z (E, Y) 0 4 [(3, vi x), (2, vi g), (0, vr 1), (1, vi (n : Int))] [] (zs σ 21 d, l) := by
    intro m
    induction m with
    | zero =>
      intro i x g d hi hd hm hr hn
      subst hi
      refine z_b hX (fo_no RX8) [.iload_n 3, .iload_n 1] 6 (by decide +kernel) rfl ?_
      refine z_ic_ge hX (off := 42) 48 (by decide +kernel) (by decide) ⟨by omega, by omega⟩ ⟨by omega, by omega⟩ (fun c6 => ?_) (fun c6 => by exfalso; omega)
      refine z_b hX (fo_no RX8) [.iload_n 2] 49 (by decide +kernel) rfl ?_
      exact z_iret hX hR (by decide +kernel) ⟨by rw [← hn]; rfl, by rw [← hr]; rfl⟩
    | succ m ih =>
      intro i x g d hi hd hm hr hn
      subst hi
      refine z_b hX (fo_no RX8) [.iload_n 3, .iload_n 1] 6 (by decide +kernel) rfl ?_
      refine z_ic_ge hX (off := 42) 48 (by decide +kernel) (by decide) ⟨by omega, by omega⟩ ⟨by omega, by omega⟩ (fun c6 => by exfalso; omega) (fun c6 => ?_)
      refine z_b hX (fo_no RX8) [.iload_n 3, .bipush 60] 12 (by decide +kernel) rfl ?_
      refine z_ic_ge hX (off := 36) 48 (by decide +kernel) (by decide) ⟨by omega, by omega⟩ ⟨by omega, by omega⟩ (fun c12 => by exfalso; omega) (fun c12 => ?_)
      refine z_b hX (fo_no RX8) [.aload_n 0] 16 (by decide +kernel) rfl ?_
      refine z_cS0 hX m_X8_rest l_X8_28 p_X8_rest (c_X8_rest hd) rfl rfl rfl rfl (by decide +kernel) ?_
      refine z_b hX (fo_no RX8) [.aload_n 0, .iconst 0, .iconst 1] 22 (by decide +kernel) rfl ?_
      refine z_cV hX m_X6_add l_X8_21 p_X6_add (c_add (j := 0) (by omega) (by omega)) rfl rfl rfl rfl rfl rfl (by decide +kernel) ?_
      refine z_b hX (fo_no RX8) [.istore 4, .iload 4, .bipush 7] 31 (by decide +kernel) rfl ?_
      have hda := (Rg.rest 4 0 (by omega) hd).day
      refine z_irem hX (by decide +kernel) (by omega) (by omega) ?_
      refine z_if_ne hX (off := 10) 42 (by decide +kernel) (by decide) ⟨by omega, by omega⟩ (fun c32 => ?_) (fun c32 => ?_)
      · have e1 : zdayC d = ad (zrest 0 4 d) 0 1 := if_neg c32
        have e2 : zdayV d = 0 := if_neg c32
        refine z_b hX (fo_no RX8) [.iinc 3 1] 45 (by decide +kernel) rfl ?_
        refine z_goto hX (off := (-41)) 4 (by decide +kernel) (by decide) ?_
        exact z_lo [0, 2, 3, 4] (ih (i + 1) _ _ _ (by omega) (by rw [show B + ((i + 1 : Nat) : Int) = B + (i : Int) + 1 by omega]; have q := hd.dayC; rw [e1] at q; exact q) (by omega) (by rw [← hr]; show zpassC m _ = zpassC m (zdayC d); rw [e1]) (by rw [← hn]; show zpassN m _ _ = zpassN m (zdayC d) (g + zdayV d); rw [e1, e2, Int.add_zero])) rfl
      · have e1 : zdayC d = zgrowC 0 6 (ad (zrest 0 4 d) 0 1) := if_pos c32
        have e2 : zdayV d = zgrowN 0 6 (ad (zrest 0 4 d) 0 1) 0 := if_pos c32
        refine z_b hX (fo_no RX8) [.iload_n 2, .aload_n 0] 37 (by decide +kernel) rfl ?_
        refine z_cS hX m_X8_grow l_X8_34 p_X8_grow (c_X8_grow hd.day1) rfl rfl rfl rfl (by decide +kernel) ?_
        refine z_b hX (fo_no RX8) [.iadd, .istore_n 2, .iinc 3 1] 45 (by decide +kernel) rfl ?_
        refine z_goto hX (off := (-41)) 4 (by decide +kernel) (by decide) ?_
        exact z_lo [0, 1, 3, 4] (ih (i + 1) _ _ _ (by omega) (by rw [show B + ((i + 1 : Nat) : Int) = B + (i : Int) + 1 by omega]; have q := hd.dayC; rw [e1] at q; exact q) (by omega) (by rw [← hr]; show zpassC m _ = zpassC m (zdayC d); rw [e1]) (by rw [← hn]; show zpassN m _ _ = zpassN m (zdayC d) (g + zdayV d); rw [e1, e2])) rfl
  exact loop n 0 _ 0 _ rfl (by simpa using hg) (by omega) rfl rfl
