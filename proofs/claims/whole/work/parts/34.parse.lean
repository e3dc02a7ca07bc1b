/-! ===== what a text's orders are; what parsing leaves ===== -/
section ILAY
theorem ikp_17 {q : Nat} {o : Int × Int × Int} {σ : Nat → Nat → Int} : ikp q o σ 17 = va_up (σ 17) q o.1 := by unfold ikp; rw [zs_ne (by decide), zs_ne (by decide), zs_ne (by decide), zs_eq]
theorem ikp_18 {q : Nat} {o : Int × Int × Int} {σ : Nat → Nat → Int} : ikp q o σ 18 = va_up (σ 18) q o.2.1 := by unfold ikp; rw [zs_ne (by decide), zs_ne (by decide), zs_eq]
theorem ikp_19 {q : Nat} {o : Int × Int × Int} {σ : Nat → Nat → Int} : ikp q o σ 19 = va_up (σ 19) q o.2.2 := by unfold ikp; rw [zs_ne (by decide), zs_eq]
theorem ilay_n {k : Nat} (h1 : k ≠ 15) (h2 : k ≠ 17) (h3 : k ≠ 18) (h4 : k ≠ 19) : ∀ (L : List (Int × Int × Int)) (q : Nat) (σ : Nat → Nat → Int), ilay q L σ k = σ k
  | [], _, _ => rfl
  | o :: r, q, σ => by
    show ilay (q + 1) r (ikp q o σ) k = σ k
    rw [ilay_n h1 h2 h3 h4 r, ikp_o h1 h2 h3 h4]
theorem ilay_15 {i : Nat} (h : i ≠ 6) : ∀ (L : List (Int × Int × Int)) (q : Nat) (σ : Nat → Nat → Int), ilay q L σ 15 i = σ 15 i
  | [], _, _ => rfl
  | o :: r, q, σ => by
    show ilay (q + 1) r (ikp q o σ) 15 i = σ 15 i
    rw [ilay_15 h r, ikp_15 h]
theorem ilay_6 : ∀ (L : List (Int × Int × Int)) (q : Nat) (σ : Nat → Nat → Int), σ 15 6 = (q : Int) → ilay q L σ 15 6 = ((q + L.length : Nat) : Int)
  | [], _, _, h => h
  | o :: r, q, σ, h => by
    show ilay (q + 1) r (ikp q o σ) 15 6 = _
    rw [ilay_6 r (q + 1) _ ikp_6, List.length_cons, show q + (r.length + 1) = q + 1 + r.length by omega]
theorem ilay_lo {j : Nat} : ∀ (L : List (Int × Int × Int)) (q : Nat) (σ : Nat → Nat → Int), j < q → ilay q L σ 17 j = σ 17 j ∧ ilay q L σ 18 j = σ 18 j ∧ ilay q L σ 19 j = σ 19 j
  | [], _, _, _ => ⟨rfl, rfl, rfl⟩
  | o :: r, q, σ, h => by
    show ilay (q + 1) r (ikp q o σ) 17 j = σ 17 j ∧ ilay (q + 1) r (ikp q o σ) 18 j = σ 18 j ∧ ilay (q + 1) r (ikp q o σ) 19 j = σ 19 j
    obtain ⟨h1, h2, h3⟩ := ilay_lo (j := j) r (q + 1) (ikp q o σ) (by omega)
    rw [h1, h2, h3, ikp_17, ikp_18, ikp_19, vne (by omega), vne (by omega), vne (by omega)]
    exact ⟨rfl, rfl, rfl⟩
theorem ilay_at : ∀ (L : List (Int × Int × Int)) (q : Nat) (σ : Nat → Nat → Int) (i : Nat), i < L.length → ilay q L σ 17 (q + i) = oK L i ∧ ilay q L σ 18 (q + i) = oF L i ∧ ilay q L σ 19 (q + i) = oS L i
  | [], _, _, i, h => absurd h (by simp)
  | o :: r, q, σ, 0, _ => by
    show ilay (q + 1) r (ikp q o σ) 17 q = o.1 ∧ ilay (q + 1) r (ikp q o σ) 18 q = o.2.1 ∧ ilay (q + 1) r (ikp q o σ) 19 q = o.2.2
    obtain ⟨h1, h2, h3⟩ := ilay_lo (j := q) r (q + 1) (ikp q o σ) (by omega)
    rw [h1, h2, h3, ikp_17, ikp_18, ikp_19, va_e, va_e, va_e, if_pos rfl, if_pos rfl, if_pos rfl]
    exact ⟨rfl, rfl, rfl⟩
  | o :: r, q, σ, i + 1, h => by
    have h0 := ilay_at r (q + 1) (ikp q o σ) i (by simpa using h)
    rw [show q + 1 + i = q + (i + 1) by omega] at h0
    exact h0
theorem ikp_21 {q : Nat} {o : Int × Int × Int} {σ : Nat → Nat → Int} {c : Nat → Int} : ikp q o (zs σ 21 c) = zs (ikp q o σ) 21 c := by
  unfold ikp
  rw [zs_ne (show 17 ≠ 21 by decide), zs_ne (show 18 ≠ 21 by decide), zs_ne (show 19 ≠ 21 by decide), zs_ne (show 15 ≠ 21 by decide)]
  rw [zs_comm (show 21 ≠ 17 by decide), zs_comm (show 21 ≠ 18 by decide), zs_comm (show 21 ≠ 19 by decide), zs_comm (show 21 ≠ 15 by decide)]
theorem ilay_21 {c : Nat → Int} : ∀ (L : List (Int × Int × Int)) (q : Nat) (σ : Nat → Nat → Int), ilay q L (zs σ 21 c) = zs (ilay q L σ) 21 c
  | [], _, _ => rfl
  | o :: r, q, σ => by
    show ilay (q + 1) r (ikp q o (zs σ 21 c)) = zs (ilay (q + 1) r (ikp q o σ)) 21 c
    rw [ikp_21, ilay_21 r]
theorem zs15_21 {σ : Nat → Nat → Int} {c : Nat → Int} {f : (Nat → Int) → Nat → Int} : zs (zs σ 21 c) 15 (f ((zs σ 21 c) 15)) = zs (zs σ 15 (f (σ 15))) 21 c := by
  rw [zs_ne (show 15 ≠ 21 by decide), zs_comm (show 21 ≠ 15 by decide)]
theorem zup15_21 {σ : Nat → Nat → Int} {c : Nat → Int} {i : Nat} {v : Int} : zup (zs σ 21 c) 15 i v = zs (zup σ 15 i v) 21 c := by
  rw [zup_zs, zup_zs, zs_ne (show 15 ≠ 21 by decide), zs_comm (show 21 ≠ 15 by decide)]
theorem ipz_21 {σ : Nat → Nat → Int} {c t : Nat → Int} {n : Nat} : ipz (zs σ 21 c) t n = zs (ipz σ t n) 21 c := by
  unfold ipz
  rw [show izr (zs σ 21 c) = zs (izr σ) 21 c from zs15_21 (f := fun g => va_up (va_up g 5 0) 6 0), ilay_21]
  rw [show ∀ (τ : Nat → Nat → Int) (p : Nat), icu (zs τ 21 c) p = zs (icu τ p) 21 c from fun τ p => zs15_21 (f := fun g => va_up g 5 (p : Int)), zup15_21, zup15_21]
theorem ipz_n {σ : Nat → Nat → Int} {t : Nat → Int} {n k : Nat} (h1 : k ≠ 15) (h2 : k ≠ 17) (h3 : k ≠ 18) (h4 : k ≠ 19) : ipz σ t n k = σ k := by
  unfold ipz izr
  rw [zup_ne h1, zup_ne h1, icu_n _ _ h1, ilay_n h1 h2 h3 h4, zs_ne h1]
theorem ipz_4 {σ : Nat → Nat → Int} {t : Nat → Int} {n : Nat} : ipz σ t n 15 4 = 0 := by unfold ipz; rw [zup_eq, va_e, if_pos rfl]
theorem ipz_7 {σ : Nat → Nat → Int} {t : Nat → Int} {n : Nat} : ipz σ t n 15 7 = (if (ipr t n 61 0).1 = true then -1 else ((ipr t n 61 0).2.1 : Int)) := by unfold ipz; rw [zup_eq, vne (by decide), zup_eq, va_e, if_pos rfl]
theorem ipz_6 {σ : Nat → Nat → Int} {t : Nat → Int} {n : Nat} : ipz σ t n 15 6 = ((ipr t n 61 0).2.2.length : Int) := by
  unfold ipz
  rw [zup_eq, vne (by decide), zup_eq, vne (by decide), icu_o _ _ (by decide), ilay_6 _ 0 (izr σ) (by unfold izr; rw [zs_eq, va_e, if_pos rfl]; rfl)]
  rw [Nat.zero_add]
theorem ipz_at {σ : Nat → Nat → Int} {t : Nat → Int} {n i : Nat} (h : i < (ipr t n 61 0).2.2.length) : ipz σ t n 17 i = oK (ipr t n 61 0).2.2 i ∧ ipz σ t n 18 i = oF (ipr t n 61 0).2.2 i ∧ ipz σ t n 19 i = oS (ipr t n 61 0).2.2 i := by
  have h0 := ilay_at (ipr t n 61 0).2.2 0 (izr σ) i h
  rw [Nat.zero_add] at h0
  unfold ipz
  rw [zup_ne (by decide), zup_ne (by decide), icu_n _ _ (by decide), zup_ne (by decide), zup_ne (by decide), icu_n _ _ (by decide), zup_ne (by decide), zup_ne (by decide), icu_n _ _ (by decide)]
  exact h0
end ILAY
/-- an order that is kept -/
abbrev oOk (o : Int × Int × Int) : Prop := okind o.1 ∧ (0 ≤ o.2.1 ∧ o.2.1 ≤ 99) ∧ (0 ≤ o.2.2 ∧ o.2.2 ≤ 99)
theorem iord_v {t : Nat → Int} {n p p2 : Nat} {o : Int × Int × Int} (h : iord t n p = (some o, p2)) : oOk o := by
  unfold iord at h
  split at h
  · cases h
  · rename_i hk
    have hk2 : okind (inx t n p) := by
      unfold iknd at hk
      split at hk
      · rename_i z; unfold okind; omega
      · exact absurd rfl hk
    split at h
    · cases h; exact ⟨hk2, ⟨by dsimp only; omega, by dsimp only; omega⟩, ⟨by dsimp only; omega, by dsimp only; omega⟩⟩
    · have h1 := inum_v (t := t) (n := n) (k := ifd (inx t n p)) (p := p + 1) (ifd_2 _)
      unfold ior1 at h
      split at h
      · cases h
      · split at h
        · cases h; exact ⟨hk2, ⟨by dsimp only; omega, h1.2⟩, ⟨by dsimp only; omega, by dsimp only; omega⟩⟩
        · split at h
          · have h3 := inum_v (t := t) (n := n) (k := isd (inx t n p)) (p := (inum t n (ifd (inx t n p)) (p + 1) (-1)).2 + 1) (isd_2 _)
            unfold ior2 at h
            split at h
            · cases h
            · cases h; exact ⟨hk2, ⟨by dsimp only; omega, h1.2⟩, ⟨by dsimp only; omega, h3.2⟩⟩
          · cases h
theorem ipr_v {t : Nat → Int} {n : Nat} : ∀ (m p : Nat), (∀ o ∈ (ipr t n m p).2.2, oOk o) ∧ ((ipr t n m p).2.2 ≠ [] → p < n ∧ 2 * (ipr t n m p).2.2.length + p ≤ n + 1) ∧ ((ipr t n m p).1 = true → (ipr t n m p).2.2 ≠ [])
  | 0, p => ⟨(fun o h => by cases h), (fun h => absurd rfl h), (fun h => by cases h)⟩
  | m + 1, p => by
    cases ho : iord t n p with
    | mk oo p2 =>
      cases oo with
      | none =>
        rw [ipr_none ho]
        exact ⟨(fun o h => by cases h), (fun h => absurd rfl h), (fun h => by cases h)⟩
      | some o =>
        have hv := iord_v ho
        have hq := iord_q ho
        have h1 : ∀ o2 ∈ [o], oOk o2 := fun o2 h2 => by rw [List.mem_singleton.mp h2]; exact hv
        by_cases h2 : n ≤ p2
        · rw [ipr_end ho h2]
          exact ⟨h1, fun _ => ⟨hq.2.2, by show 2 * 1 + p ≤ n + 1; omega⟩, fun _ => List.cons_ne_nil _ _⟩
        · by_cases h3 : inx t n p2 = 59
          · rw [ipr_go ho h2 h3]
            obtain ⟨i1, i2, i3⟩ := ipr_v (t := t) (n := n) m (p2 + 1)
            refine ⟨fun o2 h4 => ?_, fun _ => ⟨hq.2.2, ?_⟩, fun _ => List.cons_ne_nil _ _⟩
            · rcases List.mem_cons.mp h4 with z | z
              · rw [z]; exact hv
              · exact i1 o2 z
            · show 2 * ((ipr t n m (p2 + 1)).2.2.length + 1) + p ≤ n + 1
              by_cases z : (ipr t n m (p2 + 1)).2.2 = []
              · rw [z]; show 2 * (0 + 1) + p ≤ n + 1; omega
              · have := i2 z; omega
          · rw [ipr_stop ho h2 h3]
            exact ⟨h1, fun _ => ⟨hq.2.2, by show 2 * 1 + p ≤ n + 1; omega⟩, fun _ => List.cons_ne_nil _ _⟩
theorem oAt {L : List (Int × Int × Int)} {i : Nat} (h : i < L.length) (hv : ∀ o ∈ L, oOk o) : okind (oK L i) ∧ (0 ≤ oF L i ∧ oF L i ≤ 99) ∧ (0 ≤ oS L i ∧ oS L i ≤ 99) := by
  have e : L.getD i (0, 0, 0) = L[i] := by rw [List.getD_eq_getElem?_getD, List.getElem?_eq_getElem h]; rfl
  have := hv _ (List.getElem_mem h)
  unfold oK oF oS
  rw [e]
  exact this
theorem crO_cg {K F S K2 F2 S2 : Nat → Int} : ∀ (m i : Nat) (c : Nat → Int), (∀ j, i ≤ j → j < i + m → K2 j = K j ∧ F2 j = F j ∧ S2 j = S j) → crO K2 F2 S2 m i c = crO K F S m i c
  | 0, _, _, _ => rfl
  | m + 1, i, c, h => by
    obtain ⟨h1, h2, h3⟩ := h i (Nat.le_refl _) (by omega)
    unfold crO
    rw [h1, h2, h3]
    split
    · split
      · rfl
      · exact crO_cg m (i + 1) _ (fun j q1 q2 => h j (by omega) (by omega))
    · rfl
theorem crO_t {K F S : Nat → Int} : ∀ (m i : Nat) (c : Nat → Int), (∃ q, (crO K F S m i c).2.1 = some q ∧ (crO K F S m i c).1 = 1) ∨ (crO K F S m i c).2.1 = none ∧ ((crO K F S m i c).1 = 2 ∨ (crO K F S m i c).1 = 0)
  | 0, _, _ => Or.inr ⟨rfl, Or.inr rfl⟩
  | m + 1, i, c => by
    by_cases h : oNm c (K i) (F i) (S i) = true
    · cases h2 : oRf c (K i) (F i) (S i) with
      | some x => rw [crO_r h h2]; exact Or.inl ⟨x, rfl, rfl⟩
      | none => rw [crO_g h h2]; exact crO_t m (i + 1) _
    · rw [crO_w h]; exact Or.inr ⟨rfl, Or.inl rfl⟩
theorem CR.parse {D : Int} {c : Nat → Int} {R : aQ} {σ : Nat → Nat → Int} (h : CR R σ) : CR (rdR R (if (rdP R).1 = true then -1 else ((rdP R).2.1 : Int))) (ipz σ R.2.2.2.1.1 R.2.2.2.1.2) := by
  obtain ⟨⟨p, h1, h2, h3⟩, h4, h5, h6, h7, h8, h9⟩ := h
  have e : ∀ k, k ≠ 15 → k ≠ 17 → k ≠ 18 → k ≠ 19 → ipz σ R.2.2.2.1.1 R.2.2.2.1.2 k = σ k := fun k a1 a2 a3 a4 => ipz_n a1 a2 a3 a4
  refine ⟨⟨p, h1, by rw [e 12 (by decide) (by decide) (by decide) (by decide)]; exact h2, fun i r hr => by rw [e _ (by omega) (by omega) (by omega) (by omega)]; exact h3 i r hr⟩, by rw [e 12 (by decide) (by decide) (by decide) (by decide)]; exact h4, ?_, by rw [e 14 (by decide) (by decide) (by decide) (by decide)]; exact h6, ⟨ipz_4, by rw [e 16 (by decide) (by decide) (by decide) (by decide)]; exact h7.2⟩, ipz_7, fun r hr j hj => by rw [e _ (by omega) (by omega) (by omega) (by omega)]; exact h9 r hr j hj⟩
  show (match R.2.1 with | none => _ | some v => _)
  rw [e 0 (by decide) (by decide) (by decide) (by decide), e 22 (by decide) (by decide) (by decide) (by decide)]; exact h5
theorem CR.mark {R : aQ} {σ : Nat → Nat → Int} {c : Nat → Int} {p : Nat} (h : CR R σ) (hp : p < 9) (hp0 : σ 12 1 = (p : Int)) (hl : R.1.length ≤ 8) (h0 : ∀ j, 181 ≤ j → c j = 0) : CR R (zs σ (23 + p) c) := by
  obtain ⟨⟨p', h1, h2, h3⟩, h4, h5, h6, h7, h8, h9⟩ := h
  have hpp : p' = p := by omega
  subst hpp
  have e : ∀ k, k ≠ 23 + p' → zs σ (23 + p') c k = σ k := fun k a1 => zs_ne a1 _
  refine ⟨⟨p', h1, by rw [e 12 (by omega)]; exact h2, fun i r hr => ?_⟩, by rw [e 12 (by omega)]; exact h4, ?_, by rw [e 14 (by omega)]; exact h6, by rw [e 15 (by omega), e 16 (by omega)]; exact h7, by rw [e 15 (by omega)]; exact h8, fun r hr j hj => ?_⟩
  · have hi : i < R.1.length := (List.getElem?_eq_some_iff.mp hr).1
    rw [e _ (by omega)]; exact h3 i r hr
  · rw [e 0 (by omega), e 22 (by omega)]; exact h5
  · by_cases q : 22 + r = 23 + p'
    · rw [q, zs_eq]; exact h0 j hj
    · rw [e _ q]; exact h9 r hr j hj
