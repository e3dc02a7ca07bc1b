/-! ===== orders as operations ===== -/
def aOp (k f s : Int) (c : Nat → Int) (R : aQ) : aR := if k = 115 then aSew true c R f s else if k = 119 then aWear true c R f s else if k = 107 then aPack true c R f s else if k = 108 then aLoad true c R f else if k = 117 then aUnload true c R else if k = 103 then aGoOn true c R f else aPass true c R f
section AOP
variable {c : Nat → Int} {R : aQ} {k f s : Int}
theorem aOp_115 : aOp 115 f s c R = aSew true c R f s := if_pos rfl
theorem aOp_119 : aOp 119 f s c R = aWear true c R f s := by unfold aOp; rw [if_neg (by decide), if_pos rfl]
theorem aOp_107 : aOp 107 f s c R = aPack true c R f s := by unfold aOp; rw [if_neg (by decide), if_neg (by decide), if_pos rfl]
theorem aOp_108 : aOp 108 f s c R = aLoad true c R f := by unfold aOp; rw [if_neg (by decide), if_neg (by decide), if_neg (by decide), if_pos rfl]
theorem aOp_117 : aOp 117 f s c R = aUnload true c R := by unfold aOp; rw [if_neg (by decide), if_neg (by decide), if_neg (by decide), if_neg (by decide), if_pos rfl]
theorem aOp_103 : aOp 103 f s c R = aGoOn true c R f := by unfold aOp; rw [if_neg (by decide), if_neg (by decide), if_neg (by decide), if_neg (by decide), if_neg (by decide), if_pos rfl]
theorem aOp_112 : aOp 112 f s c R = aPass true c R f := by unfold aOp; rw [if_neg (by decide), if_neg (by decide), if_neg (by decide), if_neg (by decide), if_neg (by decide), if_neg (by decide)]
theorem aOp_w (hk : okind k) (h : ¬ oNm c k f s = true) : ∃ e, aOp k f s c R = (.inr e, c, R) ∧ e ≠ eUO := by
  rcases hk with rfl | rfl | rfl | rfl | rfl | rfl | rfl
  · rw [oNm_115] at h; rw [aOp_115]; unfold aSew
    have h2 := fun z => h (decide_eq_true z)
    by_cases h3 : hW c f
    · rw [if_pos h3, if_neg (fun z => h2 ⟨h3, z⟩)]; exact ⟨eIB, rfl, ne_IB_UO⟩
    · rw [if_neg h3]; exact ⟨eIB, rfl, ne_IB_UO⟩
  · rw [oNm_119] at h; rw [aOp_119]; unfold aWear
    have h2 := fun z => h (decide_eq_true z)
    by_cases h3 : hA c f
    · rw [if_pos h3, if_neg (fun z => h2 ⟨h3, z⟩)]; exact ⟨eIB, rfl, ne_IB_UO⟩
    · rw [if_neg h3]; exact ⟨eIB, rfl, ne_IB_UO⟩
  · rw [oNm_107] at h; rw [aOp_107]; unfold aPack
    have h2 := fun z => h (decide_eq_true z)
    by_cases h3 : hC c f
    · rw [if_pos h3, if_neg (fun z => h2 ⟨h3, z⟩)]; exact ⟨eIB, rfl, ne_IB_UO⟩
    · rw [if_neg h3]; exact ⟨eIB, rfl, ne_IB_UO⟩
  · rw [oNm_108] at h; rw [aOp_108]; unfold aLoad
    rw [if_neg (fun z => h (decide_eq_true z))]; exact ⟨eIB, rfl, ne_IB_UO⟩
  · rw [oNm_117] at h; exact absurd rfl h
  · rw [oNm_103] at h; rw [aOp_103]; unfold aGoOn
    rw [if_neg (fun z => h (decide_eq_true z))]; exact ⟨eIB, rfl, ne_IB_UO⟩
  · rw [oNm_112] at h; rw [aOp_112]; unfold aPass
    rw [if_neg (fun z => h (decide_eq_true z))]; exact ⟨eIA, rfl, ne_IA_UO⟩
theorem aOp_r {q : Int × Int} (hk : okind k) (h : oNm c k f s = true) (hr : oRf c k f s = some q) : aOp k f s c R = (.inr eUO, c, rfR q R) := by
  rcases hk with rfl | rfl | rfl | rfl | rfl | rfl | rfl
  · rw [oNm_115] at h; rw [oRf_115] at hr; rw [aOp_115]; unfold aSew
    have h2 := of_decide_eq_true h
    rw [if_pos h2.1, if_pos h2.2, hr]; rfl
  · rw [oNm_119] at h; rw [oRf_119] at hr; rw [aOp_119]; unfold aWear
    have h2 := of_decide_eq_true h
    rw [if_pos h2.1, if_pos h2.2, hr]; rfl
  · rw [oNm_107] at h; rw [oRf_107] at hr; rw [aOp_107]; unfold aPack
    have h2 := of_decide_eq_true h
    rw [if_pos h2.1, if_pos h2.2, hr]; rfl
  · rw [oNm_108] at h; rw [oRf_108] at hr; rw [aOp_108]; unfold aLoad
    rw [if_pos (of_decide_eq_true h), hr]; rfl
  · rw [oRf_117] at hr; rw [aOp_117]; unfold aUnload
    rw [hr]; rfl
  · rw [oNm_103] at h; rw [oRf_103] at hr; rw [aOp_103]; unfold aGoOn
    rw [if_pos (of_decide_eq_true h), hr]; rfl
  · rw [oRf_112] at hr; cases hr
theorem aOp_g (hk : okind k) (h : oNm c k f s = true) (hr : oRf c k f s = none) : ∃ v, aOp k f s c R = (.inl v, oDo c k f s, R) := by
  rcases hk with rfl | rfl | rfl | rfl | rfl | rfl | rfl
  · rw [oNm_115] at h; rw [oRf_115] at hr; rw [aOp_115, oDo_115]; unfold aSew
    have h2 := of_decide_eq_true h
    rw [if_pos h2.1, if_pos h2.2, hr]; exact ⟨_, rfl⟩
  · rw [oNm_119] at h; rw [oRf_119] at hr; rw [aOp_119, oDo_119]; unfold aWear
    have h2 := of_decide_eq_true h
    rw [if_pos h2.1, if_pos h2.2, hr]; exact ⟨_, rfl⟩
  · rw [oNm_107] at h; rw [oRf_107] at hr; rw [aOp_107, oDo_107]; unfold aPack
    have h2 := of_decide_eq_true h
    rw [if_pos h2.1, if_pos h2.2, hr]; exact ⟨_, rfl⟩
  · rw [oNm_108] at h; rw [oRf_108] at hr; rw [aOp_108, oDo_108]; unfold aLoad
    rw [if_pos (of_decide_eq_true h), hr]; exact ⟨_, rfl⟩
  · rw [oRf_117] at hr; rw [aOp_117, oDo_117]; unfold aUnload
    rw [hr]; exact ⟨_, rfl⟩
  · rw [oNm_103] at h; rw [oRf_103] at hr; rw [aOp_103, oDo_103]; unfold aGoOn
    rw [if_pos (of_decide_eq_true h), hr]; exact ⟨_, rfl⟩
  · rw [oNm_112] at h; rw [aOp_112, oDo_112]; unfold aPass
    rw [if_pos (of_decide_eq_true h)]; exact ⟨_, rfl⟩
end AOP
/-- which exceptions an operation has -/
theorem hdd_x {r : zr} {c c' : Nat → Int} {R R' : aQ} {v : Int} {e : String} (h : (hdd r c R (okk v c' R')).1 = .inr e) : e = eUO := by
  cases r with
  | none => cases h
  | some q => cases h; rfl
theorem ifx {P : Prop} [Decidable P] {A B : aR} {e : String} {Q : String → Prop} (hA : A.1 = .inr e → Q e) (hB : B.1 = .inr e → Q e) (h : (if P then A else B).1 = .inr e) : Q e := by
  split at h
  · exact hA h
  · exact hB h
def KC (out : aR) (σ : Nat → Nat → Int) (l : (Nat → Int64) × (Nat → UInt64)) : zK := fun o s => ∃ (v : Int) (σ' : Nat → Nat → Int), o = .inl (some (vi v)) ∧ s = (zs σ' 33 (gm out.2.1), l) ∧ MR out.2.2 σ' ∧ (match out.1 with
  | .inl _ => σ' 32 7 = 0 ∧ Fo σ σ' (σ 32 8)
  | .inr e => (1 ≤ σ' 32 7 ∧ σ' 32 7 ≤ 9) ∧ Fo σ σ' (if e = eUO then 1 else σ 32 8))
theorem PM.kc {out : aR} {cd : String → Int} {σ : Nat → Nat → Int} {l : (Nat → Int64) × (Nat → UInt64)} {o : zO} {s : zT} (h : PM out cd σ l o s) (hcd : ∀ e, out.1 = .inr e → 1 ≤ cd e ∧ cd e ≤ 9) : KC out σ l o s := by
  obtain ⟨v, σ', h1, h2, h3, h4⟩ := h
  refine ⟨v, σ', h1, h2, h3, ?_⟩
  cases hq : out.1 with
  | inl a => rw [hq] at h4; exact ⟨h4.2.1, h4.2.2⟩
  | inr e => rw [hq] at h4; exact ⟨by rw [h4.1]; exact hcd e hq, h4.2⟩
theorem cdx2 {a b e : String} (hne : b ≠ a) (h : e = a ∨ e = b) : 1 ≤ cd2 a b e ∧ cd2 a b e ≤ 9 := by
  rcases h with rfl | rfl
  · rw [cd2_1]; decide
  · rw [cd2_2 hne]; decide
theorem cdx1 {a e : String} (h : e = a) : 1 ≤ cd1 a e ∧ cd1 a e ≤ 9 := by subst h; rw [cd1_1]; decide
theorem thr_x {x e : String} {c : Nat → Int} {R : aQ} (h : (thr x c R).1 = .inr e) : e = x := by cases h; rfl
section XS
variable {c : Nat → Int} {R : aQ} {x y : Int} {e : String} {w : Bool}
theorem aSew_x (h : (aSew w c R x y).1 = .inr e) : e = eIB ∨ e = eUO := by
  unfold aSew at h
  exact ifx (Q := fun e => e = eIB ∨ e = eUO) (fun h => ifx (Q := fun e => e = eIB ∨ e = eUO) (fun h => Or.inr (hdd_x h)) (fun h => Or.inl (thr_x h)) h) (fun h => Or.inl (thr_x h)) h
theorem aWear_x (h : (aWear w c R x y).1 = .inr e) : e = eIB ∨ e = eUO := by
  unfold aWear at h
  exact ifx (Q := fun e => e = eIB ∨ e = eUO) (fun h => ifx (Q := fun e => e = eIB ∨ e = eUO) (fun h => Or.inr (hdd_x h)) (fun h => Or.inl (thr_x h)) h) (fun h => Or.inl (thr_x h)) h
theorem aPack_x (h : (aPack w c R x y).1 = .inr e) : e = eIB ∨ e = eUO := by
  unfold aPack at h
  exact ifx (Q := fun e => e = eIB ∨ e = eUO) (fun h => ifx (Q := fun e => e = eIB ∨ e = eUO) (fun h => Or.inr (hdd_x h)) (fun h => Or.inl (thr_x h)) h) (fun h => Or.inl (thr_x h)) h
theorem aLoad_x (h : (aLoad w c R x).1 = .inr e) : e = eIB ∨ e = eUO := by
  unfold aLoad at h
  exact ifx (Q := fun e => e = eIB ∨ e = eUO) (fun h => Or.inr (hdd_x h)) (fun h => Or.inl (thr_x h)) h
theorem aGoOn_x (h : (aGoOn w c R x).1 = .inr e) : e = eIB ∨ e = eUO := by
  unfold aGoOn at h
  exact ifx (Q := fun e => e = eIB ∨ e = eUO) (fun h => Or.inr (hdd_x h)) (fun h => Or.inl (thr_x h)) h
theorem aUnload_x (h : (aUnload w c R).1 = .inr e) : e = eUO := by
  unfold aUnload at h; exact hdd_x h
theorem aPass_x (h : (aPass w c R x).1 = .inr e) : e = eIA := by
  unfold aPass at h
  exact ifx (Q := fun e => e = eIA) (fun h => by cases h) (fun h => thr_x h) h
end XS
/-- the model's number of orders -/
def tm (τ : Nat → Nat → Int) (q : Nat) : Nat → Nat → Int := zs τ 32 (va_up (τ 32) 16 (q : Int))
section TM
variable {τ : Nat → Nat → Int} {f : Nat → Int} {p q i k : Nat}
theorem tm_16 : tm τ q 32 16 = (q : Int) := by unfold tm; rw [zs_eq, va_e, if_pos rfl]
theorem tm_32 (h : i ≠ 16) : tm τ q 32 i = τ 32 i := by unfold tm; rw [zs_eq, vne h]
theorem tm_n (h : k ≠ 32) : tm τ q k = τ k := by unfold tm; rw [zs_ne h]
theorem tm_up {q2 : Nat} : zup (tS (tm τ q) f p) 32 16 (q2 : Int) = tS (tm τ q2) f p := by
  unfold tS tm
  rw [zup_zs, zs_zs, zs_eq, zs_eq, zs_eq]
  rw [zs_comm (show 32 ≠ 38 by decide), zs_zs, zs_comm (show 32 ≠ 38 by decide), zs_zs]
  congr 1
  rw [va_comm (show 14 ≠ 16 by decide), va_va]
end TM
theorem inum_m {t : Nat → Int} {n : Nat} : ∀ (k p : Nat) (v : Int), p ≤ n → (inum t n k p v).2 ≤ n
  | 0, p, v, h => h
  | k + 1, p, v, h => by
    unfold inum
    split
    · rename_i hd
      refine inum_m k (p + 1) _ ?_
      by_cases hp : p < n
      · omega
      · unfold inx at hd; rw [if_neg hp] at hd; omega
    · exact h
theorem inx_m {t : Nat → Int} {n p : Nat} {w : Int} (hw : 1 ≤ w) (h : inx t n p = w) : p + 1 ≤ n := by
  by_cases hp : p < n
  · exact hp
  · unfold inx at h; rw [if_neg hp] at h; omega
theorem iord_m {t : Nat → Int} {n p p2 : Nat} {o : Int × Int × Int} (h : iord t n p = (some o, p2)) : p2 ≤ n := by
  have hq := iord_q h
  unfold iord at h
  split at h
  · cases h
  · split at h
    · cases h; omega
    · have h1 := inum_m (t := t) (n := n) (ifd (inx t n p)) (p + 1) (-1) (by omega)
      unfold ior1 at h
      split at h
      · cases h
      · split at h
        · cases h; exact h1
        · rename_i hl
          split at h
          · rename_i hx
            have hl2 := ilnk_i (inx t n p)
            have h3 := inum_m (t := t) (n := n) (isd (inx t n p)) ((inum t n (ifd (inx t n p)) (p + 1) (-1)).2 + 1) (-1) (inx_m (w := ilnk (inx t n p)) (by omega) hx)
            unfold ior2 at h
            split at h
            · cases h
            · cases h; exact h3
          · cases h
