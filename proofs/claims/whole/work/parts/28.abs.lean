/-! ===== the abstract state behind a room: what is kept, saved, refused, read ===== -/
abbrev aQ : Type := List (Nat → Int) × Option (Nat → Int) × (Int × Int) × ((Nat → Int) × Nat) × Int
abbrev aR : Type := (Int ⊕ String) × (Nat → Int) × aQ
abbrev eIA : String := "java/lang/IllegalArgumentException"
abbrev eUO : String := "java/lang/UnsupportedOperationException"
abbrev eIB : String := "java/lang/IndexOutOfBoundsException"
abbrev eNS : String := "java/util/NoSuchElementException"
abbrev eIS : String := "java/lang/IllegalStateException"
abbrev eAE : String := "java/lang/ArithmeticException"
def kpR (c : Nat → Int) (R : aQ) : aQ := ((c :: R.1).take 8, R.2)
def kpw (w : Bool) (c : Nat → Int) (R : aQ) : aQ := match w with
  | true => R
  | false => kpR c R
def rfR (q : Int × Int) (R : aQ) : aQ := (R.1, R.2.1, q, R.2.2.2)
def thr (e : String) (c : Nat → Int) (R : aQ) : aR := (.inr e, c, R)
def okk (v : Int) (c : Nat → Int) (R : aQ) : aR := (.inl v, c, R)
def hdd (r : zr) (c : Nat → Int) (R : aQ) (k : aR) : aR := match r with
  | none => k
  | some q => (.inr eUO, c, rfR q R)
def fnd (v : Int) (c : Nat → Int) (R : aQ) : aR := if v = -1 then thr eNS c R else okk v c R
abbrev hC (c : Nat → Int) (k : Int) : Prop := 0 ≤ k ∧ k < c 8
abbrev hA (c : Nat → Int) (k : Int) : Prop := 0 ≤ k ∧ k < c 9
abbrev hW (c : Nat → Int) (k : Int) : Prop := 0 ≤ k ∧ k < c 10
abbrev hT (c : Nat → Int) (k : Int) : Prop := 0 ≤ k ∧ k < c 11
abbrev hP (k : Int) : Prop := 0 ≤ k ∧ k < 32
section OPS
variable (w : Bool) (c : Nat → Int) (R : aQ)
def aCoat (x : Int) : aR := if 30 ≤ x ∧ x ≤ 60 then hdd (rMore (c 8) 12) c R (okk (c 8) (sCoat c x (c 8).toNat) (kpw w c R)) else thr eIA c R
def aAct (x y : Int) : aR := if 30 ≤ x ∧ x ≤ 60 then if 0 ≤ y ∧ y ≤ 3 then hdd (rMore (c 9) 6) c R (okk (c 9) (sAct c x y (c 9).toNat) (kpw w c R)) else thr eIA c R else thr eIA c R
def aWear (a k : Int) : aR := if hA c a then if hC c k then hdd (rWear c a k.toNat) c R (okk (c (97 + a.toNat)) (sGive c a.toNat k.toNat) (kpw w c R)) else thr eIB c R else thr eIB c R
def aRip (k n : Int) : aR := if hC c k then if 1 ≤ n ∧ n ≤ 9 then okk (c (25 + k.toNat) + zmn n (9 - c (25 + k.toNat))) (sRip c k.toNat n) (kpw w c R) else thr eIA c R else thr eIB c R
def aLose (k n : Int) : aR := if hC c k then if 1 ≤ n ∧ n ≤ 60 then okk (c (37 + k.toNat) + zmn n (60 - c (37 + k.toNat))) (sLose c k.toNat n) (kpw w c R) else thr eIA c R else thr eIB c R
def aCoatOf (k x : Int) : aR := if hC c k then if 0 ≤ x ∧ x ≤ 5 then okk (c (13 + 12 * x.toNat + k.toNat)) c R else thr eIA c R else thr eIB c R
def aActOf (a x : Int) : aR := if hA c a then if 0 ≤ x ∧ x ≤ 3 then okk (c (85 + 6 * x.toNat + a.toNat)) c R else thr eIA c R else thr eIB c R
def aOpen (k a : Int) : aR := if hC c k then if hA c a then okk (if zopen c k.toNat a.toNat then 1 else 0) c R else thr eIB c R else thr eIB c R
def aBest (a : Int) : aR := if hA c a then fnd (zbest c a.toNat 0 (c 8).toNat (-1)) c R else thr eIB c R
def aWork (k a : Int) : aR := if hC c k then if hA c a then fnd (if 70 < c (85 + a.toNat) then -1 else zhrs (c (25 + k.toNat)) (c (37 + k.toNat)) (c (13 + k.toNat)) (c (85 + a.toNat))) c R else thr eIB c R else thr eIB c R
def aWoman : aR := hdd (rMore (c 10) 4) c R (okk (c 10) (sWoman c (c 10).toNat) (kpw w c R))
def aWomanOf (a x : Int) : aR := if hW c a then if 0 ≤ x ∧ x ≤ 2 then okk (c (109 + 4 * x.toNat + a.toNat)) c R else thr eIA c R else thr eIB c R
def aBring (x n : Int) : aR := if 0 ≤ x ∧ x ≤ 2 then if 1 ≤ n ∧ n ≤ 99 then okk (c (1 + x.toNat) + zmn n (999 - c (1 + x.toNat))) (sStore c x.toNat (zmn n (999 - c (1 + x.toNat)))) (kpw w c R) else thr eIA c R else thr eIA c R
def aSew (a k : Int) : aR := if hW c a then if hC c k then hdd (rMend c a.toNat k.toNat) c R (okk (c (25 + k.toNat) - 1) (sMend c a.toNat k.toNat) (kpw w c R)) else thr eIB c R else thr eIB c R
def aSpangle (a k n : Int) : aR := if hW c a then if hC c k then if 1 ≤ n ∧ n ≤ 60 then hdd (rSew c a.toNat k.toNat n) c R (okk (c (37 + k.toNat) - n) (sSew c a.toNat k.toNat n) (kpw w c R)) else thr eIA c R else thr eIB c R else thr eIB c R
def aLetOut (a k : Int) : aR := if hW c a then if hC c k then hdd (rWiden c a.toNat k.toNat) c R (okk (c (13 + k.toNat) + 1) (sWiden c a.toNat k.toNat) (kpw w c R)) else thr eIB c R else thr eIB c R
def aTear (p : Int) : aR := if hP p then okk (zsum (va_up c (149 + p.toNat) 1) 149 32) (va_up c (149 + p.toNat) 1) (kpw w c R) else thr eIB c R
def aPatch (a : Int) : aR := if hW c a then hdd (rPatch c a.toNat) c R (okk (zfst (fun p => c (149 + p)) 0 32) (sPatch c a.toNat (zfst (fun p => c (149 + p)) 0 32).toNat) (kpw w c R)) else thr eIB c R
def aTorn (p : Int) : aR := if hP p then fnd (zfst (fun q => c (149 + q)) p.toNat (32 - p.toNat)) c R else thr eIB c R
def aTrunk : aR := hdd (rMore (c 11) 4) c R (okk (c 11) (sTrunk c (c 11).toNat) (kpw w c R))
def aPack (k t : Int) : aR := if hC c k then if hT c t then hdd (rPack c k.toNat t.toNat) c R (okk (c (121 + t.toNat) + 1) (sPack c k.toNat t.toNat (c (121 + t.toNat)).toNat) (kpw w c R)) else thr eIB c R else thr eIB c R
abbrev plc (k : Nat) : Int := zfnd (fun p => zcoat c (c (61 + k)).toNat (p : Int)) (k : Int) 0 5
def aUnpack (k : Int) : aR := if hC c k then hdd (rUnpack c k.toNat) c R (okk (plc c k.toNat) (sOut c k.toNat (c (61 + k.toNat)).toNat (plc c k.toNat).toNat (c (121 + (c (61 + k.toNat)).toNat) + (-1)).toNat) (kpw w c R)) else thr eIB c R
def aPacked (t y : Int) : aR := if hT c t then fnd (zcoat c t.toNat y) c R else thr eIB c R
def aLoad (t : Int) : aR := if hT c t then hdd (rLoaded c t) c R (okk (c 12 + 1) (sLoad c t.toNat (c 12).toNat) (kpw w c R)) else thr eIB c R
def aUnload : aR := hdd (rUnload c) c R (okk (c 125) (sUnload c (c 12 + (-1)).toNat) (kpw w c R))
def aOnTrain (y : Int) : aR := fnd (ztrain c y) c R
def aUnloads (k : Int) : aR := if hC c k then okk (1 + zonT c (c (61 + k.toNat))) c R else thr eIB c R
def aGoOn (a : Int) : aR := if hA c a then hdd (rGo c a.toNat) c R (okk (sLoseV (sShow2 c a.toNat (c (97 + a.toNat)).toNat) (c (97 + a.toNat)).toNat 4) (sShow c a.toNat (c (97 + a.toNat)).toNat) (kpw w c R)) else thr eIB c R
def aTight (a : Int) : aR := if hA c a then fnd (zdtt c a.toNat) c R else thr eIB c R
def aPass (n : Int) : aR := if 1 ≤ n ∧ n ≤ 60 then okk (zpassN n.toNat c 0) (zpassC n.toNat c) (kpw w c R) else thr eIA c R
def aAppend (x : Int) : aR := if 60 ≤ R.2.2.2.1.2 then thr eIS c R else okk ((R.2.2.2.1.2 : Int) + 1) c (R.1, R.2.1, R.2.2.1, (va_up R.2.2.2.1.1 R.2.2.2.1.2 x, R.2.2.2.1.2 + 1), R.2.2.2.2)
def aErr : aR := okk R.2.2.2.2 c R
def aRefusal (b : Int) : aR := if R.2.2.1.1 = 0 then thr eNS c R else okk (if b = 0 then R.2.2.1.1 else R.2.2.1.2) c R
def aSign (k : Int) : aR := if hC c k then okk (zsign c k.toNat) c R else thr eIB c R
def aAccount (x : Int) : aR := if x = 17 then okk (R.2.2.2.1.2 : Int) c R else if x = 18 then okk (R.1.length : Int) c R else if 0 ≤ x ∧ x ≤ 16 then okk (zacc c x) c R else thr eIA c R
def aWell : aR := okk 1 c R
def aUndo : aR := match R.1 with
  | [] => thr eIS c R
  | r :: H => okk (H.length : Int) r (H, R.2)
def aSave : aR := okk (c 8) c (R.1, some c, R.2.2)
def aRestore : aR := match R.2.1 with
  | none => thr eIS c R
  | some v => okk (v 8) v ([], R.2)
/-- the rows of an order list -/
def oK (L : List (Int × Int × Int)) (i : Nat) : Int := (L.getD i (0, 0, 0)).1
def oF (L : List (Int × Int × Int)) (i : Nat) : Int := (L.getD i (0, 0, 0)).2.1
def oS (L : List (Int × Int × Int)) (i : Nat) : Int := (L.getD i (0, 0, 0)).2.2
abbrev rdP : Bool × Nat × List (Int × Int × Int) := ipr R.2.2.2.1.1 R.2.2.2.1.2 61 0
abbrev rdL : List (Int × Int × Int) := (rdP R).2.2
abbrev rdO : Int × zr × (Nat → Int) := crO (oK (rdL R)) (oF (rdL R)) (oS (rdL R)) (rdL R).length 0 c
def rdR (e : Int) : aQ := (R.1, R.2.1, R.2.2.1, (R.2.2.2.1.1, 0), e)
def aRead : aR := if (rdP R).1 = true then (match (rdO c R).2.1 with
    | some q => (.inr eUO, c, rfR q (rdR R (-1)))
    | none => if (rdO c R).1 = 2 then thr eIA c (rdR R (-1)) else okk ((rdL R).length : Int) (rdO c R).2.2 (kpR c (rdR R (-1)))) else thr eIA c (rdR R ((rdP R).2.1 : Int))
end OPS
/-! ===== the class's cells, but the room's own row ===== -/
def CR (R : aQ) (σ : Nat → Nat → Int) : Prop :=
  (∃ p : Nat, p < 9 ∧ σ 12 1 = (p : Int) ∧ ∀ (i : Nat) (r : Nat → Int), R.1[i]? = some r → σ (23 + (p + 8 - i) % 9) = r) ∧ σ 12 2 = (R.1.length : Int) ∧ (match R.2.1 with
    | none => σ 0 5 = 0
    | some v => σ 0 5 = 1 ∧ σ 22 = v) ∧ (σ 14 0 = R.2.2.1.1 ∧ σ 14 1 = R.2.2.1.2) ∧ (σ 15 4 = (R.2.2.2.1.2 : Int) ∧ σ 16 = R.2.2.2.1.1) ∧ σ 15 7 = R.2.2.2.2 ∧ ∀ r, r < 10 → ∀ j, 181 ≤ j → σ (22 + r) j = 0
def AI (D : Int) (c : Nat → Int) (R : aQ) : Prop :=
  Inv D c ∧ (∀ r ∈ R.1, Inv D r) ∧ R.1.length ≤ 8 ∧ (∀ v, R.2.1 = some v → Inv D v) ∧ R.2.2.2.1.2 ≤ 60 ∧ iT R.2.2.2.1.1 R.2.2.2.1.2 ∧ zi R.2.2.1.1 ∧ zi R.2.2.2.2
theorem CR.cg {R : aQ} {σ σ' : Nat → Nat → Int} (h : CR R σ) (e : ∀ k, k = 0 ∨ k = 12 ∨ k = 14 ∨ k = 15 ∨ k = 16 ∨ 22 ≤ k ∧ k < 32 → σ' k = σ k) : CR R σ' := by
  obtain ⟨⟨p, h1, h2, h3⟩, h4, h5, h6, h7, h8, h9⟩ := h
  refine ⟨⟨p, h1, by rw [e 12 (by omega)]; exact h2, fun i r hr => by rw [e _ (by omega)]; exact h3 i r hr⟩, by rw [e 12 (by omega)]; exact h4, ?_, by rw [e 14 (by omega)]; exact h6, by rw [e 15 (by omega), e 16 (by omega)]; exact h7, by rw [e 15 (by omega)]; exact h8, fun r hr j hj => by rw [e _ (by omega)]; exact h9 r hr j hj⟩
  rw [e 0 (by omega), e 22 (by omega)]
  exact h5
theorem CR.ref {R : aQ} {σ : Nat → Nat → Int} (h : CR R σ) (q : Int × Int) : CR (rfR q R) (zrf σ q.1 q.2) := by
  obtain ⟨⟨p, h1, h2, h3⟩, h4, h5, h6, h7, h8, h9⟩ := h
  have e : ∀ k, k ≠ 14 → zrf σ q.1 q.2 k = σ k := fun k hk => zs_ne hk _
  refine ⟨⟨p, h1, by rw [e 12 (by omega)]; exact h2, fun i r hr => by rw [e _ (by omega)]; exact h3 i r hr⟩, by rw [e 12 (by omega)]; exact h4, ?_, ⟨?_, ?_⟩, by rw [e 15 (by omega), e 16 (by omega)]; exact h7, by rw [e 15 (by omega)]; exact h8, fun r hr j hj => by rw [e _ (by omega)]; exact h9 r hr j hj⟩
  · rw [e 0 (by omega), e 22 (by omega)]; exact h5
  · unfold zrf; rw [zs_eq, vne (by decide), va_e, if_pos rfl]; rfl
  · unfold zrf; rw [zs_eq, va_e, if_pos rfl]; rfl
/-- frames: the model's cells -/
abbrev Fr (σ σ' : Nat → Nat → Int) : Prop := ∀ k, 32 ≤ k → σ' k = σ k
theorem Fr.ref {σ : Nat → Nat → Int} (q : Int × Int) : Fr σ (zrf σ q.1 q.2) := fun k hk => zs_ne (by omega) _
theorem CR.keep {R : aQ} {σ : Nat → Nat → Int} {c : Nat → Int} {p : Nat} (h : CR R σ) (hp : p < 9) (hp0 : σ 12 1 = (p : Int)) (hl : R.1.length ≤ 8) (h0 : ∀ j, 181 ≤ j → c j = 0) : CR (kpR c R) (zkm (zs σ (23 + p) c)) := by
  obtain ⟨⟨p', h1, h2, h3⟩, h4, h5, h6, h7, h8, h9⟩ := h
  have hpp : p' = p := by omega
  subst hpp
  have e : ∀ k, k ≠ 12 → k ≠ 23 + p' → zkm (zs σ (23 + p') c) k = σ k := fun k a1 a2 => by unfold zkm; rw [zs_ne a1, zs_ne a2]
  have e12 : (zs σ (23 + p') c) 12 = σ 12 := zs_ne (by omega) _
  have ep : zkm (zs σ (23 + p') c) (23 + p') = c := by unfold zkm; rw [zs_ne (by omega), zs_eq]
  refine ⟨⟨if p' < 8 then p' + 1 else 0, by split <;> omega, ?_, fun i r hr => ?_⟩, ?_, ?_, ?_, ?_, ?_, fun r hr j hj => ?_⟩
  · unfold zkm; rw [zs_eq, vne (by decide), va_e, if_pos rfl, e12, h2]
    by_cases q : p' < 8
    · rw [if_pos (by omega), if_pos q]; omega
    · rw [if_neg (by omega), if_neg q]; rfl
  · have hr2 : ((c :: R.1).take 8)[i]? = some r := hr
    rw [List.getElem?_take] at hr2
    split at hr2
    · rename_i hi
      cases i with
      | zero =>
        have hcr : c = r := by simpa using hr2
        rw [← hcr]
        have : 23 + ((if p' < 8 then p' + 1 else 0) + 8 - 0) % 9 = 23 + p' := by split <;> omega
        rw [this]; exact ep
      | succ i =>
        have hr3 : R.1[i]? = some r := by simpa using hr2
        have : 23 + ((if p' < 8 then p' + 1 else 0) + 8 - (i + 1)) % 9 = 23 + (p' + 8 - i) % 9 := by split <;> omega
        rw [this, e _ (by omega) (by omega)]
        exact h3 i r hr3
    · cases hr2
  · show zkm (zs σ (23 + p') c) 12 2 = (((c :: R.1).take 8).length : Int)
    unfold zkm
    rw [zs_eq, va_e, if_pos rfl, e12, h4, List.length_take, List.length_cons]
    split <;> omega
  · show (match R.2.1 with | none => _ | some v => _)
    rw [e 0 (by omega) (by omega), e 22 (by omega) (by omega)]; exact h5
  · rw [e 14 (by omega) (by omega)]; exact h6
  · rw [e 15 (by omega) (by omega), e 16 (by omega) (by omega)]; exact h7
  · rw [e 15 (by omega) (by omega)]; exact h8
  · by_cases q : 22 + r = 23 + p'
    · rw [q, ep]; exact h0 j hj
    · rw [e _ (by omega) q]; exact h9 r hr j hj
theorem c_keep {E : zE} {D : Int} {R : aQ} {σ : Nat → Nat → Int} {c : Nat → Int} {l : (Nat → Int64) × (Nat → UInt64)} (hI : AI D c R) (h : CR R σ) : ∃ σ', Rn E yX1_keep (Cond.code yX1_keep cX1_keep 2 (Option.none : Option FieldType)) 3 [vr 12, vr 1] (zs σ 21 c, l) (zs σ' 21 c, l) ∧ CR (kpR c R) σ' ∧ Fr σ σ' := by
  obtain ⟨p, h1, h2, h3⟩ := h.1
  refine ⟨zkm (zs σ (23 + p) c), c_X1_keep h2 h1 (by rw [h.2.1]; have := hI.2.2.1; omega) (fun j hj => ?_), h.keep h1 h2 hI.2.2.1 hI.1.2.2.2.2.2, fun k hk => ?_⟩
  · have e := h.2.2.2.2.2.2 (1 + p) (by omega) j hj
    rw [show 22 + (1 + p) = 23 + p by omega] at e
    rw [e]; exact hI.1.2.2.2.2.2 j hj
  · unfold zkm; rw [zs_ne (by omega), zs_ne (by omega)]
/-- a public method: its answer or throw, and what it leaves -/
def PK (out : aR) (σ : Nat → Nat → Int) (l : (Nat → Int64) × (Nat → UInt64)) : zK := fun o s => (match out.1 with
  | .inl v => o = .inl (some (vi v))
  | .inr e => o = .inr e) ∧ ∃ σ', s = (zs σ' 21 out.2.1, l) ∧ CR out.2.2 σ' ∧ Fr σ σ'
def Pb (E : zE) (y : MethodName) (w : Cond) (d : Nat) (av : List vV) (σ : Nat → Nat → Int) (c : Nat → Int) (l : (Nat → Int64) × (Nat → UInt64)) (out : aR) : Prop := Ctr E y w d 1 av (zs σ 21 c, l) (PK out σ l)
theorem Pk_ok {out : aR} {σ : Nat → Nat → Int} {l : (Nat → Int64) × (Nat → UInt64)} {v v2 : Int} {c' : Nat → Int} {R' : aQ} (ho : out = (.inl v, c', R')) (hv : v = v2) (σ' : Nat → Nat → Int) {s : zT} (hs : s = (zs σ' 21 c', l)) (hc : CR R' σ') (hf : Fr σ σ') : PK out σ l (.inl (some (vi v2))) s := by
  subst ho; subst hv
  exact ⟨rfl, σ', hs, hc, hf⟩
theorem Pk_ex {out : aR} {σ : Nat → Nat → Int} {l : (Nat → Int64) × (Nat → UInt64)} {e : String} {c' : Nat → Int} {R' : aQ} (ho : out = (.inr e, c', R')) (σ' : Nat → Nat → Int) {s : zT} (hs : s = (zs σ' 21 c', l)) (hc : CR R' σ') (hf : Fr σ σ') : PK out σ l (.inr e) s := by
  subst ho
  exact ⟨rfl, σ', hs, hc, hf⟩
theorem Fr.rf (σ : Nat → Nat → Int) : Fr σ σ := fun _ _ => rfl
