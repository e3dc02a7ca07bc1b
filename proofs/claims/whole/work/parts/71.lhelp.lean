/-! ===== the law's helpers ===== -/
theorem ca_IA : Cond.castable eIA eIA ∈ zNw := List.mem_filter.mpr ⟨List.mem_of_getElem? (i := 216) (by decide +kernel), rfl⟩
theorem ca_UO : Cond.castable eUO eUO ∈ zNw := List.mem_filter.mpr ⟨List.mem_of_getElem? (i := 299) (by decide +kernel), rfl⟩
theorem ca_IB : Cond.castable eIB eIB ∈ zNw := List.mem_filter.mpr ⟨List.mem_of_getElem? (i := 392) (by decide +kernel), rfl⟩
theorem ca_NS : Cond.castable eNS eNS ∈ zNw := List.mem_filter.mpr ⟨List.mem_of_getElem? (i := 487) (by decide +kernel), rfl⟩
theorem ca_IS : Cond.castable eIS eIS ∈ zNw := List.mem_filter.mpr ⟨List.mem_of_getElem? (i := 841) (by decide +kernel), rfl⟩
theorem ca_AE : Cond.castable eAE eAE ∈ zNw := List.mem_filter.mpr ⟨List.mem_of_getElem? (i := 1103) (by decide +kernel), rfl⟩
theorem kl_IA : Cond.classLink RL 13 eIA ∈ lw_good := k_L_13
theorem kl_UO : Cond.classLink RL 15 eUO ∈ lw_good := k_L_15
theorem kl_IB : Cond.classLink RL 24 eIB ∈ lw_good := k_L_24
theorem kl_NS : Cond.classLink RL 45 eNS ∈ lw_good := k_L_45
theorem kl_IS : Cond.classLink RL 119 eIS ∈ lw_good := k_L_119
theorem kl_AE : Cond.classLink RL 139 eAE ∈ lw_good := k_L_139
theorem nc_UO_IA : (eUO, eIA) ∈ zNcs := .head _
theorem nc_UO_IB : (eUO, eIB) ∈ zNcs := .tail _ (.head _)
theorem nc_IA_IB : (eIA, eIB) ∈ zNcs := .tail _ (.tail _ (.head _))
theorem nc_NS_IB : (eNS, eIB) ∈ zNcs := .tail _ (.tail _ (.tail _ (.head _)))
def zPs (cls : String) (z : Nat × Nat × Nat × Nat) : Prop := z.2.2.2 ≠ 0 ∧ ∃ nm : String, Cond.classLink RL z.2.2.2 nm ∈ lw_good ∧ (cls, nm) ∈ zNcs
theorem zps0 {cls : String} : ∀ z ∈ ([] : zHH), zPs cls z := fun z hz => by cases hz
theorem zpsc {cls nm : String} {z : Nat × Nat × Nat × Nat} {r : zHH} (h0 : z.2.2.2 ≠ 0) (hl : Cond.classLink RL z.2.2.2 nm ∈ lw_good) (hm : (cls, nm) ∈ zNcs) (hr : ∀ z ∈ r, zPs cls z) : ∀ w ∈ z :: r, zPs cls w := fun w hw => by
  rcases List.mem_cons.mp hw with rfl | hw
  · exact ⟨h0, nm, hl, hm⟩
  · exact hr w hw
theorem PK.inl {out : aR} {σ : Nat → Nat → Int} {l : (Nat → Int64) × (Nat → UInt64)} {v : Option vV} {s : zT} (h : PK out σ l (.inl v) s) : ∃ (v0 : Int) (σ' : Nat → Nat → Int), out.1 = .inl v0 ∧ v = some (vi v0) ∧ s = (zs σ' 21 out.2.1, l) ∧ CR out.2.2 σ' ∧ Fr σ σ' := by
  obtain ⟨h1, σ', h2⟩ := h
  cases hq : out.1 with
  | inl a => rw [hq] at h1; cases h1; exact ⟨a, σ', rfl, rfl, h2⟩
  | inr e => rw [hq] at h1; cases h1
theorem PK.inr {out : aR} {σ : Nat → Nat → Int} {l : (Nat → Int64) × (Nat → UInt64)} {e : String} {s : zT} (h : PK out σ l (.inr e) s) : ∃ (σ' : Nat → Nat → Int), out.1 = .inr e ∧ s = (zs σ' 21 out.2.1, l) ∧ CR out.2.2 σ' ∧ Fr σ σ' := by
  obtain ⟨h1, σ', h2⟩ := h
  cases hq : out.1 with
  | inl a => rw [hq] at h1; cases h1
  | inr e => rw [hq] at h1; cases h1; exact ⟨σ', rfl, h2⟩
/-- a helper: 0 and the answer in the cell, or which exception -/
def HK (out : aR) (cd : String → Int) (σ : Nat → Nat → Int) (l : (Nat → Int64) × (Nat → UInt64)) : zK := fun o s => ∃ (k : Int) (σ' : Nat → Nat → Int) (lg : Nat → Int64), o = .inl (some (vi k)) ∧ s = (zs σ' 21 out.2.1, lg, l.2) ∧ CR out.2.2 σ' ∧ Fr σ σ' ∧ (match out.1 with
  | .inl a => k = 0 ∧ lg 0 = (Int32.ofInt a).toInt64
  | .inr e => k = cd e)
theorem Hk_ok {out : aR} {cd : String → Int} {σ σ' : Nat → Nat → Int} {l : (Nat → Int64) × (Nat → UInt64)} {a : Int} (hq : out.1 = .inl a) {v : Int64} (hv : v = (Int32.ofInt a).toInt64) (hc : CR out.2.2 σ') (hf : Fr σ σ') : HK out cd σ l (.inl (some (vi 0))) (zs σ' 21 out.2.1, vp_updL l.1 0 v, l.2) :=
  ⟨0, σ', _, rfl, rfl, hc, hf, by rw [hq]; exact ⟨rfl, by rw [← hv]; exact if_pos rfl⟩⟩
theorem Hk_ex {out : aR} {cd : String → Int} {σ σ' : Nat → Nat → Int} {l : (Nat → Int64) × (Nat → UInt64)} {e : String} {k : Int} (hq : out.1 = .inr e) (hk : cd e = k) (hc : CR out.2.2 σ') (hf : Fr σ σ') : HK out cd σ l (.inl (some (vi k))) (zs σ' 21 out.2.1, l) :=
  ⟨k, σ', _, rfl, rfl, hc, hf, by rw [hq]; exact hk.symm⟩
def Hb (E : zE) (y : MethodName) (w : Cond) (d : Nat) (av : List vV) (σ : Nat → Nat → Int) (c : Nat → Int) (l : (Nat → Int64) × (Nat → UInt64)) (out : aR) (cd : String → Int) : Prop := CtrN E y w d 1 av (zs σ 21 c, l) (HK out cd σ l)
theorem aOpen_v {c : Nat → Int} {R : aQ} {x y v : Int} (h : (aOpen c R x y).1 = .inl v) : v = 0 ∨ v = 1 := by
  unfold aOpen at h
  split at h
  · split at h
    · have h2 : (if zopen c x.toNat y.toNat then 1 else 0 : Int) = v := Sum.inl.inj h
      split at h2 <;> omega
    · cases h
  · cases h
theorem p_L_coat : zMp yL_coat 3 4 := ⟨by decide +kernel, by decide +kernel, by decide +kernel, by decide⟩
theorem c_L_coat {E : zE} {x D : Int} {R : aQ} {σ : Nat → Nat → Int} {c : Nat → Int} {l : (Nat → Int64) × (Nat → UInt64)} (hI : AI D c R) (hK : CR R σ) (h_x : zi x) : Hb E yL_coat (.codeWith yL_coat cL_coat 4 (Option.some Jvm.ClassFile.FieldType.int) [((0 : Nat), (9 : Nat), (12 : Nat), (13 : Nat)), ((0 : Nat), (9 : Nat), (15 : Nat), (15 : Nat))]) 5 [vr 0, vi x, vr 20] σ c l (aCoat false c R x) (cd2 eIA eUO) := by
  refine CtrN_of (by decide +kernel) rfl rfl (fun Y hX hR hT => ?_)
  refine z_b hX (fo_no RL) [.aload_n 2, .iconst 0, .aload_n 0, .iload_n 1] 4 (by decide +kernel) rfl ?_
  refine z_callV hX m_X10_coat l_L_7 p_X10_coat (c_X10_coat hI hK h_x) (by decide) (by decide) rfl rfl rfl rfl rfl (by decide +kernel) (fun v st q => ?_) (fun cls st q => ?_)
  · obtain ⟨v0, σ1, hq, rfl, rfl, hc, hf⟩ := q.inl
    refine z_i2l hX (by decide +kernel) ?_
    refine z_last hX (by decide +kernel) ?_
    refine z_goto hX (off := 9) 18 (by decide +kernel) (by decide) ?_
    refine z_b hX (fo_no RL) [.iconst 0] 19 (by decide +kernel) rfl ?_
    exact z_iret hX hR (by decide +kernel) (Hk_ok hq rfl hc hf)
  · obtain ⟨σ1, hq, rfl, hc, hf⟩ := q.inr
    rcases aCoat_x hq with rfl | rfl
    · refine z_catch hX hT [] [(0, 9, 15, 15)] (0, 9, 12, 13) rfl zps0 (by decide +kernel) (by decide) kl_IA ca_IA (j := 3) (len := 1) (Or.inl ⟨3, rfl, rfl, by decide +kernel⟩) rfl ?_
      refine z_b hX (fo_no RL) [.iconst 1] 14 (by decide +kernel) rfl ?_
      exact z_iret hX hR (by decide +kernel) (Hk_ex hq cd2_1 hc hf)
    · refine z_catch hX hT [(0, 9, 12, 13)] [] (0, 9, 15, 15) rfl (zpsc (by decide) kl_IA nc_UO_IA zps0) (by decide +kernel) (by decide) kl_UO ca_UO (j := 3) (len := 1) (Or.inl ⟨3, rfl, rfl, by decide +kernel⟩) rfl ?_
      refine z_b hX (fo_no RL) [.iconst 2] 17 (by decide +kernel) rfl ?_
      exact z_iret hX hR (by decide +kernel) (Hk_ex hq (cd2_2 ne_UO_IA) hc hf)
theorem p_L_act : zMp yL_act 4 5 := ⟨by decide +kernel, by decide +kernel, by decide +kernel, by decide⟩
theorem c_L_act {E : zE} {x y D : Int} {R : aQ} {σ : Nat → Nat → Int} {c : Nat → Int} {l : (Nat → Int64) × (Nat → UInt64)} (hI : AI D c R) (hK : CR R σ) (h_x : zi x) (h_y : zi y) : Hb E yL_act (.codeWith yL_act cL_act 5 (Option.some Jvm.ClassFile.FieldType.int) [((0 : Nat), (10 : Nat), (13 : Nat), (13 : Nat)), ((0 : Nat), (10 : Nat), (17 : Nat), (15 : Nat))]) 5 [vr 0, vi x, vi y, vr 20] σ c l (aAct false c R x y) (cd2 eIA eUO) := by
  refine CtrN_of (by decide +kernel) rfl rfl (fun Y hX hR hT => ?_)
  refine z_b hX (fo_no RL) [.aload_n 3, .iconst 0, .aload_n 0, .iload_n 1, .iload_n 2] 5 (by decide +kernel) rfl ?_
  refine z_callV hX m_X10_act l_L_17 p_X10_act (c_X10_act hI hK h_x h_y) (by decide) (by decide) rfl rfl rfl rfl rfl (by decide +kernel) (fun v st q => ?_) (fun cls st q => ?_)
  · obtain ⟨v0, σ1, hq, rfl, rfl, hc, hf⟩ := q.inl
    refine z_i2l hX (by decide +kernel) ?_
    refine z_last hX (by decide +kernel) ?_
    refine z_goto hX (off := 11) 21 (by decide +kernel) (by decide) ?_
    refine z_b hX (fo_no RL) [.iconst 0] 22 (by decide +kernel) rfl ?_
    exact z_iret hX hR (by decide +kernel) (Hk_ok hq rfl hc hf)
  · obtain ⟨σ1, hq, rfl, hc, hf⟩ := q.inr
    rcases aAct_x hq with rfl | rfl
    · refine z_catch hX hT [] [(0, 10, 17, 15)] (0, 10, 13, 13) rfl zps0 (by decide +kernel) (by decide) kl_IA ca_IA (j := 4) (len := 2) (Or.inr ⟨rfl, by decide +kernel⟩) rfl ?_
      refine z_b hX (fo_no RL) [.iconst 1] 16 (by decide +kernel) rfl ?_
      exact z_iret hX hR (by decide +kernel) (Hk_ex hq cd2_1 hc hf)
    · refine z_catch hX hT [(0, 10, 13, 13)] [] (0, 10, 17, 15) rfl (zpsc (by decide) kl_IA nc_UO_IA zps0) (by decide +kernel) (by decide) kl_UO ca_UO (j := 4) (len := 2) (Or.inr ⟨rfl, by decide +kernel⟩) rfl ?_
      refine z_b hX (fo_no RL) [.iconst 2] 20 (by decide +kernel) rfl ?_
      exact z_iret hX hR (by decide +kernel) (Hk_ex hq (cd2_2 ne_UO_IA) hc hf)
theorem p_L_wear : zMp yL_wear 4 5 := ⟨by decide +kernel, by decide +kernel, by decide +kernel, by decide⟩
theorem c_L_wear {E : zE} {x y D : Int} {R : aQ} {σ : Nat → Nat → Int} {c : Nat → Int} {l : (Nat → Int64) × (Nat → UInt64)} (hI : AI D c R) (hK : CR R σ) (h_x : zi x) (h_y : zi y) : Hb E yL_wear (.codeWith yL_wear cL_wear 5 (Option.some Jvm.ClassFile.FieldType.int) [((0 : Nat), (10 : Nat), (13 : Nat), (24 : Nat)), ((0 : Nat), (10 : Nat), (17 : Nat), (15 : Nat))]) 5 [vr 0, vi x, vi y, vr 20] σ c l (aWear false c R x y) (cd2 eIB eUO) := by
  refine CtrN_of (by decide +kernel) rfl rfl (fun Y hX hR hT => ?_)
  refine z_b hX (fo_no RL) [.aload_n 3, .iconst 0, .aload_n 0, .iload_n 1, .iload_n 2] 5 (by decide +kernel) rfl ?_
  refine z_callV hX m_X10_wear l_L_21 p_X10_wear (c_X10_wear hI hK h_x h_y) (by decide) (by decide) rfl rfl rfl rfl rfl (by decide +kernel) (fun v st q => ?_) (fun cls st q => ?_)
  · obtain ⟨v0, σ1, hq, rfl, rfl, hc, hf⟩ := q.inl
    refine z_i2l hX (by decide +kernel) ?_
    refine z_last hX (by decide +kernel) ?_
    refine z_goto hX (off := 11) 21 (by decide +kernel) (by decide) ?_
    refine z_b hX (fo_no RL) [.iconst 0] 22 (by decide +kernel) rfl ?_
    exact z_iret hX hR (by decide +kernel) (Hk_ok hq rfl hc hf)
  · obtain ⟨σ1, hq, rfl, hc, hf⟩ := q.inr
    rcases aWear_x hq with rfl | rfl
    · refine z_catch hX hT [] [(0, 10, 17, 15)] (0, 10, 13, 24) rfl zps0 (by decide +kernel) (by decide) kl_IB ca_IB (j := 4) (len := 2) (Or.inr ⟨rfl, by decide +kernel⟩) rfl ?_
      refine z_b hX (fo_no RL) [.iconst 1] 16 (by decide +kernel) rfl ?_
      exact z_iret hX hR (by decide +kernel) (Hk_ex hq cd2_1 hc hf)
    · refine z_catch hX hT [(0, 10, 13, 24)] [] (0, 10, 17, 15) rfl (zpsc (by decide) kl_IB nc_UO_IB zps0) (by decide +kernel) (by decide) kl_UO ca_UO (j := 4) (len := 2) (Or.inr ⟨rfl, by decide +kernel⟩) rfl ?_
      refine z_b hX (fo_no RL) [.iconst 2] 20 (by decide +kernel) rfl ?_
      exact z_iret hX hR (by decide +kernel) (Hk_ex hq (cd2_2 ne_UO_IB) hc hf)
theorem p_L_rip : zMp yL_rip 4 5 := ⟨by decide +kernel, by decide +kernel, by decide +kernel, by decide⟩
theorem c_L_rip {E : zE} {x y D : Int} {R : aQ} {σ : Nat → Nat → Int} {c : Nat → Int} {l : (Nat → Int64) × (Nat → UInt64)} (hI : AI D c R) (hK : CR R σ) (h_x : zi x) (h_y : zi y) : Hb E yL_rip (.codeWith yL_rip cL_rip 5 (Option.some Jvm.ClassFile.FieldType.int) [((0 : Nat), (10 : Nat), (13 : Nat), (24 : Nat)), ((0 : Nat), (10 : Nat), (17 : Nat), (13 : Nat))]) 5 [vr 0, vi x, vi y, vr 20] σ c l (aRip false c R x y) (cd2 eIB eIA) := by
  refine CtrN_of (by decide +kernel) rfl rfl (fun Y hX hR hT => ?_)
  refine z_b hX (fo_no RL) [.aload_n 3, .iconst 0, .aload_n 0, .iload_n 1, .iload_n 2] 5 (by decide +kernel) rfl ?_
  refine z_callV hX m_X10_rip l_L_26 p_X10_rip (c_X10_rip hI hK h_x h_y) (by decide) (by decide) rfl rfl rfl rfl rfl (by decide +kernel) (fun v st q => ?_) (fun cls st q => ?_)
  · obtain ⟨v0, σ1, hq, rfl, rfl, hc, hf⟩ := q.inl
    refine z_i2l hX (by decide +kernel) ?_
    refine z_last hX (by decide +kernel) ?_
    refine z_goto hX (off := 11) 21 (by decide +kernel) (by decide) ?_
    refine z_b hX (fo_no RL) [.iconst 0] 22 (by decide +kernel) rfl ?_
    exact z_iret hX hR (by decide +kernel) (Hk_ok hq rfl hc hf)
  · obtain ⟨σ1, hq, rfl, hc, hf⟩ := q.inr
    rcases aRip_x hq with rfl | rfl
    · refine z_catch hX hT [] [(0, 10, 17, 13)] (0, 10, 13, 24) rfl zps0 (by decide +kernel) (by decide) kl_IB ca_IB (j := 4) (len := 2) (Or.inr ⟨rfl, by decide +kernel⟩) rfl ?_
      refine z_b hX (fo_no RL) [.iconst 1] 16 (by decide +kernel) rfl ?_
      exact z_iret hX hR (by decide +kernel) (Hk_ex hq cd2_1 hc hf)
    · refine z_catch hX hT [(0, 10, 13, 24)] [] (0, 10, 17, 13) rfl (zpsc (by decide) kl_IB nc_IA_IB zps0) (by decide +kernel) (by decide) kl_IA ca_IA (j := 4) (len := 2) (Or.inr ⟨rfl, by decide +kernel⟩) rfl ?_
      refine z_b hX (fo_no RL) [.iconst 2] 20 (by decide +kernel) rfl ?_
      exact z_iret hX hR (by decide +kernel) (Hk_ex hq (cd2_2 ne_IA_IB) hc hf)
theorem p_L_lose : zMp yL_lose 4 5 := ⟨by decide +kernel, by decide +kernel, by decide +kernel, by decide⟩
theorem c_L_lose {E : zE} {x y D : Int} {R : aQ} {σ : Nat → Nat → Int} {c : Nat → Int} {l : (Nat → Int64) × (Nat → UInt64)} (hI : AI D c R) (hK : CR R σ) (h_x : zi x) (h_y : zi y) : Hb E yL_lose (.codeWith yL_lose cL_lose 5 (Option.some Jvm.ClassFile.FieldType.int) [((0 : Nat), (10 : Nat), (13 : Nat), (24 : Nat)), ((0 : Nat), (10 : Nat), (17 : Nat), (13 : Nat))]) 5 [vr 0, vi x, vi y, vr 20] σ c l (aLose false c R x y) (cd2 eIB eIA) := by
  refine CtrN_of (by decide +kernel) rfl rfl (fun Y hX hR hT => ?_)
  refine z_b hX (fo_no RL) [.aload_n 3, .iconst 0, .aload_n 0, .iload_n 1, .iload_n 2] 5 (by decide +kernel) rfl ?_
  refine z_callV hX m_X10_lose l_L_29 p_X10_lose (c_X10_lose hI hK h_x h_y) (by decide) (by decide) rfl rfl rfl rfl rfl (by decide +kernel) (fun v st q => ?_) (fun cls st q => ?_)
  · obtain ⟨v0, σ1, hq, rfl, rfl, hc, hf⟩ := q.inl
    refine z_i2l hX (by decide +kernel) ?_
    refine z_last hX (by decide +kernel) ?_
    refine z_goto hX (off := 11) 21 (by decide +kernel) (by decide) ?_
    refine z_b hX (fo_no RL) [.iconst 0] 22 (by decide +kernel) rfl ?_
    exact z_iret hX hR (by decide +kernel) (Hk_ok hq rfl hc hf)
  · obtain ⟨σ1, hq, rfl, hc, hf⟩ := q.inr
    rcases aLose_x hq with rfl | rfl
    · refine z_catch hX hT [] [(0, 10, 17, 13)] (0, 10, 13, 24) rfl zps0 (by decide +kernel) (by decide) kl_IB ca_IB (j := 4) (len := 2) (Or.inr ⟨rfl, by decide +kernel⟩) rfl ?_
      refine z_b hX (fo_no RL) [.iconst 1] 16 (by decide +kernel) rfl ?_
      exact z_iret hX hR (by decide +kernel) (Hk_ex hq cd2_1 hc hf)
    · refine z_catch hX hT [(0, 10, 13, 24)] [] (0, 10, 17, 13) rfl (zpsc (by decide) kl_IB nc_IA_IB zps0) (by decide +kernel) (by decide) kl_IA ca_IA (j := 4) (len := 2) (Or.inr ⟨rfl, by decide +kernel⟩) rfl ?_
      refine z_b hX (fo_no RL) [.iconst 2] 20 (by decide +kernel) rfl ?_
      exact z_iret hX hR (by decide +kernel) (Hk_ex hq (cd2_2 ne_IA_IB) hc hf)
theorem p_L_coatOf : zMp yL_coatOf 4 5 := ⟨by decide +kernel, by decide +kernel, by decide +kernel, by decide⟩
theorem c_L_coatOf {E : zE} {x y D : Int} {R : aQ} {σ : Nat → Nat → Int} {c : Nat → Int} {l : (Nat → Int64) × (Nat → UInt64)} (hI : AI D c R) (hK : CR R σ) (h_x : zi x) (h_y : zi y) : Hb E yL_coatOf (.codeWith yL_coatOf cL_coatOf 5 (Option.some Jvm.ClassFile.FieldType.int) [((0 : Nat), (10 : Nat), (13 : Nat), (24 : Nat)), ((0 : Nat), (10 : Nat), (17 : Nat), (13 : Nat))]) 3 [vr 0, vi x, vi y, vr 20] σ c l (aCoatOf c R x y) (cd2 eIB eIA) := by
  refine CtrN_of (by decide +kernel) rfl rfl (fun Y hX hR hT => ?_)
  refine z_b hX (fo_no RL) [.aload_n 3, .iconst 0, .aload_n 0, .iload_n 1, .iload_n 2] 5 (by decide +kernel) rfl ?_
  refine z_callV hX m_X10_coatOf l_L_32 p_X10_coatOf (c_X10_coatOf hI hK h_x h_y) (by decide) (by decide) rfl rfl rfl rfl rfl (by decide +kernel) (fun v st q => ?_) (fun cls st q => ?_)
  · obtain ⟨v0, σ1, hq, rfl, rfl, hc, hf⟩ := q.inl
    refine z_i2l hX (by decide +kernel) ?_
    refine z_last hX (by decide +kernel) ?_
    refine z_goto hX (off := 11) 21 (by decide +kernel) (by decide) ?_
    refine z_b hX (fo_no RL) [.iconst 0] 22 (by decide +kernel) rfl ?_
    exact z_iret hX hR (by decide +kernel) (Hk_ok hq rfl hc hf)
  · obtain ⟨σ1, hq, rfl, hc, hf⟩ := q.inr
    rcases aCoatOf_x hq with rfl | rfl
    · refine z_catch hX hT [] [(0, 10, 17, 13)] (0, 10, 13, 24) rfl zps0 (by decide +kernel) (by decide) kl_IB ca_IB (j := 4) (len := 2) (Or.inr ⟨rfl, by decide +kernel⟩) rfl ?_
      refine z_b hX (fo_no RL) [.iconst 1] 16 (by decide +kernel) rfl ?_
      exact z_iret hX hR (by decide +kernel) (Hk_ex hq cd2_1 hc hf)
    · refine z_catch hX hT [(0, 10, 13, 24)] [] (0, 10, 17, 13) rfl (zpsc (by decide) kl_IB nc_IA_IB zps0) (by decide +kernel) (by decide) kl_IA ca_IA (j := 4) (len := 2) (Or.inr ⟨rfl, by decide +kernel⟩) rfl ?_
      refine z_b hX (fo_no RL) [.iconst 2] 20 (by decide +kernel) rfl ?_
      exact z_iret hX hR (by decide +kernel) (Hk_ex hq (cd2_2 ne_IA_IB) hc hf)
theorem p_L_actOf : zMp yL_actOf 4 5 := ⟨by decide +kernel, by decide +kernel, by decide +kernel, by decide⟩
theorem c_L_actOf {E : zE} {x y D : Int} {R : aQ} {σ : Nat → Nat → Int} {c : Nat → Int} {l : (Nat → Int64) × (Nat → UInt64)} (hI : AI D c R) (hK : CR R σ) (h_x : zi x) (h_y : zi y) : Hb E yL_actOf (.codeWith yL_actOf cL_actOf 5 (Option.some Jvm.ClassFile.FieldType.int) [((0 : Nat), (10 : Nat), (13 : Nat), (24 : Nat)), ((0 : Nat), (10 : Nat), (17 : Nat), (13 : Nat))]) 3 [vr 0, vi x, vi y, vr 20] σ c l (aActOf c R x y) (cd2 eIB eIA) := by
  refine CtrN_of (by decide +kernel) rfl rfl (fun Y hX hR hT => ?_)
  refine z_b hX (fo_no RL) [.aload_n 3, .iconst 0, .aload_n 0, .iload_n 1, .iload_n 2] 5 (by decide +kernel) rfl ?_
  refine z_callV hX m_X10_actOf l_L_35 p_X10_actOf (c_X10_actOf hI hK h_x h_y) (by decide) (by decide) rfl rfl rfl rfl rfl (by decide +kernel) (fun v st q => ?_) (fun cls st q => ?_)
  · obtain ⟨v0, σ1, hq, rfl, rfl, hc, hf⟩ := q.inl
    refine z_i2l hX (by decide +kernel) ?_
    refine z_last hX (by decide +kernel) ?_
    refine z_goto hX (off := 11) 21 (by decide +kernel) (by decide) ?_
    refine z_b hX (fo_no RL) [.iconst 0] 22 (by decide +kernel) rfl ?_
    exact z_iret hX hR (by decide +kernel) (Hk_ok hq rfl hc hf)
  · obtain ⟨σ1, hq, rfl, hc, hf⟩ := q.inr
    rcases aActOf_x hq with rfl | rfl
    · refine z_catch hX hT [] [(0, 10, 17, 13)] (0, 10, 13, 24) rfl zps0 (by decide +kernel) (by decide) kl_IB ca_IB (j := 4) (len := 2) (Or.inr ⟨rfl, by decide +kernel⟩) rfl ?_
      refine z_b hX (fo_no RL) [.iconst 1] 16 (by decide +kernel) rfl ?_
      exact z_iret hX hR (by decide +kernel) (Hk_ex hq cd2_1 hc hf)
    · refine z_catch hX hT [(0, 10, 13, 24)] [] (0, 10, 17, 13) rfl (zpsc (by decide) kl_IB nc_IA_IB zps0) (by decide +kernel) (by decide) kl_IA ca_IA (j := 4) (len := 2) (Or.inr ⟨rfl, by decide +kernel⟩) rfl ?_
      refine z_b hX (fo_no RL) [.iconst 2] 20 (by decide +kernel) rfl ?_
      exact z_iret hX hR (by decide +kernel) (Hk_ex hq (cd2_2 ne_IA_IB) hc hf)
theorem p_L_open : zMp yL_open 4 5 := ⟨by decide +kernel, by decide +kernel, by decide +kernel, by decide⟩
theorem c_L_open {E : zE} {x y D : Int} {R : aQ} {σ : Nat → Nat → Int} {c : Nat → Int} {l : (Nat → Int64) × (Nat → UInt64)} (hI : AI D c R) (hK : CR R σ) (h_x : zi x) (h_y : zi y) : Hb E yL_open (.codeWith yL_open cL_open 5 (Option.some Jvm.ClassFile.FieldType.int) [((0 : Nat), (17 : Nat), (20 : Nat), (24 : Nat))]) 4 [vr 0, vi x, vi y, vr 20] σ c l (aOpen c R x y) (cd1 eIB) := by
  refine CtrN_of (by decide +kernel) rfl rfl (fun Y hX hR hT => ?_)
  refine z_b hX (fo_no RL) [.aload_n 3, .iconst 0, .aload_n 0, .iload_n 1, .iload_n 2] 5 (by decide +kernel) rfl ?_
  refine z_callV hX m_X10_open l_L_38 p_X10_open (c_X10_open hI hK h_x h_y) (by decide) (by decide) rfl rfl rfl rfl rfl (by decide +kernel) (fun v st q => ?_) (fun cls st q => ?_)
  · obtain ⟨v0, σ1, hq, rfl, rfl, hc, hf⟩ := q.inl
    rcases aOpen_v hq with rfl | rfl
    · refine z_if_eq hX (off := 7) 15 (by decide +kernel) (by decide) ⟨by decide, by decide⟩ (fun h0 => ?_) (fun h0 => absurd rfl h0)
      refine z_lconst hX (i := 0) (by decide +kernel) rfl ?_
      refine z_last hX (by decide +kernel) ?_
      refine z_goto hX (off := 7) 24 (by decide +kernel) (by decide) ?_
      refine z_b hX (fo_no RL) [.iconst 0] 25 (by decide +kernel) rfl ?_
      exact z_iret hX hR (by decide +kernel) (Hk_ok hq (by decide) hc hf)
    · refine z_if_eq hX (off := 7) 15 (by decide +kernel) (by decide) ⟨by decide, by decide⟩ (fun h0 => absurd h0 (by decide)) (fun h0 => ?_)
      refine z_lconst hX (i := 1) (by decide +kernel) rfl ?_
      refine z_goto hX (off := 4) 16 (by decide +kernel) (by decide) ?_
      refine z_last hX (by decide +kernel) ?_
      refine z_goto hX (off := 7) 24 (by decide +kernel) (by decide) ?_
      refine z_b hX (fo_no RL) [.iconst 0] 25 (by decide +kernel) rfl ?_
      exact z_iret hX hR (by decide +kernel) (Hk_ok hq (by decide) hc hf)
  · obtain ⟨σ1, hq, rfl, hc, hf⟩ := q.inr
    have he := aOpen_x hq
    subst he
    refine z_catch hX hT [] [] (0, 17, 20, 24) rfl zps0 (by decide +kernel) (by decide) kl_IB ca_IB (j := 4) (len := 2) (Or.inr ⟨rfl, by decide +kernel⟩) rfl ?_
    refine z_b hX (fo_no RL) [.iconst 1] 23 (by decide +kernel) rfl ?_
    exact z_iret hX hR (by decide +kernel) (Hk_ex hq cd1_1 hc hf)
theorem p_L_best : zMp yL_best 3 4 := ⟨by decide +kernel, by decide +kernel, by decide +kernel, by decide⟩
theorem c_L_best {E : zE} {x D : Int} {R : aQ} {σ : Nat → Nat → Int} {c : Nat → Int} {l : (Nat → Int64) × (Nat → UInt64)} (hI : AI D c R) (hK : CR R σ) (h_x : zi x) : Hb E yL_best (.codeWith yL_best cL_best 4 (Option.some Jvm.ClassFile.FieldType.int) [((0 : Nat), (9 : Nat), (12 : Nat), (24 : Nat)), ((0 : Nat), (9 : Nat), (15 : Nat), (45 : Nat))]) 5 [vr 0, vi x, vr 20] σ c l (aBest c R x) (cd2 eIB eNS) := by
  refine CtrN_of (by decide +kernel) rfl rfl (fun Y hX hR hT => ?_)
  refine z_b hX (fo_no RL) [.aload_n 2, .iconst 0, .aload_n 0, .iload_n 1] 4 (by decide +kernel) rfl ?_
  refine z_callV hX m_X10_best l_L_42 p_X10_best (c_X10_best hI hK h_x) (by decide) (by decide) rfl rfl rfl rfl rfl (by decide +kernel) (fun v st q => ?_) (fun cls st q => ?_)
  · obtain ⟨v0, σ1, hq, rfl, rfl, hc, hf⟩ := q.inl
    refine z_i2l hX (by decide +kernel) ?_
    refine z_last hX (by decide +kernel) ?_
    refine z_goto hX (off := 9) 18 (by decide +kernel) (by decide) ?_
    refine z_b hX (fo_no RL) [.iconst 0] 19 (by decide +kernel) rfl ?_
    exact z_iret hX hR (by decide +kernel) (Hk_ok hq rfl hc hf)
  · obtain ⟨σ1, hq, rfl, hc, hf⟩ := q.inr
    rcases aBest_x hq with rfl | rfl
    · refine z_catch hX hT [] [(0, 9, 15, 45)] (0, 9, 12, 24) rfl zps0 (by decide +kernel) (by decide) kl_IB ca_IB (j := 3) (len := 1) (Or.inl ⟨3, rfl, rfl, by decide +kernel⟩) rfl ?_
      refine z_b hX (fo_no RL) [.iconst 1] 14 (by decide +kernel) rfl ?_
      exact z_iret hX hR (by decide +kernel) (Hk_ex hq cd2_1 hc hf)
    · refine z_catch hX hT [(0, 9, 12, 24)] [] (0, 9, 15, 45) rfl (zpsc (by decide) kl_IB nc_NS_IB zps0) (by decide +kernel) (by decide) kl_NS ca_NS (j := 3) (len := 1) (Or.inl ⟨3, rfl, rfl, by decide +kernel⟩) rfl ?_
      refine z_b hX (fo_no RL) [.iconst 2] 17 (by decide +kernel) rfl ?_
      exact z_iret hX hR (by decide +kernel) (Hk_ex hq (cd2_2 ne_NS_IB) hc hf)
theorem p_L_work : zMp yL_work 4 5 := ⟨by decide +kernel, by decide +kernel, by decide +kernel, by decide⟩
theorem c_L_work {E : zE} {x y D : Int} {R : aQ} {σ : Nat → Nat → Int} {c : Nat → Int} {l : (Nat → Int64) × (Nat → UInt64)} (hI : AI D c R) (hK : CR R σ) (h_x : zi x) (h_y : zi y) : Hb E yL_work (.codeWith yL_work cL_work 5 (Option.some Jvm.ClassFile.FieldType.int) [((0 : Nat), (10 : Nat), (13 : Nat), (24 : Nat)), ((0 : Nat), (10 : Nat), (17 : Nat), (45 : Nat))]) 3 [vr 0, vi x, vi y, vr 20] σ c l (aWork c R x y) (cd2 eIB eNS) := by
  refine CtrN_of (by decide +kernel) rfl rfl (fun Y hX hR hT => ?_)
  refine z_b hX (fo_no RL) [.aload_n 3, .iconst 0, .aload_n 0, .iload_n 1, .iload_n 2] 5 (by decide +kernel) rfl ?_
  refine z_callV hX m_X10_work l_L_47 p_X10_work (c_X10_work hI hK h_x h_y) (by decide) (by decide) rfl rfl rfl rfl rfl (by decide +kernel) (fun v st q => ?_) (fun cls st q => ?_)
  · obtain ⟨v0, σ1, hq, rfl, rfl, hc, hf⟩ := q.inl
    refine z_i2l hX (by decide +kernel) ?_
    refine z_last hX (by decide +kernel) ?_
    refine z_goto hX (off := 11) 21 (by decide +kernel) (by decide) ?_
    refine z_b hX (fo_no RL) [.iconst 0] 22 (by decide +kernel) rfl ?_
    exact z_iret hX hR (by decide +kernel) (Hk_ok hq rfl hc hf)
  · obtain ⟨σ1, hq, rfl, hc, hf⟩ := q.inr
    rcases aWork_x hq with rfl | rfl
    · refine z_catch hX hT [] [(0, 10, 17, 45)] (0, 10, 13, 24) rfl zps0 (by decide +kernel) (by decide) kl_IB ca_IB (j := 4) (len := 2) (Or.inr ⟨rfl, by decide +kernel⟩) rfl ?_
      refine z_b hX (fo_no RL) [.iconst 1] 16 (by decide +kernel) rfl ?_
      exact z_iret hX hR (by decide +kernel) (Hk_ex hq cd2_1 hc hf)
    · refine z_catch hX hT [(0, 10, 13, 24)] [] (0, 10, 17, 45) rfl (zpsc (by decide) kl_IB nc_NS_IB zps0) (by decide +kernel) (by decide) kl_NS ca_NS (j := 4) (len := 2) (Or.inr ⟨rfl, by decide +kernel⟩) rfl ?_
      refine z_b hX (fo_no RL) [.iconst 2] 20 (by decide +kernel) rfl ?_
      exact z_iret hX hR (by decide +kernel) (Hk_ex hq (cd2_2 ne_NS_IB) hc hf)
theorem p_L_workAgain : zMp yL_workAgain 4 5 := ⟨by decide +kernel, by decide +kernel, by decide +kernel, by decide⟩
theorem c_L_workAgain {E : zE} {x y D : Int} {R : aQ} {σ : Nat → Nat → Int} {c : Nat → Int} {l : (Nat → Int64) × (Nat → UInt64)} (hI : AI D c R) (hK : CR R σ) (h_x : zi x) (h_y : zi y) : Hb E yL_workAgain (.codeWith yL_workAgain cL_workAgain 5 (Option.some Jvm.ClassFile.FieldType.int) [((0 : Nat), (10 : Nat), (13 : Nat), (24 : Nat)), ((0 : Nat), (10 : Nat), (17 : Nat), (45 : Nat))]) 3 [vr 0, vi x, vi y, vr 20] σ c l (aWork c R x y) (cd2 eIB eNS) := by
  refine CtrN_of (by decide +kernel) rfl rfl (fun Y hX hR hT => ?_)
  refine z_b hX (fo_no RL) [.aload_n 3, .iconst 0, .aload_n 0, .iload_n 1, .iload_n 2] 5 (by decide +kernel) rfl ?_
  refine z_callV hX m_X10_workAgain l_L_50 p_X10_workAgain (c_X10_workAgain hI hK h_x h_y) (by decide) (by decide) rfl rfl rfl rfl rfl (by decide +kernel) (fun v st q => ?_) (fun cls st q => ?_)
  · obtain ⟨v0, σ1, hq, rfl, rfl, hc, hf⟩ := q.inl
    refine z_i2l hX (by decide +kernel) ?_
    refine z_last hX (by decide +kernel) ?_
    refine z_goto hX (off := 11) 21 (by decide +kernel) (by decide) ?_
    refine z_b hX (fo_no RL) [.iconst 0] 22 (by decide +kernel) rfl ?_
    exact z_iret hX hR (by decide +kernel) (Hk_ok hq rfl hc hf)
  · obtain ⟨σ1, hq, rfl, hc, hf⟩ := q.inr
    rcases aWork_x hq with rfl | rfl
    · refine z_catch hX hT [] [(0, 10, 17, 45)] (0, 10, 13, 24) rfl zps0 (by decide +kernel) (by decide) kl_IB ca_IB (j := 4) (len := 2) (Or.inr ⟨rfl, by decide +kernel⟩) rfl ?_
      refine z_b hX (fo_no RL) [.iconst 1] 16 (by decide +kernel) rfl ?_
      exact z_iret hX hR (by decide +kernel) (Hk_ex hq cd2_1 hc hf)
    · refine z_catch hX hT [(0, 10, 13, 24)] [] (0, 10, 17, 45) rfl (zpsc (by decide) kl_IB nc_NS_IB zps0) (by decide +kernel) (by decide) kl_NS ca_NS (j := 4) (len := 2) (Or.inr ⟨rfl, by decide +kernel⟩) rfl ?_
      refine z_b hX (fo_no RL) [.iconst 2] 20 (by decide +kernel) rfl ?_
      exact z_iret hX hR (by decide +kernel) (Hk_ex hq (cd2_2 ne_NS_IB) hc hf)
theorem p_L_seamstress : zMp yL_seamstress 2 3 := ⟨by decide +kernel, by decide +kernel, by decide +kernel, by decide⟩
theorem c_L_seamstress {E : zE} {D : Int} {R : aQ} {σ : Nat → Nat → Int} {c : Nat → Int} {l : (Nat → Int64) × (Nat → UInt64)} (hI : AI D c R) (hK : CR R σ)  : Hb E yL_seamstress (.codeWith yL_seamstress cL_seamstress 3 (Option.some Jvm.ClassFile.FieldType.int) [((0 : Nat), (8 : Nat), (11 : Nat), (15 : Nat))]) 5 [vr 0, vr 20] σ c l (aWoman false c R ) (cd1 eUO) := by
  refine CtrN_of (by decide +kernel) rfl rfl (fun Y hX hR hT => ?_)
  refine z_b hX (fo_no RL) [.aload_n 1, .iconst 0, .aload_n 0] 3 (by decide +kernel) rfl ?_
  refine z_callV hX m_X10_seamstress l_L_53 p_X10_seamstress (c_X10_seamstress hI hK ) (by decide) (by decide) rfl rfl rfl rfl rfl (by decide +kernel) (fun v st q => ?_) (fun cls st q => ?_)
  · obtain ⟨v0, σ1, hq, rfl, rfl, hc, hf⟩ := q.inl
    refine z_i2l hX (by decide +kernel) ?_
    refine z_last hX (by decide +kernel) ?_
    refine z_goto hX (off := 6) 14 (by decide +kernel) (by decide) ?_
    refine z_b hX (fo_no RL) [.iconst 0] 15 (by decide +kernel) rfl ?_
    exact z_iret hX hR (by decide +kernel) (Hk_ok hq rfl hc hf)
  · obtain ⟨σ1, hq, rfl, hc, hf⟩ := q.inr
    have he := aWoman_x hq
    subst he
    refine z_catch hX hT [] [] (0, 8, 11, 15) rfl zps0 (by decide +kernel) (by decide) kl_UO ca_UO (j := 2) (len := 1) (Or.inl ⟨2, rfl, rfl, by decide +kernel⟩) rfl ?_
    refine z_b hX (fo_no RL) [.iconst 1] 13 (by decide +kernel) rfl ?_
    exact z_iret hX hR (by decide +kernel) (Hk_ex hq cd1_1 hc hf)
theorem p_L_seamstressOf : zMp yL_seamstressOf 4 5 := ⟨by decide +kernel, by decide +kernel, by decide +kernel, by decide⟩
theorem c_L_seamstressOf {E : zE} {x y D : Int} {R : aQ} {σ : Nat → Nat → Int} {c : Nat → Int} {l : (Nat → Int64) × (Nat → UInt64)} (hI : AI D c R) (hK : CR R σ) (h_x : zi x) (h_y : zi y) : Hb E yL_seamstressOf (.codeWith yL_seamstressOf cL_seamstressOf 5 (Option.some Jvm.ClassFile.FieldType.int) [((0 : Nat), (10 : Nat), (13 : Nat), (24 : Nat)), ((0 : Nat), (10 : Nat), (17 : Nat), (13 : Nat))]) 3 [vr 0, vi x, vi y, vr 20] σ c l (aWomanOf c R x y) (cd2 eIB eIA) := by
  refine CtrN_of (by decide +kernel) rfl rfl (fun Y hX hR hT => ?_)
  refine z_b hX (fo_no RL) [.aload_n 3, .iconst 0, .aload_n 0, .iload_n 1, .iload_n 2] 5 (by decide +kernel) rfl ?_
  refine z_callV hX m_X10_seamstressOf l_L_57 p_X10_seamstressOf (c_X10_seamstressOf hI hK h_x h_y) (by decide) (by decide) rfl rfl rfl rfl rfl (by decide +kernel) (fun v st q => ?_) (fun cls st q => ?_)
  · obtain ⟨v0, σ1, hq, rfl, rfl, hc, hf⟩ := q.inl
    refine z_i2l hX (by decide +kernel) ?_
    refine z_last hX (by decide +kernel) ?_
    refine z_goto hX (off := 11) 21 (by decide +kernel) (by decide) ?_
    refine z_b hX (fo_no RL) [.iconst 0] 22 (by decide +kernel) rfl ?_
    exact z_iret hX hR (by decide +kernel) (Hk_ok hq rfl hc hf)
  · obtain ⟨σ1, hq, rfl, hc, hf⟩ := q.inr
    rcases aWomanOf_x hq with rfl | rfl
    · refine z_catch hX hT [] [(0, 10, 17, 13)] (0, 10, 13, 24) rfl zps0 (by decide +kernel) (by decide) kl_IB ca_IB (j := 4) (len := 2) (Or.inr ⟨rfl, by decide +kernel⟩) rfl ?_
      refine z_b hX (fo_no RL) [.iconst 1] 16 (by decide +kernel) rfl ?_
      exact z_iret hX hR (by decide +kernel) (Hk_ex hq cd2_1 hc hf)
    · refine z_catch hX hT [(0, 10, 13, 24)] [] (0, 10, 17, 13) rfl (zpsc (by decide) kl_IB nc_IA_IB zps0) (by decide +kernel) (by decide) kl_IA ca_IA (j := 4) (len := 2) (Or.inr ⟨rfl, by decide +kernel⟩) rfl ?_
      refine z_b hX (fo_no RL) [.iconst 2] 20 (by decide +kernel) rfl ?_
      exact z_iret hX hR (by decide +kernel) (Hk_ex hq (cd2_2 ne_IA_IB) hc hf)
theorem p_L_bring : zMp yL_bring 4 5 := ⟨by decide +kernel, by decide +kernel, by decide +kernel, by decide⟩
theorem c_L_bring {E : zE} {x y D : Int} {R : aQ} {σ : Nat → Nat → Int} {c : Nat → Int} {l : (Nat → Int64) × (Nat → UInt64)} (hI : AI D c R) (hK : CR R σ) (h_x : zi x) (h_y : zi y) : Hb E yL_bring (.codeWith yL_bring cL_bring 5 (Option.some Jvm.ClassFile.FieldType.int) [((0 : Nat), (10 : Nat), (13 : Nat), (13 : Nat))]) 5 [vr 0, vi x, vi y, vr 20] σ c l (aBring false c R x y) (cd1 eIA) := by
  refine CtrN_of (by decide +kernel) rfl rfl (fun Y hX hR hT => ?_)
  refine z_b hX (fo_no RL) [.aload_n 3, .iconst 0, .aload_n 0, .iload_n 1, .iload_n 2] 5 (by decide +kernel) rfl ?_
  refine z_callV hX m_X10_bring l_L_60 p_X10_bring (c_X10_bring hI hK h_x h_y) (by decide) (by decide) rfl rfl rfl rfl rfl (by decide +kernel) (fun v st q => ?_) (fun cls st q => ?_)
  · obtain ⟨v0, σ1, hq, rfl, rfl, hc, hf⟩ := q.inl
    refine z_i2l hX (by decide +kernel) ?_
    refine z_last hX (by decide +kernel) ?_
    refine z_goto hX (off := 7) 17 (by decide +kernel) (by decide) ?_
    refine z_b hX (fo_no RL) [.iconst 0] 18 (by decide +kernel) rfl ?_
    exact z_iret hX hR (by decide +kernel) (Hk_ok hq rfl hc hf)
  · obtain ⟨σ1, hq, rfl, hc, hf⟩ := q.inr
    have he := aBring_x hq
    subst he
    refine z_catch hX hT [] [] (0, 10, 13, 13) rfl zps0 (by decide +kernel) (by decide) kl_IA ca_IA (j := 4) (len := 2) (Or.inr ⟨rfl, by decide +kernel⟩) rfl ?_
    refine z_b hX (fo_no RL) [.iconst 1] 16 (by decide +kernel) rfl ?_
    exact z_iret hX hR (by decide +kernel) (Hk_ex hq cd1_1 hc hf)
theorem p_L_sew : zMp yL_sew 4 5 := ⟨by decide +kernel, by decide +kernel, by decide +kernel, by decide⟩
theorem c_L_sew {E : zE} {x y D : Int} {R : aQ} {σ : Nat → Nat → Int} {c : Nat → Int} {l : (Nat → Int64) × (Nat → UInt64)} (hI : AI D c R) (hK : CR R σ) (h_x : zi x) (h_y : zi y) : Hb E yL_sew (.codeWith yL_sew cL_sew 5 (Option.some Jvm.ClassFile.FieldType.int) [((0 : Nat), (10 : Nat), (13 : Nat), (24 : Nat)), ((0 : Nat), (10 : Nat), (17 : Nat), (15 : Nat))]) 5 [vr 0, vi x, vi y, vr 20] σ c l (aSew false c R x y) (cd2 eIB eUO) := by
  refine CtrN_of (by decide +kernel) rfl rfl (fun Y hX hR hT => ?_)
  refine z_b hX (fo_no RL) [.aload_n 3, .iconst 0, .aload_n 0, .iload_n 1, .iload_n 2] 5 (by decide +kernel) rfl ?_
  refine z_callV hX m_X10_sew l_L_63 p_X10_sew (c_X10_sew hI hK h_x h_y) (by decide) (by decide) rfl rfl rfl rfl rfl (by decide +kernel) (fun v st q => ?_) (fun cls st q => ?_)
  · obtain ⟨v0, σ1, hq, rfl, rfl, hc, hf⟩ := q.inl
    refine z_i2l hX (by decide +kernel) ?_
    refine z_last hX (by decide +kernel) ?_
    refine z_goto hX (off := 11) 21 (by decide +kernel) (by decide) ?_
    refine z_b hX (fo_no RL) [.iconst 0] 22 (by decide +kernel) rfl ?_
    exact z_iret hX hR (by decide +kernel) (Hk_ok hq rfl hc hf)
  · obtain ⟨σ1, hq, rfl, hc, hf⟩ := q.inr
    rcases aSew_x hq with rfl | rfl
    · refine z_catch hX hT [] [(0, 10, 17, 15)] (0, 10, 13, 24) rfl zps0 (by decide +kernel) (by decide) kl_IB ca_IB (j := 4) (len := 2) (Or.inr ⟨rfl, by decide +kernel⟩) rfl ?_
      refine z_b hX (fo_no RL) [.iconst 1] 16 (by decide +kernel) rfl ?_
      exact z_iret hX hR (by decide +kernel) (Hk_ex hq cd2_1 hc hf)
    · refine z_catch hX hT [(0, 10, 13, 24)] [] (0, 10, 17, 15) rfl (zpsc (by decide) kl_IB nc_UO_IB zps0) (by decide +kernel) (by decide) kl_UO ca_UO (j := 4) (len := 2) (Or.inr ⟨rfl, by decide +kernel⟩) rfl ?_
      refine z_b hX (fo_no RL) [.iconst 2] 20 (by decide +kernel) rfl ?_
      exact z_iret hX hR (by decide +kernel) (Hk_ex hq (cd2_2 ne_UO_IB) hc hf)
theorem p_L_spangle : zMp yL_spangle 5 6 := ⟨by decide +kernel, by decide +kernel, by decide +kernel, by decide⟩
theorem c_L_spangle {E : zE} {x y z D : Int} {R : aQ} {σ : Nat → Nat → Int} {c : Nat → Int} {l : (Nat → Int64) × (Nat → UInt64)} (hI : AI D c R) (hK : CR R σ) (h_x : zi x) (h_y : zi y) (h_z : zi z) : Hb E yL_spangle (.codeWith yL_spangle cL_spangle 6 (Option.some Jvm.ClassFile.FieldType.int) [((0 : Nat), (12 : Nat), (15 : Nat), (24 : Nat)), ((0 : Nat), (12 : Nat), (19 : Nat), (13 : Nat)), ((0 : Nat), (12 : Nat), (23 : Nat), (15 : Nat))]) 5 [vr 0, vi x, vi y, vi z, vr 20] σ c l (aSpangle false c R x y z) (cd3 eIB eIA eUO) := by
  refine CtrN_of (by decide +kernel) rfl rfl (fun Y hX hR hT => ?_)
  refine z_b hX (fo_no RL) [.aload 4, .iconst 0, .aload_n 0, .iload_n 1, .iload_n 2, .iload_n 3] 7 (by decide +kernel) rfl ?_
  refine z_callV hX m_X10_spangle l_L_66 p_X10_spangle (c_X10_spangle hI hK h_x h_y h_z) (by decide) (by decide) rfl rfl rfl rfl rfl (by decide +kernel) (fun v st q => ?_) (fun cls st q => ?_)
  · obtain ⟨v0, σ1, hq, rfl, rfl, hc, hf⟩ := q.inl
    refine z_i2l hX (by decide +kernel) ?_
    refine z_last hX (by decide +kernel) ?_
    refine z_goto hX (off := 15) 27 (by decide +kernel) (by decide) ?_
    refine z_b hX (fo_no RL) [.iconst 0] 28 (by decide +kernel) rfl ?_
    exact z_iret hX hR (by decide +kernel) (Hk_ok hq rfl hc hf)
  · obtain ⟨σ1, hq, rfl, hc, hf⟩ := q.inr
    rcases aSpangle_x hq with rfl | rfl | rfl
    · refine z_catch hX hT [] [(0, 12, 19, 13), (0, 12, 23, 15)] (0, 12, 15, 24) rfl zps0 (by decide +kernel) (by decide) kl_IB ca_IB (j := 5) (len := 2) (Or.inr ⟨rfl, by decide +kernel⟩) rfl ?_
      refine z_b hX (fo_no RL) [.iconst 1] 18 (by decide +kernel) rfl ?_
      exact z_iret hX hR (by decide +kernel) (Hk_ex hq cd3_1 hc hf)
    · refine z_catch hX hT [(0, 12, 15, 24)] [(0, 12, 23, 15)] (0, 12, 19, 13) rfl (zpsc (by decide) kl_IB nc_IA_IB zps0) (by decide +kernel) (by decide) kl_IA ca_IA (j := 5) (len := 2) (Or.inr ⟨rfl, by decide +kernel⟩) rfl ?_
      refine z_b hX (fo_no RL) [.iconst 2] 22 (by decide +kernel) rfl ?_
      exact z_iret hX hR (by decide +kernel) (Hk_ex hq (cd3_2 ne_IA_IB) hc hf)
    · refine z_catch hX hT [(0, 12, 15, 24), (0, 12, 19, 13)] [] (0, 12, 23, 15) rfl (zpsc (by decide) kl_IB nc_UO_IB (zpsc (by decide) kl_IA nc_UO_IA zps0)) (by decide +kernel) (by decide) kl_UO ca_UO (j := 5) (len := 2) (Or.inr ⟨rfl, by decide +kernel⟩) rfl ?_
      refine z_b hX (fo_no RL) [.iconst 3] 26 (by decide +kernel) rfl ?_
      exact z_iret hX hR (by decide +kernel) (Hk_ex hq (cd3_3 ne_UO_IB ne_UO_IA) hc hf)
theorem p_L_letOut : zMp yL_letOut 4 5 := ⟨by decide +kernel, by decide +kernel, by decide +kernel, by decide⟩
theorem c_L_letOut {E : zE} {x y D : Int} {R : aQ} {σ : Nat → Nat → Int} {c : Nat → Int} {l : (Nat → Int64) × (Nat → UInt64)} (hI : AI D c R) (hK : CR R σ) (h_x : zi x) (h_y : zi y) : Hb E yL_letOut (.codeWith yL_letOut cL_letOut 5 (Option.some Jvm.ClassFile.FieldType.int) [((0 : Nat), (10 : Nat), (13 : Nat), (24 : Nat)), ((0 : Nat), (10 : Nat), (17 : Nat), (15 : Nat))]) 5 [vr 0, vi x, vi y, vr 20] σ c l (aLetOut false c R x y) (cd2 eIB eUO) := by
  refine CtrN_of (by decide +kernel) rfl rfl (fun Y hX hR hT => ?_)
  refine z_b hX (fo_no RL) [.aload_n 3, .iconst 0, .aload_n 0, .iload_n 1, .iload_n 2] 5 (by decide +kernel) rfl ?_
  refine z_callV hX m_X10_letOut l_L_70 p_X10_letOut (c_X10_letOut hI hK h_x h_y) (by decide) (by decide) rfl rfl rfl rfl rfl (by decide +kernel) (fun v st q => ?_) (fun cls st q => ?_)
  · obtain ⟨v0, σ1, hq, rfl, rfl, hc, hf⟩ := q.inl
    refine z_i2l hX (by decide +kernel) ?_
    refine z_last hX (by decide +kernel) ?_
    refine z_goto hX (off := 11) 21 (by decide +kernel) (by decide) ?_
    refine z_b hX (fo_no RL) [.iconst 0] 22 (by decide +kernel) rfl ?_
    exact z_iret hX hR (by decide +kernel) (Hk_ok hq rfl hc hf)
  · obtain ⟨σ1, hq, rfl, hc, hf⟩ := q.inr
    rcases aLetOut_x hq with rfl | rfl
    · refine z_catch hX hT [] [(0, 10, 17, 15)] (0, 10, 13, 24) rfl zps0 (by decide +kernel) (by decide) kl_IB ca_IB (j := 4) (len := 2) (Or.inr ⟨rfl, by decide +kernel⟩) rfl ?_
      refine z_b hX (fo_no RL) [.iconst 1] 16 (by decide +kernel) rfl ?_
      exact z_iret hX hR (by decide +kernel) (Hk_ex hq cd2_1 hc hf)
    · refine z_catch hX hT [(0, 10, 13, 24)] [] (0, 10, 17, 15) rfl (zpsc (by decide) kl_IB nc_UO_IB zps0) (by decide +kernel) (by decide) kl_UO ca_UO (j := 4) (len := 2) (Or.inr ⟨rfl, by decide +kernel⟩) rfl ?_
      refine z_b hX (fo_no RL) [.iconst 2] 20 (by decide +kernel) rfl ?_
      exact z_iret hX hR (by decide +kernel) (Hk_ex hq (cd2_2 ne_UO_IB) hc hf)
theorem p_L_tear : zMp yL_tear 3 4 := ⟨by decide +kernel, by decide +kernel, by decide +kernel, by decide⟩
theorem c_L_tear {E : zE} {x D : Int} {R : aQ} {σ : Nat → Nat → Int} {c : Nat → Int} {l : (Nat → Int64) × (Nat → UInt64)} (hI : AI D c R) (hK : CR R σ) (h_x : zi x) : Hb E yL_tear (.codeWith yL_tear cL_tear 4 (Option.some Jvm.ClassFile.FieldType.int) [((0 : Nat), (9 : Nat), (12 : Nat), (24 : Nat))]) 5 [vr 0, vi x, vr 20] σ c l (aTear false c R x) (cd1 eIB) := by
  refine CtrN_of (by decide +kernel) rfl rfl (fun Y hX hR hT => ?_)
  refine z_b hX (fo_no RL) [.aload_n 2, .iconst 0, .aload_n 0, .iload_n 1] 4 (by decide +kernel) rfl ?_
  refine z_callV hX m_X10_tear l_L_73 p_X10_tear (c_X10_tear hI hK h_x) (by decide) (by decide) rfl rfl rfl rfl rfl (by decide +kernel) (fun v st q => ?_) (fun cls st q => ?_)
  · obtain ⟨v0, σ1, hq, rfl, rfl, hc, hf⟩ := q.inl
    refine z_i2l hX (by decide +kernel) ?_
    refine z_last hX (by decide +kernel) ?_
    refine z_goto hX (off := 6) 15 (by decide +kernel) (by decide) ?_
    refine z_b hX (fo_no RL) [.iconst 0] 16 (by decide +kernel) rfl ?_
    exact z_iret hX hR (by decide +kernel) (Hk_ok hq rfl hc hf)
  · obtain ⟨σ1, hq, rfl, hc, hf⟩ := q.inr
    have he := aTear_x hq
    subst he
    refine z_catch hX hT [] [] (0, 9, 12, 24) rfl zps0 (by decide +kernel) (by decide) kl_IB ca_IB (j := 3) (len := 1) (Or.inl ⟨3, rfl, rfl, by decide +kernel⟩) rfl ?_
    refine z_b hX (fo_no RL) [.iconst 1] 14 (by decide +kernel) rfl ?_
    exact z_iret hX hR (by decide +kernel) (Hk_ex hq cd1_1 hc hf)
theorem p_L_patch : zMp yL_patch 3 4 := ⟨by decide +kernel, by decide +kernel, by decide +kernel, by decide⟩
theorem c_L_patch {E : zE} {x D : Int} {R : aQ} {σ : Nat → Nat → Int} {c : Nat → Int} {l : (Nat → Int64) × (Nat → UInt64)} (hI : AI D c R) (hK : CR R σ) (h_x : zi x) : Hb E yL_patch (.codeWith yL_patch cL_patch 4 (Option.some Jvm.ClassFile.FieldType.int) [((0 : Nat), (9 : Nat), (12 : Nat), (24 : Nat)), ((0 : Nat), (9 : Nat), (15 : Nat), (15 : Nat))]) 5 [vr 0, vi x, vr 20] σ c l (aPatch false c R x) (cd2 eIB eUO) := by
  refine CtrN_of (by decide +kernel) rfl rfl (fun Y hX hR hT => ?_)
  refine z_b hX (fo_no RL) [.aload_n 2, .iconst 0, .aload_n 0, .iload_n 1] 4 (by decide +kernel) rfl ?_
  refine z_callV hX m_X10_patch l_L_76 p_X10_patch (c_X10_patch hI hK h_x) (by decide) (by decide) rfl rfl rfl rfl rfl (by decide +kernel) (fun v st q => ?_) (fun cls st q => ?_)
  · obtain ⟨v0, σ1, hq, rfl, rfl, hc, hf⟩ := q.inl
    refine z_i2l hX (by decide +kernel) ?_
    refine z_last hX (by decide +kernel) ?_
    refine z_goto hX (off := 9) 18 (by decide +kernel) (by decide) ?_
    refine z_b hX (fo_no RL) [.iconst 0] 19 (by decide +kernel) rfl ?_
    exact z_iret hX hR (by decide +kernel) (Hk_ok hq rfl hc hf)
  · obtain ⟨σ1, hq, rfl, hc, hf⟩ := q.inr
    rcases aPatch_x hq with rfl | rfl
    · refine z_catch hX hT [] [(0, 9, 15, 15)] (0, 9, 12, 24) rfl zps0 (by decide +kernel) (by decide) kl_IB ca_IB (j := 3) (len := 1) (Or.inl ⟨3, rfl, rfl, by decide +kernel⟩) rfl ?_
      refine z_b hX (fo_no RL) [.iconst 1] 14 (by decide +kernel) rfl ?_
      exact z_iret hX hR (by decide +kernel) (Hk_ex hq cd2_1 hc hf)
    · refine z_catch hX hT [(0, 9, 12, 24)] [] (0, 9, 15, 15) rfl (zpsc (by decide) kl_IB nc_UO_IB zps0) (by decide +kernel) (by decide) kl_UO ca_UO (j := 3) (len := 1) (Or.inl ⟨3, rfl, rfl, by decide +kernel⟩) rfl ?_
      refine z_b hX (fo_no RL) [.iconst 2] 17 (by decide +kernel) rfl ?_
      exact z_iret hX hR (by decide +kernel) (Hk_ex hq (cd2_2 ne_UO_IB) hc hf)
theorem p_L_torn : zMp yL_torn 3 4 := ⟨by decide +kernel, by decide +kernel, by decide +kernel, by decide⟩
theorem c_L_torn {E : zE} {x D : Int} {R : aQ} {σ : Nat → Nat → Int} {c : Nat → Int} {l : (Nat → Int64) × (Nat → UInt64)} (hI : AI D c R) (hK : CR R σ) (h_x : zi x) : Hb E yL_torn (.codeWith yL_torn cL_torn 4 (Option.some Jvm.ClassFile.FieldType.int) [((0 : Nat), (9 : Nat), (12 : Nat), (24 : Nat)), ((0 : Nat), (9 : Nat), (15 : Nat), (45 : Nat))]) 3 [vr 0, vi x, vr 20] σ c l (aTorn c R x) (cd2 eIB eNS) := by
  refine CtrN_of (by decide +kernel) rfl rfl (fun Y hX hR hT => ?_)
  refine z_b hX (fo_no RL) [.aload_n 2, .iconst 0, .aload_n 0, .iload_n 1] 4 (by decide +kernel) rfl ?_
  refine z_callV hX m_X10_torn l_L_79 p_X10_torn (c_X10_torn hI hK h_x) (by decide) (by decide) rfl rfl rfl rfl rfl (by decide +kernel) (fun v st q => ?_) (fun cls st q => ?_)
  · obtain ⟨v0, σ1, hq, rfl, rfl, hc, hf⟩ := q.inl
    refine z_i2l hX (by decide +kernel) ?_
    refine z_last hX (by decide +kernel) ?_
    refine z_goto hX (off := 9) 18 (by decide +kernel) (by decide) ?_
    refine z_b hX (fo_no RL) [.iconst 0] 19 (by decide +kernel) rfl ?_
    exact z_iret hX hR (by decide +kernel) (Hk_ok hq rfl hc hf)
  · obtain ⟨σ1, hq, rfl, hc, hf⟩ := q.inr
    rcases aTorn_x hq with rfl | rfl
    · refine z_catch hX hT [] [(0, 9, 15, 45)] (0, 9, 12, 24) rfl zps0 (by decide +kernel) (by decide) kl_IB ca_IB (j := 3) (len := 1) (Or.inl ⟨3, rfl, rfl, by decide +kernel⟩) rfl ?_
      refine z_b hX (fo_no RL) [.iconst 1] 14 (by decide +kernel) rfl ?_
      exact z_iret hX hR (by decide +kernel) (Hk_ex hq cd2_1 hc hf)
    · refine z_catch hX hT [(0, 9, 12, 24)] [] (0, 9, 15, 45) rfl (zpsc (by decide) kl_IB nc_NS_IB zps0) (by decide +kernel) (by decide) kl_NS ca_NS (j := 3) (len := 1) (Or.inl ⟨3, rfl, rfl, by decide +kernel⟩) rfl ?_
      refine z_b hX (fo_no RL) [.iconst 2] 17 (by decide +kernel) rfl ?_
      exact z_iret hX hR (by decide +kernel) (Hk_ex hq (cd2_2 ne_NS_IB) hc hf)
theorem p_L_trunk : zMp yL_trunk 2 3 := ⟨by decide +kernel, by decide +kernel, by decide +kernel, by decide⟩
theorem c_L_trunk {E : zE} {D : Int} {R : aQ} {σ : Nat → Nat → Int} {c : Nat → Int} {l : (Nat → Int64) × (Nat → UInt64)} (hI : AI D c R) (hK : CR R σ)  : Hb E yL_trunk (.codeWith yL_trunk cL_trunk 3 (Option.some Jvm.ClassFile.FieldType.int) [((0 : Nat), (8 : Nat), (11 : Nat), (15 : Nat))]) 5 [vr 0, vr 20] σ c l (aTrunk false c R ) (cd1 eUO) := by
  refine CtrN_of (by decide +kernel) rfl rfl (fun Y hX hR hT => ?_)
  refine z_b hX (fo_no RL) [.aload_n 1, .iconst 0, .aload_n 0] 3 (by decide +kernel) rfl ?_
  refine z_callV hX m_X10_trunk l_L_82 p_X10_trunk (c_X10_trunk hI hK ) (by decide) (by decide) rfl rfl rfl rfl rfl (by decide +kernel) (fun v st q => ?_) (fun cls st q => ?_)
  · obtain ⟨v0, σ1, hq, rfl, rfl, hc, hf⟩ := q.inl
    refine z_i2l hX (by decide +kernel) ?_
    refine z_last hX (by decide +kernel) ?_
    refine z_goto hX (off := 6) 14 (by decide +kernel) (by decide) ?_
    refine z_b hX (fo_no RL) [.iconst 0] 15 (by decide +kernel) rfl ?_
    exact z_iret hX hR (by decide +kernel) (Hk_ok hq rfl hc hf)
  · obtain ⟨σ1, hq, rfl, hc, hf⟩ := q.inr
    have he := aTrunk_x hq
    subst he
    refine z_catch hX hT [] [] (0, 8, 11, 15) rfl zps0 (by decide +kernel) (by decide) kl_UO ca_UO (j := 2) (len := 1) (Or.inl ⟨2, rfl, rfl, by decide +kernel⟩) rfl ?_
    refine z_b hX (fo_no RL) [.iconst 1] 13 (by decide +kernel) rfl ?_
    exact z_iret hX hR (by decide +kernel) (Hk_ex hq cd1_1 hc hf)
theorem p_L_pack : zMp yL_pack 4 5 := ⟨by decide +kernel, by decide +kernel, by decide +kernel, by decide⟩
theorem c_L_pack {E : zE} {x y D : Int} {R : aQ} {σ : Nat → Nat → Int} {c : Nat → Int} {l : (Nat → Int64) × (Nat → UInt64)} (hI : AI D c R) (hK : CR R σ) (h_x : zi x) (h_y : zi y) : Hb E yL_pack (.codeWith yL_pack cL_pack 5 (Option.some Jvm.ClassFile.FieldType.int) [((0 : Nat), (10 : Nat), (13 : Nat), (24 : Nat)), ((0 : Nat), (10 : Nat), (17 : Nat), (15 : Nat))]) 5 [vr 0, vi x, vi y, vr 20] σ c l (aPack false c R x y) (cd2 eIB eUO) := by
  refine CtrN_of (by decide +kernel) rfl rfl (fun Y hX hR hT => ?_)
  refine z_b hX (fo_no RL) [.aload_n 3, .iconst 0, .aload_n 0, .iload_n 1, .iload_n 2] 5 (by decide +kernel) rfl ?_
  refine z_callV hX m_X10_pack l_L_85 p_X10_pack (c_X10_pack hI hK h_x h_y) (by decide) (by decide) rfl rfl rfl rfl rfl (by decide +kernel) (fun v st q => ?_) (fun cls st q => ?_)
  · obtain ⟨v0, σ1, hq, rfl, rfl, hc, hf⟩ := q.inl
    refine z_i2l hX (by decide +kernel) ?_
    refine z_last hX (by decide +kernel) ?_
    refine z_goto hX (off := 11) 21 (by decide +kernel) (by decide) ?_
    refine z_b hX (fo_no RL) [.iconst 0] 22 (by decide +kernel) rfl ?_
    exact z_iret hX hR (by decide +kernel) (Hk_ok hq rfl hc hf)
  · obtain ⟨σ1, hq, rfl, hc, hf⟩ := q.inr
    rcases aPack_x hq with rfl | rfl
    · refine z_catch hX hT [] [(0, 10, 17, 15)] (0, 10, 13, 24) rfl zps0 (by decide +kernel) (by decide) kl_IB ca_IB (j := 4) (len := 2) (Or.inr ⟨rfl, by decide +kernel⟩) rfl ?_
      refine z_b hX (fo_no RL) [.iconst 1] 16 (by decide +kernel) rfl ?_
      exact z_iret hX hR (by decide +kernel) (Hk_ex hq cd2_1 hc hf)
    · refine z_catch hX hT [(0, 10, 13, 24)] [] (0, 10, 17, 15) rfl (zpsc (by decide) kl_IB nc_UO_IB zps0) (by decide +kernel) (by decide) kl_UO ca_UO (j := 4) (len := 2) (Or.inr ⟨rfl, by decide +kernel⟩) rfl ?_
      refine z_b hX (fo_no RL) [.iconst 2] 20 (by decide +kernel) rfl ?_
      exact z_iret hX hR (by decide +kernel) (Hk_ex hq (cd2_2 ne_UO_IB) hc hf)
theorem p_L_unpack : zMp yL_unpack 3 4 := ⟨by decide +kernel, by decide +kernel, by decide +kernel, by decide⟩
theorem c_L_unpack {E : zE} {x D : Int} {R : aQ} {σ : Nat → Nat → Int} {c : Nat → Int} {l : (Nat → Int64) × (Nat → UInt64)} (hI : AI D c R) (hK : CR R σ) (h_x : zi x) : Hb E yL_unpack (.codeWith yL_unpack cL_unpack 4 (Option.some Jvm.ClassFile.FieldType.int) [((0 : Nat), (9 : Nat), (12 : Nat), (24 : Nat)), ((0 : Nat), (9 : Nat), (15 : Nat), (15 : Nat))]) 6 [vr 0, vi x, vr 20] σ c l (aUnpack false c R x) (cd2 eIB eUO) := by
  refine CtrN_of (by decide +kernel) rfl rfl (fun Y hX hR hT => ?_)
  refine z_b hX (fo_no RL) [.aload_n 2, .iconst 0, .aload_n 0, .iload_n 1] 4 (by decide +kernel) rfl ?_
  refine z_callV hX m_X10_unpack l_L_88 p_X10_unpack (c_X10_unpack hI hK h_x) (by decide) (by decide) rfl rfl rfl rfl rfl (by decide +kernel) (fun v st q => ?_) (fun cls st q => ?_)
  · obtain ⟨v0, σ1, hq, rfl, rfl, hc, hf⟩ := q.inl
    refine z_i2l hX (by decide +kernel) ?_
    refine z_last hX (by decide +kernel) ?_
    refine z_goto hX (off := 9) 18 (by decide +kernel) (by decide) ?_
    refine z_b hX (fo_no RL) [.iconst 0] 19 (by decide +kernel) rfl ?_
    exact z_iret hX hR (by decide +kernel) (Hk_ok hq rfl hc hf)
  · obtain ⟨σ1, hq, rfl, hc, hf⟩ := q.inr
    rcases aUnpack_x hq with rfl | rfl
    · refine z_catch hX hT [] [(0, 9, 15, 15)] (0, 9, 12, 24) rfl zps0 (by decide +kernel) (by decide) kl_IB ca_IB (j := 3) (len := 1) (Or.inl ⟨3, rfl, rfl, by decide +kernel⟩) rfl ?_
      refine z_b hX (fo_no RL) [.iconst 1] 14 (by decide +kernel) rfl ?_
      exact z_iret hX hR (by decide +kernel) (Hk_ex hq cd2_1 hc hf)
    · refine z_catch hX hT [(0, 9, 12, 24)] [] (0, 9, 15, 15) rfl (zpsc (by decide) kl_IB nc_UO_IB zps0) (by decide +kernel) (by decide) kl_UO ca_UO (j := 3) (len := 1) (Or.inl ⟨3, rfl, rfl, by decide +kernel⟩) rfl ?_
      refine z_b hX (fo_no RL) [.iconst 2] 17 (by decide +kernel) rfl ?_
      exact z_iret hX hR (by decide +kernel) (Hk_ex hq (cd2_2 ne_UO_IB) hc hf)
theorem p_L_packed : zMp yL_packed 4 5 := ⟨by decide +kernel, by decide +kernel, by decide +kernel, by decide⟩
theorem c_L_packed {E : zE} {x y D : Int} {R : aQ} {σ : Nat → Nat → Int} {c : Nat → Int} {l : (Nat → Int64) × (Nat → UInt64)} (hI : AI D c R) (hK : CR R σ) (h_x : zi x) (h_y : zi y) : Hb E yL_packed (.codeWith yL_packed cL_packed 5 (Option.some Jvm.ClassFile.FieldType.int) [((0 : Nat), (10 : Nat), (13 : Nat), (24 : Nat)), ((0 : Nat), (10 : Nat), (17 : Nat), (45 : Nat))]) 4 [vr 0, vi x, vi y, vr 20] σ c l (aPacked c R x y) (cd2 eIB eNS) := by
  refine CtrN_of (by decide +kernel) rfl rfl (fun Y hX hR hT => ?_)
  refine z_b hX (fo_no RL) [.aload_n 3, .iconst 0, .aload_n 0, .iload_n 1, .iload_n 2] 5 (by decide +kernel) rfl ?_
  refine z_callV hX m_X10_packed l_L_91 p_X10_packed (c_X10_packed hI hK h_x h_y) (by decide) (by decide) rfl rfl rfl rfl rfl (by decide +kernel) (fun v st q => ?_) (fun cls st q => ?_)
  · obtain ⟨v0, σ1, hq, rfl, rfl, hc, hf⟩ := q.inl
    refine z_i2l hX (by decide +kernel) ?_
    refine z_last hX (by decide +kernel) ?_
    refine z_goto hX (off := 11) 21 (by decide +kernel) (by decide) ?_
    refine z_b hX (fo_no RL) [.iconst 0] 22 (by decide +kernel) rfl ?_
    exact z_iret hX hR (by decide +kernel) (Hk_ok hq rfl hc hf)
  · obtain ⟨σ1, hq, rfl, hc, hf⟩ := q.inr
    rcases aPacked_x hq with rfl | rfl
    · refine z_catch hX hT [] [(0, 10, 17, 45)] (0, 10, 13, 24) rfl zps0 (by decide +kernel) (by decide) kl_IB ca_IB (j := 4) (len := 2) (Or.inr ⟨rfl, by decide +kernel⟩) rfl ?_
      refine z_b hX (fo_no RL) [.iconst 1] 16 (by decide +kernel) rfl ?_
      exact z_iret hX hR (by decide +kernel) (Hk_ex hq cd2_1 hc hf)
    · refine z_catch hX hT [(0, 10, 13, 24)] [] (0, 10, 17, 45) rfl (zpsc (by decide) kl_IB nc_NS_IB zps0) (by decide +kernel) (by decide) kl_NS ca_NS (j := 4) (len := 2) (Or.inr ⟨rfl, by decide +kernel⟩) rfl ?_
      refine z_b hX (fo_no RL) [.iconst 2] 20 (by decide +kernel) rfl ?_
      exact z_iret hX hR (by decide +kernel) (Hk_ex hq (cd2_2 ne_NS_IB) hc hf)
theorem p_L_load : zMp yL_load 3 4 := ⟨by decide +kernel, by decide +kernel, by decide +kernel, by decide⟩
theorem c_L_load {E : zE} {x D : Int} {R : aQ} {σ : Nat → Nat → Int} {c : Nat → Int} {l : (Nat → Int64) × (Nat → UInt64)} (hI : AI D c R) (hK : CR R σ) (h_x : zi x) : Hb E yL_load (.codeWith yL_load cL_load 4 (Option.some Jvm.ClassFile.FieldType.int) [((0 : Nat), (9 : Nat), (12 : Nat), (24 : Nat)), ((0 : Nat), (9 : Nat), (15 : Nat), (15 : Nat))]) 5 [vr 0, vi x, vr 20] σ c l (aLoad false c R x) (cd2 eIB eUO) := by
  refine CtrN_of (by decide +kernel) rfl rfl (fun Y hX hR hT => ?_)
  refine z_b hX (fo_no RL) [.aload_n 2, .iconst 0, .aload_n 0, .iload_n 1] 4 (by decide +kernel) rfl ?_
  refine z_callV hX m_X10_load l_L_94 p_X10_load (c_X10_load hI hK h_x) (by decide) (by decide) rfl rfl rfl rfl rfl (by decide +kernel) (fun v st q => ?_) (fun cls st q => ?_)
  · obtain ⟨v0, σ1, hq, rfl, rfl, hc, hf⟩ := q.inl
    refine z_i2l hX (by decide +kernel) ?_
    refine z_last hX (by decide +kernel) ?_
    refine z_goto hX (off := 9) 18 (by decide +kernel) (by decide) ?_
    refine z_b hX (fo_no RL) [.iconst 0] 19 (by decide +kernel) rfl ?_
    exact z_iret hX hR (by decide +kernel) (Hk_ok hq rfl hc hf)
  · obtain ⟨σ1, hq, rfl, hc, hf⟩ := q.inr
    rcases aLoad_x hq with rfl | rfl
    · refine z_catch hX hT [] [(0, 9, 15, 15)] (0, 9, 12, 24) rfl zps0 (by decide +kernel) (by decide) kl_IB ca_IB (j := 3) (len := 1) (Or.inl ⟨3, rfl, rfl, by decide +kernel⟩) rfl ?_
      refine z_b hX (fo_no RL) [.iconst 1] 14 (by decide +kernel) rfl ?_
      exact z_iret hX hR (by decide +kernel) (Hk_ex hq cd2_1 hc hf)
    · refine z_catch hX hT [(0, 9, 12, 24)] [] (0, 9, 15, 15) rfl (zpsc (by decide) kl_IB nc_UO_IB zps0) (by decide +kernel) (by decide) kl_UO ca_UO (j := 3) (len := 1) (Or.inl ⟨3, rfl, rfl, by decide +kernel⟩) rfl ?_
      refine z_b hX (fo_no RL) [.iconst 2] 17 (by decide +kernel) rfl ?_
      exact z_iret hX hR (by decide +kernel) (Hk_ex hq (cd2_2 ne_UO_IB) hc hf)
theorem p_L_unload : zMp yL_unload 2 3 := ⟨by decide +kernel, by decide +kernel, by decide +kernel, by decide⟩
theorem c_L_unload {E : zE} {D : Int} {R : aQ} {σ : Nat → Nat → Int} {c : Nat → Int} {l : (Nat → Int64) × (Nat → UInt64)} (hI : AI D c R) (hK : CR R σ)  : Hb E yL_unload (.codeWith yL_unload cL_unload 3 (Option.some Jvm.ClassFile.FieldType.int) [((0 : Nat), (8 : Nat), (11 : Nat), (15 : Nat))]) 5 [vr 0, vr 20] σ c l (aUnload false c R ) (cd1 eUO) := by
  refine CtrN_of (by decide +kernel) rfl rfl (fun Y hX hR hT => ?_)
  refine z_b hX (fo_no RL) [.aload_n 1, .iconst 0, .aload_n 0] 3 (by decide +kernel) rfl ?_
  refine z_callV hX m_X10_unload l_L_97 p_X10_unload (c_X10_unload hI hK ) (by decide) (by decide) rfl rfl rfl rfl rfl (by decide +kernel) (fun v st q => ?_) (fun cls st q => ?_)
  · obtain ⟨v0, σ1, hq, rfl, rfl, hc, hf⟩ := q.inl
    refine z_i2l hX (by decide +kernel) ?_
    refine z_last hX (by decide +kernel) ?_
    refine z_goto hX (off := 6) 14 (by decide +kernel) (by decide) ?_
    refine z_b hX (fo_no RL) [.iconst 0] 15 (by decide +kernel) rfl ?_
    exact z_iret hX hR (by decide +kernel) (Hk_ok hq rfl hc hf)
  · obtain ⟨σ1, hq, rfl, hc, hf⟩ := q.inr
    have he := aUnload_x hq
    subst he
    refine z_catch hX hT [] [] (0, 8, 11, 15) rfl zps0 (by decide +kernel) (by decide) kl_UO ca_UO (j := 2) (len := 1) (Or.inl ⟨2, rfl, rfl, by decide +kernel⟩) rfl ?_
    refine z_b hX (fo_no RL) [.iconst 1] 13 (by decide +kernel) rfl ?_
    exact z_iret hX hR (by decide +kernel) (Hk_ex hq cd1_1 hc hf)
theorem p_L_onTrain : zMp yL_onTrain 3 4 := ⟨by decide +kernel, by decide +kernel, by decide +kernel, by decide⟩
theorem c_L_onTrain {E : zE} {x D : Int} {R : aQ} {σ : Nat → Nat → Int} {c : Nat → Int} {l : (Nat → Int64) × (Nat → UInt64)} (hI : AI D c R) (hK : CR R σ) (h_x : zi x) : Hb E yL_onTrain (.codeWith yL_onTrain cL_onTrain 4 (Option.some Jvm.ClassFile.FieldType.int) [((0 : Nat), (9 : Nat), (12 : Nat), (45 : Nat))]) 3 [vr 0, vi x, vr 20] σ c l (aOnTrain c R x) (cd1 eNS) := by
  refine CtrN_of (by decide +kernel) rfl rfl (fun Y hX hR hT => ?_)
  refine z_b hX (fo_no RL) [.aload_n 2, .iconst 0, .aload_n 0, .iload_n 1] 4 (by decide +kernel) rfl ?_
  refine z_callV hX m_X10_onTrain l_L_100 p_X10_onTrain (c_X10_onTrain hI hK h_x) (by decide) (by decide) rfl rfl rfl rfl rfl (by decide +kernel) (fun v st q => ?_) (fun cls st q => ?_)
  · obtain ⟨v0, σ1, hq, rfl, rfl, hc, hf⟩ := q.inl
    refine z_i2l hX (by decide +kernel) ?_
    refine z_last hX (by decide +kernel) ?_
    refine z_goto hX (off := 6) 15 (by decide +kernel) (by decide) ?_
    refine z_b hX (fo_no RL) [.iconst 0] 16 (by decide +kernel) rfl ?_
    exact z_iret hX hR (by decide +kernel) (Hk_ok hq rfl hc hf)
  · obtain ⟨σ1, hq, rfl, hc, hf⟩ := q.inr
    have he := aOnTrain_x hq
    subst he
    refine z_catch hX hT [] [] (0, 9, 12, 45) rfl zps0 (by decide +kernel) (by decide) kl_NS ca_NS (j := 3) (len := 1) (Or.inl ⟨3, rfl, rfl, by decide +kernel⟩) rfl ?_
    refine z_b hX (fo_no RL) [.iconst 1] 14 (by decide +kernel) rfl ?_
    exact z_iret hX hR (by decide +kernel) (Hk_ex hq cd1_1 hc hf)
theorem p_L_unloads : zMp yL_unloads 3 4 := ⟨by decide +kernel, by decide +kernel, by decide +kernel, by decide⟩
theorem c_L_unloads {E : zE} {x D : Int} {R : aQ} {σ : Nat → Nat → Int} {c : Nat → Int} {l : (Nat → Int64) × (Nat → UInt64)} (hI : AI D c R) (hK : CR R σ) (h_x : zi x) : Hb E yL_unloads (.codeWith yL_unloads cL_unloads 4 (Option.some Jvm.ClassFile.FieldType.int) [((0 : Nat), (9 : Nat), (12 : Nat), (24 : Nat))]) 3 [vr 0, vi x, vr 20] σ c l (aUnloads c R x) (cd1 eIB) := by
  refine CtrN_of (by decide +kernel) rfl rfl (fun Y hX hR hT => ?_)
  refine z_b hX (fo_no RL) [.aload_n 2, .iconst 0, .aload_n 0, .iload_n 1] 4 (by decide +kernel) rfl ?_
  refine z_callV hX m_X10_unloads l_L_103 p_X10_unloads (c_X10_unloads hI hK h_x) (by decide) (by decide) rfl rfl rfl rfl rfl (by decide +kernel) (fun v st q => ?_) (fun cls st q => ?_)
  · obtain ⟨v0, σ1, hq, rfl, rfl, hc, hf⟩ := q.inl
    refine z_i2l hX (by decide +kernel) ?_
    refine z_last hX (by decide +kernel) ?_
    refine z_goto hX (off := 6) 15 (by decide +kernel) (by decide) ?_
    refine z_b hX (fo_no RL) [.iconst 0] 16 (by decide +kernel) rfl ?_
    exact z_iret hX hR (by decide +kernel) (Hk_ok hq rfl hc hf)
  · obtain ⟨σ1, hq, rfl, hc, hf⟩ := q.inr
    have he := aUnloads_x hq
    subst he
    refine z_catch hX hT [] [] (0, 9, 12, 24) rfl zps0 (by decide +kernel) (by decide) kl_IB ca_IB (j := 3) (len := 1) (Or.inl ⟨3, rfl, rfl, by decide +kernel⟩) rfl ?_
    refine z_b hX (fo_no RL) [.iconst 1] 14 (by decide +kernel) rfl ?_
    exact z_iret hX hR (by decide +kernel) (Hk_ex hq cd1_1 hc hf)
theorem p_L_goOn : zMp yL_goOn 3 4 := ⟨by decide +kernel, by decide +kernel, by decide +kernel, by decide⟩
theorem c_L_goOn {E : zE} {x D : Int} {R : aQ} {σ : Nat → Nat → Int} {c : Nat → Int} {l : (Nat → Int64) × (Nat → UInt64)} (hI : AI D c R) (hK : CR R σ) (h_x : zi x) : Hb E yL_goOn (.codeWith yL_goOn cL_goOn 4 (Option.some Jvm.ClassFile.FieldType.int) [((0 : Nat), (9 : Nat), (12 : Nat), (24 : Nat)), ((0 : Nat), (9 : Nat), (15 : Nat), (15 : Nat))]) 5 [vr 0, vi x, vr 20] σ c l (aGoOn false c R x) (cd2 eIB eUO) := by
  refine CtrN_of (by decide +kernel) rfl rfl (fun Y hX hR hT => ?_)
  refine z_b hX (fo_no RL) [.aload_n 2, .iconst 0, .aload_n 0, .iload_n 1] 4 (by decide +kernel) rfl ?_
  refine z_callV hX m_X10_goOn l_L_106 p_X10_goOn (c_X10_goOn hI hK h_x) (by decide) (by decide) rfl rfl rfl rfl rfl (by decide +kernel) (fun v st q => ?_) (fun cls st q => ?_)
  · obtain ⟨v0, σ1, hq, rfl, rfl, hc, hf⟩ := q.inl
    refine z_i2l hX (by decide +kernel) ?_
    refine z_last hX (by decide +kernel) ?_
    refine z_goto hX (off := 9) 18 (by decide +kernel) (by decide) ?_
    refine z_b hX (fo_no RL) [.iconst 0] 19 (by decide +kernel) rfl ?_
    exact z_iret hX hR (by decide +kernel) (Hk_ok hq rfl hc hf)
  · obtain ⟨σ1, hq, rfl, hc, hf⟩ := q.inr
    rcases aGoOn_x hq with rfl | rfl
    · refine z_catch hX hT [] [(0, 9, 15, 15)] (0, 9, 12, 24) rfl zps0 (by decide +kernel) (by decide) kl_IB ca_IB (j := 3) (len := 1) (Or.inl ⟨3, rfl, rfl, by decide +kernel⟩) rfl ?_
      refine z_b hX (fo_no RL) [.iconst 1] 14 (by decide +kernel) rfl ?_
      exact z_iret hX hR (by decide +kernel) (Hk_ex hq cd2_1 hc hf)
    · refine z_catch hX hT [(0, 9, 12, 24)] [] (0, 9, 15, 15) rfl (zpsc (by decide) kl_IB nc_UO_IB zps0) (by decide +kernel) (by decide) kl_UO ca_UO (j := 3) (len := 1) (Or.inl ⟨3, rfl, rfl, by decide +kernel⟩) rfl ?_
      refine z_b hX (fo_no RL) [.iconst 2] 17 (by decide +kernel) rfl ?_
      exact z_iret hX hR (by decide +kernel) (Hk_ex hq (cd2_2 ne_UO_IB) hc hf)
theorem p_L_tightIn : zMp yL_tightIn 3 4 := ⟨by decide +kernel, by decide +kernel, by decide +kernel, by decide⟩
theorem c_L_tightIn {E : zE} {x D : Int} {R : aQ} {σ : Nat → Nat → Int} {c : Nat → Int} {l : (Nat → Int64) × (Nat → UInt64)} (hI : AI D c R) (hK : CR R σ) (h_x : zi x) (hD : D ≤ 1000000) : Hb E yL_tightIn (.codeWith yL_tightIn cL_tightIn 4 (Option.some Jvm.ClassFile.FieldType.int) [((0 : Nat), (9 : Nat), (12 : Nat), (24 : Nat)), ((0 : Nat), (9 : Nat), (15 : Nat), (45 : Nat))]) 3 [vr 0, vi x, vr 20] σ c l (aTight c R x) (cd2 eIB eNS) := by
  refine CtrN_of (by decide +kernel) rfl rfl (fun Y hX hR hT => ?_)
  refine z_b hX (fo_no RL) [.aload_n 2, .iconst 0, .aload_n 0, .iload_n 1] 4 (by decide +kernel) rfl ?_
  refine z_callV hX m_X10_tightIn l_L_109 p_X10_tightIn (c_X10_tightIn hI hK h_x hD) (by decide) (by decide) rfl rfl rfl rfl rfl (by decide +kernel) (fun v st q => ?_) (fun cls st q => ?_)
  · obtain ⟨v0, σ1, hq, rfl, rfl, hc, hf⟩ := q.inl
    refine z_i2l hX (by decide +kernel) ?_
    refine z_last hX (by decide +kernel) ?_
    refine z_goto hX (off := 9) 18 (by decide +kernel) (by decide) ?_
    refine z_b hX (fo_no RL) [.iconst 0] 19 (by decide +kernel) rfl ?_
    exact z_iret hX hR (by decide +kernel) (Hk_ok hq rfl hc hf)
  · obtain ⟨σ1, hq, rfl, hc, hf⟩ := q.inr
    rcases aTight_x hq with rfl | rfl
    · refine z_catch hX hT [] [(0, 9, 15, 45)] (0, 9, 12, 24) rfl zps0 (by decide +kernel) (by decide) kl_IB ca_IB (j := 3) (len := 1) (Or.inl ⟨3, rfl, rfl, by decide +kernel⟩) rfl ?_
      refine z_b hX (fo_no RL) [.iconst 1] 14 (by decide +kernel) rfl ?_
      exact z_iret hX hR (by decide +kernel) (Hk_ex hq cd2_1 hc hf)
    · refine z_catch hX hT [(0, 9, 12, 24)] [] (0, 9, 15, 45) rfl (zpsc (by decide) kl_IB nc_NS_IB zps0) (by decide +kernel) (by decide) kl_NS ca_NS (j := 3) (len := 1) (Or.inl ⟨3, rfl, rfl, by decide +kernel⟩) rfl ?_
      refine z_b hX (fo_no RL) [.iconst 2] 17 (by decide +kernel) rfl ?_
      exact z_iret hX hR (by decide +kernel) (Hk_ex hq (cd2_2 ne_NS_IB) hc hf)
theorem p_L_pass : zMp yL_pass 3 4 := ⟨by decide +kernel, by decide +kernel, by decide +kernel, by decide⟩
theorem c_L_pass {E : zE} {x D : Int} {R : aQ} {σ : Nat → Nat → Int} {c : Nat → Int} {l : (Nat → Int64) × (Nat → UInt64)} (hI : AI D c R) (hK : CR R σ) (h_x : zi x) (hD : D ≤ 1000000) : Hb E yL_pass (.codeWith yL_pass cL_pass 4 (Option.some Jvm.ClassFile.FieldType.int) [((0 : Nat), (9 : Nat), (12 : Nat), (13 : Nat))]) 5 [vr 0, vi x, vr 20] σ c l (aPass false c R x) (cd1 eIA) := by
  refine CtrN_of (by decide +kernel) rfl rfl (fun Y hX hR hT => ?_)
  refine z_b hX (fo_no RL) [.aload_n 2, .iconst 0, .aload_n 0, .iload_n 1] 4 (by decide +kernel) rfl ?_
  refine z_callV hX m_X10_pass l_L_112 p_X10_pass (c_X10_pass hI hK h_x hD) (by decide) (by decide) rfl rfl rfl rfl rfl (by decide +kernel) (fun v st q => ?_) (fun cls st q => ?_)
  · obtain ⟨v0, σ1, hq, rfl, rfl, hc, hf⟩ := q.inl
    refine z_i2l hX (by decide +kernel) ?_
    refine z_last hX (by decide +kernel) ?_
    refine z_goto hX (off := 6) 15 (by decide +kernel) (by decide) ?_
    refine z_b hX (fo_no RL) [.iconst 0] 16 (by decide +kernel) rfl ?_
    exact z_iret hX hR (by decide +kernel) (Hk_ok hq rfl hc hf)
  · obtain ⟨σ1, hq, rfl, hc, hf⟩ := q.inr
    have he := aPass_x hq
    subst he
    refine z_catch hX hT [] [] (0, 9, 12, 13) rfl zps0 (by decide +kernel) (by decide) kl_IA ca_IA (j := 3) (len := 1) (Or.inl ⟨3, rfl, rfl, by decide +kernel⟩) rfl ?_
    refine z_b hX (fo_no RL) [.iconst 1] 14 (by decide +kernel) rfl ?_
    exact z_iret hX hR (by decide +kernel) (Hk_ex hq cd1_1 hc hf)
theorem p_L_append : zMp yL_append 3 4 := ⟨by decide +kernel, by decide +kernel, by decide +kernel, by decide⟩
theorem c_L_append {E : zE} {x D : Int} {R : aQ} {σ : Nat → Nat → Int} {c : Nat → Int} {l : (Nat → Int64) × (Nat → UInt64)} (hI : AI D c R) (hK : CR R σ) (hx : 0 ≤ x ∧ x ≤ 65535) : Hb E yL_append (.codeWith yL_append cL_append 4 (Option.some Jvm.ClassFile.FieldType.int) [((0 : Nat), (9 : Nat), (12 : Nat), (119 : Nat))]) 2 [vr 0, vi x, vr 20] σ c l (aAppend c R x) (cd1 eIS) := by
  refine CtrN_of (by decide +kernel) rfl rfl (fun Y hX hR hT => ?_)
  refine z_b hX (fo_no RL) [.aload_n 2, .iconst 0, .aload_n 0, .iload_n 1] 4 (by decide +kernel) rfl ?_
  refine z_callV hX m_X10_append l_L_115 p_X10_append (c_X10_append hI hK hx) (by decide) (by decide) rfl rfl rfl rfl rfl (by decide +kernel) (fun v st q => ?_) (fun cls st q => ?_)
  · obtain ⟨v0, σ1, hq, rfl, rfl, hc, hf⟩ := q.inl
    refine z_i2l hX (by decide +kernel) ?_
    refine z_last hX (by decide +kernel) ?_
    refine z_goto hX (off := 6) 15 (by decide +kernel) (by decide) ?_
    refine z_b hX (fo_no RL) [.iconst 0] 16 (by decide +kernel) rfl ?_
    exact z_iret hX hR (by decide +kernel) (Hk_ok hq rfl hc hf)
  · obtain ⟨σ1, hq, rfl, hc, hf⟩ := q.inr
    have he := aAppend_x hq
    subst he
    refine z_catch hX hT [] [] (0, 9, 12, 119) rfl zps0 (by decide +kernel) (by decide) kl_IS ca_IS (j := 3) (len := 1) (Or.inl ⟨3, rfl, rfl, by decide +kernel⟩) rfl ?_
    refine z_b hX (fo_no RL) [.iconst 1] 14 (by decide +kernel) rfl ?_
    exact z_iret hX hR (by decide +kernel) (Hk_ex hq cd1_1 hc hf)
theorem p_L_read : zMp yL_read 2 3 := ⟨by decide +kernel, by decide +kernel, by decide +kernel, by decide⟩
theorem c_L_read {E : zE} {D : Int} {R : aQ} {σ : Nat → Nat → Int} {c : Nat → Int} {l : (Nat → Int64) × (Nat → UInt64)} (hI : AI D c R) (hK : CR R σ) (hD : D + 1800 ≤ 1000000) : Hb E yL_read (.codeWith yL_read cL_read 3 (Option.some Jvm.ClassFile.FieldType.int) [((0 : Nat), (8 : Nat), (11 : Nat), (13 : Nat)), ((0 : Nat), (8 : Nat), (14 : Nat), (15 : Nat))]) 9 [vr 0, vr 20] σ c l (aRead c R ) (cd2 eIA eUO) := by
  refine CtrN_of (by decide +kernel) rfl rfl (fun Y hX hR hT => ?_)
  refine z_b hX (fo_no RL) [.aload_n 1, .iconst 0, .aload_n 0] 3 (by decide +kernel) rfl ?_
  refine z_callV hX m_X10_read l_L_121 p_X10_read (c_X10_read hI hK hD) (by decide) (by decide) rfl rfl rfl rfl rfl (by decide +kernel) (fun v st q => ?_) (fun cls st q => ?_)
  · obtain ⟨v0, σ1, hq, rfl, rfl, hc, hf⟩ := q.inl
    refine z_i2l hX (by decide +kernel) ?_
    refine z_last hX (by decide +kernel) ?_
    refine z_goto hX (off := 9) 17 (by decide +kernel) (by decide) ?_
    refine z_b hX (fo_no RL) [.iconst 0] 18 (by decide +kernel) rfl ?_
    exact z_iret hX hR (by decide +kernel) (Hk_ok hq rfl hc hf)
  · obtain ⟨σ1, hq, rfl, hc, hf⟩ := q.inr
    rcases aRead_x hq with rfl | rfl
    · refine z_catch hX hT [] [(0, 8, 14, 15)] (0, 8, 11, 13) rfl zps0 (by decide +kernel) (by decide) kl_IA ca_IA (j := 2) (len := 1) (Or.inl ⟨2, rfl, rfl, by decide +kernel⟩) rfl ?_
      refine z_b hX (fo_no RL) [.iconst 1] 13 (by decide +kernel) rfl ?_
      exact z_iret hX hR (by decide +kernel) (Hk_ex hq cd2_1 hc hf)
    · refine z_catch hX hT [(0, 8, 11, 13)] [] (0, 8, 14, 15) rfl (zpsc (by decide) kl_IA nc_UO_IA zps0) (by decide +kernel) (by decide) kl_UO ca_UO (j := 2) (len := 1) (Or.inl ⟨2, rfl, rfl, by decide +kernel⟩) rfl ?_
      refine z_b hX (fo_no RL) [.iconst 2] 16 (by decide +kernel) rfl ?_
      exact z_iret hX hR (by decide +kernel) (Hk_ex hq (cd2_2 ne_UO_IA) hc hf)
theorem p_L_refusal : zMp yL_refusal 3 4 := ⟨by decide +kernel, by decide +kernel, by decide +kernel, by decide⟩
theorem c_L_refusal {E : zE} {b D : Int} {R : aQ} {σ : Nat → Nat → Int} {c : Nat → Int} {l : (Nat → Int64) × (Nat → UInt64)} (hI : AI D c R) (hK : CR R σ) (hb : b = 0 ∨ b = 1) : Hb E yL_refusal (.codeWith yL_refusal cL_refusal 4 (Option.some Jvm.ClassFile.FieldType.int) [((0 : Nat), (9 : Nat), (12 : Nat), (45 : Nat))]) 2 [vr 0, vi b, vr 20] σ c l (aRefusal c R b) (cd1 eNS) := by
  refine CtrN_of (by decide +kernel) rfl rfl (fun Y hX hR hT => ?_)
  refine z_b hX (fo_no RL) [.aload_n 2, .iconst 0, .aload_n 0, .iload_n 1] 4 (by decide +kernel) rfl ?_
  refine z_callV hX m_X10_refusal l_L_124 p_X10_refusal (c_X10_refusal hI hK hb) (by decide) (by decide) rfl rfl rfl rfl rfl (by decide +kernel) (fun v st q => ?_) (fun cls st q => ?_)
  · obtain ⟨v0, σ1, hq, rfl, rfl, hc, hf⟩ := q.inl
    refine z_i2l hX (by decide +kernel) ?_
    refine z_last hX (by decide +kernel) ?_
    refine z_goto hX (off := 6) 15 (by decide +kernel) (by decide) ?_
    refine z_b hX (fo_no RL) [.iconst 0] 16 (by decide +kernel) rfl ?_
    exact z_iret hX hR (by decide +kernel) (Hk_ok hq rfl hc hf)
  · obtain ⟨σ1, hq, rfl, hc, hf⟩ := q.inr
    have he := aRefusal_x hq
    subst he
    refine z_catch hX hT [] [] (0, 9, 12, 45) rfl zps0 (by decide +kernel) (by decide) kl_NS ca_NS (j := 3) (len := 1) (Or.inl ⟨3, rfl, rfl, by decide +kernel⟩) rfl ?_
    refine z_b hX (fo_no RL) [.iconst 1] 14 (by decide +kernel) rfl ?_
    exact z_iret hX hR (by decide +kernel) (Hk_ex hq cd1_1 hc hf)
theorem p_L_sign : zMp yL_sign 3 4 := ⟨by decide +kernel, by decide +kernel, by decide +kernel, by decide⟩
theorem c_L_sign {E : zE} {x D : Int} {R : aQ} {σ : Nat → Nat → Int} {c : Nat → Int} {l : (Nat → Int64) × (Nat → UInt64)} (hI : AI D c R) (hK : CR R σ) (h_x : zi x) : Hb E yL_sign (.codeWith yL_sign cL_sign 4 (Option.some Jvm.ClassFile.FieldType.int) [((0 : Nat), (9 : Nat), (12 : Nat), (24 : Nat))]) 4 [vr 0, vi x, vr 20] σ c l (aSign c R x) (cd1 eIB) := by
  refine CtrN_of (by decide +kernel) rfl rfl (fun Y hX hR hT => ?_)
  refine z_b hX (fo_no RL) [.aload_n 2, .iconst 0, .aload_n 0, .iload_n 1] 4 (by decide +kernel) rfl ?_
  refine z_callV hX m_X10_sign l_L_128 p_X10_sign (c_X10_sign hI hK h_x) (by decide) (by decide) rfl rfl rfl rfl rfl (by decide +kernel) (fun v st q => ?_) (fun cls st q => ?_)
  · obtain ⟨v0, σ1, hq, rfl, rfl, hc, hf⟩ := q.inl
    refine z_i2l hX (by decide +kernel) ?_
    refine z_last hX (by decide +kernel) ?_
    refine z_goto hX (off := 6) 15 (by decide +kernel) (by decide) ?_
    refine z_b hX (fo_no RL) [.iconst 0] 16 (by decide +kernel) rfl ?_
    exact z_iret hX hR (by decide +kernel) (Hk_ok hq rfl hc hf)
  · obtain ⟨σ1, hq, rfl, hc, hf⟩ := q.inr
    have he := aSign_x hq
    subst he
    refine z_catch hX hT [] [] (0, 9, 12, 24) rfl zps0 (by decide +kernel) (by decide) kl_IB ca_IB (j := 3) (len := 1) (Or.inl ⟨3, rfl, rfl, by decide +kernel⟩) rfl ?_
    refine z_b hX (fo_no RL) [.iconst 1] 14 (by decide +kernel) rfl ?_
    exact z_iret hX hR (by decide +kernel) (Hk_ex hq cd1_1 hc hf)
theorem p_L_account : zMp yL_account 3 4 := ⟨by decide +kernel, by decide +kernel, by decide +kernel, by decide⟩
theorem c_L_account {E : zE} {x D : Int} {R : aQ} {σ : Nat → Nat → Int} {c : Nat → Int} {l : (Nat → Int64) × (Nat → UInt64)} (hI : AI D c R) (hK : CR R σ) (h_x : zi x) : Hb E yL_account (.codeWith yL_account cL_account 4 (Option.some Jvm.ClassFile.FieldType.int) [((0 : Nat), (9 : Nat), (12 : Nat), (13 : Nat))]) 5 [vr 0, vi x, vr 20] σ c l (aAccount c R x) (cd1 eIA) := by
  refine CtrN_of (by decide +kernel) rfl rfl (fun Y hX hR hT => ?_)
  refine z_b hX (fo_no RL) [.aload_n 2, .iconst 0, .aload_n 0, .iload_n 1] 4 (by decide +kernel) rfl ?_
  refine z_callV hX m_X10_account l_L_132 p_X10_account (c_X10_account hI hK h_x) (by decide) (by decide) rfl rfl rfl rfl rfl (by decide +kernel) (fun v st q => ?_) (fun cls st q => ?_)
  · obtain ⟨v0, σ1, hq, rfl, rfl, hc, hf⟩ := q.inl
    refine z_i2l hX (by decide +kernel) ?_
    refine z_last hX (by decide +kernel) ?_
    refine z_goto hX (off := 6) 15 (by decide +kernel) (by decide) ?_
    refine z_b hX (fo_no RL) [.iconst 0] 16 (by decide +kernel) rfl ?_
    exact z_iret hX hR (by decide +kernel) (Hk_ok hq rfl hc hf)
  · obtain ⟨σ1, hq, rfl, hc, hf⟩ := q.inr
    have he := aAccount_x hq
    subst he
    refine z_catch hX hT [] [] (0, 9, 12, 13) rfl zps0 (by decide +kernel) (by decide) kl_IA ca_IA (j := 3) (len := 1) (Or.inl ⟨3, rfl, rfl, by decide +kernel⟩) rfl ?_
    refine z_b hX (fo_no RL) [.iconst 1] 14 (by decide +kernel) rfl ?_
    exact z_iret hX hR (by decide +kernel) (Hk_ex hq cd1_1 hc hf)
theorem p_L_undo : zMp yL_undo 2 3 := ⟨by decide +kernel, by decide +kernel, by decide +kernel, by decide⟩
theorem c_L_undo {E : zE} {D : Int} {R : aQ} {σ : Nat → Nat → Int} {c : Nat → Int} {l : (Nat → Int64) × (Nat → UInt64)} (hI : AI D c R) (hK : CR R σ)  : Hb E yL_undo (.codeWith yL_undo cL_undo 3 (Option.some Jvm.ClassFile.FieldType.int) [((0 : Nat), (8 : Nat), (11 : Nat), (119 : Nat))]) 5 [vr 0, vr 20] σ c l (aUndo c R ) (cd1 eIS) := by
  refine CtrN_of (by decide +kernel) rfl rfl (fun Y hX hR hT => ?_)
  refine z_b hX (fo_no RL) [.aload_n 1, .iconst 0, .aload_n 0] 3 (by decide +kernel) rfl ?_
  refine z_callV hX m_X10_undo l_L_141 p_X10_undo (c_X10_undo hI hK ) (by decide) (by decide) rfl rfl rfl rfl rfl (by decide +kernel) (fun v st q => ?_) (fun cls st q => ?_)
  · obtain ⟨v0, σ1, hq, rfl, rfl, hc, hf⟩ := q.inl
    refine z_i2l hX (by decide +kernel) ?_
    refine z_last hX (by decide +kernel) ?_
    refine z_goto hX (off := 6) 14 (by decide +kernel) (by decide) ?_
    refine z_b hX (fo_no RL) [.iconst 0] 15 (by decide +kernel) rfl ?_
    exact z_iret hX hR (by decide +kernel) (Hk_ok hq rfl hc hf)
  · obtain ⟨σ1, hq, rfl, hc, hf⟩ := q.inr
    have he := aUndo_x hq
    subst he
    refine z_catch hX hT [] [] (0, 8, 11, 119) rfl zps0 (by decide +kernel) (by decide) kl_IS ca_IS (j := 2) (len := 1) (Or.inl ⟨2, rfl, rfl, by decide +kernel⟩) rfl ?_
    refine z_b hX (fo_no RL) [.iconst 1] 13 (by decide +kernel) rfl ?_
    exact z_iret hX hR (by decide +kernel) (Hk_ex hq cd1_1 hc hf)
theorem p_L_restore : zMp yL_restore 2 3 := ⟨by decide +kernel, by decide +kernel, by decide +kernel, by decide⟩
theorem c_L_restore {E : zE} {D : Int} {R : aQ} {σ : Nat → Nat → Int} {c : Nat → Int} {l : (Nat → Int64) × (Nat → UInt64)} (hI : AI D c R) (hK : CR R σ)  : Hb E yL_restore (.codeWith yL_restore cL_restore 3 (Option.some Jvm.ClassFile.FieldType.int) [((0 : Nat), (8 : Nat), (11 : Nat), (119 : Nat))]) 3 [vr 0, vr 20] σ c l (aRestore c R ) (cd1 eIS) := by
  refine CtrN_of (by decide +kernel) rfl rfl (fun Y hX hR hT => ?_)
  refine z_b hX (fo_no RL) [.aload_n 1, .iconst 0, .aload_n 0] 3 (by decide +kernel) rfl ?_
  refine z_callV hX m_X10_restore l_L_144 p_X10_restore (c_X10_restore hI hK ) (by decide) (by decide) rfl rfl rfl rfl rfl (by decide +kernel) (fun v st q => ?_) (fun cls st q => ?_)
  · obtain ⟨v0, σ1, hq, rfl, rfl, hc, hf⟩ := q.inl
    refine z_i2l hX (by decide +kernel) ?_
    refine z_last hX (by decide +kernel) ?_
    refine z_goto hX (off := 6) 14 (by decide +kernel) (by decide) ?_
    refine z_b hX (fo_no RL) [.iconst 0] 15 (by decide +kernel) rfl ?_
    exact z_iret hX hR (by decide +kernel) (Hk_ok hq rfl hc hf)
  · obtain ⟨σ1, hq, rfl, hc, hf⟩ := q.inr
    have he := aRestore_x hq
    subst he
    refine z_catch hX hT [] [] (0, 8, 11, 119) rfl zps0 (by decide +kernel) (by decide) kl_IS ca_IS (j := 2) (len := 1) (Or.inl ⟨2, rfl, rfl, by decide +kernel⟩) rfl ?_
    refine z_b hX (fo_no RL) [.iconst 1] 13 (by decide +kernel) rfl ?_
    exact z_iret hX hR (by decide +kernel) (Hk_ex hq cd1_1 hc hf)
theorem p_L_meanThumb : zMp yL_meanThumb 2 3 := ⟨by decide +kernel, by decide +kernel, by decide +kernel, by decide⟩
def HD (c : Nat → Int) (σ : Nat → Nat → Int) (l : (Nat → Int64) × (Nat → UInt64)) : zK := fun o s => ∃ (k : Int) (dd : Nat → UInt64), o = .inl (some (vi k)) ∧ s = (zs σ 21 c, l.1, dd) ∧ ((c 10 ≠ 0 ∧ k = 0 ∧ dd 0 = zmean c) ∨ (c 10 = 0 ∧ k = 1))
theorem c_L_meanThumb {E : zE} {D : Int} {σ : Nat → Nat → Int} {c : Nat → Int} {l : (Nat → Int64) × (Nat → UInt64)} (hg : Rg D c) : CtrN E yL_meanThumb (.codeWith yL_meanThumb cL_meanThumb 3 (Option.some FieldType.int) [((0 : Nat), (7 : Nat), (10 : Nat), (139 : Nat))]) 3 1 [vr 0, vr 39] (zs σ 21 c, l) (HD c σ l) := by
  refine CtrN_of (by decide +kernel) rfl rfl (fun Y hX hR hT => ?_)
  refine z_b hX (fo_no RL) [.aload_n 1, .iconst 0, .aload_n 0] 3 (by decide +kernel) rfl ?_
  by_cases h0 : c 10 = 0
  · refine z_cVx hX m_X10_meanThumb l_L_135 p_X10_meanThumb (c_X10_mean0 hg h0) rfl (by decide) rfl rfl rfl rfl rfl (by decide +kernel) ?_
    refine z_catch hX hT [] [] (0, 7, 10, 139) rfl zps0 (by decide +kernel) (by decide) kl_AE ca_AE (j := 2) (len := 1) (Or.inl ⟨2, rfl, rfl, by decide +kernel⟩) rfl ?_
    refine z_b hX (fo_no RL) [.iconst 1] 12 (by decide +kernel) rfl ?_
    exact z_iret hX hR (by decide +kernel) ⟨1, l.2, rfl, rfl, Or.inr ⟨h0, rfl⟩⟩
  · refine z_cV hX m_X10_meanThumb l_L_135 p_X10_meanThumb (c_X10_mean1 hg h0) rfl rfl rfl rfl rfl rfl (by decide +kernel) ?_
    refine z_dast hX (by decide +kernel) ?_
    refine z_goto hX (off := 6) 13 (by decide +kernel) (by decide) ?_
    refine z_b hX (fo_no RL) [.iconst 0] 14 (by decide +kernel) rfl ?_
    exact z_iret hX hR (by decide +kernel) ⟨0, _, rfl, rfl, Or.inl ⟨h0, rfl, if_pos rfl⟩⟩
