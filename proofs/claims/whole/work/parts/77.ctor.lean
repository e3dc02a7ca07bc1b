/-! ===== the constructors ===== -/
section YQ
variable {X : zC} {A : Nat → Prop} {own : String} {cc : ByteArray} {nL d b n pc a : Nat} {lo : List (Nat × Value)} {sk : List Value} {ws : va_W}
theorem y_newq (h : yOk X A own cc nL d) {index : Nat} {x : Int32} {N : Nat} (hcl : Cond.classLink own index RX6 ∈ lw_good) (hn : ¬ x < 0) (hN : x.toNatClampNeg = N) (hbytes : N * 4 ≤ 536870912) (hd : decode cc pc = .ok (.anewarray index, 3)) (hb : 1 ≤ b) (hs0 : N ≤ n)
    (kk : ∀ q, Yj X A (b - 1) (n - N) (pc + 3) lo (.ref q :: sk) (ws ++ [(q, .inl (X.1.2.2.1 4, N, .inr (.inr (.inr (.inr (fun _ => none))))))])) : Yj X A b n pc lo (.int x :: sk) ws := by
  intro H locs cells slots ls hP hD hS hc hs hl
  have hts := h.2.2.2.2.2.1
  obtain ⟨hK, hAO, -⟩ := h.2.2.2.2.2.2.1
  have q1 := h.2.2.2.2.2.2.2.2.2.2.1
  have q2 := h.2.2.2.2.2.2.2.2.2.2.2.1
  refine va_newq h.1 h.2.1 h.2.2.2.2.1 (hts _ hcl) hAO hK hP hD hS h.2.2.2.2.2.2.2.2.2.2.2.2 hn hN hbytes (by omega) (by omega) hd (fun q cA H1 hK1 hP1 hD1 hS1 => ?_)
  obtain ⟨kA, comp, -, -, -, e1⟩ := (hK.2 4 _ rfl).2
  obtain ⟨kA2, comp2, -, -, -, e2⟩ := (hK1.2 (ztys X.1).length (cA, .object RX6) (by simp)).2
  have e : cA = X.1.2.2.1 4 := Option.some.inj (e2.symm.trans e1)
  rw [e] at hP1 hD1
  exact kk q H1 locs (cells + 1) (slots + N) ls hP1 hD1 hS1 (by omega) (by omega) hl
theorem y_alen (h : yOk X A own cc nL d) (q0 t : Nat) {ty : FieldType} {x : vp_A} {v : Int32} (he : ws[q0]? = some (a, .inl (X.1.2.2.1 t, x))) (ht : (ztys X.1)[t]? = some (X.1.2.2.1 t, ty)) (hv : Int32.ofNat x.1 = v) (hd : decode cc pc = .ok (.arraylength, 1)) (kk : Yj X A b n (pc + 1) lo (.int v :: sk) ws) : Yj X A b n pc lo (.ref a :: sk) ws :=
  fun H locs cells slots ls hP hD hS hc hs hl => va_alen h.1 h.2.1 h.2.2.2.2.2.2.1.1 hP q0 t he ht hv hd (kk H locs cells slots ls hP hD hS hc hs hl)
theorem y_astq (h : yOk X A own cc nL d) (q0 qk : Nat) {N v j : Nat} {vs : List Value} {f : Nat → Option Nat} {i : Int32} (he : ws[q0]? = some (a, .inl (X.1.2.2.1 4, N, .inr (.inr (.inr (.inr f)))))) (hv : ws[qk]? = some (v, .inr (1, vs))) (hin : vp_in i N) (hij : i.toNatClampNeg = j) (hd : decode cc pc = .ok (.aastore, 1)) (kk : Yj X A b n (pc + 1) lo sk (ws.set q0 (a, .inl (X.1.2.2.1 4, N, .inr (.inr (.inr (.inr (va_up f j (some v))))))))) : Yj X A b n pc lo (.ref v :: .int i :: .ref a :: sk) ws := by
  intro H locs cells slots ls hP hD hS hc hs hl
  subst hij
  exact va_astq h.1 h.2.1 h.2.2.2.2.2.2.1.1 hP hD hS q0 4 qk 1 (r := (RX6, TX6, 1)) he rfl hv rfl hin hd (fun H1 locs1 hP1 hD1 hS1 => kk H1 locs1 cells slots ls hP1 hD1 hS1 hc hs hl)
theorem y_iinc (h : yOk X A own cc nL d) {i : Nat} {g : Int} {x v : Int32} {lo' : List (Nat × Value)} (j : Nat) (hd : decode cc pc = .ok (.iinc i g, 3)) (hj : lo[j]? = some (i, .int x)) (hv : x + Int32.ofInt g = v) (hn : Nat.blt i nL = true) (hlo : (i, Value.int v) :: lo.filter (fun q => !(q.1 == i) && !(q.1 + 1 == i && q.2.category == 2)) = lo') (kk : Yj X A b n (pc + 3) lo' sk ws) : Yj X A b n pc lo sk ws :=
  fun H locs cells slots ls hP hD hS hc hs hl => lv_iinc h.1 h.2.1 hd hl hj hv (by rw [h.2.2.2.1]; exact Nat.le_of_ble_eq_true hn) hlo (fun ls' hl' => kk H locs cells slots ls' hP hD hS hc hs hl')
theorem y_goto (h : yOk X A own cc nL d) {off : Int} (tgt : Nat) (hd : decode cc pc = .ok (.goto off, 3)) (ht : (pc : Int) + off = (tgt : Int)) (kk : Yj X A b n tgt lo sk ws) : Yj X A b n pc lo sk ws :=
  fun H locs cells slots ls hP hD hS hc hs hl => lv_goto h.1 h.2.1 hd ht (kk H locs cells slots ls hP hD hS hc hs hl)
theorem y_geN (h : yOk X A own cc nL d) {off : Int} {x y : Int32} (tgt : Nat) (hd : decode cc pc = .ok (.if_icmp .ge off, 3)) (ht : (pc : Int) + off = (tgt : Int)) (hxy : ¬ y ≤ x) (kk : Yj X A b n (pc + 3) lo sk ws) : Yj X A b n pc lo (.int y :: .int x :: sk) ws :=
  fun H locs cells slots ls hP hD hS hc hs hl => lv_icmp_ge h.1 h.2.1 hd ht (fun q => absurd q hxy) (fun _ => kk H locs cells slots ls hP hD hS hc hs hl)
theorem y_geY (h : yOk X A own cc nL d) {off : Int} {x y : Int32} (tgt : Nat) (hd : decode cc pc = .ok (.if_icmp .ge off, 3)) (ht : (pc : Int) + off = (tgt : Int)) (hxy : y ≤ x) (kk : Yj X A b n tgt lo sk ws) : Yj X A b n pc lo (.int y :: .int x :: sk) ws :=
  fun H locs cells slots ls hP hD hS hc hs hl => lv_icmp_ge h.1 h.2.1 hd ht (fun _ => kk H locs cells slots ls hP hD hS hc hs hl) (fun q => absurd hxy q)
end YQ
theorem gw_of {w : Cond} (h : w ∈ tables_1) (g : goodWord w = true) : w ∈ lw_good := List.mem_filter.mpr ⟨List.mem_append_right _ h, g⟩
theorem ac_int : Cond.arrayClass .int ∈ lw_good := gw_of (by decide +kernel) rfl
theorem ac_char : Cond.arrayClass .char ∈ lw_good := gw_of (by decide +kernel) rfl
theorem ac_long : Cond.arrayClass .long ∈ lw_good := gw_of (by decide +kernel) rfl
theorem ac_double : Cond.arrayClass .double ∈ lw_good := gw_of (by decide +kernel) rfl
theorem ib_6 : Cond.instantiable RX6 1 ∈ lw_good := gw_of (by decide +kernel) rfl
theorem ib_1 : Cond.instantiable RX1 3 ∈ lw_good := gw_of (by decide +kernel) rfl
theorem ib_5 : Cond.instantiable RX5 2 ∈ lw_good := gw_of (by decide +kernel) rfl
theorem ib_2 : Cond.instantiable RX2 8 ∈ lw_good := gw_of (by decide +kernel) rfl
theorem ib_10 : Cond.instantiable RX10 6 ∈ lw_good := gw_of (by decide +kernel) rfl
theorem ib_11 : Cond.instantiable RX11 17 ∈ lw_good := gw_of (by decide +kernel) rfl
def rmI : Nat → Int32 := upd (upd (upd (upd (fun _ => 0) 1 200) 2 100) 3 20) 6 200
abbrev za0 (N : Nat) : vp_A := (N, .inl (fun _ => 0))
abbrev zq9 (f : Nat → Option Nat) : vp_A := (9, .inr (.inr (.inr (.inr f))))
abbrev wRoom (E : zE) (h q : Nat) : va_W := [(h, .inr (1, [.ref q])), (q, .inl (E.2.2.1 0, 181, .inl rmI))]
def pRoom (E : zE) (h : Nat) (ws : va_W) : Prop := ∃ q, ws = wRoom E h q
abbrev wRef (h : Nat) : va_W := [(h, .inr (3, [.int 0, .int 0]))]
def pRef (h : Nat) (ws : va_W) : Prop := ws = wRef h
abbrev wInp (E : zE) (h a b c d : Nat) : va_W := [(h, .inr (4, [.ref a, .ref b, .ref c, .ref d, .int 0, .int 0, .int 0, .int (-1)])), (a, .inl (E.2.2.1 1, za0 60)), (b, .inl (E.2.2.1 1, za0 30)), (c, .inl (E.2.2.1 0, za0 30)), (d, .inl (E.2.2.1 0, za0 30))]
def pInp (E : zE) (h : Nat) (ws : va_W) : Prop := ∃ a b c d, ws = wInp E h a b c d
theorem lo_X10 : Cond.methodLink RX10 1 objectInit ∈ lw_good := tg 34 (by decide +kernel) (by decide +kernel)
theorem lo_X6 : Cond.methodLink RX6 5 objectInit ∈ lw_good := tg 42 (by decide +kernel) (by decide +kernel)
theorem lo_X1 : Cond.methodLink RX1 3 objectInit ∈ lw_good := tg 53 (by decide +kernel) (by decide +kernel)
theorem lo_X5 : Cond.methodLink RX5 3 objectInit ∈ lw_good := tg 72 (by decide +kernel) (by decide +kernel)
theorem lo_X2 : Cond.methodLink RX2 3 objectInit ∈ lw_good := tg 85 (by decide +kernel) (by decide +kernel)
theorem lo_X11 : Cond.methodLink RX11 1 objectInit ∈ lw_good := tg 1144 (by decide +kernel) (by decide +kernel)
theorem pi_X6 : zMp yX6_init 0 1 := ⟨by decide +kernel, by decide +kernel, by decide +kernel, by decide⟩
theorem pi_X1 : zMp yX1_init 0 2 := ⟨by decide +kernel, by decide +kernel, by decide +kernel, by decide⟩
theorem pi_X5 : zMp yX5_init 0 1 := ⟨by decide +kernel, by decide +kernel, by decide +kernel, by decide⟩
theorem pi_X2 : zMp yX2_init 0 1 := ⟨by decide +kernel, by decide +kernel, by decide +kernel, by decide⟩
theorem pi_X10 : zMp yX10_init 0 1 := ⟨by decide +kernel, by decide +kernel, by decide +kernel, by decide⟩
theorem pi_X11 : zMp yX11_init 0 1 := ⟨by decide +kernel, by decide +kernel, by decide +kernel, by decide⟩
theorem i_X6 {E : zE} : Ini E yX6_init (.code yX6_init cX6_init 1 (Option.none : Option FieldType)) 0 1 181 (.inr (1, [.null])) (pRoom E) := by
  refine Ini_of (by decide +kernel) rfl rfl rfl (fun Y A h hX hR hN => ?_)
  refine y_aload_n hX (i := 0) 0 (by decide +kernel) rfl ?_
  refine y_obj hX lo_X6 (by decide +kernel) ?_
  refine y_aload_n hX (i := 0) 0 (by decide +kernel) rfl ?_
  refine y_sipush hX (i := 181) (v := 181) (by decide +kernel) (by decide) ?_
  refine y_arr hX (atype := .int) (ty := .int) (t := 0) (N := 181) (a0 := za0 181) rfl (fun C => by intro z; cases z) rfl ac_int (fun _ => rfl) (by decide) (by decide) (by decide) (by decide +kernel) (by decide) (by decide) (fun q1 => ?_)
  refine y_put hX 0 (N := 1) rfl rfl ws_X6 tyX6 tyX6_ok nmX6 0 (by decide) f_X6_11 rfl hN (ty := .array .int) (by decide +kernel) rfl rfl (Nat.le_of_ble_eq_true rfl) (by decide +kernel) ?_
  refine y_aload_n hX (i := 0) 0 (by decide +kernel) rfl ?_
  refine y_get hX 0 (N := 1) rfl rfl ws_X6 0 (by decide) f_X6_11 rfl rfl (by decide +kernel) ?_
  refine y_iconst hX (i := 1) (v := 1) (by decide +kernel) (by decide) ?_
  refine y_sipush hX (i := 200) (v := 200) (by decide +kernel) (by decide) ?_
  refine y_iast hX 1 rfl 1 (vp_in_iff.mpr (by decide)) (by decide) (by decide +kernel) ?_
  refine y_aload_n hX (i := 0) 0 (by decide +kernel) rfl ?_
  refine y_get hX 0 (N := 1) rfl rfl ws_X6 0 (by decide) f_X6_11 rfl rfl (by decide +kernel) ?_
  refine y_iconst hX (i := 2) (v := 2) (by decide +kernel) (by decide) ?_
  refine y_bipush hX (i := 100) (v := 100) (by decide +kernel) (by decide) ?_
  refine y_iast hX 1 rfl 2 (vp_in_iff.mpr (by decide)) (by decide) (by decide +kernel) ?_
  refine y_aload_n hX (i := 0) 0 (by decide +kernel) rfl ?_
  refine y_get hX 0 (N := 1) rfl rfl ws_X6 0 (by decide) f_X6_11 rfl rfl (by decide +kernel) ?_
  refine y_iconst hX (i := 3) (v := 3) (by decide +kernel) (by decide) ?_
  refine y_bipush hX (i := 20) (v := 20) (by decide +kernel) (by decide) ?_
  refine y_iast hX 1 rfl 3 (vp_in_iff.mpr (by decide)) (by decide) (by decide +kernel) ?_
  refine y_aload_n hX (i := 0) 0 (by decide +kernel) rfl ?_
  refine y_get hX 0 (N := 1) rfl rfl ws_X6 0 (by decide) f_X6_11 rfl rfl (by decide +kernel) ?_
  refine y_bipush hX (i := 6) (v := 6) (by decide +kernel) (by decide) ?_
  refine y_sipush hX (i := 200) (v := 200) (by decide +kernel) (by decide) ?_
  refine y_iast hX 1 rfl 6 (vp_in_iff.mpr (by decide)) (by decide) (by decide +kernel) ?_
  exact y_ret hX hR (by decide +kernel) ⟨q1, rfl⟩
theorem i_X5 {E : zE} : Ini E yX5_init (.code yX5_init cX5_init 1 (Option.none : Option FieldType)) 0 0 0 (.inr (3, [.int 0, .int 0])) pRef := by
  refine Ini_of (by decide +kernel) rfl rfl rfl (fun Y A h hX hR hN => ?_)
  refine y_aload_n hX (i := 0) 0 (by decide +kernel) rfl ?_
  refine y_obj hX lo_X5 (by decide +kernel) ?_
  exact y_ret hX hR (by decide +kernel) rfl
theorem i_X2 {E : zE} : Ini E yX2_init (.code yX2_init cX2_init 1 (Option.none : Option FieldType)) 0 4 150 (.inr (4, [.null, .null, .null, .null, .int 0, .int 0, .int 0, .int 0])) (pInp E) := by
  refine Ini_of (by decide +kernel) rfl rfl rfl (fun Y A h hX hR hN => ?_)
  refine y_aload_n hX (i := 0) 0 (by decide +kernel) rfl ?_
  refine y_obj hX lo_X2 (by decide +kernel) ?_
  refine y_aload_n hX (i := 0) 0 (by decide +kernel) rfl ?_
  refine y_bipush hX (i := 60) (v := 60) (by decide +kernel) (by decide) ?_
  refine y_arr hX (atype := .char) (ty := .char) (t := 1) (N := 60) (a0 := za0 60) rfl (fun C => by intro z; cases z) rfl ac_char (fun _ => rfl) (by decide) (by decide) (by decide) (by decide +kernel) (by decide) (by decide) (fun q1 => ?_)
  refine y_put hX 0 (N := 8) rfl rfl ws_X2 tyX2 tyX2_ok nmX2 0 (by decide) f_X2_9 rfl hN (ty := .array .char) (by decide +kernel) rfl rfl (Nat.le_of_ble_eq_true rfl) (by decide +kernel) ?_
  refine y_aload_n hX (i := 0) 0 (by decide +kernel) rfl ?_
  refine y_bipush hX (i := 30) (v := 30) (by decide +kernel) (by decide) ?_
  refine y_arr hX (atype := .char) (ty := .char) (t := 1) (N := 30) (a0 := za0 30) rfl (fun C => by intro z; cases z) rfl ac_char (fun _ => rfl) (by decide) (by decide) (by decide) (by decide +kernel) (by decide) (by decide) (fun q2 => ?_)
  refine y_put hX 0 (N := 8) rfl rfl ws_X2 tyX2 tyX2_ok nmX2 1 (by decide) f_X2_15 rfl hN (ty := .array .char) (by decide +kernel) rfl rfl (Nat.le_of_ble_eq_true rfl) (by decide +kernel) ?_
  refine y_aload_n hX (i := 0) 0 (by decide +kernel) rfl ?_
  refine y_bipush hX (i := 30) (v := 30) (by decide +kernel) (by decide) ?_
  refine y_arr hX (atype := .int) (ty := .int) (t := 0) (N := 30) (a0 := za0 30) rfl (fun C => by intro z; cases z) rfl ac_int (fun _ => rfl) (by decide) (by decide) (by decide) (by decide +kernel) (by decide) (by decide) (fun q3 => ?_)
  refine y_put hX 0 (N := 8) rfl rfl ws_X2 tyX2 tyX2_ok nmX2 2 (by decide) f_X2_18 rfl hN (ty := .array .int) (by decide +kernel) rfl rfl (Nat.le_of_ble_eq_true rfl) (by decide +kernel) ?_
  refine y_aload_n hX (i := 0) 0 (by decide +kernel) rfl ?_
  refine y_bipush hX (i := 30) (v := 30) (by decide +kernel) (by decide) ?_
  refine y_arr hX (atype := .int) (ty := .int) (t := 0) (N := 30) (a0 := za0 30) rfl (fun C => by intro z; cases z) rfl ac_int (fun _ => rfl) (by decide) (by decide) (by decide) (by decide +kernel) (by decide) (by decide) (fun q4 => ?_)
  refine y_put hX 0 (N := 8) rfl rfl ws_X2 tyX2 tyX2_ok nmX2 3 (by decide) f_X2_22 rfl hN (ty := .array .int) (by decide +kernel) rfl rfl (Nat.le_of_ble_eq_true rfl) (by decide +kernel) ?_
  refine y_aload_n hX (i := 0) 0 (by decide +kernel) rfl ?_
  refine y_iconst hX (i := (-1)) (v := (-1)) (by decide +kernel) (by decide) ?_
  refine y_put hX 0 (N := 8) rfl rfl ws_X2 tyX2 tyX2_ok nmX2 7 (by decide) f_X2_25 rfl hN (ty := .int) (by decide +kernel) rfl rfl (Nat.le_of_ble_eq_true rfl) (by decide +kernel) ?_
  exact y_ret hX hR (by decide +kernel) ⟨q1, q2, q3, q4, rfl⟩
def hf9 (r0 r1 r2 r3 r4 r5 r6 r7 r8 : Nat) : Nat → Option Nat := va_up (va_up (va_up (va_up (va_up (va_up (va_up (va_up (va_up (fun _ => none) 0 (some r0)) 1 (some r1)) 2 (some r2)) 3 (some r3)) 4 (some r4)) 5 (some r5)) 6 (some r6)) 7 (some r7)) 8 (some r8)
abbrev wHis (E : zE) (h a r0 g0 r1 g1 r2 g2 r3 g3 r4 g4 r5 g5 r6 g6 r7 g7 r8 g8 : Nat) : va_W := [(h, .inr (2, [.ref a, .int 0, .int 0])), (a, .inl (E.2.2.1 4, zq9 (hf9 r0 r1 r2 r3 r4 r5 r6 r7 r8))), (r0, .inr (1, [.ref g0])), (g0, .inl (E.2.2.1 0, 181, .inl rmI)), (r1, .inr (1, [.ref g1])), (g1, .inl (E.2.2.1 0, 181, .inl rmI)), (r2, .inr (1, [.ref g2])), (g2, .inl (E.2.2.1 0, 181, .inl rmI)), (r3, .inr (1, [.ref g3])), (g3, .inl (E.2.2.1 0, 181, .inl rmI)), (r4, .inr (1, [.ref g4])), (g4, .inl (E.2.2.1 0, 181, .inl rmI)), (r5, .inr (1, [.ref g5])), (g5, .inl (E.2.2.1 0, 181, .inl rmI)), (r6, .inr (1, [.ref g6])), (g6, .inl (E.2.2.1 0, 181, .inl rmI)), (r7, .inr (1, [.ref g7])), (g7, .inl (E.2.2.1 0, 181, .inl rmI)), (r8, .inr (1, [.ref g8])), (g8, .inl (E.2.2.1 0, 181, .inl rmI))]
def pHis (E : zE) (h : Nat) (ws : va_W) : Prop := ∃ a r0 g0 r1 g1 r2 g2 r3 g3 r4 g4 r5 g5 r6 g6 r7 g7 r8 g8, ws = wHis E h a r0 g0 r1 g1 r2 g2 r3 g3 r4 g4 r5 g5 r6 g6 r7 g7 r8 g8
theorem hist_step {E : zE} {Y : (Program × Env × Room × State) × (MethodId × Array Value × List Frame) × (Method × Code) × (State → Prop) × (Nat × Nat × Nat)} {A : Nat → Prop} (hX : yOk (E, Y) A RX1 cX1_init 2 1) {b n j a h : Nat} {x v : Int32} {f : Nat → Option Nat} {L : va_W} (hj : vp_in x 9) (hij : x.toNatClampNeg = j) (hlt : ¬ (9 : Int32) ≤ x) (hv : x + Int32.ofInt 1 = v) (hb : 2 ≤ b) (hn : 182 ≤ n) (kk : ∀ r g, Yj (E, Y) A (b - 1 - 1) (n - 1 - 181) 15 [(1, .int v), (0, .ref h)] [] ((h, .inr (2, [.ref a, .int 0, .int 0])) :: (a, .inl (E.2.2.1 4, zq9 (va_up f j (some r)))) :: (L ++ wRoom E r g))) : Yj (E, Y) A b n 15 [(1, .int x), (0, .ref h)] [] ((h, .inr (2, [.ref a, .int 0, .int 0])) :: (a, .inl (E.2.2.1 4, zq9 f)) :: L) := by
  refine y_iload_n hX (i := 1) 0 (by decide +kernel) rfl ?_
  refine y_aload_n hX (i := 0) 1 (by decide +kernel) rfl ?_
  refine y_get hX 0 (N := 3) rfl rfl ws_X1 0 (by decide) f_X1_11 rfl rfl (by decide +kernel) ?_
  refine y_alen hX 1 4 (v := 9) rfl rfl (show Int32.ofNat 9 = 9 by decide) (by decide +kernel) ?_
  refine y_geN hX (off := 22) 43 (by decide +kernel) (by decide) hlt ?_
  refine y_aload_n hX (i := 0) 1 (by decide +kernel) rfl ?_
  refine y_get hX 0 (N := 3) rfl rfl ws_X1 0 (by decide) f_X1_11 rfl rfl (by decide +kernel) ?_
  refine y_iload_n hX (i := 1) 0 (by decide +kernel) rfl ?_
  refine y_mk hX (fs := [.null]) (N := 1) (ci := 1) rfl ws_X6 tyX6 tyX6_ok k_X1_9 ib_6 m_X6_init.2.2 (by intro j hj; match j, hj with | 0, _ => rfl) i_X6 m_X6_init.1 rfl rfl m_X6_init.2.1 l_X1_17 pi_X6 (by decide) (by omega) (by omega) (by decide +kernel) (by decide +kernel) (by decide +kernel) (Nat.le_of_ble_eq_true rfl) (fun r w hw => ?_)
  obtain ⟨g, rfl⟩ := hw
  refine y_astq hX 1 (2 + L.length) (j := j) rfl (vs := [.ref g]) (by rw [show 2 + L.length = L.length + 1 + 1 by omega]; simp) hj hij (by decide +kernel) ?_
  refine y_iinc hX (i := 1) (g := 1) 0 (v := v) (lo' := [(1, .int v), (0, .ref h)]) (by decide +kernel) rfl hv rfl rfl ?_
  refine y_goto hX (off := -25) 15 (by decide +kernel) (by decide) ?_
  exact kk r g
theorem i_X1 {E : zE} : Ini E yX1_init (.code yX1_init cX1_init 2 (Option.none : Option FieldType)) 1 19 1647 (.inr (2, [.null, .int 0, .int 0])) (pHis E) := by
  refine Ini_of (by decide +kernel) rfl rfl rfl (fun Y A h hX hR hN => ?_)
  refine y_aload_n hX (i := 0) 0 (by decide +kernel) rfl ?_
  refine y_obj hX lo_X1 (by decide +kernel) ?_
  refine y_aload_n hX (i := 0) 0 (by decide +kernel) rfl ?_
  refine y_bipush hX (i := 9) (v := 9) (by decide +kernel) (by decide) ?_
  refine y_newq hX (N := 9) k_X1_9 (by decide) (by decide) (by decide) (by decide +kernel) (by decide) (by decide) (fun q1 => ?_)
  refine y_put hX 0 (N := 3) rfl rfl ws_X1 tyX1 tyX1_ok nmX1 0 (by decide) f_X1_11 rfl hN (ty := .array (.object RX6)) (by decide +kernel) rfl rfl (Nat.le_of_ble_eq_true rfl) (by decide +kernel) ?_
  refine y_iconst hX (i := 0) (v := 0) (by decide +kernel) (by decide) ?_
  refine y_istore_n hX (i := 1) (lo' := [(1, .int 0), (0, .ref h)]) (by decide +kernel) rfl rfl ?_
  refine hist_step hX (L := []) (j := 0) (v := 1) (vp_in_iff.mpr (by decide)) (by decide) (by decide) (by decide) (by decide) (by decide) (fun r0 g0 => ?_)
  refine hist_step hX (L := wRoom E r0 g0) (j := 1) (v := 2) (vp_in_iff.mpr (by decide)) (by decide) (by decide) (by decide) (by decide) (by decide) (fun r1 g1 => ?_)
  refine hist_step hX (L := (wRoom E r0 g0 ++ wRoom E r1 g1)) (j := 2) (v := 3) (vp_in_iff.mpr (by decide)) (by decide) (by decide) (by decide) (by decide) (by decide) (fun r2 g2 => ?_)
  refine hist_step hX (L := ((wRoom E r0 g0 ++ wRoom E r1 g1) ++ wRoom E r2 g2)) (j := 3) (v := 4) (vp_in_iff.mpr (by decide)) (by decide) (by decide) (by decide) (by decide) (by decide) (fun r3 g3 => ?_)
  refine hist_step hX (L := (((wRoom E r0 g0 ++ wRoom E r1 g1) ++ wRoom E r2 g2) ++ wRoom E r3 g3)) (j := 4) (v := 5) (vp_in_iff.mpr (by decide)) (by decide) (by decide) (by decide) (by decide) (by decide) (fun r4 g4 => ?_)
  refine hist_step hX (L := ((((wRoom E r0 g0 ++ wRoom E r1 g1) ++ wRoom E r2 g2) ++ wRoom E r3 g3) ++ wRoom E r4 g4)) (j := 5) (v := 6) (vp_in_iff.mpr (by decide)) (by decide) (by decide) (by decide) (by decide) (by decide) (fun r5 g5 => ?_)
  refine hist_step hX (L := (((((wRoom E r0 g0 ++ wRoom E r1 g1) ++ wRoom E r2 g2) ++ wRoom E r3 g3) ++ wRoom E r4 g4) ++ wRoom E r5 g5)) (j := 6) (v := 7) (vp_in_iff.mpr (by decide)) (by decide) (by decide) (by decide) (by decide) (by decide) (fun r6 g6 => ?_)
  refine hist_step hX (L := ((((((wRoom E r0 g0 ++ wRoom E r1 g1) ++ wRoom E r2 g2) ++ wRoom E r3 g3) ++ wRoom E r4 g4) ++ wRoom E r5 g5) ++ wRoom E r6 g6)) (j := 7) (v := 8) (vp_in_iff.mpr (by decide)) (by decide) (by decide) (by decide) (by decide) (by decide) (fun r7 g7 => ?_)
  refine hist_step hX (L := (((((((wRoom E r0 g0 ++ wRoom E r1 g1) ++ wRoom E r2 g2) ++ wRoom E r3 g3) ++ wRoom E r4 g4) ++ wRoom E r5 g5) ++ wRoom E r6 g6) ++ wRoom E r7 g7)) (j := 8) (v := 9) (vp_in_iff.mpr (by decide)) (by decide) (by decide) (by decide) (by decide) (by decide) (fun r8 g8 => ?_)
  refine y_iload_n hX (i := 1) 0 (by decide +kernel) rfl ?_
  refine y_aload_n hX (i := 0) 1 (by decide +kernel) rfl ?_
  refine y_get hX 0 (N := 3) rfl rfl ws_X1 0 (by decide) f_X1_11 rfl rfl (by decide +kernel) ?_
  refine y_alen hX 1 4 (v := 9) rfl rfl (show Int32.ofNat 9 = 9 by decide) (by decide +kernel) ?_
  refine y_geY hX (off := 22) 43 (by decide +kernel) (by decide) (by decide) ?_
  exact y_ret hX hR (by decide +kernel) ⟨q1, r0, g0, r1, g1, r2, g2, r3, g3, r4, g4, r5, g5, r6, g6, r7, g7, r8, g8, rfl⟩
abbrev wTop (E : zE) (h q1 g1 q2 g2 q3 ha hr0 hg0 hr1 hg1 hr2 hg2 hr3 hg3 hr4 hg4 hr5 hg5 hr6 hg6 hr7 hg7 hr8 hg8 q4 q5 a5 b5 c5 d5 : Nat) : va_W := (h, .inr (0, [.ref q1, .ref q2, .ref q3, .ref q4, .ref q5, .int 0])) :: (wRoom E q1 g1 ++ (wRoom E q2 g2 ++ (wHis E q3 ha hr0 hg0 hr1 hg1 hr2 hg2 hr3 hg3 hr4 hg4 hr5 hg5 hr6 hg6 hr7 hg7 hr8 hg8 ++ (wRef q4 ++ wInp E q5 a5 b5 c5 d5))))
def pTop (E : zE) (h : Nat) (ws : va_W) : Prop := ∃ q1 g1 q2 g2 q3 ha hr0 hg0 hr1 hg1 hr2 hg2 hr3 hg3 hr4 hg4 hr5 hg5 hr6 hg6 hr7 hg7 hr8 hg8 q4 q5 a5 b5 c5 d5, ws = wTop E h q1 g1 q2 g2 q3 ha hr0 hg0 hr1 hg1 hr2 hg2 hr3 hg3 hr4 hg4 hr5 hg5 hr6 hg6 hr7 hg7 hr8 hg8 q4 q5 a5 b5 c5 d5
theorem i_X10 {E : zE} : Ini E yX10_init (.code yX10_init cX10_init 1 (Option.none : Option FieldType)) 2 30 2174 (.inr (0, [.null, .null, .null, .null, .null, .int 0])) (pTop E) := by
  refine Ini_of (by decide +kernel) rfl rfl rfl (fun Y A h hX hR hN => ?_)
  refine y_aload_n hX (i := 0) 0 (by decide +kernel) rfl ?_
  refine y_obj hX lo_X10 (by decide +kernel) ?_
  refine y_aload_n hX (i := 0) 0 (by decide +kernel) rfl ?_
  refine y_mk hX (fs := [.null]) (N := 1) (ci := 1) rfl ws_X6 tyX6 tyX6_ok k_X10_7 ib_6 m_X6_init.2.2 (by intro j hj; match j, hj with | 0, _ => rfl) i_X6 m_X6_init.1 rfl rfl m_X6_init.2.1 l_X10_9 pi_X6 (by decide) (by decide) (by decide) (by decide +kernel) (by decide +kernel) (by decide +kernel) (Nat.le_of_ble_eq_true rfl) (fun q1 w hw => ?_)
  obtain ⟨g1, rfl⟩ := hw
  refine y_put hX 0 (N := 6) rfl rfl ws_X10 tyX10 tyX10_ok nmX10 0 (by decide) f_X10_10 rfl hN (ty := .object RX6) (by decide +kernel) rfl rfl (Nat.le_of_ble_eq_true rfl) (by decide +kernel) ?_
  refine y_aload_n hX (i := 0) 0 (by decide +kernel) rfl ?_
  refine y_mk hX (fs := [.null]) (N := 1) (ci := 1) rfl ws_X6 tyX6 tyX6_ok k_X10_7 ib_6 m_X6_init.2.2 (by intro j hj; match j, hj with | 0, _ => rfl) i_X6 m_X6_init.1 rfl rfl m_X6_init.2.1 l_X10_9 pi_X6 (by decide) (by decide) (by decide) (by decide +kernel) (by decide +kernel) (by decide +kernel) (Nat.le_of_ble_eq_true rfl) (fun q2 w hw => ?_)
  obtain ⟨g2, rfl⟩ := hw
  refine y_put hX 0 (N := 6) rfl rfl ws_X10 tyX10 tyX10_ok nmX10 1 (by decide) f_X10_16 rfl hN (ty := .object RX6) (by decide +kernel) rfl rfl (Nat.le_of_ble_eq_true rfl) (by decide +kernel) ?_
  refine y_aload_n hX (i := 0) 0 (by decide +kernel) rfl ?_
  refine y_mk hX (fs := [.null, .int 0, .int 0]) (N := 3) (ci := 2) rfl ws_X1 tyX1 tyX1_ok k_X10_19 ib_1 m_X1_init.2.2 (by intro j hj; match j, hj with | 0, _ => rfl | 1, _ => rfl | 2, _ => rfl) i_X1 m_X1_init.1 rfl rfl m_X1_init.2.1 l_X10_21 pi_X1 (by decide) (by decide) (by decide) (by decide +kernel) (by decide +kernel) (by decide +kernel) (Nat.le_of_ble_eq_true rfl) (fun q3 w hw => ?_)
  obtain ⟨ha, hr0, hg0, hr1, hg1, hr2, hg2, hr3, hg3, hr4, hg4, hr5, hg5, hr6, hg6, hr7, hg7, hr8, hg8, rfl⟩ := hw
  refine y_put hX 0 (N := 6) rfl rfl ws_X10 tyX10 tyX10_ok nmX10 2 (by decide) f_X10_22 rfl hN (ty := .object RX1) (by decide +kernel) rfl rfl (Nat.le_of_ble_eq_true rfl) (by decide +kernel) ?_
  refine y_aload_n hX (i := 0) 0 (by decide +kernel) rfl ?_
  refine y_mkN hX (i2 := 28) (fs := [.int 0, .int 0]) (N := 2) (ci := 3) rfl ws_X5 tyX5 tyX5_ok k_X10_26 ib_5 m_X5_init.2.2 (by intro j hj; match j, hj with | 0, _ => rfl | 1, _ => rfl) i_X5 m_X5_init.1 rfl rfl m_X5_init.2.1 hX.2.2.2.2.2.2.1.2.2 pi_X5 (by decide) (by decide) (by decide) (by decide +kernel) (by decide +kernel) (by decide +kernel) (Nat.le_of_ble_eq_true rfl) (fun q4 w hw => ?_)
  obtain rfl := hw
  refine y_put hX 0 (N := 6) rfl rfl ws_X10 tyX10 tyX10_ok nmX10 3 (by decide) f_X10_29 rfl hN (ty := .object RX5) (by decide +kernel) rfl rfl (Nat.le_of_ble_eq_true rfl) (by decide +kernel) ?_
  refine y_aload_n hX (i := 0) 0 (by decide +kernel) rfl ?_
  refine y_mk hX (fs := [.null, .null, .null, .null, .int 0, .int 0, .int 0, .int 0]) (N := 8) (ci := 4) rfl ws_X2 tyX2 tyX2_ok k_X10_33 ib_2 m_X2_init.2.2 (by intro j hj; match j, hj with | 0, _ => rfl | 1, _ => rfl | 2, _ => rfl | 3, _ => rfl | 4, _ => rfl | 5, _ => rfl | 6, _ => rfl | 7, _ => rfl) i_X2 m_X2_init.1 rfl rfl m_X2_init.2.1 l_X10_35 pi_X2 (by decide) (by decide) (by decide) (by decide +kernel) (by decide +kernel) (by decide +kernel) (Nat.le_of_ble_eq_true rfl) (fun q5 w hw => ?_)
  obtain ⟨a5, b5, c5, d5, rfl⟩ := hw
  refine y_put hX 0 (N := 6) rfl rfl ws_X10 tyX10 tyX10_ok nmX10 4 (by decide) f_X10_36 rfl hN (ty := .object RX2) (by decide +kernel) rfl rfl (Nat.le_of_ble_eq_true rfl) (by decide +kernel) ?_
  refine y_aload_n hX (i := 0) 0 (by decide +kernel) rfl ?_
  refine y_iconst hX (i := 0) (v := 0) (by decide +kernel) (by decide) ?_
  refine y_put hX 0 (N := 6) rfl rfl ws_X10 tyX10 tyX10_ok nmX10 5 (by decide) f_X10_40 rfl hN (ty := .boolean) (by decide +kernel) rfl rfl (Nat.le_of_ble_eq_true rfl) (by decide +kernel) ?_
  exact y_ret hX hR (by decide +kernel) ⟨q1, g1, q2, g2, q3, ha, hr0, hg0, hr1, hg1, hr2, hg2, hr3, hg3, hr4, hg4, hr5, hg5, hr6, hg6, hr7, hg7, hr8, hg8, q4, q5, a5, b5, c5, d5, rfl⟩
abbrev wMod (E : zE) (h m0 m1 m2 m3 m4 m5 : Nat) : va_W := [(h, .inr (5, [.ref m0, .ref m1, .ref m2, .ref m3, .int 0, .int 0, .int 0, .int 0, .int 0, .int 0, .int 0, .ref m4, .int 0, .int (-1), .int 0, .ref m5, .int 0])), (m0, .inl (E.2.2.1 0, 150, .inl rmI)), (m1, .inl (E.2.2.1 0, za0 1200)), (m2, .inl (E.2.2.1 0, za0 150)), (m3, .inl (E.2.2.1 0, za0 150)), (m4, .inl (E.2.2.1 0, za0 60)), (m5, .inl (E.2.2.1 0, za0 96))]
def pMod (E : zE) (h : Nat) (ws : va_W) : Prop := ∃ m0 m1 m2 m3 m4 m5, ws = wMod E h m0 m1 m2 m3 m4 m5
theorem i_X11 {E : zE} : Ini E yX11_init (.code yX11_init cX11_init 1 (Option.none : Option FieldType)) 0 6 1806 (.inr (5, [.null, .null, .null, .null, .int 0, .int 0, .int 0, .int 0, .int 0, .int 0, .int 0, .null, .int 0, .int 0, .int 0, .null, .int 0])) (pMod E) := by
  refine Ini_of (by decide +kernel) rfl rfl rfl (fun Y A h hX hR hN => ?_)
  refine y_aload_n hX (i := 0) 0 (by decide +kernel) rfl ?_
  refine y_obj hX lo_X11 (by decide +kernel) ?_
  refine y_aload_n hX (i := 0) 0 (by decide +kernel) rfl ?_
  refine y_sipush hX (i := 150) (v := 150) (by decide +kernel) (by decide) ?_
  refine y_arr hX (atype := .int) (ty := .int) (t := 0) (N := 150) (a0 := za0 150) rfl (fun C => by intro z; cases z) rfl ac_int (fun _ => rfl) (by decide) (by decide) (by decide) (by decide +kernel) (by decide) (by decide) (fun q1 => ?_)
  refine y_put hX 0 (N := 17) rfl rfl ws_X11 tyX11 tyX11_ok nmX11 0 (by decide) f_X11_7 rfl hN (ty := .array .int) (by decide +kernel) rfl rfl (Nat.le_of_ble_eq_true rfl) (by decide +kernel) ?_
  refine y_aload_n hX (i := 0) 0 (by decide +kernel) rfl ?_
  refine y_sipush hX (i := 1200) (v := 1200) (by decide +kernel) (by decide) ?_
  refine y_arr hX (atype := .int) (ty := .int) (t := 0) (N := 1200) (a0 := za0 1200) rfl (fun C => by intro z; cases z) rfl ac_int (fun _ => rfl) (by decide) (by decide) (by decide) (by decide +kernel) (by decide) (by decide) (fun q2 => ?_)
  refine y_put hX 0 (N := 17) rfl rfl ws_X11 tyX11 tyX11_ok nmX11 1 (by decide) f_X11_13 rfl hN (ty := .array .int) (by decide +kernel) rfl rfl (Nat.le_of_ble_eq_true rfl) (by decide +kernel) ?_
  refine y_aload_n hX (i := 0) 0 (by decide +kernel) rfl ?_
  refine y_sipush hX (i := 150) (v := 150) (by decide +kernel) (by decide) ?_
  refine y_arr hX (atype := .int) (ty := .int) (t := 0) (N := 150) (a0 := za0 150) rfl (fun C => by intro z; cases z) rfl ac_int (fun _ => rfl) (by decide) (by decide) (by decide) (by decide +kernel) (by decide) (by decide) (fun q3 => ?_)
  refine y_put hX 0 (N := 17) rfl rfl ws_X11 tyX11 tyX11_ok nmX11 2 (by decide) f_X11_16 rfl hN (ty := .array .int) (by decide +kernel) rfl rfl (Nat.le_of_ble_eq_true rfl) (by decide +kernel) ?_
  refine y_aload_n hX (i := 0) 0 (by decide +kernel) rfl ?_
  refine y_sipush hX (i := 150) (v := 150) (by decide +kernel) (by decide) ?_
  refine y_arr hX (atype := .int) (ty := .int) (t := 0) (N := 150) (a0 := za0 150) rfl (fun C => by intro z; cases z) rfl ac_int (fun _ => rfl) (by decide) (by decide) (by decide) (by decide +kernel) (by decide) (by decide) (fun q4 => ?_)
  refine y_put hX 0 (N := 17) rfl rfl ws_X11 tyX11 tyX11_ok nmX11 3 (by decide) f_X11_19 rfl hN (ty := .array .int) (by decide +kernel) rfl rfl (Nat.le_of_ble_eq_true rfl) (by decide +kernel) ?_
  refine y_aload_n hX (i := 0) 0 (by decide +kernel) rfl ?_
  refine y_bipush hX (i := 60) (v := 60) (by decide +kernel) (by decide) ?_
  refine y_arr hX (atype := .int) (ty := .int) (t := 0) (N := 60) (a0 := za0 60) rfl (fun C => by intro z; cases z) rfl ac_int (fun _ => rfl) (by decide) (by decide) (by decide) (by decide +kernel) (by decide) (by decide) (fun q5 => ?_)
  refine y_put hX 0 (N := 17) rfl rfl ws_X11 tyX11 tyX11_ok nmX11 11 (by decide) f_X11_22 rfl hN (ty := .array .int) (by decide +kernel) rfl rfl (Nat.le_of_ble_eq_true rfl) (by decide +kernel) ?_
  refine y_aload_n hX (i := 0) 0 (by decide +kernel) rfl ?_
  refine y_iconst hX (i := (-1)) (v := (-1)) (by decide +kernel) (by decide) ?_
  refine y_put hX 0 (N := 17) rfl rfl ws_X11 tyX11 tyX11_ok nmX11 13 (by decide) f_X11_25 rfl hN (ty := .int) (by decide +kernel) rfl rfl (Nat.le_of_ble_eq_true rfl) (by decide +kernel) ?_
  refine y_aload_n hX (i := 0) 0 (by decide +kernel) rfl ?_
  refine y_bipush hX (i := 96) (v := 96) (by decide +kernel) (by decide) ?_
  refine y_arr hX (atype := .int) (ty := .int) (t := 0) (N := 96) (a0 := za0 96) rfl (fun C => by intro z; cases z) rfl ac_int (fun _ => rfl) (by decide) (by decide) (by decide) (by decide +kernel) (by decide) (by decide) (fun q6 => ?_)
  refine y_put hX 0 (N := 17) rfl rfl ws_X11 tyX11 tyX11_ok nmX11 15 (by decide) f_X11_29 rfl hN (ty := .array .int) (by decide +kernel) rfl rfl (Nat.le_of_ble_eq_true rfl) (by decide +kernel) ?_
  refine y_aload_n hX (i := 0) 0 (by decide +kernel) rfl ?_
  refine y_get hX 0 (N := 17) rfl rfl ws_X11 0 (by decide) f_X11_7 rfl rfl (by decide +kernel) ?_
  refine y_iconst hX (i := 1) (v := 1) (by decide +kernel) (by decide) ?_
  refine y_sipush hX (i := 200) (v := 200) (by decide +kernel) (by decide) ?_
  refine y_iast hX 1 rfl 1 (vp_in_iff.mpr (by decide)) (by decide) (by decide +kernel) ?_
  refine y_aload_n hX (i := 0) 0 (by decide +kernel) rfl ?_
  refine y_get hX 0 (N := 17) rfl rfl ws_X11 0 (by decide) f_X11_7 rfl rfl (by decide +kernel) ?_
  refine y_iconst hX (i := 2) (v := 2) (by decide +kernel) (by decide) ?_
  refine y_bipush hX (i := 100) (v := 100) (by decide +kernel) (by decide) ?_
  refine y_iast hX 1 rfl 2 (vp_in_iff.mpr (by decide)) (by decide) (by decide +kernel) ?_
  refine y_aload_n hX (i := 0) 0 (by decide +kernel) rfl ?_
  refine y_get hX 0 (N := 17) rfl rfl ws_X11 0 (by decide) f_X11_7 rfl rfl (by decide +kernel) ?_
  refine y_iconst hX (i := 3) (v := 3) (by decide +kernel) (by decide) ?_
  refine y_bipush hX (i := 20) (v := 20) (by decide +kernel) (by decide) ?_
  refine y_iast hX 1 rfl 3 (vp_in_iff.mpr (by decide)) (by decide) (by decide +kernel) ?_
  refine y_aload_n hX (i := 0) 0 (by decide +kernel) rfl ?_
  refine y_get hX 0 (N := 17) rfl rfl ws_X11 0 (by decide) f_X11_7 rfl rfl (by decide +kernel) ?_
  refine y_bipush hX (i := 6) (v := 6) (by decide +kernel) (by decide) ?_
  refine y_sipush hX (i := 200) (v := 200) (by decide +kernel) (by decide) ?_
  refine y_iast hX 1 rfl 6 (vp_in_iff.mpr (by decide)) (by decide) (by decide +kernel) ?_
  exact y_ret hX hR (by decide +kernel) ⟨q1, q2, q3, q4, q5, q6, rfl⟩
