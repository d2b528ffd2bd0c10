/-! CONSTRUCTORS: from a small world to a larger one -/
abbrev zn_B (D : va_G) (cI : ClassId) (ex : List Cond) (sz : Nat) (w0 : va_W) : State → Prop := fun U => U.heap.size = sz ∧ va_P D vwCl w0 U.heap ∧ va_K D vwCl [(cI, .int)] U ∧ va_D (fun _ => True) w0 ∧ ∀ w ∈ ex, va_Nw w U
abbrev zn_Q {S : Type} (D : va_G) (cI : ClassId) (A : Nat → Prop) (w1 : S → va_W) : Array Value → State → Outcome → State → Prop := va_Qv (fun _ : S => True) (fun u t => va_P D vwCl (w1 u) t.heap ∧ va_K D vwCl [(cI, .int)] t ∧ va_D A (w1 u)) A
abbrev zn_M {S : Type} (l : Launch) (D : va_G) (cI : ClassId) (ex : List Cond) (y : MethodName) (ws : List Cond) (rm : Room) (as : List Value) (w0 : va_W) (w1 : S → va_W) (mc ms : Nat) : Prop := ∀ sz : Nat, Met l y ws rm (va_Pc as (zn_B D cI ex sz w0)) (zn_Q D cI (va_A w0 sz) w1) mc ms (va_A w0 sz)
section ZN
variable {p : Program} {l : Launch} {e : Env} {R : Room} {s : State} {m : MethodId} {args : Array Value} {below : List Frame} {meth : Method} {c : Code}
variable {A : Nat → Prop} {D : va_G} {cI : ClassId} {cc : ByteArray} {nL : Nat} {Ts : List Cond} {own : String}
variable {H : Heap} {locs : List Loc} {cells slots : Nat} {Q : State → Prop} {pc : Nat} {ls : Array Slot} {rest : List Value} {w : va_W}
theorem zn_of {S : Type} {ex : List Cond} {y : MethodName} {ws ws' : List Cond} {rm : Room} {as : List Value} {w0 : va_W} {w1 : S → va_W} {mc ms : Nat} (hy : plainName y.cls = true) (hw : ws = Cond.code y cc nL none :: ws') (hn : (lg_sl as).length ≤ nL)
    (body : ∀ p e s m args below meth c ls A, CallFix p m c cc nL s args ws y.cls → meth.locks = false → meth.sig.returnType = none → meth.name = y.name → (∀ q : Nat, s.heap.size ≤ q → A q) → va_K D vwCl [(cI, .int)] s → (∀ w ∈ ex, va_Nw w s) → va_P D vwCl w0 s.heap → va_D A w0 → va_S A s.heap s.heap [] → lv_has ls nL (lv_args 0 as) →
      W p l e rm s m args below meth c s.heap [] 0 0 (MQ below (zn_Q D cI A w1) args s mc ms A) (F0 m 0 ls [])) : zn_M l D cI ex y ws rm as w0 w1 mc ms := by
  intro sz
  refine Met.ofW (cc := cc) (maxL := nL) (ret := none) hy hw ?_
  intro p e s m args below meth c s₁ B hml hv
  obtain ⟨rfl, hsz, hP, hK, hD0, hex⟩ := hv
  have hts := atoms_spec (ws := ws) B.pre
  have hown : s.vm.findClass y.cls = some m.cls := findClass_of_methodNamed B.named
  have hl := lv_entry as (n := nL) hn
  rw [lg_entry_eq]
  subst hsz
  exact body p e s m _ below meth c _ _ ⟨B.exec, B.bytes, hml, hown, hts⟩ B.notSynchronized B.returns (name_of_methodNamed B.named B.method).1 (fun q h => Or.inr h) hK hex hP hD0.self va_S.rf hl
theorem zn_ret {S : Type} {w1 : S → va_W} (C : CallFix p m c cc nL s args Ts own) (hlk : meth.locks = false) (hr : meth.sig.returnType = none) (hK : va_K D vwCl [(cI, .int)] s) (u : S) (hP : va_P D vwCl (w1 u) H) (hD : va_D A (w1 u)) (hS : va_S A s.heap H locs) (hdg : decode cc pc = .ok (.return_, 1)) : W p l e R s m args below meth c H locs cells slots (MQ below (zn_Q D cI A w1) args s cells slots A) (F0 m pc ls []) :=
  W.vret C.1 C.2.1 hr (fun t ht hW => ⟨⟨u, rfl, trivial, by rw [ht]; exact hP, hK.moved hW.alike, hD⟩, hS.F ht⟩) hS.2.2 hdg hlk
theorem zn_blind {ex : List Cond} {sz : Nat} {w0 : va_W} (as : List Value) (hex : ∀ w ∈ ex, w.onTables = true) : FrameBlind (va_Pc as (zn_B D cI ex sz w0)) := by
  intro a U g mk h
  obtain ⟨h0, h1, h2, h3, h4, h5⟩ := h
  exact ⟨h0, h1, h2, va_K.moved (u := U) (U := U.calling g mk a) (Vm.Alike.refl U.vm) h3, h4, fun w hw => va_Nw.same (hex w hw) (u := U) (U := U.calling g mk a) rfl (h5 w hw)⟩
theorem zn_pre {w0c : va_W} {As : List Value} {b : Nat} (hK : va_K D vwCl [(cI, .int)] s) (hP : va_P D vwCl w0c H) (hD : va_D A w0c) : PreS s H (va_Pc (.ref b :: As) (zn_B D cI [] H.size w0c)) (.ref b :: As) :=
  ⟨zn_blind _ (fun _ h => nomatch h), fun U hU hW => ⟨rfl, by rw [hU], by rw [hU]; exact hP, hK.moved hW.alike, hD.weaken (fun _ _ _ _ => trivial), fun _ h => nomatch h⟩⟩
theorem zn_after {Sc : Type} {w0c wr : va_W} {w1c : Sc → va_W} {mc ms : Nat} {b : Nat} {As : List Value} {st0 : List Value} (hA : ∀ q : Nat, s.heap.size ≤ q → A q) (hr : va_Run p l e R s m args below meth c H locs cells slots mc ms (F0 m pc ls st0) rest (zn_Q D cI (va_A w0c H.size) w1c (Value.ref b :: As).toArray) (va_A w0c H.size))
    (hP : va_P D vwCl w H) (hD : va_D A w) (hS : va_S A s.heap H locs) (isC isR : List Nat) (hC : isC.map (fun i => w[i]?) = w0c.map some) (hR : isR.map (fun i => w[i]?) = wr.map some) (hn : va_nd isR = true) (hdis : ∀ i ∈ isR, i ∉ isC)
    (kk : ∀ (u : Sc) (H1 : Heap) (locs1 : List Loc), va_P D vwCl (wr ++ w1c u) H1 → va_D A (wr ++ w1c u) → va_S A s.heap H1 locs1 → W p l e R s m args below meth c H1 locs1 (cells + mc) (slots + ms) Q (F0 m (pc + 3) ls rest)) : W p l e R s m args below meth c H locs cells slots Q (F0 m pc ls st0) := by
  have hF := va_free (wc := w0c) hD hS hA isC hC
  refine va_callv hr hS (fun q _ h => hF q h) hF (fun u t H1 locs1 ht hvm _ hB hz1 hk1 hS1 => ?_)
  obtain ⟨hP1, hK1, hD1⟩ := hB
  rw [ht] at hP1
  obtain ⟨hP2, hD2⟩ := va_join (wr := wr) (w1 := w1c u) hP hD isC isR hC hR hn hdis hk1 hF hP1 hD1
  exact kk u H1 locs1 hP2 hD2 hS1
/-- a constructor called -/
theorem zn_callI {Sc : Type} {w0c wr : va_W} {w1c : Sc → va_W} {mc ms n b index maxL : Nat} {y : MethodName} {bytes : ByteArray} {ws : List Cond} {rm : Room} {As st0 : List Value} (C : CallFix p m c cc nL s args Ts own) (hA : ∀ q : Nat, s.heap.size ≤ q → A q) (hK : va_K D vwCl [(cI, .int)] s) (hM : zn_M l D cI [] y ws rm (.ref b :: As) w0c w1c mc ms) (cw : CallB R s args own index y bytes maxL none ws rm mc ms n ∧ y.name = "<init>" ∧ (Cond.instanceMethod y).before args s = true)
    (hP : va_P D vwCl w H) (hD : va_D A w) (hS : va_S A s.heap H locs) (isC isR : List Nat) (hC0 : isC.filterMap (fun i => w[i]?) = w0c) (hC : isC.map (fun i => w[i]?) = w0c.map some) (hnC : va_nd isC = true) (hR : isR.map (fun i => w[i]?) = wr.map some) (hn : va_nd isR = true) (hdis : ∀ i ∈ isR, i ∉ isC)
    (hAs : As.length = n) {lv : List (Nat × Value)} (hl : lv_has ls nL lv) (hst : st0 = As.reverse ++ .ref b :: rest) (hW : (rest.map fun v => v.category).sum ≤ 8) (hdg : decode cc pc = .ok (.invokespecial index, 3)) (hcs : cells + mc ≤ R.cells ∧ slots + ms ≤ R.slots)
    (kk : ∀ (u : Sc) (H1 : Heap) (locs1 : List Loc), va_P D vwCl (wr ++ w1c u) H1 → va_D A (wr ++ w1c u) → va_S A s.heap H1 locs1 → W p l e R s m args below meth c H1 locs1 (cells + mc) (slots + ms) Q (F0 m (pc + 3) ls rest)) : W p l e R s m args below meth c H locs cells slots Q (F0 m pc ls st0) :=
  zn_after hA (va_runI (As := As) (rest := rest) C (hM H.size) cw (zn_pre hK (hP.sub isC hC0) (hD.sub isC hnC hC)) rfl hAs hl.1 hst (lv_room (pc := pc) (ls := ls) (m := m) hW) hdg hcs) hP hD hS isC isR hC hR hn hdis kk
/-- a nest mate's private constructor called -/
theorem zn_callIN {Sc : Type} {w0c wr : va_W} {w1c : Sc → va_W} {mc ms n b index maxL : Nat} {y : MethodName} {host : String} {bytes : ByteArray} {ws : List Cond} {rm : Room} {As st0 : List Value} (C : CallFix p m c cc nL s args Ts own) (hA : ∀ q : Nat, s.heap.size ≤ q → A q) (hK : va_K D vwCl [(cI, .int)] s) (hM : zn_M l D cI [] y ws rm (.ref b :: As) w0c w1c mc ms) (cw : va_CN R s args own index y host bytes maxL none ws rm mc ms n ∧ y.name = "<init>" ∧ (Cond.instanceMethod y).before args s = true)
    (hP : va_P D vwCl w H) (hD : va_D A w) (hS : va_S A s.heap H locs) (isC isR : List Nat) (hC0 : isC.filterMap (fun i => w[i]?) = w0c) (hC : isC.map (fun i => w[i]?) = w0c.map some) (hnC : va_nd isC = true) (hR : isR.map (fun i => w[i]?) = wr.map some) (hn : va_nd isR = true) (hdis : ∀ i ∈ isR, i ∉ isC)
    (hAs : As.length = n) {lv : List (Nat × Value)} (hl : lv_has ls nL lv) (hst : st0 = As.reverse ++ .ref b :: rest) (hW : (rest.map fun v => v.category).sum ≤ 8) (hdg : decode cc pc = .ok (.invokespecial index, 3)) (hcs : cells + mc ≤ R.cells ∧ slots + ms ≤ R.slots)
    (kk : ∀ (u : Sc) (H1 : Heap) (locs1 : List Loc), va_P D vwCl (wr ++ w1c u) H1 → va_D A (wr ++ w1c u) → va_S A s.heap H1 locs1 → W p l e R s m args below meth c H1 locs1 (cells + mc) (slots + ms) Q (F0 m (pc + 3) ls rest)) : W p l e R s m args below meth c H locs cells slots Q (F0 m pc ls st0) :=
  zn_after hA (va_runIN (As := As) (rest := rest) C (hM H.size) cw (zn_pre hK (hP.sub isC hC0) (hD.sub isC hnC hC)) rfl hAs hl.1 hst (lv_room (pc := pc) (ls := ls) (m := m) hW) hdg hcs) hP hD hS isC isR hC hR hn hdis kk
/-- a method called inside a constructor -/
theorem zn_callV {Sc : Type} {w0c wr : va_W} {w1c : Sc → va_W} {mc ms n b index maxL k ci : Nat} {fs : List Value} {C' : String} {TT : u_T} {N : Nat} {y : MethodName} {bytes : ByteArray} {ws : List Cond} {rm : Room} {As st0 : List Value} (C : CallFix p m c cc nL s args Ts own) (hA : ∀ q : Nat, s.heap.size ≤ q → A q) (hK : va_K D vwCl [(cI, .int)] s) (hM : zn_M l D cI [] y ws rm (.ref b :: As) w0c w1c mc ms) (cw : CallW R s args own C' index y bytes maxL none ws rm mc ms n) (he : w[k]? = some (b, .inr (ci, fs))) (hc : vwCl[ci]? = some (C', TT, N))
    (hP : va_P D vwCl w H) (hD : va_D A w) (hS : va_S A s.heap H locs) (isC isR : List Nat) (hC0 : isC.filterMap (fun i => w[i]?) = w0c) (hC : isC.map (fun i => w[i]?) = w0c.map some) (hnC : va_nd isC = true) (hR : isR.map (fun i => w[i]?) = wr.map some) (hn : va_nd isR = true) (hdis : ∀ i ∈ isR, i ∉ isC)
    (hAs : As.length = n) {lv : List (Nat × Value)} (hl : lv_has ls nL lv) (hst : st0 = As.reverse ++ .ref b :: rest) (hW : (rest.map fun v => v.category).sum ≤ 8) (hdg : decode cc pc = .ok (.invokevirtual index, 3)) (hcs : cells + mc ≤ R.cells ∧ slots + ms ≤ R.slots)
    (kk : ∀ (u : Sc) (H1 : Heap) (locs1 : List Loc), va_P D vwCl (wr ++ w1c u) H1 → va_D A (wr ++ w1c u) → va_S A s.heap H1 locs1 → W p l e R s m args below meth c H1 locs1 (cells + mc) (slots + ms) Q (F0 m (pc + 3) ls rest)) : W p l e R s m args below meth c H locs cells slots Q (F0 m pc ls st0) :=
  zn_after hA (va_runV (As := As) (rest := rest) C (hM H.size) cw ⟨(zn_pre (b := b) (As := As) hK (hP.sub isC hC0) (hD.sub isC hnC hC)).1, va_recv hK hP hc he, (zn_pre (b := b) (As := As) hK (hP.sub isC hC0) (hD.sub isC hnC hC)).2⟩ rfl hAs hl.1 hst (lv_room (pc := pc) (ls := ls) (m := m) hW) hdg hcs) hP hD hS isC isR hC hR hn hdis kk
end ZN
/-! Table's constructor; Table's set, where the place is inside -/
abbrev zn_t (a r : Nat) (cI : ClassId) (wd : Int32) (n : Nat) (f : Nat → Int32) : va_W := [(a, .inr (5, [.ref r, .int wd])), (r, .inl (cI, n, .inl f))]
theorem zn_k5_7 : Cond.fieldLink yX5_init.cls 7 RX5 "width" "I" ∈ wsX5_init := by decide +kernel
theorem zn_k5_13 : Cond.fieldLink yX5_init.cls 13 RX5 "cells" "[I" ∈ wsX5_init := by decide +kernel
theorem zn_i5 : ∀ w ∈ u_ws RX5 TX5 2, w ∈ wsX5_init := by decide +kernel
set_option maxHeartbeats 4000000 in
set_option maxRecDepth 100000 in
theorem zn_X5_init {l : Launch} {D : va_G} {cI : ClassId} (a : Nat) (r c : Int32) (n : Nat) (h0 : ¬ r * c ≤ 0) (h1 : ¬ r * c < 0) (hn : (r * c).toNatClampNeg = n) (hn4 : n * 4 ≤ 536870912) :
    zn_M l D cI [] yX5_init wsX5_init { frames := 1, cells := 1, slots := n, locals := 12 } [.ref a, .int r, .int c] [(a, .inr (5, [.null, .int 0]))] (fun q : Nat => zn_t a q cI c n (fun _ => 0)) 1 n := by
  refine zn_of (cc := cX5_init) (nL := 4) (by decide) rfl (Nat.le_of_ble_eq_true rfl) ?_
  intro p e s m args below meth c0 ls A C hlk hr hnm hA hK hex hP hD hS hl
  obtain ⟨hx, hb, hml, hown, hts⟩ := id C
  have hl : lv_has ls 4 [(0, .ref a), (1, .int r), (2, .int c)] := hl
  refine lv_aload_n hx hb dX5_init_0 rfl (lv_at hl 0 rfl) ?_
  refine W.objInit hx hb hown (hts (.methodLink RX5 1 objectInit) (by decide +kernel)) (hts (.instanceMethod objectInit) (by decide +kernel)) (hts _ (List.mem_of_getElem? (i := 3) rfl)) rfl (by rw [hml]; exact hl.1) rfl dX5_init_1 (Nat.le_of_ble_eq_true rfl) (Nat.le_of_ble_eq_true rfl) ?_
  refine W.eq (g2 := F0 m 4 ls []) rfl ?_
  refine lv_iload_n hx hb dX5_init_4 rfl (lv_at hl 1 rfl) ?_
  refine lv_iload_n hx hb dX5_init_5 rfl (lv_at hl 2 rfl) ?_
  refine lv_imul hx hb dX5_init_6 ?_
  refine lv_istore_n (lv' := [(3, .int (r * c)), (0, .ref a), (1, .int r), (2, .int c)]) hx hb dX5_init_7 rfl hl (by decide) rfl (fun ls hl => ?_)
  refine lv_aload_n hx hb dX5_init_8 rfl (lv_at hl 1 rfl) ?_
  refine lv_iload_n hx hb dX5_init_9 rfl (lv_at hl 3 rfl) ?_
  refine va_putF (D := D) (ci := 5) (ref := RX5) (v := .int c) (ty := .int) (C := RX5) (T := TX5) (N := 2) hx hb hts zn_i5 tyX5 tyX5_ok nmX5 hown hK hP hD hS 0 rfl rfl 1 (by decide) (hts _ zn_k5_7) (fun _ h9 => h9) rfl hnm rfl (by decide +kernel) rfl rfl (Nat.le_of_ble_eq_true rfl) dX5_init_10 (fun H locs hP hD hS => ?_)
  have hP : va_P D vwCl [(a, .inr (5, [.null, .int c]))] H := hP
  have hD : va_D A [(a, .inr (5, [.null, .int c]))] := hD
  refine lv_aload_n hx hb dX5_init_13 rfl (lv_at hl 1 rfl) ?_
  refine lv_iload_n hx hb dX5_init_14 rfl (lv_at hl 0 rfl) ?_
  refine lv_if_le (tgt := 22) hx hb dX5_init_15 (by decide) (fun h => absurd h h0) (fun _ => ?_)
  refine lv_iload_n hx hb dX5_init_18 rfl (lv_at hl 0 rfl) ?_
  refine lv_goto (tgt := 23) hx hb dX5_init_19 (by decide) ?_
  refine va_newa (atype := .int) (ty := .int) (N' := n) (a0 := (n, .inl (fun _ => 0))) hx hb (hts (.arrayClass .int) (by decide +kernel)) rfl hK hP hD hS hA (fun cA => rfl) h1 hn hn4 (Nat.le_refl _) (Nat.le_of_eq (Nat.zero_add n)) dX5_init_23 (fun q cA H hK1 hP hD hS => ?_)
  have e : cA = cI := by
    have a1 : s.vm.findClass ("[" ++ FieldType.int.toString) = some cA := (hK1.2 1 _ rfl).2
    have a2 : s.vm.findClass ("[" ++ FieldType.int.toString) = some cI := (hK1.2 0 _ rfl).2
    rw [a1] at a2
    exact Option.some.inj a2
  subst e
  have hP : va_P D vwCl [(a, .inr (5, [.null, .int c])), (q, .inl (cA, n, .inl (fun _ => 0)))] H := hP
  have hD : va_D A [(a, .inr (5, [.null, .int c])), (q, .inl (cA, n, .inl (fun _ => 0)))] := hD
  refine va_putF (D := D) (ci := 5) (ref := RX5) (v := .ref q) (ty := .array .int) (C := RX5) (T := TX5) (N := 2) hx hb hts zn_i5 tyX5 tyX5_ok nmX5 hown hK hP hD hS 0 rfl rfl 0 (by decide) (hts _ zn_k5_13) (fun _ h9 => h9) rfl hnm rfl (by decide +kernel) rfl rfl (Nat.le_of_ble_eq_true rfl) dX5_init_25 (fun H locs hP hD hS => ?_)
  refine W.widen (k := 1) (n := n) (Nat.le_of_eq (Nat.zero_add 1).symm) (Nat.le_of_eq (Nat.zero_add n)) ?_
  exact zn_ret C hlk hr hK q hP hD hS dX5_init_28
