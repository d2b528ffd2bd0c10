/-! ROWS over the world: a contract, what holds in a body, one row an instruction that touches the world. -/
def zz_max (x y : Int32) : Int32 := if x < y then y else x
def zz_min (x y : Int32) : Int32 := if y < x then y else x
def zz_abs (x : Int32) : Int32 := if 0 ≤ x then x else 0 - x
/-- the texts of the class's throws -/
def zz_tx : List (String × Nat × String) := [("ThirteenthDay", 107, "no such STATION"), ("ThirteenthDay", 116, "blocks is not 1 to 5, or grade not 0 to 2"), ("ThirteenthDay", 127, "there is a STATION"), ("ThirteenthDay", 135, "no such LINE"), ("ThirteenthDay", 152, "what is not 0 to 5"), ("ThirteenthDay", 157, "what is not 0 to 6"), ("ThirteenthDay", 165, "sector is not 0 to 2"), ("ThirteenthDay", 167, "kind is not 0 to 4"), ("ThirteenthDay", 169, "loads is not 1 to 8"), ("ThirteenthDay", 174, "there are 6 UNITS"), ("ThirteenthDay", 184, "march is not 6 to 144"), ("ThirteenthDay", 190, "a PATH or a TRAIN for this SECTOR is on its way"), ("ThirteenthDay", 196, "set is less than 0, or has a UNIT that there is not"), ("ThirteenthDay", 198, "there is no STATION"), ("ThirteenthDay", 209, "no such UNIT"), ("ThirteenthDay", 211, "the UNIT is at PEACE or STOPPED"), ("ThirteenthDay", 213, "a wire to STOP the UNIT is on its way"), ("ThirteenthDay", 215, "what is not 0 to 12"), ("ThirteenthDay", 223, "tick is less than TICK, or above 2880"), ("ThirteenthDay", 228, "a LOAD that has not gone has a PATH"), ("ThirteenthDay", 233, "the UNIT is STOPPED, gone, or without a RAILHEAD"), ("ThirteenthDay", 258, "variant is not 0 to 3"), ("ThirteenthDay", 261, "TICK is above 2808"), ("ThirteenthDay", 276, "no such TRAIN"), ("ThirteenthDay", 278, "ticks is not 1 to 72"), ("ThirteenthDay", 281, "the TRAIN is unloaded now, or DONE"), ("ThirteenthDay", 288, "ticks is not 0 to 144"), ("ThirteenthDay", 296, "what is not 0 to 9"), ("ThirteenthDay", 305, "the SECTOR has no RAILHEAD"), ("ThirteenthDay", 310, "there are 6 SUPPLIES that are not DONE"), ("ThirteenthDay", 332, "plan is not 0 to 2"), ("ThirteenthDay", 337, "day is not above DAY, or above 20"), ("ThirteenthDay", 339, "strength is not 1 to 60"), ("ThirteenthDay", 344, "there are 6 of that PLAN"), ("ThirteenthDay", 367, "ticks is not 1 to 144"), ("ThirteenthDay", 369, "TICK would be above 2880")]
def zz_B (A : Nat → Prop) (D : va_G) (cI : ClassId) (q : Nat → Nat) (st : zz_T) (U : State) : Prop :=
  (∀ a : Nat, U.heap.size ≤ a → A a) ∧ va_P D vwCl (zz_c q cI st) U.heap ∧ va_K D vwCl [(cI, .int)] U ∧ zz_D A q ∧ zz_E zz_tx A U
theorem zz_B.blind {A : Nat → Prop} {D : va_G} {cI : ClassId} {q : Nat → Nat} {st : zz_T} (as : List Value) : FrameBlind (va_Pc as (zz_B A D cI q st)) := by
  intro a U g mk h
  obtain ⟨h0, h1, h2, h3, h4, h5⟩ := h
  exact ⟨h0, h1, h2, va_K.moved (u := U) (U := U.calling g mk a) (Vm.Alike.refl U.vm) h3, h4, zz_E.blind h5⟩
/-- contracts: of an int (a truth), a long, nothing -/
abbrev zz_Mi (l : Launch) (A : Nat → Prop) (D : va_G) (cI : ClassId) (q : Nat → Nat) (y : MethodName) (ws : List Cond) (rm : Room) (as : List Value) (st : zz_T) (r : Int32) (st' : zz_T) : Prop :=
  Met l y ws rm (va_Pc as (zz_B A D cI q st)) (va_Qi (fun (x : Int32) (u : zz_T) => x = r ∧ u = st') (fun u t => zz_B A D cI q u t) A) 0 0 A
abbrev zz_Ml (l : Launch) (A : Nat → Prop) (D : va_G) (cI : ClassId) (q : Nat → Nat) (y : MethodName) (ws : List Cond) (rm : Room) (as : List Value) (st : zz_T) (r : Int64) (st' : zz_T) : Prop :=
  Met l y ws rm (va_Pc as (zz_B A D cI q st)) (va_Ql (fun (x : Int64) (u : zz_T) => x = r ∧ u = st') (fun u t => zz_B A D cI q u t) A) 0 0 A
abbrev zz_Mv (l : Launch) (A : Nat → Prop) (D : va_G) (cI : ClassId) (q : Nat → Nat) (y : MethodName) (ws : List Cond) (rm : Room) (as : List Value) (st : zz_T) (st' : zz_T) : Prop :=
  Met l y ws rm (va_Pc as (zz_B A D cI q st)) (va_Qv (fun (u : zz_T) => u = st') (fun u t => zz_B A D cI q u t) A) 0 0 A
/-- what a body owes at its end -/
abbrev zz_Qi (A : Nat → Prop) (D : va_G) (cI : ClassId) (q : Nat → Nat) (r : Int32) (st' : zz_T) (below : List Frame) (args : Array Value) (s : State) : State → Prop :=
  MQ below (va_Qi (fun (x : Int32) (u : zz_T) => x = r ∧ u = st') (fun u t => zz_B A D cI q u t) A) args s 0 0 A
abbrev zz_Ql (A : Nat → Prop) (D : va_G) (cI : ClassId) (q : Nat → Nat) (r : Int64) (st' : zz_T) (below : List Frame) (args : Array Value) (s : State) : State → Prop :=
  MQ below (va_Ql (fun (x : Int64) (u : zz_T) => x = r ∧ u = st') (fun u t => zz_B A D cI q u t) A) args s 0 0 A
abbrev zz_Qv (A : Nat → Prop) (D : va_G) (cI : ClassId) (q : Nat → Nat) (st' : zz_T) (below : List Frame) (args : Array Value) (s : State) : State → Prop :=
  MQ below (va_Qv (fun (u : zz_T) => u = st') (fun u t => zz_B A D cI q u t) A) args s 0 0 A
/-- what holds in a body -/
abbrev zz_C (A : Nat → Prop) (D : va_G) (cI : ClassId) (q : Nat → Nat) (p : Program) (s : State) (m : MethodId) (args : Array Value) (meth : Method) (c : Code) (cc : ByteArray) (nL : Nat) (Ts : List Cond) (own : String) : Prop :=
  CallFix p m c cc nL s args Ts own ∧ meth.locks = false ∧ (∀ a : Nat, s.heap.size ≤ a → A a) ∧ va_K D vwCl [(cI, .int)] s ∧ zz_D A q ∧ zz_E zz_tx A s
section ZR
variable {p : Program} {l : Launch} {e : Env} {R : Room} {s : State} {m : MethodId} {args : Array Value} {below : List Frame} {meth : Method} {c : Code}
variable {A : Nat → Prop} {D : va_G} {cI : ClassId} {q : Nat → Nat} {cc : ByteArray} {nL : Nat} {Ts : List Cond} {own : String}
variable {H : Heap} {locs : List Loc} {cells slots : Nat} {Q : State → Prop} {pc : Nat} {ls : Array Slot} {rest : List Value} {st st' : zz_T}
theorem zz_end (C : zz_C A D cI q p s m args meth c cc nL Ts own) (hP : va_P D vwCl (zz_c q cI st) H) (hS : va_S A s.heap H locs) {t : State} (ht : t.heap = H) (hW : s.WarmedH t.vm) : zz_B A D cI q st t := by
  obtain ⟨-, -, hA, hK, hD, hE⟩ := C
  refine ⟨fun a h => hA a (Nat.le_trans hS.1 (by rw [← ht]; exact h)), by rw [ht]; exact hP, hK.moved hW.alike, hD, zz_E.to hW (fun a h1 h2 => by rw [ht]; exact hS.2.1 a h1 h2) hE⟩
theorem zz_reti (C : zz_C A D cI q p s m args meth c cc nL Ts own) (hr : meth.sig.returnType = some .int) (hP : va_P D vwCl (zz_c q cI st) H) (hS : va_S A s.heap H locs) {v : Int32} (hdg : decode cc pc = .ok (.ireturn, 1)) :
    W p l e R s m args below meth c H locs 0 0 (zz_Qi A D cI q v st below args s) (F0 m pc ls [.int v]) :=
  W.iret C.1.1 C.1.2.1 hr (fun t ht hW => ⟨⟨v, st, rfl, ⟨rfl, rfl⟩, zz_end C hP hS ht hW⟩, hS.F ht⟩) hS.2.2 hdg C.2.1
theorem zz_retz (C : zz_C A D cI q p s m args meth c cc nL Ts own) (hr : meth.sig.returnType = some .boolean) (hP : va_P D vwCl (zz_c q cI st) H) (hS : va_S A s.heap H locs) {v : Bool} (hdg : decode cc pc = .ok (.ireturn, 1)) :
    W p l e R s m args below meth c H locs 0 0 (zz_Qi A D cI q (zz_b v) st below args s) (F0 m pc ls [.int (zz_b v)]) :=
  W.zret C.1.1 C.1.2.1 hr (zz_narrow v) (fun t ht hW => ⟨⟨zz_b v, st, rfl, ⟨rfl, rfl⟩, zz_end C hP hS ht hW⟩, hS.F ht⟩) hS.2.2 hdg C.2.1
theorem zz_retl (C : zz_C A D cI q p s m args meth c cc nL Ts own) (hr : meth.sig.returnType = some .long) (hP : va_P D vwCl (zz_c q cI st) H) (hS : va_S A s.heap H locs) {v : Int64} (hdg : decode cc pc = .ok (.lreturn, 1)) :
    W p l e R s m args below meth c H locs 0 0 (zz_Ql A D cI q v st below args s) (F0 m pc ls [.long v]) :=
  W.lret C.1.1 C.1.2.1 hr (fun t ht hW => ⟨⟨v, st, rfl, ⟨rfl, rfl⟩, zz_end C hP hS ht hW⟩, hS.F ht⟩) hS.2.2 hdg C.2.1
theorem zz_retv (C : zz_C A D cI q p s m args meth c cc nL Ts own) (hr : meth.sig.returnType = none) (hP : va_P D vwCl (zz_c q cI st) H) (hS : va_S A s.heap H locs) (hdg : decode cc pc = .ok (.return_, 1)) :
    W p l e R s m args below meth c H locs 0 0 (zz_Qv A D cI q st below args s) (F0 m pc ls []) :=
  W.vret C.1.1 C.1.2.1 hr (fun t ht hW => ⟨⟨st, rfl, rfl, zz_end C hP hS ht hW⟩, hS.F ht⟩) hS.2.2 hdg C.2.1
/-- a method's contract out of its body -/
theorem zz_of {y : MethodName} {ws ws' : List Cond} {rm : Room} {ret : Option FieldType} {as : List Value} {Qc : Array Value → State → Outcome → State → Prop} (hy : plainName y.cls = true) (hw : ws = Cond.code y cc nL ret :: ws') (hn : (lg_sl as).length ≤ nL)
    (body : ∀ p e s m args below meth c ls, zz_C A D cI q p s m args meth c cc nL ws y.cls → meth.sig.returnType = ret → va_P D vwCl (zz_c q cI st) s.heap → va_S A s.heap s.heap [] → lv_has ls nL (lv_args 0 as) →
      W p l e rm s m args below meth c s.heap [] 0 0 (MQ below Qc args s 0 0 A) (F0 m 0 ls [])) : Met l y ws rm (va_Pc as (zz_B A D cI q st)) Qc 0 0 A := by
  refine Met.ofW (cc := cc) (maxL := nL) (ret := ret) hy hw ?_
  intro p e s m args below meth c s₁ B hml hv
  obtain ⟨rfl, hA, hP, hK, hD, hE⟩ := hv
  have hts := atoms_spec (ws := ws) B.pre
  have hown : s.vm.findClass y.cls = some m.cls := findClass_of_methodNamed B.named
  have hl := lv_entry as (n := nL) hn
  rw [lg_entry_eq]
  exact body p e s m _ below meth c _ ⟨⟨B.exec, B.bytes, hml, hown, hts⟩, B.notSynchronized, hA, hK, hD, hE⟩ B.returns hP va_S.rf hl
/-- getfield of a cell of the world -/
theorem zz_getf (C : zz_C A D cI q p s m args meth c cc nL Ts own) {CC : String} {TT : u_T} {N ci index : Nat} (hin : ∀ w ∈ u_ws CC TT N, w ∈ Ts) (hP : va_P D vwCl (zz_c q cI st) H) (k : Nat) {a : Nat} {fs : List Value} (he : (zz_c q cI st)[k]? = some (a, .inr (ci, fs))) (hc : vwCl[ci]? = some (CC, TT, N)) (j : Nat) {nm ds : String} {fin : Bool} (hT : TT j = (CC, nm, ds, fin)) (hj : j < N)
    (hlink : Cond.fieldLink own index CC nm ds ∈ Ts) {v : Value} (hv : fs[j]? = some v) (hdg : decode cc pc = .ok (.getfield index, 3)) (kk : W p l e R s m args below meth c H locs cells slots Q (F0 m (pc + 3) ls (v :: rest))) : W p l e R s m args below meth c H locs cells slots Q (F0 m pc ls (.ref a :: rest)) := by
  obtain ⟨⟨hx, hb, hml, hown, hts⟩, hlocks, hA, hK, hD, hE⟩ := C
  exact va_get (D := D) (ref := CC) hx hb hts hin hown hK hP k he hc j hj (by rw [hT]; exact hts _ hlink) (fun _ h9 => by rw [hT] at h9 ⊢; exact h9) hv hdg kk
/-- putfield of a number of the world -/
theorem zz_putf (C : zz_C A D cI q p s m args meth c cc nL Ts own) {CC : String} {TT : u_T} {N ci index : Nat} (hin : ∀ w ∈ u_ws CC TT N, w ∈ Ts) (ty0 : Nat → FieldType) (hty : ∀ k, k < N → parseFieldDescriptor (TT k).2.2.1 = some (ty0 k)) (hnm : ∀ a, a < N → ∀ b, b < N → a ≠ b → (TT a).2.1 ≠ (TT b).2.1) (hP : va_P D vwCl (zz_c q cI st) H) (hS : va_S A s.heap H locs) (k : Nat) {a : Nat} {fs : List Value} (he : (zz_c q cI st)[k]? = some (a, .inr (ci, fs))) (hc : vwCl[ci]? = some (CC, TT, N)) (j : Nat) {nm : String} (hT : TT j = (CC, nm, "I", false)) (hj : j < N)
    (hlink : Cond.fieldLink own index CC nm "I" ∈ Ts) {x : Int32} (hl : j < fs.length) (hset : (zz_c q cI st).set k (a, .inr (ci, fs.set j (.int x))) = zz_c q cI st') (hdg : decode cc pc = .ok (.putfield index, 3)) (kk : ∀ (H1 : Heap) (locs1 : List Loc), va_P D vwCl (zz_c q cI st') H1 → va_S A s.heap H1 locs1 → W p l e R s m args below meth c H1 locs1 cells slots Q (F0 m (pc + 3) ls rest)) : W p l e R s m args below meth c H locs cells slots Q (F0 m pc ls (.int x :: .ref a :: rest)) := by
  obtain ⟨⟨hx, hb, hml, hown, hts⟩, hlocks, hA, hK, hD, hE⟩ := C
  refine va_put (D := D) (ref := CC) (ty := .int) hx hb hts hin ty0 hty hnm hown hK hP (hD.va cI st) hS k he hc j hj (by rw [hT]; exact hts _ hlink) (fun _ h9 => by rw [hT] at h9 ⊢; exact h9) (by rw [hT]) (by rw [hT]; exact (show parseFieldDescriptor "I" = some .int by decide +kernel)) rfl rfl hl hdg (fun H1 locs1 hP1 _ hS1 => kk H1 locs1 (hset ▸ hP1) hS1)
/-- a call of a cell's method -/
theorem zz_callVi (C : zz_C A D cI q p s m args meth c cc nL Ts own) {C' : String} {index maxL n b : Nat} {y : MethodName} {bytes : ByteArray} {ret : Option FieldType} {ws : List Cond} {rm : Room} {As st0 : List Value} {r : Int32} (hM : zz_Mi l A D cI q y ws rm (.ref b :: As) st r st') (cw : CallW R s args own C' index y bytes maxL ret ws rm 0 0 n) (hP : va_P D vwCl (zz_c q cI st) H) (hS : va_S A s.heap H locs) (k : Nat) {ci : Nat} {fs : List Value} (he : (zz_c q cI st)[k]? = some (b, .inr (ci, fs))) {TT : u_T} {N : Nat} (hc : vwCl[ci]? = some (C', TT, N))
    (hn : As.length = n) {lv : List (Nat × Value)} (hl : lv_has ls nL lv) (hst : st0 = As.reverse ++ .ref b :: rest) (hW : (rest.map fun v => v.category).sum ≤ 8) (hdg : decode cc pc = .ok (.invokevirtual index, 3)) (hcs : cells ≤ R.cells ∧ slots ≤ R.slots)
    (kk : ∀ (H1 : Heap) (locs1 : List Loc), va_P D vwCl (zz_c q cI st') H1 → va_S A s.heap H1 locs1 → W p l e R s m args below meth c H1 locs1 cells slots Q (F0 m (pc + 3) ls (.int r :: rest))) : W p l e R s m args below meth c H locs cells slots Q (F0 m pc ls st0) := by
  obtain ⟨hF, hlocks, hA, hK, hD, hE⟩ := id C
  refine va_calli (va_runV (As := As) (rest := rest) hF hM cw ⟨zz_B.blind _, va_recv hK hP hc he, fun U hU hW => ⟨rfl, zz_end C hP hS hU hW⟩⟩ rfl hn hl.1 hst (lv_room (pc := pc) (ls := ls) (m := m) hW) hdg hcs) hS (fun q _ h => h) (fun q h => h) (fun x u t H1 locs1 ht hvm hw hB hz hk hS1 => ?_)
  obtain ⟨rfl, rfl⟩ := hw
  exact kk H1 locs1 (ht ▸ hB.2.1) hS1
theorem zz_callVl (C : zz_C A D cI q p s m args meth c cc nL Ts own) {C' : String} {index maxL n b : Nat} {y : MethodName} {bytes : ByteArray} {ret : Option FieldType} {ws : List Cond} {rm : Room} {As st0 : List Value} {r : Int64} (hM : zz_Ml l A D cI q y ws rm (.ref b :: As) st r st') (cw : CallW R s args own C' index y bytes maxL ret ws rm 0 0 n) (hP : va_P D vwCl (zz_c q cI st) H) (hS : va_S A s.heap H locs) (k : Nat) {ci : Nat} {fs : List Value} (he : (zz_c q cI st)[k]? = some (b, .inr (ci, fs))) {TT : u_T} {N : Nat} (hc : vwCl[ci]? = some (C', TT, N))
    (hn : As.length = n) {lv : List (Nat × Value)} (hl : lv_has ls nL lv) (hst : st0 = As.reverse ++ .ref b :: rest) (hW : (rest.map fun v => v.category).sum ≤ 8) (hdg : decode cc pc = .ok (.invokevirtual index, 3)) (hcs : cells ≤ R.cells ∧ slots ≤ R.slots)
    (kk : ∀ (H1 : Heap) (locs1 : List Loc), va_P D vwCl (zz_c q cI st') H1 → va_S A s.heap H1 locs1 → W p l e R s m args below meth c H1 locs1 cells slots Q (F0 m (pc + 3) ls (.long r :: rest))) : W p l e R s m args below meth c H locs cells slots Q (F0 m pc ls st0) := by
  obtain ⟨hF, hlocks, hA, hK, hD, hE⟩ := id C
  refine va_calll (va_runV (As := As) (rest := rest) hF hM cw ⟨zz_B.blind _, va_recv hK hP hc he, fun U hU hW => ⟨rfl, zz_end C hP hS hU hW⟩⟩ rfl hn hl.1 hst (lv_room (pc := pc) (ls := ls) (m := m) hW) hdg hcs) hS (fun q _ h => h) (fun q h => h) (fun x u t H1 locs1 ht hvm hw hB hz hk hS1 => ?_)
  obtain ⟨rfl, rfl⟩ := hw
  exact kk H1 locs1 (ht ▸ hB.2.1) hS1
theorem zz_callVv (C : zz_C A D cI q p s m args meth c cc nL Ts own) {C' : String} {index maxL n b : Nat} {y : MethodName} {bytes : ByteArray} {ret : Option FieldType} {ws : List Cond} {rm : Room} {As st0 : List Value} (hM : zz_Mv l A D cI q y ws rm (.ref b :: As) st st') (cw : CallW R s args own C' index y bytes maxL ret ws rm 0 0 n) (hP : va_P D vwCl (zz_c q cI st) H) (hS : va_S A s.heap H locs) (k : Nat) {ci : Nat} {fs : List Value} (he : (zz_c q cI st)[k]? = some (b, .inr (ci, fs))) {TT : u_T} {N : Nat} (hc : vwCl[ci]? = some (C', TT, N))
    (hn : As.length = n) {lv : List (Nat × Value)} (hl : lv_has ls nL lv) (hst : st0 = As.reverse ++ .ref b :: rest) (hW : (rest.map fun v => v.category).sum ≤ 8) (hdg : decode cc pc = .ok (.invokevirtual index, 3)) (hcs : cells ≤ R.cells ∧ slots ≤ R.slots)
    (kk : ∀ (H1 : Heap) (locs1 : List Loc), va_P D vwCl (zz_c q cI st') H1 → va_S A s.heap H1 locs1 → W p l e R s m args below meth c H1 locs1 cells slots Q (F0 m (pc + 3) ls rest)) : W p l e R s m args below meth c H locs cells slots Q (F0 m pc ls st0) := by
  obtain ⟨hF, hlocks, hA, hK, hD, hE⟩ := id C
  refine va_callv (va_runV (As := As) (rest := rest) hF hM cw ⟨zz_B.blind _, va_recv hK hP hc he, fun U hU hW => ⟨rfl, zz_end C hP hS hU hW⟩⟩ rfl hn hl.1 hst (lv_room (pc := pc) (ls := ls) (m := m) hW) hdg hcs) hS (fun q _ h => h) (fun q h => h) (fun u t H1 locs1 ht hvm hw hB hz hk hS1 => ?_)
  obtain rfl := hw
  exact kk H1 locs1 (ht ▸ hB.2.1) hS1
/-- a call of a class's own method -/
theorem zz_callSi (C : zz_C A D cI q p s m args meth c cc nL Ts own) {index maxL n : Nat} {y : MethodName} {bytes : ByteArray} {ret : Option FieldType} {ws : List Cond} {rm : Room} {As st0 : List Value} {r : Int32} (hM : zz_Mi l A D cI q y ws rm As st r st') (cw : CallB R s args own index y bytes maxL ret ws rm 0 0 n ∧ (Cond.static y).before args s = true) (hP : va_P D vwCl (zz_c q cI st) H) (hS : va_S A s.heap H locs)
    (hn : As.length = n) {lv : List (Nat × Value)} (hl : lv_has ls nL lv) (hst : st0 = As.reverse ++ rest) (hW : (rest.map fun v => v.category).sum ≤ 8) (hdg : decode cc pc = .ok (.invokestatic index, 3)) (hcs : cells ≤ R.cells ∧ slots ≤ R.slots)
    (kk : ∀ (H1 : Heap) (locs1 : List Loc), va_P D vwCl (zz_c q cI st') H1 → va_S A s.heap H1 locs1 → W p l e R s m args below meth c H1 locs1 cells slots Q (F0 m (pc + 3) ls (.int r :: rest))) : W p l e R s m args below meth c H locs cells slots Q (F0 m pc ls st0) := by
  obtain ⟨hF, hlocks, hA, hK, hD, hE⟩ := id C
  refine va_calli (va_runS (As := As) (rest := rest) hF hM cw ⟨zz_B.blind _, fun U hU hW => ⟨rfl, zz_end C hP hS hU hW⟩⟩ rfl hn hl.1 hst (lv_room (pc := pc) (ls := ls) (m := m) hW) hdg hcs) hS (fun q _ h => h) (fun q h => h) (fun x u t H1 locs1 ht hvm hw hB hz hk hS1 => ?_)
  obtain ⟨rfl, rfl⟩ := hw
  exact kk H1 locs1 (ht ▸ hB.2.1) hS1
theorem zz_mmax (C : zz_C A D cI q p s m args meth c cc nL Ts own) {index : Nat} (hw : Cond.methodLink own index Lib.Math.max.name ∈ Ts ∧ Cond.static Lib.Math.max.name ∈ Ts ∧ Cond.initialized "java/lang/Math" ∈ Ts ∧ Cond.code Lib.Math.max.name Lib.Math.max.code 2 (some .int) ∈ Ts) {lv : List (Nat × Value)} (hl : lv_has ls nL lv) (hf : 1 ≤ R.frames) (hlo : (rest.map fun v => v.category).sum + 13 ≤ R.locals) (hcs : cells ≤ R.cells ∧ slots ≤ R.slots) {x y : Int32} (hdg : decode cc pc = .ok (.invokestatic index, 3))
    (kk : W p l e R s m args below meth c H locs cells slots Q (F0 m (pc + 3) ls (.int (zz_max x y) :: rest))) : W p l e R s m args below meth c H locs cells slots Q (F0 m pc ls (.int y :: .int x :: rest)) := by
  obtain ⟨hx, hb, hml, hown, hts⟩ := C.1
  exact va_mmax hx hb (hml.trans hl.1.symm) hown (hts _ hw.1) (hts _ hw.2.1) (hts _ hw.2.2.1) (hts _ hw.2.2.2) hf hlo hcs.1 hcs.2 hdg kk
theorem zz_mmin (C : zz_C A D cI q p s m args meth c cc nL Ts own) {index : Nat} (hw : Cond.methodLink own index Lib.Math.min.name ∈ Ts ∧ Cond.static Lib.Math.min.name ∈ Ts ∧ Cond.initialized "java/lang/Math" ∈ Ts ∧ Cond.code Lib.Math.min.name Lib.Math.min.code 2 (some .int) ∈ Ts) {lv : List (Nat × Value)} (hl : lv_has ls nL lv) (hf : 1 ≤ R.frames) (hlo : (rest.map fun v => v.category).sum + 13 ≤ R.locals) (hcs : cells ≤ R.cells ∧ slots ≤ R.slots) {x y : Int32} (hdg : decode cc pc = .ok (.invokestatic index, 3))
    (kk : W p l e R s m args below meth c H locs cells slots Q (F0 m (pc + 3) ls (.int (zz_min x y) :: rest))) : W p l e R s m args below meth c H locs cells slots Q (F0 m pc ls (.int y :: .int x :: rest)) := by
  obtain ⟨hx, hb, hml, hown, hts⟩ := C.1
  exact va_mmin hx hb (hml.trans hl.1.symm) hown (hts _ hw.1) (hts _ hw.2.1) (hts _ hw.2.2.1) (hts _ hw.2.2.2) hf hlo hcs.1 hcs.2 hdg kk
theorem zz_mabs (C : zz_C A D cI q p s m args meth c cc nL Ts own) {index : Nat} (hw : Cond.methodLink own index Lib.Math.abs.name ∈ Ts ∧ Cond.static Lib.Math.abs.name ∈ Ts ∧ Cond.initialized "java/lang/Math" ∈ Ts ∧ Cond.code Lib.Math.abs.name Lib.Math.abs.code 1 (some .int) ∈ Ts) {lv : List (Nat × Value)} (hl : lv_has ls nL lv) (hf : 1 ≤ R.frames) (hlo : (rest.map fun v => v.category).sum + 13 ≤ R.locals) (hcs : cells ≤ R.cells ∧ slots ≤ R.slots) {x : Int32} (hdg : decode cc pc = .ok (.invokestatic index, 3))
    (kk : W p l e R s m args below meth c H locs cells slots Q (F0 m (pc + 3) ls (.int (zz_abs x) :: rest))) : W p l e R s m args below meth c H locs cells slots Q (F0 m pc ls (.int x :: rest)) := by
  obtain ⟨hx, hb, hml, hown, hts⟩ := C.1
  exact va_mabs hx hb (hml.trans hl.1.symm) hown (hts _ hw.1) (hts _ hw.2.1) (hts _ hw.2.2.1) (hts _ hw.2.2.2) hf hlo hcs.1 hcs.2 hdg kk
theorem zz_topz {x : Bool} (k : ∀ y : Bool, y = x → W p l e R s m args below meth c H locs cells slots Q (F0 m pc ls (.int (zz_b y) :: rest))) : W p l e R s m args below meth c H locs cells slots Q (F0 m pc ls (.int (zz_b x) :: rest)) := k x rfl
end ZR
/-- the two books of paths -/
abbrev zz_P (o b : Nat) : Prop := (o = 3 ∧ b = 6) ∨ (o = 4 ∧ b = 11)
theorem zz_c_pa {q : Nat → Nat} {cI : ClassId} {st : zz_T} {o b : Nat} (h : zz_P o b) : (zz_c q cI st)[o]? = some (q o, .inr (2, [.ref (q (9 + (b + 0))), .ref (q (9 + (b + 1))), .ref (q (9 + (b + 2))), .ref (q (9 + (b + 3))), .ref (q (9 + (b + 4)))])) := by
  rcases h with ⟨rfl, rfl⟩ | ⟨rfl, rfl⟩ <;> rfl
theorem zz_Mi_e {l : Launch} {A : Nat → Prop} {D : va_G} {cI : ClassId} {q : Nat → Nat} {y : MethodName} {ws : List Cond} {rm : Room} {as : List Value} {st : zz_T} {a b : Int32 × zz_T} (e : a = b) (h : zz_Mi l A D cI q y ws rm as st a.1 a.2) : zz_Mi l A D cI q y ws rm as st b.1 b.2 := e ▸ h
theorem zz_Mz_e {l : Launch} {A : Nat → Prop} {D : va_G} {cI : ClassId} {q : Nat → Nat} {y : MethodName} {ws : List Cond} {rm : Room} {as : List Value} {st : zz_T} {a b : Bool × zz_T} (e : a = b) (h : zz_Mi l A D cI q y ws rm as st (zz_b a.1) a.2) : zz_Mi l A D cI q y ws rm as st (zz_b b.1) b.2 := e ▸ h
theorem zz_Ml_e {l : Launch} {A : Nat → Prop} {D : va_G} {cI : ClassId} {q : Nat → Nat} {y : MethodName} {ws : List Cond} {rm : Room} {as : List Value} {st : zz_T} {a b : Int64 × zz_T} (e : a = b) (h : zz_Ml l A D cI q y ws rm as st a.1 a.2) : zz_Ml l A D cI q y ws rm as st b.1 b.2 := e ▸ h
theorem zz_Mv_e {l : Launch} {A : Nat → Prop} {D : va_G} {cI : ClassId} {q : Nat → Nat} {y : MethodName} {ws : List Cond} {rm : Room} {as : List Value} {st : zz_T} {a b : zz_T} (e : a = b) (h : zz_Mv l A D cI q y ws rm as st a) : zz_Mv l A D cI q y ws rm as st b := e ▸ h
theorem zz_Plt {o b k : Nat} (h : zz_P o b) (hk : k < 5) : b + k < 24 := by omega
theorem zz_Pn {o b o1 b1 k : Nat} (h : zz_P o b) (h1 : zz_P o1 b1) (hk : k < 5) : zz_n (b + k) = zz_n (b1 + k) := by
  match k, hk with
  | 0, _ => rcases h with ⟨-, rfl⟩ | ⟨-, rfl⟩ <;> rcases h1 with ⟨-, rfl⟩ | ⟨-, rfl⟩ <;> rfl
  | 1, _ => rcases h with ⟨-, rfl⟩ | ⟨-, rfl⟩ <;> rcases h1 with ⟨-, rfl⟩ | ⟨-, rfl⟩ <;> rfl
  | 2, _ => rcases h with ⟨-, rfl⟩ | ⟨-, rfl⟩ <;> rcases h1 with ⟨-, rfl⟩ | ⟨-, rfl⟩ <;> rfl
  | 3, _ => rcases h with ⟨-, rfl⟩ | ⟨-, rfl⟩ <;> rcases h1 with ⟨-, rfl⟩ | ⟨-, rfl⟩ <;> rfl
  | 4, _ => rcases h with ⟨-, rfl⟩ | ⟨-, rfl⟩ <;> rcases h1 with ⟨-, rfl⟩ | ⟨-, rfl⟩ <;> rfl
theorem zz_Pne {o b o1 b1 k : Nat} (h : zz_P o b) (h1 : zz_P o1 b1) (hb : b ≠ b1) (hk : k < 5) : b1 + k ≠ b + k := by omega
/-! the same for a method that may throw: one cell of six slots may come -/
def zz_exc : List String := ["java/lang/IndexOutOfBoundsException", "java/lang/IllegalArgumentException", "java/lang/IllegalStateException"]
abbrev zz_Mx (l : Launch) (A : Nat → Prop) (D : va_G) (cI : ClassId) (q : Nat → Nat) (y : MethodName) (ws : List Cond) (rm : Room) (as : List Value) (st : zz_T) (r : Option Int32 × zz_T) : Prop :=
  vx_Met l y ws rm (va_Pc as (zz_B A D cI q st)) (va_Qi (fun (x : Int32) (u : zz_T) => r = (some x, u)) (fun u t => zz_B A D cI q u t) A) (vx_X (fun (u : zz_T) => r = (none, u)) (fun E u t => E ∈ zz_exc ∧ va_P D vwCl (zz_c q cI u) t.heap) A) 1 6 A
abbrev zz_Qx (A : Nat → Prop) (D : va_G) (cI : ClassId) (q : Nat → Nat) (r : Option Int32 × zz_T) (below : List Frame) (args : Array Value) (s : State) : State → Prop :=
  vx_MQ below (va_Qi (fun (x : Int32) (u : zz_T) => r = (some x, u)) (fun u t => zz_B A D cI q u t) A) (vx_X (fun (u : zz_T) => r = (none, u)) (fun E u t => E ∈ zz_exc ∧ va_P D vwCl (zz_c q cI u) t.heap) A) args s 1 6 A
section ZX
variable {p : Program} {l : Launch} {e : Env} {R : Room} {s : State} {m : MethodId} {args : Array Value} {below : List Frame} {meth : Method} {c : Code}
variable {A : Nat → Prop} {D : va_G} {cI : ClassId} {q : Nat → Nat} {cc : ByteArray} {nL : Nat} {Ts : List Cond} {own : String}
variable {H : Heap} {locs : List Loc} {pc : Nat} {ls : Array Slot} {rest : List Value} {st : zz_T}
theorem zz_retxi (C : zz_C A D cI q p s m args meth c cc nL Ts own) (hr : meth.sig.returnType = some .int) (hP : va_P D vwCl (zz_c q cI st) H) (hS : va_S A s.heap H locs) {v : Int32} (hdg : decode cc pc = .ok (.ireturn, 1)) :
    W p l e R s m args below meth c H locs 0 0 (zz_Qx A D cI q (some v, st) below args s) (F0 m pc ls [.int v]) :=
  vx_ret (W.widen (k := 1) (n := 6) (Nat.zero_le _) (Nat.zero_le _) (W.iret C.1.1 C.1.2.1 hr (fun t ht hW => ⟨⟨v, st, rfl, rfl, zz_end C hP hS ht hW⟩, hS.F ht⟩) hS.2.2 hdg C.2.1))
theorem zz_retxz (C : zz_C A D cI q p s m args meth c cc nL Ts own) (hr : meth.sig.returnType = some .boolean) (hP : va_P D vwCl (zz_c q cI st) H) (hS : va_S A s.heap H locs) {v : Bool} (hdg : decode cc pc = .ok (.ireturn, 1)) :
    W p l e R s m args below meth c H locs 0 0 (zz_Qx A D cI q (some (zz_b v), st) below args s) (F0 m pc ls [.int (zz_b v)]) :=
  vx_ret (W.widen (k := 1) (n := 6) (Nat.zero_le _) (Nat.zero_le _) (W.zret C.1.1 C.1.2.1 hr (zz_narrow v) (fun t ht hW => ⟨⟨zz_b v, st, rfl, rfl, zz_end C hP hS ht hW⟩, hS.F ht⟩) hS.2.2 hdg C.2.1))
theorem zz_ofx {y : MethodName} {ws ws' : List Cond} {rm : Room} {ret : Option FieldType} {as : List Value} {Qc : Array Value → State → Outcome → State → Prop} {XC : String → State → State → Prop} {mc ms : Nat} (hy : plainName y.cls = true) (hw : ws = Cond.code y cc nL ret :: ws') (hn : (lg_sl as).length ≤ nL)
    (body : ∀ p e s m args below meth c ls, zz_C A D cI q p s m args meth c cc nL ws y.cls → meth.sig.returnType = ret → (∀ x ∈ c.exceptionTable.toList, False) → va_P D vwCl (zz_c q cI st) s.heap → va_S A s.heap s.heap [] → lv_has ls nL (lv_args 0 as) →
      W p l e rm s m args below meth c s.heap [] 0 0 (vx_MQ below Qc XC args s mc ms A) (F0 m 0 ls [])) : vx_Met l y ws rm (va_Pc as (zz_B A D cI q st)) Qc XC mc ms A := by
  refine vx_ofW (cc := cc) (maxL := nL) (ret := ret) hy hw ?_
  intro p e s m args below meth c s₁ B hml hxt hv
  obtain ⟨rfl, hA, hP, hK, hD, hE⟩ := hv
  have hts := atoms_spec (ws := ws) B.pre
  have hown : s.vm.findClass y.cls = some m.cls := findClass_of_methodNamed B.named
  have hl := lv_entry as (n := nL) hn
  rw [lg_entry_eq]
  exact body p e s m _ below meth c _ ⟨⟨B.exec, B.bytes, hml, hown, hts⟩, B.notSynchronized, hA, hK, hD, hE⟩ B.returns hxt hP va_S.rf hl
theorem zz_thr (C : zz_C A D cI q p s m args meth c cc nL Ts own) (hst : l.stackTraces = false) (hP : va_P D vwCl (zz_c q cI st) H) (hS : va_S A s.heap H locs) {cls text : String} {ik is ic : Nat} (hcls : Bundle.fit cls = true ∧ ∀ n ∈ ["java/lang/RuntimeException", "java/lang/Exception"], Bundle.fit n = true)
    (hk : Cond.classLink own ik cls ∈ Ts) (hini : Cond.initialized cls ∈ Ts) (htx : (own, is, text) ∈ zz_tx) (hat : ∀ w ∈ vx_atS own ic cls ["java/lang/RuntimeException", "java/lang/Exception"], w ∈ Ts ∨ w ∈ zz_bad) (hgood : ∀ w ∈ Cond.classLink own ik cls :: Cond.initialized cls :: vx_atS own ic cls ["java/lang/RuntimeException", "java/lang/Exception"], vx_ot w = true) (hex : cls ∈ zz_exc) {lv : List (Nat × Value)} (hl : lv_has ls nL lv)
    (d0 : decode cc pc = .ok (.new ik, 3)) (d3 : decode cc (pc + 3) = .ok (.dup, 1)) (d4 : decode cc (pc + 4) = .ok (.ldc is, 2)) (d6 : decode cc (pc + 6) = .ok (.invokespecial ic, 3)) (d9 : decode cc (pc + 9) = .ok (.athrow, 1)) (hxt : ∀ x ∈ c.exceptionTable.toList, False)
    (hR : 5 < R.frames) (hRl : (rest.map fun v => v.category).sum + 82 ≤ R.locals) (hRc : 1 ≤ R.cells) (hRs : 6 ≤ R.slots) :
    W p l e R s m args below meth c H locs 0 0 (zz_Qx A D cI q (none, st) below args s) (F0 m pc ls rest) := by
  obtain ⟨⟨hx, hb, hml, hown, hts⟩, hlocks, hA, hK, hD, hE⟩ := id C
  obtain ⟨sa, hsa⟩ := hE.2.2.2.2.2.1 _ htx
  refine vx_throwS (A := A) (sa := sa) (names := ["java/lang/RuntimeException", "java/lang/Exception"]) hx hb hst hown hcls.1 hcls.2 (hts _ hk) (hts _ hini) hsa (fun w hw => (hat w hw).elim (hts w) (fun h => va_Nw.use (zz_bad_t h) (hE.2.2.2.2.2.2.1 w h))) hgood hE.2.2.2.1 hE.2.2.2.2.1 hS (hl.1.trans hml.symm) d0 d3 d4 d6 d9 (fun x h => (hxt x h).elim) hR hRl (by omega) (by omega) hlocks ?_ hS.2.2 (by omega) (by omega)
  intro t hvm hz hq
  exact ⟨st, rfl, ⟨hex, fun k x hk9 => (hP k x hk9).kept (hq _ (hP k x hk9).lt)⟩, Nat.le_trans hS.1 hz, fun a h1 h2 => by rw [hq a (Nat.lt_of_lt_of_le h1 hS.1)]; exact hS.2.1 a h1 h2⟩
theorem zz_thrW (C : zz_C A D cI q p s m args meth c cc nL Ts own) (hst : l.stackTraces = false) (hP : va_P D vwCl (zz_c q cI st) H) (hS : va_S A s.heap H locs) {cls text : String} {ik is ic : Nat} (hcls : Bundle.fit cls = true ∧ ∀ n ∈ ["java/lang/RuntimeException", "java/lang/Exception"], Bundle.fit n = true)
    (hk : Cond.classLink own ik cls ∈ Ts) (hini : Cond.initialized cls ∈ Ts) (htx : (own, is, text) ∈ zz_tx) (hat : ∀ w ∈ vx_atS own ic cls ["java/lang/RuntimeException", "java/lang/Exception"], w ∈ Ts ∨ w ∈ zz_bad) (hgood : ∀ w ∈ Cond.classLink own ik cls :: Cond.initialized cls :: vx_atS own ic cls ["java/lang/RuntimeException", "java/lang/Exception"], vx_ot w = true) (hex : cls ∈ zz_exc) {lv : List (Nat × Value)} (hl : lv_has ls nL lv)
    (d0 : decode cc pc = .ok (.new ik, 3)) (d3 : decode cc (pc + 3) = .ok (.dup, 1)) (d4 : decode cc (pc + 4) = .ok (.ldc_w is, 3)) (d6 : decode cc (pc + 7) = .ok (.invokespecial ic, 3)) (d9 : decode cc (pc + 10) = .ok (.athrow, 1)) (hxt : ∀ x ∈ c.exceptionTable.toList, False)
    (hR : 5 < R.frames) (hRl : (rest.map fun v => v.category).sum + 82 ≤ R.locals) (hRc : 1 ≤ R.cells) (hRs : 6 ≤ R.slots) :
    W p l e R s m args below meth c H locs 0 0 (zz_Qx A D cI q (none, st) below args s) (F0 m pc ls rest) := by
  obtain ⟨⟨hx, hb, hml, hown, hts⟩, hlocks, hA, hK, hD, hE⟩ := id C
  obtain ⟨sa, hsa⟩ := hE.2.2.2.2.2.1 _ htx
  refine vx_throwSW (A := A) (sa := sa) (names := ["java/lang/RuntimeException", "java/lang/Exception"]) hx hb hst hown hcls.1 hcls.2 (hts _ hk) (hts _ hini) hsa (fun w hw => (hat w hw).elim (hts w) (fun h => va_Nw.use (zz_bad_t h) (hE.2.2.2.2.2.2.1 w h))) hgood hE.2.2.2.1 hE.2.2.2.2.1 hS (hl.1.trans hml.symm) d0 d3 d4 d6 d9 (fun x h => (hxt x h).elim) hR hRl (by omega) (by omega) hlocks ?_ hS.2.2 (by omega) (by omega)
  intro t hvm hz hq
  exact ⟨st, rfl, ⟨hex, fun k x hk9 => (hP k x hk9).kept (hq _ (hP k x hk9).lt)⟩, Nat.le_trans hS.1 hz, fun a h1 h2 => by rw [hq a (Nat.lt_of_lt_of_le h1 hS.1)]; exact hS.2.1 a h1 h2⟩
end ZX
