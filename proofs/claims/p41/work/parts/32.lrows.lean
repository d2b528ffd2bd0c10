/-! THE LAW'S LEVEL: the class's 57 cells, and arrays of the law's own behind them -/
abbrev zl_A (A : Nat → Prop) (xs : va_W) : Nat → Prop := fun a => A a ∧ ∀ (k : Nat) (x : Nat × va_E), xs[k]? = some x → x.1 ≠ a
abbrev zl_W (A : Nat → Prop) (D : va_G) (cI : ClassId) (q : Nat → Nat) (xs : va_W) (st : zz_T) (H0 H : Heap) (locs : List Loc) : Prop := va_P D vwCl (zz_c q cI st ++ xs) H ∧ va_D A (zz_c q cI st ++ xs) ∧ va_S A H0 H locs
abbrev zl_C (A : Nat → Prop) (D : va_G) (cI : ClassId) (p : Program) (s : State) (m : MethodId) (args : Array Value) (meth : Method) (c : Code) (cc : ByteArray) (nL : Nat) (Ts : List Cond) (own : String) : Prop :=
  CallFix p m c cc nL s args Ts own ∧ meth.locks = false ∧ (∀ a : Nat, s.heap.size ≤ a → A a) ∧ va_K D vwCl [(cI, .int)] s ∧ zz_E zz_tx A s
theorem zz_c_ex (q : Nat → Nat) (cI : ClassId) (st : zz_T) {k : Nat} (h : k < 57) : ∃ e, (zz_c q cI st)[k]? = some (q k, e) := by
  obtain ⟨x, hx⟩ : ∃ x, (zz_c q cI st)[k]? = some x := ⟨_, List.getElem?_eq_getElem (by rw [zz_c_len]; exact h)⟩
  exact ⟨x.2, by rw [hx, ← (zz_c_q hx).2]⟩
theorem zl_il {q : Nat → Nat} {cI : ClassId} {st : zz_T} {xs : va_W} {k : Nat} {x : Nat × va_E} (h : (zz_c q cI st)[k]? = some x) : (zz_c q cI st ++ xs)[k]? = some x := by
  rw [List.getElem?_append_left (by rw [zz_c_len]; exact (zz_c_q h).1)]; exact h
theorem zl_ix (q : Nat → Nat) (cI : ClassId) (st : zz_T) {xs : va_W} {k : Nat} {x : Nat × va_E} (h : xs[k]? = some x) : (zz_c q cI st ++ xs)[57 + k]? = some x := by
  rw [List.getElem?_append_right (by rw [zz_c_len]; omega), zz_c_len, Nat.add_sub_cancel_left]; exact h
theorem zl_D1 {A : Nat → Prop} {q : Nat → Nat} {cI : ClassId} {st : zz_T} {xs : va_W} (h : va_D A (zz_c q cI st ++ xs)) : zz_D (zl_A A xs) q ∧ va_D A xs := by
  refine ⟨⟨fun i j hi hj hij => ?_, fun i hi => ?_⟩, fun i j x y hx hy hxy => ?_, fun k x hx => h.2 _ _ (zl_ix q cI st hx)⟩
  · obtain ⟨e1, h1⟩ := zz_c_ex q cI st hi
    obtain ⟨e2, h2⟩ := zz_c_ex q cI st hj
    exact h.1 i j _ _ (zl_il h1) (zl_il h2) hij
  · obtain ⟨e1, h1⟩ := zz_c_ex q cI st hi
    refine ⟨h.2 i _ (zl_il h1), fun k x hx hxa => ?_⟩
    have := h.1 (57 + k) i _ _ (zl_ix q cI st hx) (zl_il h1) hxa
    omega
  · have := h.1 (57 + i) (57 + j) _ _ (zl_ix q cI st hx) (zl_ix q cI st hy) hxy
    omega
theorem zl_D2 {A : Nat → Prop} {q : Nat → Nat} (cI : ClassId) (st : zz_T) {xs : va_W} (h1 : zz_D (zl_A A xs) q) (h2 : va_D A xs) : va_D A (zz_c q cI st ++ xs) := by
  refine va_D.app ((h1.va cI st).weaken (fun _ _ _ h => h.1)) h2 (fun i j x y hx hy hxy => ?_)
  obtain ⟨hi, e⟩ := zz_c_q hx
  exact (h1.2 i hi).2 j y hy (by rw [← hxy, e])
theorem zz_E.weak {tx : List (String × Nat × String)} {A A1 : Nat → Prop} {U : State} (hA : ∀ a, A1 a → A a) (h : zz_E tx A U) : zz_E tx A1 U := by
  obtain ⟨⟨t1, a1, b1⟩, ⟨t2, a2, b2⟩, ⟨t3, a3, b3⟩, h4, h5, h6, h7, h8⟩ := h
  exact ⟨⟨t1, va_Z.narrow a1 hA, va_T.narrow b1 hA⟩, ⟨t2, va_Z.narrow a2 hA, va_T.narrow b2 hA⟩, ⟨t3, va_Z.narrow a3 hA, va_T.narrow b3 hA⟩, vx_Zq.narrow h4 hA, vx_Zq.narrow h5 hA, h6, h7, h8⟩
section ZL
variable {p : Program} {l : Launch} {e : Env} {R : Room} {s : State} {m : MethodId} {args : Array Value} {below : List Frame} {meth : Method} {c : Code}
variable {A : Nat → Prop} {D : va_G} {cI : ClassId} {q : Nat → Nat} {cc : ByteArray} {nL : Nat} {Ts : List Cond} {own : String} {xs : va_W}
variable {H : Heap} {locs : List Loc} {cells slots : Nat} {Q : State → Prop} {pc : Nat} {ls : Array Slot} {rest : List Value} {st st' : zz_T}
theorem zl_B (C : zl_C A D cI p s m args meth c cc nL Ts own) (h : zl_W A D cI q xs st s.heap H locs) {U : State} (hU : U.heap = H) (hW : s.WarmedH U.vm) : zz_B (zl_A A xs) D cI q st U := by
  obtain ⟨-, -, hA, hK, hE⟩ := C
  obtain ⟨hP, hD, hS⟩ := h
  refine ⟨fun a ha => ⟨hA a (Nat.le_trans hS.1 (by rw [← hU]; exact ha)), fun k x hx hxa => ?_⟩, ?_, hK.moved hW.alike, (zl_D1 hD).1, (zz_E.to hW (fun a h1 h2 => by rw [hU]; exact hS.2.1 a h1 h2) hE).weak (fun _ h => h.1)⟩
  · have := (hP _ _ (zl_ix q cI st hx)).lt
    rw [hU] at ha
    omega
  · rw [hU]; exact fun k x hx => hP k x (zl_il hx)
theorem zl_on {H0 H1 : Heap} {locs1 : List Loc} (h : zl_W A D cI q xs st H0 H locs) (hP1 : va_P D vwCl (zz_c q cI st') H1) (hk : ∀ a : Nat, a < H.size → ¬ zl_A A xs a → H1[a]? = H[a]?) (hS1 : va_S A H0 H1 locs1) : zl_W A D cI q xs st' H0 H1 locs1 := by
  obtain ⟨hP, hD, hS⟩ := h
  obtain ⟨h1, h2⟩ := zl_D1 hD
  refine ⟨va_P.app hP1 (fun k x hx => ?_), zl_D2 cI st' h1 h2, hS1⟩
  have h3 := hP _ _ (zl_ix q cI st hx)
  exact h3.kept (hk _ h3.lt (fun ha => ha.2 k x hx rfl))
/-- the class's methods, called out of the law -/
theorem zl_Vi (C : zl_C A D cI p s m args meth c cc nL Ts own) {C' : String} {index maxL n b : Nat} {y : MethodName} {bytes : ByteArray} {ret : Option FieldType} {ws : List Cond} {rm : Room} {As st0 : List Value} {r : Int32} (hM : zz_Mi l (zl_A A xs) D cI q y ws rm (.ref b :: As) st r st') (cw : CallW R s args own C' index y bytes maxL ret ws rm 0 0 n) (h : zl_W A D cI q xs st s.heap H locs) (k : Nat) {ci : Nat} {fs : List Value} (he : (zz_c q cI st)[k]? = some (b, .inr (ci, fs))) {TT : u_T} {N : Nat} (hc : vwCl[ci]? = some (C', TT, N))
    (hn : As.length = n) {lv : List (Nat × Value)} (hl : lv_has ls nL lv) (hst : st0 = As.reverse ++ .ref b :: rest) (hW : (rest.map fun v => v.category).sum ≤ 8) (hdg : decode cc pc = .ok (.invokevirtual index, 3)) (hcs : cells ≤ R.cells ∧ slots ≤ R.slots)
    (kk : ∀ (H1 : Heap) (locs1 : List Loc), zl_W A D cI q xs st' s.heap H1 locs1 → W p l e R s m args below meth c H1 locs1 cells slots Q (F0 m (pc + 3) ls (.int r :: rest))) : W p l e R s m args below meth c H locs cells slots Q (F0 m pc ls st0) := by
  obtain ⟨hF, hlk, hA, hK, hE⟩ := id C
  refine va_calli (va_runV (As := As) (rest := rest) hF hM cw ⟨zz_B.blind _, va_recv hK h.1 hc (zl_il he), fun U hU hW => ⟨rfl, zl_B C h hU hW⟩⟩ rfl hn hl.1 hst (lv_room (pc := pc) (ls := ls) (m := m) hW) hdg hcs) h.2.2 (fun q _ h => h.1) (fun q h => h.1) (fun x u t H1 locs1 ht hvm hw hB hz hk hS1 => ?_)
  obtain ⟨rfl, rfl⟩ := hw
  exact kk H1 locs1 (zl_on h (ht ▸ hB.2.1) hk hS1)
theorem zl_Vl (C : zl_C A D cI p s m args meth c cc nL Ts own) {C' : String} {index maxL n b : Nat} {y : MethodName} {bytes : ByteArray} {ret : Option FieldType} {ws : List Cond} {rm : Room} {As st0 : List Value} {r : Int64} (hM : zz_Ml l (zl_A A xs) D cI q y ws rm (.ref b :: As) st r st') (cw : CallW R s args own C' index y bytes maxL ret ws rm 0 0 n) (h : zl_W A D cI q xs st s.heap H locs) (k : Nat) {ci : Nat} {fs : List Value} (he : (zz_c q cI st)[k]? = some (b, .inr (ci, fs))) {TT : u_T} {N : Nat} (hc : vwCl[ci]? = some (C', TT, N))
    (hn : As.length = n) {lv : List (Nat × Value)} (hl : lv_has ls nL lv) (hst : st0 = As.reverse ++ .ref b :: rest) (hW : (rest.map fun v => v.category).sum ≤ 8) (hdg : decode cc pc = .ok (.invokevirtual index, 3)) (hcs : cells ≤ R.cells ∧ slots ≤ R.slots)
    (kk : ∀ (H1 : Heap) (locs1 : List Loc), zl_W A D cI q xs st' s.heap H1 locs1 → W p l e R s m args below meth c H1 locs1 cells slots Q (F0 m (pc + 3) ls (.long r :: rest))) : W p l e R s m args below meth c H locs cells slots Q (F0 m pc ls st0) := by
  obtain ⟨hF, hlk, hA, hK, hE⟩ := id C
  refine va_calll (va_runV (As := As) (rest := rest) hF hM cw ⟨zz_B.blind _, va_recv hK h.1 hc (zl_il he), fun U hU hW => ⟨rfl, zl_B C h hU hW⟩⟩ rfl hn hl.1 hst (lv_room (pc := pc) (ls := ls) (m := m) hW) hdg hcs) h.2.2 (fun q _ h => h.1) (fun q h => h.1) (fun x u t H1 locs1 ht hvm hw hB hz hk hS1 => ?_)
  obtain ⟨rfl, rfl⟩ := hw
  exact kk H1 locs1 (zl_on h (ht ▸ hB.2.1) hk hS1)
/-- an array of the law's own: made, read, written -/
theorem zl_new (C : zl_C A D cI p s m args meth c cc nL Ts own) {n : Int32} {N : Nat} (harr : Cond.arrayClass .int ∈ Ts) (h : zl_W A D cI q xs st s.heap H locs) (hn : ¬ n < 0) (hN : n.toNatClampNeg = N) (hN4 : N * 4 ≤ 536870912) (hcells : cells + 1 ≤ R.cells) (hslots : slots + N ≤ R.slots) (hdg : decode cc pc = .ok (.newarray .int, 2))
    (kk : ∀ (a : Nat) (H1 : Heap), zl_W A D cI q (xs ++ [(a, .inl (cI, N, .inl (fun _ => 0)))]) st s.heap H1 locs → W p l e R s m args below meth c H1 locs (cells + 1) (slots + N) Q (F0 m (pc + 2) ls (.ref a :: rest))) : W p l e R s m args below meth c H locs cells slots Q (F0 m pc ls (.int n :: rest)) := by
  obtain ⟨⟨hx, hb, hml, hown, hts⟩, hlk, hA, hK, hE⟩ := id C
  refine va_newa (atype := .int) (ty := .int) (N' := N) (a0 := (N, .inl (fun _ => 0))) hx hb (hts _ harr) rfl hK h.1 h.2.1 h.2.2 hA (fun cA => rfl) hn hN hN4 hcells hslots hdg (fun a cA H1 hK1 hP hD hS => ?_)
  have e : cA = cI := by
    have a1 : s.vm.findClass ("[" ++ FieldType.int.toString) = some cA := (hK1.2 1 _ rfl).2
    have a2 : s.vm.findClass ("[" ++ FieldType.int.toString) = some cI := (hK1.2 0 _ rfl).2
    rw [a1] at a2
    exact Option.some.inj a2
  subst e
  rw [List.append_assoc] at hP hD
  exact kk a H1 ⟨hP, hD, hS⟩
theorem zl_ild (C : zl_C A D cI p s m args meth c cc nL Ts own) (h : zl_W A D cI q xs st s.heap H locs) (k : Nat) {a N : Nat} {f : Nat → Int32} (ha : xs[k]? = some (a, .inl (cI, N, .inl f))) {i : Int32} (hin : vp_in i N) (hdg : decode cc pc = .ok (.iaload, 1))
    (kk : W p l e R s m args below meth c H locs cells slots Q (F0 m (pc + 1) ls (.int (f i.toNatClampNeg) :: rest))) : W p l e R s m args below meth c H locs cells slots Q (F0 m pc ls (.int i :: .ref a :: rest)) := by
  obtain ⟨⟨hx, hb, hml, hown, hts⟩, hlk, hA, hK, hE⟩ := id C
  exact va_iald (D := D) hx hb hK h.1 (57 + k) 0 (zl_ix q cI st ha) rfl hin hdg kk
theorem zl_ist (C : zl_C A D cI p s m args meth c cc nL Ts own) (h : zl_W A D cI q xs st s.heap H locs) (k : Nat) {a N : Nat} {f : Nat → Int32} (ha : xs[k]? = some (a, .inl (cI, N, .inl f))) {i x : Int32} (hin : vp_in i N) (hdg : decode cc pc = .ok (.iastore, 1))
    (kk : ∀ (H1 : Heap) (locs1 : List Loc), zl_W A D cI q (xs.set k (a, .inl (cI, N, .inl (upd f i.toNatClampNeg x)))) st s.heap H1 locs1 → W p l e R s m args below meth c H1 locs1 cells slots Q (F0 m (pc + 1) ls rest)) : W p l e R s m args below meth c H locs cells slots Q (F0 m pc ls (.int x :: .int i :: .ref a :: rest)) := by
  obtain ⟨⟨hx, hb, hml, hown, hts⟩, hlk, hA, hK, hE⟩ := id C
  refine va_iast (D := D) hx hb hK h.1 h.2.1 h.2.2 (57 + k) 0 (zl_ix q cI st ha) rfl hin hdg (fun H1 locs1 hP hD hS => ?_)
  rw [List.set_append_right _ _ (by rw [zz_c_len]; omega), zz_c_len, Nat.add_sub_cancel_left] at hP hD
  exact kk H1 locs1 ⟨hP, hD, hS⟩
/-- an array given by the caller, out of reach of what is written -/
theorem zl_gld (C : zl_C A D cI p s m args meth c cc nL Ts own) (h : zl_W A D cI q xs st s.heap H locs) {a N : Nat} {f : Nat → Int32} (ha : va_P D vwCl [(a, .inl (cI, N, .inl f))] s.heap) (haA : ¬ A a) {i : Int32} (hin : vp_in i N) (hdg : decode cc pc = .ok (.iaload, 1))
    (kk : W p l e R s m args below meth c H locs cells slots Q (F0 m (pc + 1) ls (.int (f i.toNatClampNeg) :: rest))) : W p l e R s m args below meth c H locs cells slots Q (F0 m pc ls (.int i :: .ref a :: rest)) := by
  obtain ⟨⟨hx, hb, hml, hown, hts⟩, hlk, hA, hK, hE⟩ := id C
  have h0 := ha 0 _ rfl
  have hP : va_P D vwCl [(a, .inl (cI, N, .inl f))] H := fun k x hx => (ha k x hx).kept (by
    match k, hx with
    | 0, hx => cases hx; exact h.2.2.2.1 a h0.lt haA
    | k + 1, hx => simp at hx)
  exact va_iald (D := D) hx hb hK hP 0 0 rfl rfl hin hdg kk
end ZL
/-! below and cell -/
def zL_bw (v n : Int32) : Int32 := (v &&& 2147483647) - (v &&& 2147483647) / n * n
def zL_cell (L : Nat) (xs : Nat → Int32) (k : Int32) : Int32 := if Int32.ofNat L ≤ k then 790386105 * (k + 3) else xs k.toNatClampNeg
theorem zL_below_c {l : Launch} (v n : Int32) (hn : ¬ n = 0) : Met l yL_below wsL_below { frames := 0, cells := 0, slots := 0, locals := 0 } (va_Pc [.int v, .int n] (fun _ => True)) (va_Qi (fun (x : Int32) (_ : Unit) => x = zL_bw v n) (fun _ _ => True) (fun _ => False)) 0 0 (fun _ => False) := by
  refine Met.ofW (cc := cL_below) (maxL := 2) (ret := some .int) (by decide) rfl ?_
  intro p e s m args below meth c s₁ B hml hv
  obtain ⟨rfl, -⟩ := hv
  have hx := B.exec
  have hb := B.bytes
  have hts := atoms_spec (ws := wsL_below) B.pre
  have hown : s.vm.findClass yL_below.cls = some m.cls := findClass_of_methodNamed B.named
  have hl := lv_entry [.int v, .int n] (n := 2) (Nat.le_of_ble_eq_true rfl)
  rw [lg_entry_eq]
  generalize (lg_sl ([.int v, .int n]) ++ List.replicate (2 - (lg_sl ([.int v, .int n])).length) Slot.unset).toArray = ls at hl ⊢
  have hl : lv_has ls 2 [(0, .int v), (1, .int n)] := hl
  refine lv_iload_n hx hb dL_below_0 rfl (lv_at hl 0 rfl) ?_
  refine lv_ldc (v := 2147483647) hx hb hown (hts (.constant RL 7 2147483647) (by decide +kernel)) dL_below_1 ?_
  refine lv_iand hx hb dL_below_3 ?_
  refine lv_iload_n hx hb dL_below_4 rfl (lv_at hl 1 rfl) ?_
  refine lv_irem hx hb dL_below_5 hn ?_
  exact W.iret hx hb B.returns (fun t ht hW => ⟨⟨_, (), rfl, rfl, trivial⟩, (va_S.rf (A := fun _ => False) (H0 := s.heap)).F ht⟩) (fun _ h => nomatch h) dL_below_6 B.notSynchronized
theorem zL_cell_c {l : Launch} {b L : Nat} {xs : Nat → Int32} (hL : L < 2 ^ 31) (k : Int32) (hk : ¬ k < 0) : Met l yL_cell wsL_cell { frames := 0, cells := 0, slots := 0, locals := 0 } (va_Pc [.ref b, .int k] (fun U => va_X b L xs U U.heap ∧ b < U.heap.size)) (va_Qi (fun (x : Int32) (_ : Unit) => x = zL_cell L xs k) (fun _ _ => True) (fun _ => False)) 0 0 (fun _ => False) := by
  refine Met.ofW (cc := cL_cell) (maxL := 2) (ret := some .int) (by decide) rfl ?_
  intro p e s m args below meth c s₁ B hml hv
  obtain ⟨rfl, hX, hbl⟩ := hv
  have hx := B.exec
  have hb := B.bytes
  have hts := atoms_spec (ws := wsL_cell) B.pre
  have hown : s.vm.findClass yL_cell.cls = some m.cls := findClass_of_methodNamed B.named
  have hS : va_S (fun _ => False) s.heap s.heap [] := va_S.rf
  have hl := lv_entry [.ref b, .int k] (n := 2) (Nat.le_of_ble_eq_true rfl)
  rw [lg_entry_eq]
  generalize (lg_sl ([.ref b, .int k]) ++ List.replicate (2 - (lg_sl ([.ref b, .int k])).length) Slot.unset).toArray = ls at hl ⊢
  have hl : lv_has ls 2 [(0, .ref b), (1, .int k)] := hl
  refine lv_iload_n hx hb dL_cell_0 rfl (lv_at hl 1 rfl) ?_
  refine lv_aload_n hx hb dL_cell_1 rfl (lv_at hl 0 rfl) ?_
  refine va_slen hx hb hX hbl (fun h => h) hS dL_cell_2 ?_
  refine lv_icmp_ge (tgt := 12) hx hb dL_cell_3 (by decide) (fun h => ?_) (fun h => ?_)
  · have e : zL_cell L xs k = 790386105 * (k + 3) := if_pos h
    rw [e]
    refine lv_ldc (v := 790386105) hx hb hown (hts (.constant RL 8 790386105) (by decide +kernel)) dL_cell_12 ?_
    refine lv_iload_n hx hb dL_cell_14 rfl (lv_at hl 1 rfl) ?_
    refine lv_iconst (v := 3) hx hb dL_cell_15 (by decide) ?_
    refine lv_iadd hx hb dL_cell_16 ?_
    refine lv_imul hx hb dL_cell_17 ?_
    exact W.iret hx hb B.returns (fun t ht hW => ⟨⟨_, (), rfl, rfl, trivial⟩, hS.F ht⟩) (fun _ h => nomatch h) dL_cell_18 B.notSynchronized
  · have e : zL_cell L xs k = xs k.toNatClampNeg := if_neg h
    rw [e]
    have hin : vp_in k L := by
      obtain ⟨j, hj, hx, -, hc, -⟩ := pk_mu (x := k) (L := L) hk h hL
      rintro (q | q)
      · exact hk q
      · omega
    refine lv_aload_n hx hb dL_cell_6 rfl (lv_at hl 0 rfl) ?_
    refine lv_iload_n hx hb dL_cell_7 rfl (lv_at hl 1 rfl) ?_
    refine va_sld hx hb hX hbl (fun h => h) hS hin dL_cell_8 ?_
    refine lv_goto (tgt := 18) hx hb dL_cell_9 (by decide) ?_
    exact W.iret hx hb B.returns (fun t ht hW => ⟨⟨_, (), rfl, rfl, trivial⟩, hS.F ht⟩) (fun _ h => nomatch h) dL_cell_18 B.notSynchronized
section ZLB
variable {p : Program} {l : Launch} {e : Env} {R : Room} {s : State} {m : MethodId} {args : Array Value} {below : List Frame} {meth : Method} {c : Code}
variable {A : Nat → Prop} {D : va_G} {cI : ClassId} {q : Nat → Nat} {cc : ByteArray} {nL : Nat} {Ts : List Cond} {own : String} {xs : va_W}
variable {H : Heap} {locs : List Loc} {cells slots : Nat} {Q : State → Prop} {pc : Nat} {ls : Array Slot} {rest : List Value} {st st' : zz_T}
theorem zl_same {H1 : Heap} {locs1 : List Loc} {H0 : Heap} (h : zl_W A D cI q xs st H0 H locs) (hk : ∀ a : Nat, a < H.size → ¬ False → H1[a]? = H[a]?) (hS1 : va_S A H0 H1 locs1) : zl_W A D cI q xs st H0 H1 locs1 :=
  ⟨fun k x hx => (h.1 k x hx).kept (hk _ (h.1 k x hx).lt id), h.2.1, hS1⟩
theorem zl_below (C : zl_C A D cI p s m args meth c cc nL Ts own) {index : Nat} {v n : Int32} (hn : ¬ n = 0) (G : GoodIn Ts (va_wsS own index yL_below wsL_below)) (hR : 1 ≤ R.frames ∧ 21 ≤ R.locals) (h : zl_W A D cI q xs st s.heap H locs) {lv : List (Nat × Value)} (hl : lv_has ls nL lv) (hW : (rest.map fun v => v.category).sum ≤ 8) (hdg : decode cc pc = .ok (.invokestatic index, 3)) (hcs : cells ≤ R.cells ∧ slots ≤ R.slots)
    (kk : ∀ (H1 : Heap) (locs1 : List Loc), zl_W A D cI q xs st s.heap H1 locs1 → W p l e R s m args below meth c H1 locs1 cells slots Q (F0 m (pc + 3) ls (.int (zL_bw v n) :: rest))) : W p l e R s m args below meth c H locs cells slots Q (F0 m pc ls (.int n :: .int v :: rest)) := by
  obtain ⟨hF, hlk, hA, hK, hE⟩ := id C
  refine va_calli (va_runS (As := [.int v, .int n]) (rest := rest) hF (zL_below_c v n hn) (va_cwS 2 hF.2.2.2.2 G rfl rfl rfl (by decide +kernel) hR) ⟨fun a U g mk h => ⟨h.1, trivial⟩, fun U hU hW => ⟨rfl, trivial⟩⟩ rfl rfl hl.1 rfl (lv_room (pc := pc) (ls := ls) (m := m) hW) hdg hcs) h.2.2 (fun q _ h => h.elim) (fun q h => h.elim) (fun x u t H1 locs1 ht hvm hw hB hz hk hS1 => ?_)
  obtain rfl := hw
  exact kk H1 locs1 (zl_same h hk hS1)
theorem zl_cell (C : zl_C A D cI p s m args meth c cc nL Ts own) {index b L : Nat} {sc : Nat → Int32} (hX : va_X b L sc s s.heap) (hbl : b < s.heap.size) (hbA : ¬ A b) (hL : L < 2 ^ 31) {k : Int32} (hk0 : ¬ k < 0) (G : GoodIn Ts (va_wsS own index yL_cell wsL_cell)) (hR : 1 ≤ R.frames ∧ 21 ≤ R.locals) (h : zl_W A D cI q xs st s.heap H locs) {lv : List (Nat × Value)} (hl : lv_has ls nL lv) (hW : (rest.map fun v => v.category).sum ≤ 8) (hdg : decode cc pc = .ok (.invokestatic index, 3)) (hcs : cells ≤ R.cells ∧ slots ≤ R.slots)
    (kk : ∀ (H1 : Heap) (locs1 : List Loc), zl_W A D cI q xs st s.heap H1 locs1 → W p l e R s m args below meth c H1 locs1 cells slots Q (F0 m (pc + 3) ls (.int (zL_cell L sc k) :: rest))) : W p l e R s m args below meth c H locs cells slots Q (F0 m pc ls (.int k :: .ref b :: rest)) := by
  obtain ⟨hF, hlk, hA, hK, hE⟩ := id C
  refine va_calli (va_runS (As := [.ref b, .int k]) (rest := rest) hF (zL_cell_c (b := b) (L := L) (xs := sc) hL k hk0) (va_cwS 2 hF.2.2.2.2 G rfl rfl rfl (by decide +kernel) hR) ⟨fun a U g mk h => ⟨h.1, h.2.1.moved (u := U) (U := U.calling g mk a) (Vm.Alike.refl U.vm), h.2.2⟩, fun U hU hW => ⟨rfl, by rw [hU]; exact (hX.kept (h.2.2.2.1 b hbl hbA)).moved hW.alike, by rw [hU]; exact Nat.lt_of_lt_of_le hbl h.2.2.1⟩⟩ rfl rfl hl.1 rfl (lv_room (pc := pc) (ls := ls) (m := m) hW) hdg hcs) h.2.2 (fun q _ h => h.elim) (fun q h => h.elim) (fun x u t H1 locs1 ht hvm hw hB hz hk hS1 => ?_)
  obtain rfl := hw
  exact kk H1 locs1 (zl_same h hk hS1)
/-- the ends of act and of isAsked -/
theorem zl_end (C : zl_C A D cI p s m args meth c cc nL Ts own) (h : zl_W A D cI q xs st s.heap H locs) {t : State} (ht : t.heap = H) (hW : s.WarmedH t.vm) : zz_B A D cI q st t := by
  obtain ⟨-, -, hA, hK, hE⟩ := C
  obtain ⟨hP, hD, hS⟩ := h
  refine ⟨fun a h => hA a (Nat.le_trans hS.1 (by rw [← ht]; exact h)), by rw [ht]; exact fun k x hx => hP k x (zl_il hx), hK.moved hW.alike, ⟨(zl_D1 hD).1.1, fun i hi => ((zl_D1 hD).1.2 i hi).1⟩, zz_E.to hW (fun a h1 h2 => by rw [ht]; exact hS.2.1 a h1 h2) hE⟩
theorem zl_retz (C : zl_C A D cI p s m args meth c cc nL Ts own) (hr : meth.sig.returnType = some .boolean) (h : zl_W A D cI q xs st s.heap H locs) {v : Bool} (hdg : decode cc pc = .ok (.ireturn, 1)) :
    W p l e R s m args below meth c H locs cells slots (MQ below (va_Qi (fun (x : Int32) (u : zz_T) => x = zz_b v ∧ u = st) (fun u t => zz_B A D cI q u t) A) args s cells slots A) (F0 m pc ls [.int (zz_b v)]) :=
  W.zret C.1.1 C.1.2.1 hr (zz_narrow v) (fun t ht hW => ⟨⟨zz_b v, st, rfl, ⟨rfl, rfl⟩, zl_end C h ht hW⟩, h.2.2.F ht⟩) h.2.2.2.2 hdg C.2.1
theorem zl_retv (C : zl_C A D cI p s m args meth c cc nL Ts own) (hr : meth.sig.returnType = none) (h : zl_W A D cI q xs st s.heap H locs) (hdg : decode cc pc = .ok (.return_, 1)) :
    W p l e R s m args below meth c H locs cells slots (MQ below (va_Qv (fun (u : zz_T) => u = st) (fun u t => zz_B A D cI q u t) A) args s cells slots A) (F0 m pc ls []) :=
  W.vret C.1.1 C.1.2.1 hr (fun t ht hW => ⟨⟨st, rfl, rfl, zl_end C h ht hW⟩, h.2.2.F ht⟩) h.2.2.2.2 hdg C.2.1
/-- a call of act's, which may throw: what is thrown is caught by one of the three rows -/
theorem zl_Vx (C : zl_C A D cI p s m args meth c cc nL Ts own) (hown : own = RL) (hxt : c.exceptionTable.toList = tableOf [(6, 315, 318, 88), (6, 315, 321, 90), (6, 315, 324, 92)]) (hpc : 6 ≤ pc ∧ pc < 315) (hlk : Cond.classLink RL 88 "java/lang/IndexOutOfBoundsException" ∈ Ts ∧ Cond.classLink RL 90 "java/lang/IllegalArgumentException" ∈ Ts ∧ Cond.classLink RL 92 "java/lang/IllegalStateException" ∈ Ts)
    {C' : String} {index maxL n b : Nat} {y : MethodName} {bytes : ByteArray} {ret : Option FieldType} {ws : List Cond} {rm : Room} {As st0 : List Value} {r : Option Int32 × zz_T} (hM : zz_Mx l (zl_A A xs) D cI q y ws rm (.ref b :: As) st r) (cw : CallW R s args own C' index y bytes maxL ret ws rm 1 6 n) (h : zl_W A D cI q xs st s.heap H locs) (k : Nat) {ci : Nat} {fs : List Value} (he : (zz_c q cI st)[k]? = some (b, .inr (ci, fs))) {TT : u_T} {N : Nat} (hc : vwCl[ci]? = some (C', TT, N))
    (hn : As.length = n) {lv : List (Nat × Value)} (hl : lv_has ls nL lv) (hst : st0 = As.reverse ++ .ref b :: rest) (hW : (rest.map fun v => v.category).sum ≤ 8) (hdg : decode cc pc = .ok (.invokevirtual index, 3)) (hcs : cells + 1 ≤ R.cells ∧ slots + 6 ≤ R.slots)
    (kk : ∀ (x : Int32) (H1 : Heap) (locs1 : List Loc), zl_W A D cI q xs r.2 s.heap H1 locs1 → W p l e R s m args below meth c H1 locs1 (cells + 1) (slots + 6) Q (F0 m (pc + 3) ls (.int x :: rest)))
    (kx : ∀ (hp : Nat), hp ∈ [318, 321, 324] → ∀ (q9 : Nat) (H1 : Heap) (locs1 : List Loc), zl_W A D cI q xs r.2 s.heap H1 locs1 → W p l e R s m args below meth c H1 locs1 (cells + 1) (slots + 6) Q (F0 m hp ls [.ref q9])) : W p l e R s m args below meth c H locs cells slots Q (F0 m pc ls st0) := by
  obtain ⟨hF, hlocks, hA, hK, hE⟩ := id C
  subst hown
  refine vx_calli (vx_runV (As := As) (rest := rest) hF hM cw ⟨zz_B.blind _, va_recv hK h.1 hc (zl_il he), fun U hU hW => ⟨rfl, zl_B C h hU hW⟩⟩ rfl hn hl.1 hst (lv_room (pc := pc) (ls := ls) (m := m) hW) hdg hcs) h.2.2 (fun q _ h => h.1) (fun q h => h.1) (fun q _ h => h.1) (fun E ce q9 u t H1 locs1 ht hvm hw hB hz hk hS1 hce hcv hcl => ?_) (fun x u t H1 locs1 ht hvm hw hB hz hk hS1 => ?_)
  · obtain ⟨hEx, hPt⟩ := hB
    have h1 : zl_W A D cI q xs r.2 s.heap H1 locs1 := by rw [hw]; exact zl_on h (ht ▸ hPt) hk hS1
    have hbad := hE.2.2.2.2.2.2.1
    have hnc := hE.2.2.2.2.2.2.2
    obtain ⟨-, -, -, hown, hts⟩ := hF
    simp only [zz_exc, List.mem_cons, List.not_mem_nil, or_false] at hEx
    rcases hEx with rfl | rfl | rfl
    · refine vx_catch (name := "java/lang/IndexOutOfBoundsException") hown [] _ _ hxt (fun z hz => nomatch hz) (by simp [covers]; omega) (by decide) (hts _ hlk.1) (va_Nw.use rfl (hbad (.castable "java/lang/IndexOutOfBoundsException" "java/lang/IndexOutOfBoundsException") (by decide))) hce hcv hcl (kx 318 (by decide) q9 H1 locs1 h1)
    · refine vx_catch (name := "java/lang/IllegalArgumentException") hown [_] _ _ hxt (fun z hz => ?_) (by simp [covers]; omega) (by decide) (hts _ hlk.2.1) (va_Nw.use rfl (hbad (.castable "java/lang/IllegalArgumentException" "java/lang/IllegalArgumentException") (by decide))) hce hcv hcl (kx 321 (by decide) q9 H1 locs1 h1)
      rcases List.mem_singleton.mp hz with rfl
      exact Or.inr ⟨by decide, _, hts _ hlk.1, hnc ("java/lang/IllegalArgumentException", "java/lang/IndexOutOfBoundsException") (by decide)⟩
    · refine vx_catch (name := "java/lang/IllegalStateException") hown [_, _] _ _ hxt (fun z hz => ?_) (by simp [covers]; omega) (by decide) (hts _ hlk.2.2) (va_Nw.use rfl (hbad (.castable "java/lang/IllegalStateException" "java/lang/IllegalStateException") (by decide))) hce hcv hcl (kx 324 (by decide) q9 H1 locs1 h1)
      rcases List.mem_cons.mp hz with rfl | hz
      · exact Or.inr ⟨by decide, _, hts _ hlk.1, hnc ("java/lang/IllegalStateException", "java/lang/IndexOutOfBoundsException") (by decide)⟩
      · rcases List.mem_singleton.mp hz with rfl
        exact Or.inr ⟨by decide, _, hts _ hlk.2.1, hnc ("java/lang/IllegalStateException", "java/lang/IllegalArgumentException") (by decide)⟩
  · have h1 : zl_W A D cI q xs r.2 s.heap H1 locs1 := by rw [hw]; exact zl_on h (ht ▸ hB.2.1) hk hS1
    exact kk x H1 locs1 h1
end ZLB
