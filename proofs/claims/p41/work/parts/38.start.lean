/-! FROM THE LAW'S ENTRY -/
theorem zs_tx : ∀ x ∈ zz_tx, Cond.stringRef x.1 x.2.1 x.2.2 ∈ lw_tbl ∧ Cond.exactly (.string x.1 x.2.1) "java/lang/String" ∈ flatC (Jvm.Cond.and given_1 narrow_1) := by decide +kernel
theorem zs_bad : ∀ w ∈ zz_bad, w ∈ lw_tbl ∧ w.onTables = true := by decide +kernel
theorem zs_nc : ∀ x ∈ zz_nc, Cond.not (.castable x.1 x.2) ∈ flatC (Jvm.Cond.and given_1 narrow_1) := by decide +kernel
theorem zs_nest : ∀ w ∈ zn_nest, w ∈ lw_tbl ∧ w.onTables = true := by decide +kernel
theorem zs_ax : ∀ w ∈ zl_ax, w ∈ lw_tbl ∧ (w.onTables && w.keeps) = true := by decide +kernel
abbrev zs_U (n : String) : Term := .static "ThirteenthDay$Units" n "[I"
theorem zs_st : ∀ n ∈ [("WEIGHTS", 0), ("UNLOADINGS", 1), ("WORKS", 2)], Cond.laysStatic "ThirteenthDay$Units" n.1 "[I" ∈ lw_tbl ∧ Cond.arrayOf (zs_U n.1) .int ∈ flatC (Jvm.Cond.and given_1 narrow_1) ∧ Cond.eq (.length (zs_U n.1)) (.int 5) ∈ flatC (Jvm.Cond.and given_1 narrow_1) ∧ ∀ j, j < 5 → Cond.eq (.elem (zs_U n.1) (.int (Int32.ofNat j))) (.int (zz_wt n.2 j)) ∈ flatC (Jvm.Cond.and given_1 narrow_1) := by decide +kernel
theorem zs_ini : Cond.initialized "ThirteenthDay$Units" ∈ lw_tbl ∧ Cond.initialized Bundle.tN ∈ lw_tbl ∧ Cond.laysStatic Bundle.tN "UNASSIGNED_STACK" Bundle.steD ∈ lw_tbl ∧ Cond.laysStatic Bundle.tN "SUPPRESSED_SENTINEL" Bundle.listD ∈ lw_tbl ∧ Cond.isRef (.static Bundle.tN "UNASSIGNED_STACK" Bundle.steD) ∈ flatC (Jvm.Cond.and given_1 narrow_1) ∧ Cond.isRef (.static Bundle.tN "SUPPRESSED_SENTINEL" Bundle.listD) ∈ flatC (Jvm.Cond.and given_1 narrow_1) := by decide +kernel
theorem zs_inst : Cond.instantiable RX0 4 ∈ lw_tbl ∧ Cond.instantiable RX1 6 ∈ lw_tbl ∧ Cond.instantiable RX2 5 ∈ lw_tbl ∧ Cond.instantiable RX3 1 ∈ lw_tbl ∧ Cond.instantiable RX4 2 ∈ lw_tbl ∧ Cond.instantiable RX5 2 ∈ lw_tbl ∧ Cond.instantiable RX6 3 ∈ lw_tbl ∧ Cond.instantiable RX7 3 ∈ lw_tbl ∧ Cond.instantiable RX8 11 ∈ lw_tbl ∧ Cond.arrayClass .int ∈ lw_tbl := by decide +kernel
theorem zs_law : Cond.classLink RL 9 RX8 ∈ lw_tbl ∧ Cond.initialized RX8 ∈ lw_tbl ∧ Cond.methodLink RL 11 yX8_init ∈ lw_tbl ∧ Cond.instanceMethod yX8_init ∈ lw_tbl := by decide +kernel
theorem zs_dX8 : yX8_init.cls ≠ "java/lang/invoke/MethodHandle" ∧ yX8_init.cls ≠ "java/lang/invoke/VarHandle" ∧ (parseMethodDescriptor yX8_init.desc).map (fun d => d.parameters.length) = some 0 := by decide +kernel
theorem zs_arr : Cond.arrayClass .int ∈ wsL_law := by decide +kernel
theorem zs_E {args : Array Value} {s : State} (hts : ∀ w ∈ lw_tbl, w.before args s = true) (hgv : (Jvm.Cond.and given_1 narrow_1).before args s = true) (A : Nat → Prop) (hA : ∀ a : Nat, a < s.heap.size → ¬ A a) : zz_E zz_tx A s := by
  have hfl := flat_of_before _ hgv
  have hst : ∀ n ∈ [("WEIGHTS", 0), ("UNLOADINGS", 1), ("WORKS", 2)], zz_St n.1 n.2 A s := by
    intro n hn
    obtain ⟨h1, h2, h3, h4⟩ := zs_st n hn
    obtain ⟨t, ht, hT⟩ := va_Tof (N := 5) (f := fun j => .int (zz_wt n.2 j)) (A := A) (by decide) (hfl _ h2) (va_eqt (hfl _ h3)) (fun j hj => va_eqt (hfl _ (h4 j hj))) hA
    exact ⟨t, va_Zof (hts _ h1) (hts _ zs_ini.1) ht hA, hT⟩
  refine ⟨hst ("WEIGHTS", 0) (by simp), hst ("UNLOADINGS", 1) (by simp), hst ("WORKS", 2) (by simp), vx_Zqof (hts _ zs_ini.2.2.1) (hts _ zs_ini.2.1) (hfl _ zs_ini.2.2.2.2.1) hA, vx_Zqof (hts _ zs_ini.2.2.2.1) (hts _ zs_ini.2.1) (hfl _ zs_ini.2.2.2.2.2) hA, fun x hx => ?_, fun w hw => va_Nw.of (zs_bad w hw).2 (hts _ (zs_bad w hw).1), fun x hx => va_Nc.of (hfl _ (zs_nc x hx))⟩
  obtain ⟨h1, h2⟩ := zs_tx x hx
  obtain ⟨a, c, cA, kA, q1, -⟩ := Cond.exactly_spec (args := args) (first := s) (o := none) (s := s) (idx := []) (hfl _ h2)
  exact ⟨a, vk_R.of (hts _ h1) q1⟩
theorem zs_K {args : Array Value} {s : State} (hts : ∀ w ∈ lw_tbl, w.before args s = true) : ∃ (D : va_G) (cI : ClassId), va_K D vwCl [(cI, .int)] s := by
  obtain ⟨i0, i1, i2, i3, i4, i5, i6, i7, i8, i9⟩ := zs_inst
  obtain ⟨cI, kA, comp, h1, h2, h3⟩ := Cond.arrayClass_spec (hts _ i9)
  obtain ⟨c0, d0, k0⟩ := u_known (T := TX0) hts wsX00_in (hts _ i0)
  obtain ⟨c1, d1, k1⟩ := u_known (T := TX1) hts wsX10_in (hts _ i1)
  obtain ⟨c2, d2, k2⟩ := u_known (T := TX2) hts wsX20_in (hts _ i2)
  obtain ⟨c3, d3, k3⟩ := u_known (T := TX3) hts wsX30_in (hts _ i3)
  obtain ⟨c4, d4, k4⟩ := u_known (T := TX4) hts wsX40_in (hts _ i4)
  obtain ⟨c5, d5, k5⟩ := u_known (T := TX5) hts wsX50_in (hts _ i5)
  obtain ⟨c6, d6, k6⟩ := u_known (T := TX6) hts wsX60_in (hts _ i6)
  obtain ⟨c7, d7, k7⟩ := u_known (T := TX7) hts wsX70_in (hts _ i7)
  obtain ⟨c8, d8, k8⟩ := u_known (T := TX8) hts wsX80_in (hts _ i8)
  refine ⟨(fun k => [c0, c1, c2, c3, c4, c5, c6, c7, c8].getD k c0, fun k => [d0, d1, d2, d3, d4, d5, d6, d7, d8].getD k d0), cI, fun k q hq => ?_, fun k q hq => ?_⟩
  · match k, hq with
    | 0, hq => cases hq; exact k0
    | 1, hq => cases hq; exact k1
    | 2, hq => cases hq; exact k2
    | 3, hq => cases hq; exact k3
    | 4, hq => cases hq; exact k4
    | 5, hq => cases hq; exact k5
    | 6, hq => cases hq; exact k6
    | 7, hq => cases hq; exact k7
    | 8, hq => cases hq; exact k8
    | k + 9, hq => simp [vwCl] at hq
  · match k, hq with
    | 0, hq => cases hq; exact ⟨fun n z => ⟨fun k h => (by cases h), kA, h2, comp, h3⟩, h1⟩
    | k + 1, hq => simp at hq
/-! THE CLAIM OUT OF ONE WALK OF THE LAW'S BODY. Your part is whole_start (and what it stands on); all else here is the same for every law, but numbers. -/
def R_law : String := "ThirteenthDayLaw"
def lw_P (b : Addr) (xs : List Int32) (args : Array Value) (s : State) : Prop := args = #[.ref b] ∧ s.IntsAt b xs ∧ xs.length ≤ 260 ∧ (Jvm.Cond.and given_1 narrow_1).before args s = true
def lw_Q (_ : Array Value) (s : State) (o : Outcome) (t : State) : Prop := o = .returned (some (.int 1)) ∧ Framed s o t [] 600086 7301442
def lw_Z (below : List Frame) (a : Array Value) (s : State) : State → Prop := fun t => ∃ o, t.status = .running ∧ Ended t below o ∧ lw_Q a s o t
/-- the law's own end, with 1 on the stack, nothing written that was there before, its room as the claim has it -/
theorem lw_ret {p : Program} {l : Launch} {e : Env} {s : State} {m : MethodId} {below : List Frame} {meth : Method} {c : Code} {b : Nat} (hx : p.tables.exec = Jvm.exec) (hb : c.code = code) (hr : meth.sig.returnType = ret) (hlocks : meth.locks = false) {pc : Nat} {H : Heap} {ls : Array Slot} (hdg : decode code pc = .ok (.ireturn, 1)) : W p l e room_1 s m #[Value.ref b] below meth c H [] 600086 7301442 (lw_Z below #[Value.ref b] s) (F0 m pc ls [.int 1]) := by
  intro T hT X
  obtain ⟨fs, hret, hrun, hended, hW, hframe⟩ := X.leave (v := some (.int 1)) (hlocks := hlocks) (fun h => by rw [hr] at h; cases h)
  have hmeth' : T.vm.method? m = some meth := X.method'
  refine ⟨T.setFrames fs, ?_, .returned (some (.int 1)), hrun, hended, rfl, ⟨_, rfl⟩, hW, hframe⟩
  jvm_step X.here [X.here.top, hx, hb, hdg, hmeth', hr, ret, narrow_b1]
  (try refine ⟨rfl, ?_⟩); (try refine ⟨rfl, ?_⟩)
  first | (intro acts; rw [hret _ acts rfl rfl rfl]) | rw [hret _ _ rfl rfl rfl]
  exact Steps.refl _
/-- what holds at the law's entry: the machine, the code, the tables' words (any of lw_tbl by 'hts w (by decide +kernel)'), the script of L ints xs at the cell b, what the Statement gives of the start (any of its parts by flat_of_before) -/
def lw_At (p : Program) (s : State) (m : MethodId) (meth : Method) (c : Code) (b L : Nat) (xs : Nat → Int32) : Prop :=
  p.tables.exec = Jvm.exec ∧ c.code = code ∧ meth.sig.returnType = ret ∧ c.maxLocals = 5 ∧ s.vm.findClass R_law = some m.cls ∧ (∀ w ∈ lw_tbl, w.before #[Value.ref b] s = true) ∧ va_X b L xs s s.heap ∧ b < s.heap.size ∧ meth.locks = false ∧ (Jvm.Cond.and given_1 narrow_1).before #[Value.ref b] s = true
set_option maxHeartbeats 8000000 in
set_option maxRecDepth 100000 in
theorem zs_start {p : Program} {e : Env} {s : State} {m : MethodId} {below : List Frame} {meth : Method} {c : Code} (l : Launch) (hflags : l.flags = flags0) {b L : Nat} {xs : Nat → Int32} (hL : L ≤ 260) (hf : zL_law L xs = some true) (C0 : lw_At p s m meth c b L xs) : W p l e room_1 s m #[Value.ref b] below meth c s.heap [] 0 0 (lw_Z below #[Value.ref b] s) (entryFrame m ([Value.ref b] : List Value).toArray 5) := by
  obtain ⟨hx, hb, hr, hml, hown, hts, hX, hbl, hlocks, hgv⟩ := id C0
  have hst : l.stackTraces = false := by
    unfold Launch.stackTraces
    rw [hflags]
    decide
  obtain ⟨A, hA, hAr⟩ : ∃ A : Nat → Prop, (∀ q : Nat, s.heap.size ≤ q → A q) ∧ ∀ q : Nat, A q → s.heap.size ≤ q := ⟨fun q => s.heap.size ≤ q, fun _ h => h, fun _ h => h⟩
  have hbA : ¬ A b := fun h => absurd (hAr b h) (Nat.not_le.mpr hbl)
  obtain ⟨D, cI, hK⟩ := zs_K hts
  have hE := zs_E hts hgv A (fun a h1 h2 => absurd (hAr a h2) (Nat.not_le.mpr h1))
  have hF : CallFix p m c code 5 s #[Value.ref b] wsL_law RL := ⟨hx, hb, hml, hown, fun w hw => hts w (wsL_law_in w hw)⟩
  have C : zl_C A D cI p s m #[Value.ref b] meth c code 5 wsL_law RL := ⟨hF, hlocks, hA, hK, hE⟩
  have hL' : L < 2 ^ 31 := Nat.lt_of_le_of_lt hL (by decide)
  have CC : zL_C A D cI p s m #[Value.ref b] meth c b L xs := ⟨C, hX, hbl, hbA, hL'⟩
  have hts' := hF.2.2.2.2
  have hax : ∀ U : State, s.WarmedH U.vm → ∀ w ∈ zl_ax, va_Nw w U := fun U hW w hw => word_at hW (Or.inl (zs_ax w hw).2) (hts w (zs_ax w hw).1)
  have hnest : ∀ U : State, s.WarmedH U.vm → ∀ w ∈ zn_nest, va_Nw w U := by
    intro U hW w hw
    have h0 := va_Nw.of (zs_nest w hw).2 (hts w (zs_nest w hw).1)
    simp only [zn_nest, List.mem_cons, List.not_mem_nil, or_false] at hw
    rcases hw with rfl | rfl | rfl | rfl | rfl <;> exact va_Nw.warmM hW h0
  rw [zL_law] at hf
  obtain ⟨x, el, hf⟩ := zz_bo hf
  obtain ⟨st1, er, hf⟩ := zz_bo hf
  obtain ⟨u1, eu, hf⟩ := zz_bo hf
  have hl := lv_entry [Value.ref b] (n := 5) (Nat.le_of_ble_eq_true rfl)
  rw [lg_entry_eq]
  generalize (lg_sl ([Value.ref b]) ++ List.replicate (5 - (lg_sl ([Value.ref b])).length) Slot.unset).toArray = ls at hl ⊢
  have hl : lv_has ls 5 [(0, .ref b)] := hl
  have hP : va_P D vwCl [] s.heap := fun k x hx => by simp at hx
  have hD : va_D A [] := ⟨fun i j x y hx => by simp at hx, fun k x hx => by simp at hx⟩
  have hS : va_S A s.heap s.heap [] := va_S.rf
  refine va_new (ci := 8) (fs := [.null, .null, .null, .null, .null, .null, .null, .null, .null, .int 0, .int 0]) (C := RX8) (T := TX8) (N := 11) (Ts := lw_tbl) hx hb hts wsX80_in tyX8 tyX8_ok hown (hts _ zs_law.1) (hts _ zs_inst.2.2.2.2.2.2.2.2.1) (hts _ zs_law.2.1) hK hP hD hS hA rfl (fun j hj => by rcases (show j = 0 ∨ j = 1 ∨ j = 2 ∨ j = 3 ∨ j = 4 ∨ j = 5 ∨ j = 6 ∨ j = 7 ∨ j = 8 ∨ j = 9 ∨ j = 10 by omega) with rfl | rfl | rfl | rfl | rfl | rfl | rfl | rfl | rfl | rfl | rfl <;> rfl) (Nat.le_of_ble_eq_true rfl) (Nat.le_of_ble_eq_true rfl) dL_law_0 (fun q0 H hP hD hS => ?_)
  have hP : va_P D vwCl [(q0, .inr (8, [.null, .null, .null, .null, .null, .null, .null, .null, .null, .int 0, .int 0]))] H := hP
  have hD : va_D A [(q0, .inr (8, [.null, .null, .null, .null, .null, .null, .null, .null, .null, .int 0, .int 0]))] := hD
  refine lv_dup hx hb dL_law_3 rfl ?_
  refine zn_callX (wr := []) (As := []) (rest := [.ref q0]) (fun w hw => (zs_nest w hw).2) hnest hF hA hK (zn_X8_init q0) (cwI 0 hts' gL_law_X8_init rfl rfl rfl (hts _ zs_law.2.1) (hts _ zs_law.2.2.1) (hts _ zs_law.2.2.2) rfl zs_dX8 ⟨(Nat.le_of_ble_eq_true rfl), (Nat.le_of_ble_eq_true rfl)⟩) hP hD hS [0] [] rfl rfl (by decide) rfl (by decide) (by decide) rfl hl rfl (Nat.le_of_ble_eq_true rfl) dL_law_4 ⟨(Nat.le_of_ble_eq_true rfl), (Nat.le_of_ble_eq_true rfl)⟩ (fun u H locs hP hD hS => ?_)
  have hw : zl_W A D cI (zn_q q0 u) [] zn_0 s.heap H locs := by
    rw [zl_W, List.append_nil]
    exact ⟨hP, hD, hS⟩
  generalize hq : zn_q q0 u = q at hw
  have hq0 : q0 = q 0 := by rw [← hq]; rfl
  subst hq0
  refine W.widen (k := 57) (n := 7272) (Nat.le_of_ble_eq_true rfl) (Nat.le_of_ble_eq_true rfl) ?_
  refine lv_astore_n (lv' := [(1, .ref (q 0)), (0, .ref b)]) hx hb dL_law_7 rfl hl (by decide) rfl (fun ls hl => ?_)
  refine lv_aload_n hx hb dL_law_8 rfl (lv_at hl 0 rfl) ?_
  refine lv_iconst (v := 1) hx hb dL_law_9 (by decide) ?_
  refine lv_aload_n hx hb dL_law_10 rfl (lv_at hl 1 rfl) ?_
  refine lv_iconst (v := 1) hx hb dL_law_11 (by decide) ?_
  refine zl_cell C hX hbl hbA hL' (by decide) gL_law_L_cell ⟨(Nat.le_of_ble_eq_true rfl), (Nat.le_of_ble_eq_true rfl)⟩ hw hl (Nat.le_of_ble_eq_true rfl) dL_law_12 ⟨(Nat.le_of_ble_eq_true rfl), (Nat.le_of_ble_eq_true rfl)⟩ (fun H locs hw => ?_)
  refine lv_iconst (v := 4) hx hb dL_law_15 (by decide) ?_
  refine zl_below C (by decide) gL_law_L_below ⟨(Nat.le_of_ble_eq_true rfl), (Nat.le_of_ble_eq_true rfl)⟩ hw hl (Nat.le_of_ble_eq_true rfl) dL_law_16 ⟨(Nat.le_of_ble_eq_true rfl), (Nat.le_of_ble_eq_true rfl)⟩ (fun H locs hw => ?_)
  refine lv_iadd hx hb dL_law_19 ?_
  refine lv_aload_n hx hb dL_law_20 rfl (lv_at hl 1 rfl) ?_
  refine lv_iconst (v := 2) hx hb dL_law_21 (by decide) ?_
  refine zl_cell C hX hbl hbA hL' (by decide) gL_law_L_cell ⟨(Nat.le_of_ble_eq_true rfl), (Nat.le_of_ble_eq_true rfl)⟩ hw hl (Nat.le_of_ble_eq_true rfl) dL_law_22 ⟨(Nat.le_of_ble_eq_true rfl), (Nat.le_of_ble_eq_true rfl)⟩ (fun H locs hw => ?_)
  refine lv_iconst (v := 3) hx hb dL_law_25 (by decide) ?_
  refine zl_below C (by decide) gL_law_L_below ⟨(Nat.le_of_ble_eq_true rfl), (Nat.le_of_ble_eq_true rfl)⟩ hw hl (Nat.le_of_ble_eq_true rfl) dL_law_26 ⟨(Nat.le_of_ble_eq_true rfl), (Nat.le_of_ble_eq_true rfl)⟩ (fun H locs hw => ?_)
  refine zl_Vi C (As := [.int (1 + zL_bw (zL_cell L xs 1) 4), .int (zL_bw (zL_cell L xs 2) 3)]) (rest := []) (zc_X8_land _ _ _ _ el) (cwV 2 hts' gL_law_X8_land rfl rfl rfl zd_X8_land ⟨(Nat.le_of_ble_eq_true rfl), (Nat.le_of_ble_eq_true rfl)⟩) hw 0 rfl rfl rfl hl rfl (Nat.le_of_ble_eq_true rfl) dL_law_29 ⟨(Nat.le_of_ble_eq_true rfl), (Nat.le_of_ble_eq_true rfl)⟩ (fun H locs hw => ?_)
  refine lv_pop hx hb dL_law_32 rfl ?_
  refine lv_iconst (v := 0) hx hb dL_law_33 (by decide) ?_
  refine lv_istore_n (lv' := [(2, .int (nI 0)), (1, .ref (q 0)), (0, .ref b)]) hx hb dL_law_34 rfl hl (by decide) rfl (fun ls hl => ?_)
  refine zL_rail_t CC 3 0 rfl _ _ _ _ _ er hw (lv_sub hl [0, 2, 1] rfl) (fun H locs ls hw hl => ?_)
  refine lv_bipush (v := 6) hx hb dL_law_80 (by decide) ?_
  refine zl_new (N := 6) C zs_arr hw (by decide) (by decide) (by decide) (Nat.le_of_ble_eq_true rfl) (Nat.le_of_ble_eq_true rfl) dL_law_82 (fun a2 H hw => ?_)
  have hw : zl_W A D cI q [(a2, .inl (cI, 6, .inl (fun _ => 0)))] st1 s.heap H locs := hw
  refine lv_astore_n (lv' := [(2, .ref a2), (0, .ref b), (1, .ref (q 0))]) hx hb dL_law_84 rfl hl (by decide) rfl (fun ls hl => ?_)
  refine lv_iconst (v := 0) hx hb dL_law_85 (by decide) ?_
  refine lv_istore_n (lv' := [(3, .int (nI 0)), (2, .ref a2), (0, .ref b), (1, .ref (q 0))]) hx hb dL_law_86 rfl hl (by decide) rfl (fun ls hl => ?_)
  refine zL_units_t CC a2 6 0 rfl _ _ _ _ _ _ eu hw hl (fun H locs ls hw hl => ?_)
  refine lv_iconst (v := 0) hx hb dL_law_156 (by decide) ?_
  refine lv_istore_n (lv' := [(3, .int (nI 0)), (2, .ref a2), (0, .ref b), (1, .ref (q 0))]) hx hb dL_law_157 rfl hl (by decide) rfl (fun ls hl => ?_)
  refine zL_turns_t CC hst hax a2 u1.1 60 0 rfl 58 7278 (by decide) (by decide) _ _ _ _ hf hw hl (fun H locs ls hS => ?_)
  refine va_forget (fun q hq => hAr _ (hS.2.2 q hq)) ?_
  exact lw_ret hx hb hr hlocks dL_law_222
