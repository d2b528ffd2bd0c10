/-! L_act, written by genlaw.py -/
abbrev zr_L_act : Room := { frames := 7, cells := 1, slots := 6, locals := 178 }
section ZLY
variable {p : Program} {l : Launch} {e : Env} {R : Room} {s : State} {m : MethodId} {args : Array Value} {below : List Frame} {meth : Method} {c : Code}
variable {A : Nat → Prop} {D : va_G} {cI : ClassId} {q : Nat → Nat} {cc : ByteArray} {nL : Nat} {Ts : List Cond} {own : String} {xs : va_W}
variable {H : Heap} {locs : List Loc} {cells slots : Nat} {Q : State → Prop} {pc : Nat} {ls : Array Slot} {rest : List Value} {st st' : zz_T}
/-- a call of act's, which may throw: what is thrown is caught by one of the three rows -/
theorem zl_Vy (C : zl_C A D cI p s m args meth c cc nL Ts own) (hown : own = RL) (hxt : c.exceptionTable.toList = tableOf [(6, 315, 318, 88), (6, 315, 321, 90), (6, 315, 324, 92)]) (hpc : 6 ≤ pc ∧ pc < 315) (hlk : (Cond.classLink RL 88 "java/lang/IndexOutOfBoundsException").before args s = true ∧ (Cond.classLink RL 90 "java/lang/IllegalArgumentException").before args s = true ∧ (Cond.classLink RL 92 "java/lang/IllegalStateException").before args s = true)
    {C' : String} {index maxL n b : Nat} {y : MethodName} {bytes : ByteArray} {ret : Option FieldType} {ws : List Cond} {rm : Room} {As st0 : List Value} {r : Option Int32 × zz_T} (hM : zz_Mx l (zl_A A xs) D cI q y ws rm (.ref b :: As) st r) (cw : CallW R s args own C' index y bytes maxL ret ws rm 1 6 n) (h : zl_W A D cI q xs st s.heap H locs) (k : Nat) {ci : Nat} {fs : List Value} (he : (zz_c q cI st)[k]? = some (b, .inr (ci, fs))) {TT : u_T} {N : Nat} (hc : vwCl[ci]? = some (C', TT, N))
    (hn : As.length = n) {lv : List (Nat × Value)} (hl : lv_has ls nL lv) (hst : st0 = As.reverse ++ .ref b :: rest) (hW : (rest.map fun v => v.category).sum ≤ 8) (hdg : decode cc pc = .ok (.invokevirtual index, 3)) (hcs : cells + 1 ≤ R.cells ∧ slots + 6 ≤ R.slots)
    (kk : ∀ (x : Int32) (H1 : Heap) (locs1 : List Loc), zl_W A D cI q xs r.2 s.heap H1 locs1 → W p l e R s m args below meth c H1 locs1 (cells + 1) (slots + 6) Q (F0 m (pc + 3) ls (.int x :: rest)))
    (kx : ∀ (hp : Nat), hp ∈ [318, 321, 324] → ∀ (q9 : Nat) (H1 : Heap) (locs1 : List Loc), zl_W A D cI q xs r.2 s.heap H1 locs1 → W p l e R s m args below meth c H1 locs1 (cells + 1) (slots + 6) Q (F0 m hp ls [.ref q9])) : W p l e R s m args below meth c H locs cells slots Q (F0 m pc ls st0) := by
  obtain ⟨hF, hlocks, hA, hK, hE⟩ := id C
  subst hown
  refine vx_calli (vx_runV (As := As) (rest := rest) hF hM cw ⟨zz_B.blind _, va_recv hK h.1 hc (zl_il he), fun U hU hW => ⟨rfl, zl_B C h hU hW⟩⟩ rfl hn hl.1 hst (lv_room (pc := pc) (ls := ls) (m := m) hW) hdg hcs) h.2.2 (fun q _ h => h.1) (fun q h => h.1) (fun q _ h => h.1) (fun E ce q9 u t H1 locs1 ht hvm hw hB hz hk hS1 hce hcv hcl => ?_) (fun x u t H1 locs1 ht hvm hw hB hz hk hS1 => ?_)
  · obtain ⟨hEx, hPt⟩ := hB
    have h1 : zl_W A D cI q xs r.2 s.heap H1 locs1 := by rw [hw]; exact zl_on h (ht ▸ hPt) hk hS1
    have hbad := hE.2.2.2.2.2.2.1
    have hnc := hE.2.2.2.2.2.2.2
    obtain ⟨-, -, -, hown, hts⟩ := hF
    simp only [zz_exc, List.mem_cons, List.not_mem_nil, or_false] at hEx
    rcases hEx with rfl | rfl | rfl
    · refine vx_catch (name := "java/lang/IndexOutOfBoundsException") hown [] _ _ hxt (fun z hz => nomatch hz) (by simp [covers]; omega) (by decide) hlk.1 (va_Nw.use rfl (hbad (.castable "java/lang/IndexOutOfBoundsException" "java/lang/IndexOutOfBoundsException") (by decide))) hce hcv hcl (kx 318 (by decide) q9 H1 locs1 h1)
    · refine vx_catch (name := "java/lang/IllegalArgumentException") hown [_] _ _ hxt (fun z hz => ?_) (by simp [covers]; omega) (by decide) hlk.2.1 (va_Nw.use rfl (hbad (.castable "java/lang/IllegalArgumentException" "java/lang/IllegalArgumentException") (by decide))) hce hcv hcl (kx 321 (by decide) q9 H1 locs1 h1)
      rcases List.mem_singleton.mp hz with rfl
      exact Or.inr ⟨by decide, _, hlk.1, hnc ("java/lang/IllegalArgumentException", "java/lang/IndexOutOfBoundsException") (by decide)⟩
    · refine vx_catch (name := "java/lang/IllegalStateException") hown [_, _] _ _ hxt (fun z hz => ?_) (by simp [covers]; omega) (by decide) hlk.2.2 (va_Nw.use rfl (hbad (.castable "java/lang/IllegalStateException" "java/lang/IllegalStateException") (by decide))) hce hcv hcl (kx 324 (by decide) q9 H1 locs1 h1)
      rcases List.mem_cons.mp hz with rfl | hz
      · exact Or.inr ⟨by decide, _, hlk.1, hnc ("java/lang/IllegalStateException", "java/lang/IndexOutOfBoundsException") (by decide)⟩
      · rcases List.mem_singleton.mp hz with rfl
        exact Or.inr ⟨by decide, _, hlk.2.1, hnc ("java/lang/IllegalStateException", "java/lang/IllegalArgumentException") (by decide)⟩
  · have h1 : zl_W A D cI q xs r.2 s.heap H1 locs1 := by rw [hw]; exact zl_on h (ht ▸ hB.2.1) hk hS1
    exact kk x H1 locs1 h1
end ZLY
theorem zl_max1 (x : Int32) : ¬ zz_max 1 x = 0 := by
  unfold zz_max
  split
  · rename_i h
    intro q
    rw [q] at h
    exact absurd h (by decide)
  · decide
theorem zq_L_act_max : Cond.methodLink yL_act.cls 74 Lib.Math.max.name ∈ wsL_act ∧ Cond.static Lib.Math.max.name ∈ wsL_act ∧ Cond.initialized "java/lang/Math" ∈ wsL_act ∧ Cond.code Lib.Math.max.name Lib.Math.max.code 2 (some .int) ∈ wsL_act := by decide +kernel
def zl_ax : List Cond := [.classLink RL 90 "java/lang/IllegalArgumentException", .classLink RL 92 "java/lang/IllegalStateException"]
theorem zl_act_lk : Cond.classLink RL 88 "java/lang/IndexOutOfBoundsException" ∈ wsL_act := by decide +kernel
theorem zl_act_h {p : Program} {l : Launch} {e : Env} {R : Room} {s : State} {m : MethodId} {args : Array Value} {below : List Frame} {meth : Method} {c : Code} {A : Nat → Prop} {D : va_G} {cI : ClassId} {q : Nat → Nat} {st r : zz_T} {ls : Array Slot} {lv : List (Nat × Value)} (C : zl_C A D cI p s m args meth c cL_act 5 wsL_act yL_act.cls) (hr : meth.sig.returnType = none) (hl : lv_has ls 5 lv) (hf : st = r) (hp : Nat) (hpm : hp ∈ [318, 321, 324]) (q9 : Nat) (H : Heap) (locs : List Loc) (hw : zl_W A D cI q [] st s.heap H locs) :
    W p l e R s m args below meth c H locs (0 + 1) (0 + 6) (MQ below (va_Qv (fun (u : zz_T) => u = r) (fun u t => zz_B A D cI q u t) A) args s 1 6 A) (F0 m hp ls [.ref q9]) := by
  obtain ⟨hx, hb, hml, hown, hts⟩ := id C.1
  subst hf
  simp only [List.mem_cons, List.not_mem_nil, or_false] at hpm
  rcases hpm with rfl | rfl | rfl
  · refine lv_astore hx hb dL_act_318 hl (by decide) rfl (fun ls hl => ?_)
    exact zl_retv C hr hw dL_act_320
  · refine lv_astore hx hb dL_act_321 hl (by decide) rfl (fun ls hl => ?_)
    exact zl_retv C hr hw dL_act_323
  · refine lv_astore hx hb dL_act_324 hl (by decide) rfl (fun ls hl => ?_)
    exact zl_retv C hr hw dL_act_326
def zL_act (v1 : Int32) (v2 : Int32) (st : zz_T) : Option zz_T :=
  (zX8_many 0 st).bind fun x1 =>
  if v2 = 0 then
    (zX8_orderx (zL_bw v1 64) st).bind fun x3 =>
    some x3.2
  else if v2 = 1 then
    (zX8_orderx (zL_bw v1 64) st).bind fun x5 =>
    some x5.2
  else if v2 = 2 then
    (zX8_planx (zL_bw v1 6) (x1 + (zL_bw (v1 >>> ((3 : Int32) &&& 31)) 30)) st).bind fun x7 =>
    some x7.2
  else if v2 = 3 then
    (zX8_planx (zL_bw v1 6) (x1 + (zL_bw (v1 >>> ((3 : Int32) &&& 31)) 30)) st).bind fun x9 =>
    some x9.2
  else if v2 = 4 then
    (zX8_planx (zL_bw v1 6) (x1 + (zL_bw (v1 >>> ((3 : Int32) &&& 31)) 30)) st).bind fun x11 =>
    some x11.2
  else if v2 = 5 then
    (zX8_stopx (zL_bw v1 6) st).bind fun x13 =>
    some x13.2
  else if v2 = 6 then
    (zX8_changex (zL_bw v1 4) st).bind fun x15 =>
    some x15.2
  else if v2 = 7 then
    (zX8_aimx (zL_bw v1 4) (zL_bw (v1 >>> ((2 : Int32) &&& 31)) 6) (zL_bw (v1 >>> ((5 : Int32) &&& 31)) 3) st).bind fun x17 =>
    some x17.2
  else if v2 = 8 then
    (zX8_supplyx (zL_bw v1 3) (x1 + (zL_bw (v1 >>> ((3 : Int32) &&& 31)) 20)) st).bind fun x19 =>
    some x19.2
  else if v2 = 9 then
    (zX8_bridgex (zL_bw v1 8) st).bind fun x21 =>
    some x21.2
  else if v2 = 10 then
    (zX8_foulx (zL_bw v1 6) (zL_bw (v1 >>> ((3 : Int32) &&& 31)) 20) st).bind fun x23 =>
    some x23.2
  else if v2 = 11 then
    (zX8_many 5 st).bind fun x25 =>
    (zX8_boxx (zL_bw v1 (zz_max 1 x25)) (1 + (zL_bw (v1 >>> ((4 : Int32) &&& 31)) 20)) st).bind fun x27 =>
    some x27.2
  else if v2 = 12 then
    (zX8_foex (zL_bw v1 3) (zL_bw (v1 >>> ((2 : Int32) &&& 31)) 3) (((x1 / 144) + 1) + (zL_bw (v1 >>> ((4 : Int32) &&& 31)) 2)) (1 + (zL_bw (v1 >>> ((5 : Int32) &&& 31)) 30)) st).bind fun x29 =>
    some x29.2
  else 
    (zX8_passx (1 + (zL_bw (v1 >>> ((2 : Int32) &&& 31)) 60)) st).bind fun x31 =>
    some x31.2
set_option maxHeartbeats 4000000 in
set_option maxRecDepth 100000 in
theorem zc_L_act {l : Launch} (hst : l.stackTraces = false) {A : Nat → Prop} {D : va_G} {cI : ClassId} {q : Nat → Nat} (v1 v2 : Int32) (st : zz_T) (r : zz_T) (hf : zL_act v1 v2 st = some r) : Met l yL_act wsL_act zr_L_act (va_Pc [.ref (q 0), .int v1, .int v2] (fun U => zz_B A D cI q st U ∧ ∀ w ∈ zl_ax, va_Nw w U)) (va_Qv (fun (u : zz_T) => u = r) (fun u t => zz_B A D cI q u t) A) 1 6 A := by
  refine va_MetW (cc := cL_act) (maxL := 5) (ret := none) (hh := [(6, 315, 318, 88), (6, 315, 321, 90), (6, 315, 324, 92)]) (by decide) rfl ?_
  intro p e s m args below meth c s₁ B hml hv
  obtain ⟨rfl, ⟨hA, hP, hK, hDD, hE⟩, hax⟩ := hv
  have hts := atoms_spec (ws := wsL_act) B.pre
  have hown : s.vm.findClass yL_act.cls = some m.cls := findClass_of_methodNamed B.named
  have hx := B.exec
  have hb := B.bytes
  have hr := B.returns
  have hxt := vx_table (x := yL_act) B (hts _ (List.mem_cons_self))
  have hlk := And.intro (hts _ zl_act_lk) (And.intro (va_Nw.use (A := #[.ref (q 0), .int v1, .int v2]) rfl (hax (.classLink RL 90 "java/lang/IllegalArgumentException") (by decide))) (va_Nw.use (A := #[.ref (q 0), .int v1, .int v2]) rfl (hax (.classLink RL 92 "java/lang/IllegalStateException") (by decide))))
  have C : zl_C A D cI p s m _ meth c cL_act 5 wsL_act yL_act.cls := ⟨⟨B.exec, B.bytes, hml, hown, hts⟩, B.notSynchronized, hA, hK, hE⟩
  have hl := lv_entry [.ref (q 0), .int v1, .int v2] (n := 5) (Nat.le_of_ble_eq_true rfl)
  rw [lg_entry_eq]
  generalize (lg_sl ([.ref (q 0), .int v1, .int v2]) ++ List.replicate (5 - (lg_sl ([.ref (q 0), .int v1, .int v2])).length) Slot.unset).toArray = ls at hl ⊢
  have hl : lv_has ls 5 [(0, .ref (q 0)), (1, .int v1), (2, .int v2)] := hl
  have hw : zl_W A D cI q [] st s.heap s.heap [] := by
    rw [zl_W, List.append_nil]
    exact ⟨hP, hDD.va cI st, va_S.rf⟩
  rw [zL_act] at hf
  refine lv_aload_n hx hb dL_act_0 rfl (lv_at hl 0 rfl) ?_
  refine lv_iconst (v := 0) hx hb dL_act_1 (by decide) ?_
  obtain ⟨x1, e2, hf⟩ := zz_bo hf
  refine zl_Vi C (As := [.int 0]) (rest := []) (zc_X8_many _ _ _ e2) (cwV 1 hts gL_act_X8_many rfl rfl rfl zd_X8_many ⟨(Nat.le_of_ble_eq_true rfl), (Nat.le_of_ble_eq_true rfl)⟩) hw 0 rfl rfl rfl hl rfl (Nat.le_of_ble_eq_true rfl) dL_act_2 ⟨(Nat.le_of_ble_eq_true rfl), (Nat.le_of_ble_eq_true rfl)⟩ (fun H locs hw => ?_)
  refine lv_istore_n (lv' := [(3, .int x1), (0, .ref (q 0)), (1, .int v1), (2, .int v2)]) hx hb dL_act_5 rfl hl (by decide) rfl (fun ls hl => ?_)
  refine lv_iload_n hx hb dL_act_6 rfl (lv_at hl 3 rfl) ?_
  by_cases h7_0 : v2 = 0
  · rw [if_pos h7_0] at hf
    refine lv_tableIn (tgt := 72) hx hb dL_act_7 (by rw [h7_0]; decide) (by rw [h7_0]; decide) (by rw [h7_0]; rfl) (by decide) ?_
    refine lv_aload_n hx hb dL_act_72 rfl (lv_at hl 1 rfl) ?_
    refine lv_iload_n hx hb dL_act_73 rfl (lv_at hl 2 rfl) ?_
    refine lv_bipush (v := 64) hx hb dL_act_74 (by decide) ?_
    refine zl_below C (by decide) gL_act_L_below ⟨(Nat.le_of_ble_eq_true rfl), (Nat.le_of_ble_eq_true rfl)⟩ hw hl (Nat.le_of_ble_eq_true rfl) dL_act_76 ⟨(Nat.le_of_ble_eq_true rfl), (Nat.le_of_ble_eq_true rfl)⟩ (fun H locs hw => ?_)
    obtain ⟨x3, e4, hf⟩ := zz_bo hf
    refine zl_Vy C rfl hxt (by decide) hlk (As := [.int (zL_bw v1 64)]) (rest := []) (zx_X8_order hst _ _ _ e4) (cwV 1 hts gL_act_X8_order rfl rfl rfl zd_X8_order ⟨(Nat.le_of_ble_eq_true rfl), (Nat.le_of_ble_eq_true rfl)⟩) hw 0 rfl rfl rfl hl rfl (Nat.le_of_ble_eq_true rfl) dL_act_79 ⟨(Nat.le_of_ble_eq_true rfl), (Nat.le_of_ble_eq_true rfl)⟩ (fun y3 H locs hw => ?_) (zl_act_h C hr hl (Option.some.inj hf))
    refine lv_pop hx hb dL_act_82 rfl ?_
    refine lv_goto (tgt := 315) hx hb dL_act_83 (by decide) ?_
    refine lv_goto (tgt := 327) hx hb dL_act_315 (by decide) ?_
    rw [← (Option.some.inj hf)]
    refine W.widen (k := 1) (n := 6) (Nat.le_of_ble_eq_true rfl) (Nat.le_of_ble_eq_true rfl) ?_
    exact zl_retv C hr hw dL_act_327
  rw [if_neg h7_0] at hf
  by_cases h7_1 : v2 = 1
  · rw [if_pos h7_1] at hf
    refine lv_tableIn (tgt := 72) hx hb dL_act_7 (by rw [h7_1]; decide) (by rw [h7_1]; decide) (by rw [h7_1]; rfl) (by decide) ?_
    refine lv_aload_n hx hb dL_act_72 rfl (lv_at hl 1 rfl) ?_
    refine lv_iload_n hx hb dL_act_73 rfl (lv_at hl 2 rfl) ?_
    refine lv_bipush (v := 64) hx hb dL_act_74 (by decide) ?_
    refine zl_below C (by decide) gL_act_L_below ⟨(Nat.le_of_ble_eq_true rfl), (Nat.le_of_ble_eq_true rfl)⟩ hw hl (Nat.le_of_ble_eq_true rfl) dL_act_76 ⟨(Nat.le_of_ble_eq_true rfl), (Nat.le_of_ble_eq_true rfl)⟩ (fun H locs hw => ?_)
    obtain ⟨x5, e6, hf⟩ := zz_bo hf
    refine zl_Vy C rfl hxt (by decide) hlk (As := [.int (zL_bw v1 64)]) (rest := []) (zx_X8_order hst _ _ _ e6) (cwV 1 hts gL_act_X8_order rfl rfl rfl zd_X8_order ⟨(Nat.le_of_ble_eq_true rfl), (Nat.le_of_ble_eq_true rfl)⟩) hw 0 rfl rfl rfl hl rfl (Nat.le_of_ble_eq_true rfl) dL_act_79 ⟨(Nat.le_of_ble_eq_true rfl), (Nat.le_of_ble_eq_true rfl)⟩ (fun y5 H locs hw => ?_) (zl_act_h C hr hl (Option.some.inj hf))
    refine lv_pop hx hb dL_act_82 rfl ?_
    refine lv_goto (tgt := 315) hx hb dL_act_83 (by decide) ?_
    refine lv_goto (tgt := 327) hx hb dL_act_315 (by decide) ?_
    rw [← (Option.some.inj hf)]
    refine W.widen (k := 1) (n := 6) (Nat.le_of_ble_eq_true rfl) (Nat.le_of_ble_eq_true rfl) ?_
    exact zl_retv C hr hw dL_act_327
  rw [if_neg h7_1] at hf
  by_cases h7_2 : v2 = 2
  · rw [if_pos h7_2] at hf
    refine lv_tableIn (tgt := 86) hx hb dL_act_7 (by rw [h7_2]; decide) (by rw [h7_2]; decide) (by rw [h7_2]; rfl) (by decide) ?_
    refine lv_aload_n hx hb dL_act_86 rfl (lv_at hl 1 rfl) ?_
    refine lv_iload_n hx hb dL_act_87 rfl (lv_at hl 2 rfl) ?_
    refine lv_bipush (v := 6) hx hb dL_act_88 (by decide) ?_
    refine zl_below C (by decide) gL_act_L_below ⟨(Nat.le_of_ble_eq_true rfl), (Nat.le_of_ble_eq_true rfl)⟩ hw hl (Nat.le_of_ble_eq_true rfl) dL_act_90 ⟨(Nat.le_of_ble_eq_true rfl), (Nat.le_of_ble_eq_true rfl)⟩ (fun H locs hw => ?_)
    refine lv_iload_n hx hb dL_act_93 rfl (lv_at hl 0 rfl) ?_
    refine lv_iload_n hx hb dL_act_94 rfl (lv_at hl 2 rfl) ?_
    refine lv_iconst (v := 3) hx hb dL_act_95 (by decide) ?_
    refine lv_ishr hx hb dL_act_96 ?_
    refine lv_bipush (v := 30) hx hb dL_act_97 (by decide) ?_
    refine zl_below C (by decide) gL_act_L_below ⟨(Nat.le_of_ble_eq_true rfl), (Nat.le_of_ble_eq_true rfl)⟩ hw hl (Nat.le_of_ble_eq_true rfl) dL_act_99 ⟨(Nat.le_of_ble_eq_true rfl), (Nat.le_of_ble_eq_true rfl)⟩ (fun H locs hw => ?_)
    refine lv_iadd hx hb dL_act_102 ?_
    obtain ⟨x7, e8, hf⟩ := zz_bo hf
    refine zl_Vy C rfl hxt (by decide) hlk (As := [.int (zL_bw v1 6), .int (x1 + (zL_bw (v1 >>> ((3 : Int32) &&& 31)) 30))]) (rest := []) (zx_X8_plan hst _ _ _ _ e8) (cwV 2 hts gL_act_X8_plan rfl rfl rfl zd_X8_plan ⟨(Nat.le_of_ble_eq_true rfl), (Nat.le_of_ble_eq_true rfl)⟩) hw 0 rfl rfl rfl hl rfl (Nat.le_of_ble_eq_true rfl) dL_act_103 ⟨(Nat.le_of_ble_eq_true rfl), (Nat.le_of_ble_eq_true rfl)⟩ (fun y7 H locs hw => ?_) (zl_act_h C hr hl (Option.some.inj hf))
    refine lv_pop hx hb dL_act_106 rfl ?_
    refine lv_goto (tgt := 315) hx hb dL_act_107 (by decide) ?_
    refine lv_goto (tgt := 327) hx hb dL_act_315 (by decide) ?_
    rw [← (Option.some.inj hf)]
    refine W.widen (k := 1) (n := 6) (Nat.le_of_ble_eq_true rfl) (Nat.le_of_ble_eq_true rfl) ?_
    exact zl_retv C hr hw dL_act_327
  rw [if_neg h7_2] at hf
  by_cases h7_3 : v2 = 3
  · rw [if_pos h7_3] at hf
    refine lv_tableIn (tgt := 86) hx hb dL_act_7 (by rw [h7_3]; decide) (by rw [h7_3]; decide) (by rw [h7_3]; rfl) (by decide) ?_
    refine lv_aload_n hx hb dL_act_86 rfl (lv_at hl 1 rfl) ?_
    refine lv_iload_n hx hb dL_act_87 rfl (lv_at hl 2 rfl) ?_
    refine lv_bipush (v := 6) hx hb dL_act_88 (by decide) ?_
    refine zl_below C (by decide) gL_act_L_below ⟨(Nat.le_of_ble_eq_true rfl), (Nat.le_of_ble_eq_true rfl)⟩ hw hl (Nat.le_of_ble_eq_true rfl) dL_act_90 ⟨(Nat.le_of_ble_eq_true rfl), (Nat.le_of_ble_eq_true rfl)⟩ (fun H locs hw => ?_)
    refine lv_iload_n hx hb dL_act_93 rfl (lv_at hl 0 rfl) ?_
    refine lv_iload_n hx hb dL_act_94 rfl (lv_at hl 2 rfl) ?_
    refine lv_iconst (v := 3) hx hb dL_act_95 (by decide) ?_
    refine lv_ishr hx hb dL_act_96 ?_
    refine lv_bipush (v := 30) hx hb dL_act_97 (by decide) ?_
    refine zl_below C (by decide) gL_act_L_below ⟨(Nat.le_of_ble_eq_true rfl), (Nat.le_of_ble_eq_true rfl)⟩ hw hl (Nat.le_of_ble_eq_true rfl) dL_act_99 ⟨(Nat.le_of_ble_eq_true rfl), (Nat.le_of_ble_eq_true rfl)⟩ (fun H locs hw => ?_)
    refine lv_iadd hx hb dL_act_102 ?_
    obtain ⟨x9, e10, hf⟩ := zz_bo hf
    refine zl_Vy C rfl hxt (by decide) hlk (As := [.int (zL_bw v1 6), .int (x1 + (zL_bw (v1 >>> ((3 : Int32) &&& 31)) 30))]) (rest := []) (zx_X8_plan hst _ _ _ _ e10) (cwV 2 hts gL_act_X8_plan rfl rfl rfl zd_X8_plan ⟨(Nat.le_of_ble_eq_true rfl), (Nat.le_of_ble_eq_true rfl)⟩) hw 0 rfl rfl rfl hl rfl (Nat.le_of_ble_eq_true rfl) dL_act_103 ⟨(Nat.le_of_ble_eq_true rfl), (Nat.le_of_ble_eq_true rfl)⟩ (fun y9 H locs hw => ?_) (zl_act_h C hr hl (Option.some.inj hf))
    refine lv_pop hx hb dL_act_106 rfl ?_
    refine lv_goto (tgt := 315) hx hb dL_act_107 (by decide) ?_
    refine lv_goto (tgt := 327) hx hb dL_act_315 (by decide) ?_
    rw [← (Option.some.inj hf)]
    refine W.widen (k := 1) (n := 6) (Nat.le_of_ble_eq_true rfl) (Nat.le_of_ble_eq_true rfl) ?_
    exact zl_retv C hr hw dL_act_327
  rw [if_neg h7_3] at hf
  by_cases h7_4 : v2 = 4
  · rw [if_pos h7_4] at hf
    refine lv_tableIn (tgt := 86) hx hb dL_act_7 (by rw [h7_4]; decide) (by rw [h7_4]; decide) (by rw [h7_4]; rfl) (by decide) ?_
    refine lv_aload_n hx hb dL_act_86 rfl (lv_at hl 1 rfl) ?_
    refine lv_iload_n hx hb dL_act_87 rfl (lv_at hl 2 rfl) ?_
    refine lv_bipush (v := 6) hx hb dL_act_88 (by decide) ?_
    refine zl_below C (by decide) gL_act_L_below ⟨(Nat.le_of_ble_eq_true rfl), (Nat.le_of_ble_eq_true rfl)⟩ hw hl (Nat.le_of_ble_eq_true rfl) dL_act_90 ⟨(Nat.le_of_ble_eq_true rfl), (Nat.le_of_ble_eq_true rfl)⟩ (fun H locs hw => ?_)
    refine lv_iload_n hx hb dL_act_93 rfl (lv_at hl 0 rfl) ?_
    refine lv_iload_n hx hb dL_act_94 rfl (lv_at hl 2 rfl) ?_
    refine lv_iconst (v := 3) hx hb dL_act_95 (by decide) ?_
    refine lv_ishr hx hb dL_act_96 ?_
    refine lv_bipush (v := 30) hx hb dL_act_97 (by decide) ?_
    refine zl_below C (by decide) gL_act_L_below ⟨(Nat.le_of_ble_eq_true rfl), (Nat.le_of_ble_eq_true rfl)⟩ hw hl (Nat.le_of_ble_eq_true rfl) dL_act_99 ⟨(Nat.le_of_ble_eq_true rfl), (Nat.le_of_ble_eq_true rfl)⟩ (fun H locs hw => ?_)
    refine lv_iadd hx hb dL_act_102 ?_
    obtain ⟨x11, e12, hf⟩ := zz_bo hf
    refine zl_Vy C rfl hxt (by decide) hlk (As := [.int (zL_bw v1 6), .int (x1 + (zL_bw (v1 >>> ((3 : Int32) &&& 31)) 30))]) (rest := []) (zx_X8_plan hst _ _ _ _ e12) (cwV 2 hts gL_act_X8_plan rfl rfl rfl zd_X8_plan ⟨(Nat.le_of_ble_eq_true rfl), (Nat.le_of_ble_eq_true rfl)⟩) hw 0 rfl rfl rfl hl rfl (Nat.le_of_ble_eq_true rfl) dL_act_103 ⟨(Nat.le_of_ble_eq_true rfl), (Nat.le_of_ble_eq_true rfl)⟩ (fun y11 H locs hw => ?_) (zl_act_h C hr hl (Option.some.inj hf))
    refine lv_pop hx hb dL_act_106 rfl ?_
    refine lv_goto (tgt := 315) hx hb dL_act_107 (by decide) ?_
    refine lv_goto (tgt := 327) hx hb dL_act_315 (by decide) ?_
    rw [← (Option.some.inj hf)]
    refine W.widen (k := 1) (n := 6) (Nat.le_of_ble_eq_true rfl) (Nat.le_of_ble_eq_true rfl) ?_
    exact zl_retv C hr hw dL_act_327
  rw [if_neg h7_4] at hf
  by_cases h7_5 : v2 = 5
  · rw [if_pos h7_5] at hf
    refine lv_tableIn (tgt := 110) hx hb dL_act_7 (by rw [h7_5]; decide) (by rw [h7_5]; decide) (by rw [h7_5]; rfl) (by decide) ?_
    refine lv_aload_n hx hb dL_act_110 rfl (lv_at hl 1 rfl) ?_
    refine lv_iload_n hx hb dL_act_111 rfl (lv_at hl 2 rfl) ?_
    refine lv_bipush (v := 6) hx hb dL_act_112 (by decide) ?_
    refine zl_below C (by decide) gL_act_L_below ⟨(Nat.le_of_ble_eq_true rfl), (Nat.le_of_ble_eq_true rfl)⟩ hw hl (Nat.le_of_ble_eq_true rfl) dL_act_114 ⟨(Nat.le_of_ble_eq_true rfl), (Nat.le_of_ble_eq_true rfl)⟩ (fun H locs hw => ?_)
    obtain ⟨x13, e14, hf⟩ := zz_bo hf
    refine zl_Vy C rfl hxt (by decide) hlk (As := [.int (zL_bw v1 6)]) (rest := []) (zx_X8_stop hst _ _ _ e14) (cwV 1 hts gL_act_X8_stop rfl rfl rfl zd_X8_stop ⟨(Nat.le_of_ble_eq_true rfl), (Nat.le_of_ble_eq_true rfl)⟩) hw 0 rfl rfl rfl hl rfl (Nat.le_of_ble_eq_true rfl) dL_act_117 ⟨(Nat.le_of_ble_eq_true rfl), (Nat.le_of_ble_eq_true rfl)⟩ (fun y13 H locs hw => ?_) (zl_act_h C hr hl (Option.some.inj hf))
    refine lv_pop hx hb dL_act_120 rfl ?_
    refine lv_goto (tgt := 315) hx hb dL_act_121 (by decide) ?_
    refine lv_goto (tgt := 327) hx hb dL_act_315 (by decide) ?_
    rw [← (Option.some.inj hf)]
    refine W.widen (k := 1) (n := 6) (Nat.le_of_ble_eq_true rfl) (Nat.le_of_ble_eq_true rfl) ?_
    exact zl_retv C hr hw dL_act_327
  rw [if_neg h7_5] at hf
  by_cases h7_6 : v2 = 6
  · rw [if_pos h7_6] at hf
    refine lv_tableIn (tgt := 124) hx hb dL_act_7 (by rw [h7_6]; decide) (by rw [h7_6]; decide) (by rw [h7_6]; rfl) (by decide) ?_
    refine lv_aload_n hx hb dL_act_124 rfl (lv_at hl 1 rfl) ?_
    refine lv_iload_n hx hb dL_act_125 rfl (lv_at hl 2 rfl) ?_
    refine lv_iconst (v := 4) hx hb dL_act_126 (by decide) ?_
    refine zl_below C (by decide) gL_act_L_below ⟨(Nat.le_of_ble_eq_true rfl), (Nat.le_of_ble_eq_true rfl)⟩ hw hl (Nat.le_of_ble_eq_true rfl) dL_act_127 ⟨(Nat.le_of_ble_eq_true rfl), (Nat.le_of_ble_eq_true rfl)⟩ (fun H locs hw => ?_)
    obtain ⟨x15, e16, hf⟩ := zz_bo hf
    refine zl_Vy C rfl hxt (by decide) hlk (As := [.int (zL_bw v1 4)]) (rest := []) (zx_X8_change hst _ _ _ e16) (cwV 1 hts gL_act_X8_change rfl rfl rfl zd_X8_change ⟨(Nat.le_of_ble_eq_true rfl), (Nat.le_of_ble_eq_true rfl)⟩) hw 0 rfl rfl rfl hl rfl (Nat.le_of_ble_eq_true rfl) dL_act_130 ⟨(Nat.le_of_ble_eq_true rfl), (Nat.le_of_ble_eq_true rfl)⟩ (fun y15 H locs hw => ?_) (zl_act_h C hr hl (Option.some.inj hf))
    refine lv_pop hx hb dL_act_133 rfl ?_
    refine lv_goto (tgt := 315) hx hb dL_act_134 (by decide) ?_
    refine lv_goto (tgt := 327) hx hb dL_act_315 (by decide) ?_
    rw [← (Option.some.inj hf)]
    refine W.widen (k := 1) (n := 6) (Nat.le_of_ble_eq_true rfl) (Nat.le_of_ble_eq_true rfl) ?_
    exact zl_retv C hr hw dL_act_327
  rw [if_neg h7_6] at hf
  by_cases h7_7 : v2 = 7
  · rw [if_pos h7_7] at hf
    refine lv_tableIn (tgt := 137) hx hb dL_act_7 (by rw [h7_7]; decide) (by rw [h7_7]; decide) (by rw [h7_7]; rfl) (by decide) ?_
    refine lv_aload_n hx hb dL_act_137 rfl (lv_at hl 1 rfl) ?_
    refine lv_iload_n hx hb dL_act_138 rfl (lv_at hl 2 rfl) ?_
    refine lv_iconst (v := 4) hx hb dL_act_139 (by decide) ?_
    refine zl_below C (by decide) gL_act_L_below ⟨(Nat.le_of_ble_eq_true rfl), (Nat.le_of_ble_eq_true rfl)⟩ hw hl (Nat.le_of_ble_eq_true rfl) dL_act_140 ⟨(Nat.le_of_ble_eq_true rfl), (Nat.le_of_ble_eq_true rfl)⟩ (fun H locs hw => ?_)
    refine lv_iload_n hx hb dL_act_143 rfl (lv_at hl 2 rfl) ?_
    refine lv_iconst (v := 2) hx hb dL_act_144 (by decide) ?_
    refine lv_ishr hx hb dL_act_145 ?_
    refine lv_bipush (v := 6) hx hb dL_act_146 (by decide) ?_
    refine zl_below C (by decide) gL_act_L_below ⟨(Nat.le_of_ble_eq_true rfl), (Nat.le_of_ble_eq_true rfl)⟩ hw hl (Nat.le_of_ble_eq_true rfl) dL_act_148 ⟨(Nat.le_of_ble_eq_true rfl), (Nat.le_of_ble_eq_true rfl)⟩ (fun H locs hw => ?_)
    refine lv_iload_n hx hb dL_act_151 rfl (lv_at hl 2 rfl) ?_
    refine lv_iconst (v := 5) hx hb dL_act_152 (by decide) ?_
    refine lv_ishr hx hb dL_act_153 ?_
    refine lv_iconst (v := 3) hx hb dL_act_154 (by decide) ?_
    refine zl_below C (by decide) gL_act_L_below ⟨(Nat.le_of_ble_eq_true rfl), (Nat.le_of_ble_eq_true rfl)⟩ hw hl (Nat.le_of_ble_eq_true rfl) dL_act_155 ⟨(Nat.le_of_ble_eq_true rfl), (Nat.le_of_ble_eq_true rfl)⟩ (fun H locs hw => ?_)
    obtain ⟨x17, e18, hf⟩ := zz_bo hf
    refine zl_Vy C rfl hxt (by decide) hlk (As := [.int (zL_bw v1 4), .int (zL_bw (v1 >>> ((2 : Int32) &&& 31)) 6), .int (zL_bw (v1 >>> ((5 : Int32) &&& 31)) 3)]) (rest := []) (zx_X8_aim hst _ _ _ _ _ e18) (cwV 3 hts gL_act_X8_aim rfl rfl rfl zd_X8_aim ⟨(Nat.le_of_ble_eq_true rfl), (Nat.le_of_ble_eq_true rfl)⟩) hw 0 rfl rfl rfl hl rfl (Nat.le_of_ble_eq_true rfl) dL_act_158 ⟨(Nat.le_of_ble_eq_true rfl), (Nat.le_of_ble_eq_true rfl)⟩ (fun y17 H locs hw => ?_) (zl_act_h C hr hl (Option.some.inj hf))
    refine lv_pop hx hb dL_act_161 rfl ?_
    refine lv_goto (tgt := 315) hx hb dL_act_162 (by decide) ?_
    refine lv_goto (tgt := 327) hx hb dL_act_315 (by decide) ?_
    rw [← (Option.some.inj hf)]
    refine W.widen (k := 1) (n := 6) (Nat.le_of_ble_eq_true rfl) (Nat.le_of_ble_eq_true rfl) ?_
    exact zl_retv C hr hw dL_act_327
  rw [if_neg h7_7] at hf
  by_cases h7_8 : v2 = 8
  · rw [if_pos h7_8] at hf
    refine lv_tableIn (tgt := 165) hx hb dL_act_7 (by rw [h7_8]; decide) (by rw [h7_8]; decide) (by rw [h7_8]; rfl) (by decide) ?_
    refine lv_aload_n hx hb dL_act_165 rfl (lv_at hl 1 rfl) ?_
    refine lv_iload_n hx hb dL_act_166 rfl (lv_at hl 2 rfl) ?_
    refine lv_iconst (v := 3) hx hb dL_act_167 (by decide) ?_
    refine zl_below C (by decide) gL_act_L_below ⟨(Nat.le_of_ble_eq_true rfl), (Nat.le_of_ble_eq_true rfl)⟩ hw hl (Nat.le_of_ble_eq_true rfl) dL_act_168 ⟨(Nat.le_of_ble_eq_true rfl), (Nat.le_of_ble_eq_true rfl)⟩ (fun H locs hw => ?_)
    refine lv_iload_n hx hb dL_act_171 rfl (lv_at hl 0 rfl) ?_
    refine lv_iload_n hx hb dL_act_172 rfl (lv_at hl 2 rfl) ?_
    refine lv_iconst (v := 3) hx hb dL_act_173 (by decide) ?_
    refine lv_ishr hx hb dL_act_174 ?_
    refine lv_bipush (v := 20) hx hb dL_act_175 (by decide) ?_
    refine zl_below C (by decide) gL_act_L_below ⟨(Nat.le_of_ble_eq_true rfl), (Nat.le_of_ble_eq_true rfl)⟩ hw hl (Nat.le_of_ble_eq_true rfl) dL_act_177 ⟨(Nat.le_of_ble_eq_true rfl), (Nat.le_of_ble_eq_true rfl)⟩ (fun H locs hw => ?_)
    refine lv_iadd hx hb dL_act_180 ?_
    obtain ⟨x19, e20, hf⟩ := zz_bo hf
    refine zl_Vy C rfl hxt (by decide) hlk (As := [.int (zL_bw v1 3), .int (x1 + (zL_bw (v1 >>> ((3 : Int32) &&& 31)) 20))]) (rest := []) (zx_X8_supply hst _ _ _ _ e20) (cwV 2 hts gL_act_X8_supply rfl rfl rfl zd_X8_supply ⟨(Nat.le_of_ble_eq_true rfl), (Nat.le_of_ble_eq_true rfl)⟩) hw 0 rfl rfl rfl hl rfl (Nat.le_of_ble_eq_true rfl) dL_act_181 ⟨(Nat.le_of_ble_eq_true rfl), (Nat.le_of_ble_eq_true rfl)⟩ (fun y19 H locs hw => ?_) (zl_act_h C hr hl (Option.some.inj hf))
    refine lv_pop hx hb dL_act_184 rfl ?_
    refine lv_goto (tgt := 315) hx hb dL_act_185 (by decide) ?_
    refine lv_goto (tgt := 327) hx hb dL_act_315 (by decide) ?_
    rw [← (Option.some.inj hf)]
    refine W.widen (k := 1) (n := 6) (Nat.le_of_ble_eq_true rfl) (Nat.le_of_ble_eq_true rfl) ?_
    exact zl_retv C hr hw dL_act_327
  rw [if_neg h7_8] at hf
  by_cases h7_9 : v2 = 9
  · rw [if_pos h7_9] at hf
    refine lv_tableIn (tgt := 188) hx hb dL_act_7 (by rw [h7_9]; decide) (by rw [h7_9]; decide) (by rw [h7_9]; rfl) (by decide) ?_
    refine lv_aload_n hx hb dL_act_188 rfl (lv_at hl 1 rfl) ?_
    refine lv_iload_n hx hb dL_act_189 rfl (lv_at hl 2 rfl) ?_
    refine lv_bipush (v := 8) hx hb dL_act_190 (by decide) ?_
    refine zl_below C (by decide) gL_act_L_below ⟨(Nat.le_of_ble_eq_true rfl), (Nat.le_of_ble_eq_true rfl)⟩ hw hl (Nat.le_of_ble_eq_true rfl) dL_act_192 ⟨(Nat.le_of_ble_eq_true rfl), (Nat.le_of_ble_eq_true rfl)⟩ (fun H locs hw => ?_)
    obtain ⟨x21, e22, hf⟩ := zz_bo hf
    refine zl_Vy C rfl hxt (by decide) hlk (As := [.int (zL_bw v1 8)]) (rest := []) (zx_X8_bridge hst _ _ _ e22) (cwV 1 hts gL_act_X8_bridge rfl rfl rfl zd_X8_bridge ⟨(Nat.le_of_ble_eq_true rfl), (Nat.le_of_ble_eq_true rfl)⟩) hw 0 rfl rfl rfl hl rfl (Nat.le_of_ble_eq_true rfl) dL_act_195 ⟨(Nat.le_of_ble_eq_true rfl), (Nat.le_of_ble_eq_true rfl)⟩ (fun y21 H locs hw => ?_) (zl_act_h C hr hl (Option.some.inj hf))
    refine lv_pop hx hb dL_act_198 rfl ?_
    refine lv_goto (tgt := 315) hx hb dL_act_199 (by decide) ?_
    refine lv_goto (tgt := 327) hx hb dL_act_315 (by decide) ?_
    rw [← (Option.some.inj hf)]
    refine W.widen (k := 1) (n := 6) (Nat.le_of_ble_eq_true rfl) (Nat.le_of_ble_eq_true rfl) ?_
    exact zl_retv C hr hw dL_act_327
  rw [if_neg h7_9] at hf
  by_cases h7_10 : v2 = 10
  · rw [if_pos h7_10] at hf
    refine lv_tableIn (tgt := 202) hx hb dL_act_7 (by rw [h7_10]; decide) (by rw [h7_10]; decide) (by rw [h7_10]; rfl) (by decide) ?_
    refine lv_aload_n hx hb dL_act_202 rfl (lv_at hl 1 rfl) ?_
    refine lv_iload_n hx hb dL_act_203 rfl (lv_at hl 2 rfl) ?_
    refine lv_bipush (v := 6) hx hb dL_act_204 (by decide) ?_
    refine zl_below C (by decide) gL_act_L_below ⟨(Nat.le_of_ble_eq_true rfl), (Nat.le_of_ble_eq_true rfl)⟩ hw hl (Nat.le_of_ble_eq_true rfl) dL_act_206 ⟨(Nat.le_of_ble_eq_true rfl), (Nat.le_of_ble_eq_true rfl)⟩ (fun H locs hw => ?_)
    refine lv_iload_n hx hb dL_act_209 rfl (lv_at hl 2 rfl) ?_
    refine lv_iconst (v := 3) hx hb dL_act_210 (by decide) ?_
    refine lv_ishr hx hb dL_act_211 ?_
    refine lv_bipush (v := 20) hx hb dL_act_212 (by decide) ?_
    refine zl_below C (by decide) gL_act_L_below ⟨(Nat.le_of_ble_eq_true rfl), (Nat.le_of_ble_eq_true rfl)⟩ hw hl (Nat.le_of_ble_eq_true rfl) dL_act_214 ⟨(Nat.le_of_ble_eq_true rfl), (Nat.le_of_ble_eq_true rfl)⟩ (fun H locs hw => ?_)
    obtain ⟨x23, e24, hf⟩ := zz_bo hf
    refine zl_Vy C rfl hxt (by decide) hlk (As := [.int (zL_bw v1 6), .int (zL_bw (v1 >>> ((3 : Int32) &&& 31)) 20)]) (rest := []) (zx_X8_foul hst _ _ _ _ e24) (cwV 2 hts gL_act_X8_foul rfl rfl rfl zd_X8_foul ⟨(Nat.le_of_ble_eq_true rfl), (Nat.le_of_ble_eq_true rfl)⟩) hw 0 rfl rfl rfl hl rfl (Nat.le_of_ble_eq_true rfl) dL_act_217 ⟨(Nat.le_of_ble_eq_true rfl), (Nat.le_of_ble_eq_true rfl)⟩ (fun y23 H locs hw => ?_) (zl_act_h C hr hl (Option.some.inj hf))
    refine lv_pop hx hb dL_act_220 rfl ?_
    refine lv_goto (tgt := 315) hx hb dL_act_221 (by decide) ?_
    refine lv_goto (tgt := 327) hx hb dL_act_315 (by decide) ?_
    rw [← (Option.some.inj hf)]
    refine W.widen (k := 1) (n := 6) (Nat.le_of_ble_eq_true rfl) (Nat.le_of_ble_eq_true rfl) ?_
    exact zl_retv C hr hw dL_act_327
  rw [if_neg h7_10] at hf
  by_cases h7_11 : v2 = 11
  · rw [if_pos h7_11] at hf
    refine lv_tableIn (tgt := 224) hx hb dL_act_7 (by rw [h7_11]; decide) (by rw [h7_11]; decide) (by rw [h7_11]; rfl) (by decide) ?_
    refine lv_aload_n hx hb dL_act_224 rfl (lv_at hl 1 rfl) ?_
    refine lv_iload_n hx hb dL_act_225 rfl (lv_at hl 2 rfl) ?_
    refine lv_iconst (v := 1) hx hb dL_act_226 (by decide) ?_
    refine lv_aload_n hx hb dL_act_227 rfl (lv_at hl 1 rfl) ?_
    refine lv_iconst (v := 5) hx hb dL_act_228 (by decide) ?_
    obtain ⟨x25, e26, hf⟩ := zz_bo hf
    refine zl_Vi C (As := [.int 5]) (rest := [.int 1, .int v1, .ref (q 0)]) (zc_X8_many _ _ _ e26) (cwV 1 hts gL_act_X8_many rfl rfl rfl zd_X8_many ⟨(Nat.le_of_ble_eq_true rfl), (Nat.le_of_ble_eq_true rfl)⟩) hw 0 rfl rfl rfl hl rfl (Nat.le_of_ble_eq_true rfl) dL_act_229 ⟨(Nat.le_of_ble_eq_true rfl), (Nat.le_of_ble_eq_true rfl)⟩ (fun H locs hw => ?_)
    refine va_mmax hx hb (hml.trans hl.1.symm) hown (hts _ zq_L_act_max.1) (hts _ zq_L_act_max.2.1) (hts _ zq_L_act_max.2.2.1) (hts _ zq_L_act_max.2.2.2) (by decide) (Nat.le_of_ble_eq_true rfl) (Nat.le_of_ble_eq_true rfl) (Nat.le_of_ble_eq_true rfl) dL_act_232 ?_
    refine zl_below C (zl_max1 _) gL_act_L_below ⟨(Nat.le_of_ble_eq_true rfl), (Nat.le_of_ble_eq_true rfl)⟩ hw hl (Nat.le_of_ble_eq_true rfl) dL_act_235 ⟨(Nat.le_of_ble_eq_true rfl), (Nat.le_of_ble_eq_true rfl)⟩ (fun H locs hw => ?_)
    refine lv_iconst (v := 1) hx hb dL_act_238 (by decide) ?_
    refine lv_iload_n hx hb dL_act_239 rfl (lv_at hl 2 rfl) ?_
    refine lv_iconst (v := 4) hx hb dL_act_240 (by decide) ?_
    refine lv_ishr hx hb dL_act_241 ?_
    refine lv_bipush (v := 20) hx hb dL_act_242 (by decide) ?_
    refine zl_below C (by decide) gL_act_L_below ⟨(Nat.le_of_ble_eq_true rfl), (Nat.le_of_ble_eq_true rfl)⟩ hw hl (Nat.le_of_ble_eq_true rfl) dL_act_244 ⟨(Nat.le_of_ble_eq_true rfl), (Nat.le_of_ble_eq_true rfl)⟩ (fun H locs hw => ?_)
    refine lv_iadd hx hb dL_act_247 ?_
    obtain ⟨x27, e28, hf⟩ := zz_bo hf
    refine zl_Vy C rfl hxt (by decide) hlk (As := [.int (zL_bw v1 (zz_max 1 x25)), .int (1 + (zL_bw (v1 >>> ((4 : Int32) &&& 31)) 20))]) (rest := []) (zx_X8_box hst _ _ _ _ e28) (cwV 2 hts gL_act_X8_box rfl rfl rfl zd_X8_box ⟨(Nat.le_of_ble_eq_true rfl), (Nat.le_of_ble_eq_true rfl)⟩) hw 0 rfl rfl rfl hl rfl (Nat.le_of_ble_eq_true rfl) dL_act_248 ⟨(Nat.le_of_ble_eq_true rfl), (Nat.le_of_ble_eq_true rfl)⟩ (fun y27 H locs hw => ?_) (zl_act_h C hr hl (Option.some.inj hf))
    refine lv_pop hx hb dL_act_251 rfl ?_
    refine lv_goto (tgt := 315) hx hb dL_act_252 (by decide) ?_
    refine lv_goto (tgt := 327) hx hb dL_act_315 (by decide) ?_
    rw [← (Option.some.inj hf)]
    refine W.widen (k := 1) (n := 6) (Nat.le_of_ble_eq_true rfl) (Nat.le_of_ble_eq_true rfl) ?_
    exact zl_retv C hr hw dL_act_327
  rw [if_neg h7_11] at hf
  by_cases h7_12 : v2 = 12
  · rw [if_pos h7_12] at hf
    refine lv_tableIn (tgt := 255) hx hb dL_act_7 (by rw [h7_12]; decide) (by rw [h7_12]; decide) (by rw [h7_12]; rfl) (by decide) ?_
    refine lv_aload_n hx hb dL_act_255 rfl (lv_at hl 1 rfl) ?_
    refine lv_iload_n hx hb dL_act_256 rfl (lv_at hl 2 rfl) ?_
    refine lv_iconst (v := 3) hx hb dL_act_257 (by decide) ?_
    refine zl_below C (by decide) gL_act_L_below ⟨(Nat.le_of_ble_eq_true rfl), (Nat.le_of_ble_eq_true rfl)⟩ hw hl (Nat.le_of_ble_eq_true rfl) dL_act_258 ⟨(Nat.le_of_ble_eq_true rfl), (Nat.le_of_ble_eq_true rfl)⟩ (fun H locs hw => ?_)
    refine lv_iload_n hx hb dL_act_261 rfl (lv_at hl 2 rfl) ?_
    refine lv_iconst (v := 2) hx hb dL_act_262 (by decide) ?_
    refine lv_ishr hx hb dL_act_263 ?_
    refine lv_iconst (v := 3) hx hb dL_act_264 (by decide) ?_
    refine zl_below C (by decide) gL_act_L_below ⟨(Nat.le_of_ble_eq_true rfl), (Nat.le_of_ble_eq_true rfl)⟩ hw hl (Nat.le_of_ble_eq_true rfl) dL_act_265 ⟨(Nat.le_of_ble_eq_true rfl), (Nat.le_of_ble_eq_true rfl)⟩ (fun H locs hw => ?_)
    refine lv_iload_n hx hb dL_act_268 rfl (lv_at hl 0 rfl) ?_
    refine lv_sipush (v := 144) hx hb dL_act_269 (by decide) ?_
    refine lv_idiv hx hb dL_act_272 (by decide) ?_
    refine lv_iconst (v := 1) hx hb dL_act_273 (by decide) ?_
    refine lv_iadd hx hb dL_act_274 ?_
    refine lv_iload_n hx hb dL_act_275 rfl (lv_at hl 2 rfl) ?_
    refine lv_iconst (v := 4) hx hb dL_act_276 (by decide) ?_
    refine lv_ishr hx hb dL_act_277 ?_
    refine lv_iconst (v := 2) hx hb dL_act_278 (by decide) ?_
    refine zl_below C (by decide) gL_act_L_below ⟨(Nat.le_of_ble_eq_true rfl), (Nat.le_of_ble_eq_true rfl)⟩ hw hl (Nat.le_of_ble_eq_true rfl) dL_act_279 ⟨(Nat.le_of_ble_eq_true rfl), (Nat.le_of_ble_eq_true rfl)⟩ (fun H locs hw => ?_)
    refine lv_iadd hx hb dL_act_282 ?_
    refine lv_iconst (v := 1) hx hb dL_act_283 (by decide) ?_
    refine lv_iload_n hx hb dL_act_284 rfl (lv_at hl 2 rfl) ?_
    refine lv_iconst (v := 5) hx hb dL_act_285 (by decide) ?_
    refine lv_ishr hx hb dL_act_286 ?_
    refine lv_bipush (v := 30) hx hb dL_act_287 (by decide) ?_
    refine zl_below C (by decide) gL_act_L_below ⟨(Nat.le_of_ble_eq_true rfl), (Nat.le_of_ble_eq_true rfl)⟩ hw hl (Nat.le_of_ble_eq_true rfl) dL_act_289 ⟨(Nat.le_of_ble_eq_true rfl), (Nat.le_of_ble_eq_true rfl)⟩ (fun H locs hw => ?_)
    refine lv_iadd hx hb dL_act_292 ?_
    obtain ⟨x29, e30, hf⟩ := zz_bo hf
    refine zl_Vy C rfl hxt (by decide) hlk (As := [.int (zL_bw v1 3), .int (zL_bw (v1 >>> ((2 : Int32) &&& 31)) 3), .int (((x1 / 144) + 1) + (zL_bw (v1 >>> ((4 : Int32) &&& 31)) 2)), .int (1 + (zL_bw (v1 >>> ((5 : Int32) &&& 31)) 30))]) (rest := []) (zx_X8_foe hst _ _ _ _ _ _ e30) (cwV 4 hts gL_act_X8_foe rfl rfl rfl zd_X8_foe ⟨(Nat.le_of_ble_eq_true rfl), (Nat.le_of_ble_eq_true rfl)⟩) hw 0 rfl rfl rfl hl rfl (Nat.le_of_ble_eq_true rfl) dL_act_293 ⟨(Nat.le_of_ble_eq_true rfl), (Nat.le_of_ble_eq_true rfl)⟩ (fun y29 H locs hw => ?_) (zl_act_h C hr hl (Option.some.inj hf))
    refine lv_pop hx hb dL_act_296 rfl ?_
    refine lv_goto (tgt := 315) hx hb dL_act_297 (by decide) ?_
    refine lv_goto (tgt := 327) hx hb dL_act_315 (by decide) ?_
    rw [← (Option.some.inj hf)]
    refine W.widen (k := 1) (n := 6) (Nat.le_of_ble_eq_true rfl) (Nat.le_of_ble_eq_true rfl) ?_
    exact zl_retv C hr hw dL_act_327
  rw [if_neg h7_12] at hf
  have g7_0 : ¬ (v2 : Int32).toInt = 0 := lv_neT h7_0 rfl
  have g7_1 : ¬ (v2 : Int32).toInt = 1 := lv_neT h7_1 rfl
  have g7_2 : ¬ (v2 : Int32).toInt = 2 := lv_neT h7_2 rfl
  have g7_3 : ¬ (v2 : Int32).toInt = 3 := lv_neT h7_3 rfl
  have g7_4 : ¬ (v2 : Int32).toInt = 4 := lv_neT h7_4 rfl
  have g7_5 : ¬ (v2 : Int32).toInt = 5 := lv_neT h7_5 rfl
  have g7_6 : ¬ (v2 : Int32).toInt = 6 := lv_neT h7_6 rfl
  have g7_7 : ¬ (v2 : Int32).toInt = 7 := lv_neT h7_7 rfl
  have g7_8 : ¬ (v2 : Int32).toInt = 8 := lv_neT h7_8 rfl
  have g7_9 : ¬ (v2 : Int32).toInt = 9 := lv_neT h7_9 rfl
  have g7_10 : ¬ (v2 : Int32).toInt = 10 := lv_neT h7_10 rfl
  have g7_11 : ¬ (v2 : Int32).toInt = 11 := lv_neT h7_11 rfl
  have g7_12 : ¬ (v2 : Int32).toInt = 12 := lv_neT h7_12 rfl
  refine lv_tableOut (tgt := 300) hx hb dL_act_7 (by omega) (by decide) ?_
  refine lv_aload_n hx hb dL_act_300 rfl (lv_at hl 1 rfl) ?_
  refine lv_iconst (v := 1) hx hb dL_act_301 (by decide) ?_
  refine lv_iload_n hx hb dL_act_302 rfl (lv_at hl 2 rfl) ?_
  refine lv_iconst (v := 2) hx hb dL_act_303 (by decide) ?_
  refine lv_ishr hx hb dL_act_304 ?_
  refine lv_bipush (v := 60) hx hb dL_act_305 (by decide) ?_
  refine zl_below C (by decide) gL_act_L_below ⟨(Nat.le_of_ble_eq_true rfl), (Nat.le_of_ble_eq_true rfl)⟩ hw hl (Nat.le_of_ble_eq_true rfl) dL_act_307 ⟨(Nat.le_of_ble_eq_true rfl), (Nat.le_of_ble_eq_true rfl)⟩ (fun H locs hw => ?_)
  refine lv_iadd hx hb dL_act_310 ?_
  obtain ⟨x31, e32, hf⟩ := zz_bo hf
  refine zl_Vy C rfl hxt (by decide) hlk (As := [.int (1 + (zL_bw (v1 >>> ((2 : Int32) &&& 31)) 60))]) (rest := []) (zx_X8_pass hst _ _ _ e32) (cwV 1 hts gL_act_X8_pass rfl rfl rfl zd_X8_pass ⟨(Nat.le_of_ble_eq_true rfl), (Nat.le_of_ble_eq_true rfl)⟩) hw 0 rfl rfl rfl hl rfl (Nat.le_of_ble_eq_true rfl) dL_act_311 ⟨(Nat.le_of_ble_eq_true rfl), (Nat.le_of_ble_eq_true rfl)⟩ (fun y31 H locs hw => ?_) (zl_act_h C hr hl (Option.some.inj hf))
  refine lv_pop hx hb dL_act_314 rfl ?_
  refine lv_goto (tgt := 327) hx hb dL_act_315 (by decide) ?_
  rw [← (Option.some.inj hf)]
  refine W.widen (k := 1) (n := 6) (Nat.le_of_ble_eq_true rfl) (Nat.le_of_ble_eq_true rfl) ?_
  exact zl_retv C hr hw dL_act_327
