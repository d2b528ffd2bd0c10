/-! THE LAW'S BODY -/
theorem zn_callX {p : Program} {l : Launch} {e : Env} {R : Room} {s : State} {m : MethodId} {args : Array Value} {below : List Frame} {meth : Method} {c : Code} {A : Nat → Prop} {D : va_G} {cI : ClassId} {cc : ByteArray} {nL : Nat} {Ts : List Cond} {own : String} {H : Heap} {locs : List Loc} {cells slots : Nat} {Q : State → Prop} {pc : Nat} {ls : Array Slot} {rest : List Value} {w : va_W}
    {Sc : Type} {ex : List Cond} {w0c wr : va_W} {w1c : Sc → va_W} {mc ms n b index maxL : Nat} {y : MethodName} {bytes : ByteArray} {ws : List Cond} {rm : Room} {As st0 : List Value} (hex : ∀ w ∈ ex, w.onTables = true) (hexw : ∀ U : State, s.WarmedH U.vm → ∀ w ∈ ex, va_Nw w U) (C : CallFix p m c cc nL s args Ts own) (hA : ∀ q : Nat, s.heap.size ≤ q → A q) (hK : va_K D vwCl [(cI, .int)] s) (hM : zn_M l D cI ex y ws rm (.ref b :: As) w0c w1c mc ms) (cw : CallB R s args own index y bytes maxL none ws rm mc ms n ∧ y.name = "<init>" ∧ (Cond.instanceMethod y).before args s = true)
    (hP : va_P D vwCl w H) (hD : va_D A w) (hS : va_S A s.heap H locs) (isC isR : List Nat) (hC0 : isC.filterMap (fun i => w[i]?) = w0c) (hC : isC.map (fun i => w[i]?) = w0c.map some) (hnC : va_nd isC = true) (hR : isR.map (fun i => w[i]?) = wr.map some) (hn : va_nd isR = true) (hdis : ∀ i ∈ isR, i ∉ isC)
    (hAs : As.length = n) {lv : List (Nat × Value)} (hl : lv_has ls nL lv) (hst : st0 = As.reverse ++ .ref b :: rest) (hW : (rest.map fun v => v.category).sum ≤ 8) (hdg : decode cc pc = .ok (.invokespecial index, 3)) (hcs : cells + mc ≤ R.cells ∧ slots + ms ≤ R.slots)
    (kk : ∀ (u : Sc) (H1 : Heap) (locs1 : List Loc), va_P D vwCl (wr ++ w1c u) H1 → va_D A (wr ++ w1c u) → va_S A s.heap H1 locs1 → W p l e R s m args below meth c H1 locs1 (cells + mc) (slots + ms) Q (F0 m (pc + 3) ls rest)) : W p l e R s m args below meth c H locs cells slots Q (F0 m pc ls st0) :=
  zn_after hA (va_runI (As := As) (rest := rest) C (hM H.size) cw ⟨zn_blind _ hex, fun U hU hW => ⟨rfl, by rw [hU], by rw [hU]; exact hP.sub isC hC0, hK.moved hW.alike, (hD.sub isC hnC hC).weaken (fun _ _ _ _ => trivial), hexw U hW⟩⟩ rfl hAs hl.1 hst (lv_room (pc := pc) (ls := ls) (m := m) hW) hdg hcs) hP hD hS isC isR hC hR hn hdis kk
theorem zz_B.call {A : Nat → Prop} {D : va_G} {cI : ClassId} {q : Nat → Nat} {st : zz_T} {U : State} {g : JFrame} {mk : MethodId} {a : Array Value} (h : zz_B A D cI q st U) : zz_B A D cI q st (U.calling g mk a) := by
  obtain ⟨h0, h1, h3, h4, h5⟩ := h
  exact ⟨h0, h1, va_K.moved (u := U) (U := U.calling g mk a) (Vm.Alike.refl U.vm) h3, h4, zz_E.blind h5⟩
/-- the law's functions -/
def zL_rail (L : Nat) (sc : Nat → Int32) : Nat → Nat → zz_T → Option zz_T
  | 0, _, st => some st
  | d + 1, k, st => (zX8_railhead (nI k) (zL_bw (zL_cell L sc (nI k + 3)) 6) (6 + zL_bw (zL_cell L sc (nI k + 6)) 60) st).bind fun x => zL_rail L sc d (k + 1) x.2
def zL_units (L : Nat) (sc : Nat → Int32) : Nat → Nat → (Nat → Int32) → zz_T → Option ((Nat → Int32) × zz_T)
  | 0, _, f, st => some (f, st)
  | d + 1, k, f, st => (zX8_unit (upd f k (zL_bw (zL_cell L sc (nI k + 2)) 5) k) (1 + zL_bw (zL_cell L sc (nI k + 5)) 5) (zL_bw (zL_cell L sc (nI k + 8)) 6) (zL_bw (zL_cell L sc (nI k)) 3) st).bind fun x => zL_units L sc d (k + 1) (upd f k (zL_bw (zL_cell L sc (nI k + 2)) 5)) x.2
def zL_x (L : Nat) (sc : Nat → Int32) (k : Nat) : Int32 := zL_cell L sc (nI k - nI k / 16 * 16) + 37 * nI k
def zL_turns (L : Nat) (sc : Nat → Int32) (f : Nat → Int32) : Nat → Nat → zz_T → Option Bool
  | 0, _, st => zX8_isSound st
  | d + 1, k, st => (zL_act (zL_x L sc k >>> ((2 : Int32) &&& 31)) (zL_bw (zL_x L sc k) 16) st).bind fun st1 =>
    if nI k - nI k / 6 * 6 = 5 then (zL_isAsked f st1).bind fun r => if r.1 = true then zL_turns L sc f d (k + 1) r.2 else some false
    else zL_turns L sc f d (k + 1) st1
def zL_law (L : Nat) (sc : Nat → Int32) : Option Bool :=
  (zX8_land (1 + zL_bw (zL_cell L sc 1) 4) (zL_bw (zL_cell L sc 2) 3) zn_0).bind fun x =>
  (zL_rail L sc 3 0 x.2).bind fun st =>
  (zL_units L sc 6 0 (fun _ => 0) st).bind fun u =>
  zL_turns L sc u.1 60 0 u.2
theorem zL_np (k c : Nat) (h : k + c < 2 ^ 31) : ¬ (nI k + nI c) < 0 := by rw [nI_add]; exact nI_pos h
theorem zL_k60 : ∀ k, k < 60 → ¬ (nI k - nI k / 16 * 16) < 0 := by decide +kernel
theorem zl_axt : ∀ w ∈ zl_ax, w.onTables = true := by decide +kernel
/-- where the law's body stands: its world, its script -/
abbrev zL_C (A : Nat → Prop) (D : va_G) (cI : ClassId) (p : Program) (s : State) (m : MethodId) (args : Array Value) (meth : Method) (c : Code) (b L : Nat) (sc : Nat → Int32) : Prop :=
  zl_C A D cI p s m args meth c code 5 wsL_law RL ∧ va_X b L sc s s.heap ∧ b < s.heap.size ∧ ¬ A b ∧ L < 2 ^ 31
section ZLL
variable {p : Program} {l : Launch} {e : Env} {s : State} {m : MethodId} {args : Array Value} {below : List Frame} {meth : Method} {c : Code}
variable {A : Nat → Prop} {D : va_G} {cI : ClassId} {q : Nat → Nat} {b L : Nat} {sc : Nat → Int32} {Q : State → Prop}
set_option maxHeartbeats 4000000 in
set_option maxRecDepth 100000 in
theorem zL_rail_t (C0 : zL_C A D cI p s m args meth c b L sc) : ∀ (d k : Nat), k + d = 3 → ∀ (st r : zz_T) (H : Heap) (locs : List Loc) (ls : Array Slot), zL_rail L sc d k st = some r → zl_W A D cI q [] st s.heap H locs → lv_has ls 5 [(2, .int (nI k)), (0, .ref b), (1, .ref (q 0))] →
    (∀ (H : Heap) (locs : List Loc) (ls : Array Slot), zl_W A D cI q [] r s.heap H locs → lv_has ls 5 [(0, .ref b), (1, .ref (q 0))] → W p l e room_1 s m args below meth c H locs 57 7272 Q (F0 m 80 ls [])) → W p l e room_1 s m args below meth c H locs 57 7272 Q (F0 m 35 ls []) := by
  obtain ⟨C, hX, hbl, hbA, hL⟩ := C0
  obtain ⟨hx, hb, hml, hown, hts⟩ := id C.1
  intro d
  induction d with
  | zero =>
    intro k hk st r H locs ls hf hw hl kk
    obtain rfl : k = 3 := by omega
    cases hf
    refine lv_iload_n hx hb dL_law_35 rfl (lv_at hl 0 rfl) ?_
    refine lv_iconst (v := 3) hx hb dL_law_36 (by decide) ?_
    refine lv_icmp_ge (tgt := 80) hx hb dL_law_37 (by decide) (fun _ => ?_) (fun h => absurd (by decide) h)
    exact kk H locs ls hw (lv_sub hl [1, 2] rfl)
  | succ d ih =>
    intro k hk st r H locs ls hf hw hl kk
    rw [zL_rail] at hf
    obtain ⟨x, ex, hf⟩ := zz_bo hf
    refine lv_iload_n hx hb dL_law_35 rfl (lv_at hl 0 rfl) ?_
    refine lv_iconst (v := 3) hx hb dL_law_36 (by decide) ?_
    refine lv_icmp_ge (tgt := 80) hx hb dL_law_37 (by decide) (fun h => absurd h (nI_ge (a := k) (b := 3) (by omega) (by decide))) (fun _ => ?_)
    refine lv_aload_n hx hb dL_law_40 rfl (lv_at hl 2 rfl) ?_
    refine lv_iload_n hx hb dL_law_41 rfl (lv_at hl 0 rfl) ?_
    refine lv_aload_n hx hb dL_law_42 rfl (lv_at hl 1 rfl) ?_
    refine lv_iload_n hx hb dL_law_43 rfl (lv_at hl 0 rfl) ?_
    refine lv_iconst (v := 3) hx hb dL_law_44 (by decide) ?_
    refine lv_iadd hx hb dL_law_45 ?_
    refine zl_cell C hX hbl hbA hL (zL_np k 3 (by omega)) gL_law_L_cell ⟨Nat.le_of_ble_eq_true rfl, Nat.le_of_ble_eq_true rfl⟩ hw hl (Nat.le_of_ble_eq_true rfl) dL_law_46 ⟨Nat.le_of_ble_eq_true rfl, Nat.le_of_ble_eq_true rfl⟩ (fun H locs hw => ?_)
    refine lv_bipush (v := 6) hx hb dL_law_49 (by decide) ?_
    refine zl_below C (by decide) gL_law_L_below ⟨Nat.le_of_ble_eq_true rfl, Nat.le_of_ble_eq_true rfl⟩ hw hl (Nat.le_of_ble_eq_true rfl) dL_law_51 ⟨Nat.le_of_ble_eq_true rfl, Nat.le_of_ble_eq_true rfl⟩ (fun H locs hw => ?_)
    refine lv_bipush (v := 6) hx hb dL_law_54 (by decide) ?_
    refine lv_aload_n hx hb dL_law_56 rfl (lv_at hl 1 rfl) ?_
    refine lv_iload_n hx hb dL_law_57 rfl (lv_at hl 0 rfl) ?_
    refine lv_bipush (v := 6) hx hb dL_law_58 (by decide) ?_
    refine lv_iadd hx hb dL_law_60 ?_
    refine zl_cell C hX hbl hbA hL (zL_np k 6 (by omega)) gL_law_L_cell ⟨Nat.le_of_ble_eq_true rfl, Nat.le_of_ble_eq_true rfl⟩ hw hl (Nat.le_of_ble_eq_true rfl) dL_law_61 ⟨Nat.le_of_ble_eq_true rfl, Nat.le_of_ble_eq_true rfl⟩ (fun H locs hw => ?_)
    refine lv_bipush (v := 60) hx hb dL_law_64 (by decide) ?_
    refine zl_below C (by decide) gL_law_L_below ⟨Nat.le_of_ble_eq_true rfl, Nat.le_of_ble_eq_true rfl⟩ hw hl (Nat.le_of_ble_eq_true rfl) dL_law_66 ⟨Nat.le_of_ble_eq_true rfl, Nat.le_of_ble_eq_true rfl⟩ (fun H locs hw => ?_)
    refine lv_iadd hx hb dL_law_69 ?_
    refine zl_Vi C (As := [.int (nI k), .int (zL_bw (zL_cell L sc (nI k + 3)) 6), .int (6 + zL_bw (zL_cell L sc (nI k + 6)) 60)]) (rest := []) (zc_X8_railhead _ _ _ _ _ ex) (cwV 3 hts gL_law_X8_railhead rfl rfl rfl zd_X8_railhead ⟨Nat.le_of_ble_eq_true rfl, Nat.le_of_ble_eq_true rfl⟩) hw 0 rfl rfl rfl hl rfl (Nat.le_of_ble_eq_true rfl) dL_law_70 ⟨Nat.le_of_ble_eq_true rfl, Nat.le_of_ble_eq_true rfl⟩ (fun H locs hw => ?_)
    refine lv_pop hx hb dL_law_73 rfl ?_
    refine lv_iinc (v := nI (k + 1)) (lv' := [(2, .int (nI (k + 1))), (0, .ref b), (1, .ref (q 0))]) hx hb dL_law_74 hl (k := 0) rfl (nI_1 k ▸ congrArg (fun z => nI k + z) (by decide)) (by decide) rfl (fun ls hl => ?_)
    refine lv_goto (tgt := 35) hx hb dL_law_77 (by decide) ?_
    exact ih (k + 1) (by omega) _ _ _ _ _ hf hw hl kk
set_option maxHeartbeats 4000000 in
set_option maxRecDepth 100000 in
theorem zL_units_t (C0 : zL_C A D cI p s m args meth c b L sc) (a2 : Nat) : ∀ (d k : Nat), k + d = 6 → ∀ (f : Nat → Int32) (st : zz_T) (r : (Nat → Int32) × zz_T) (H : Heap) (locs : List Loc) (ls : Array Slot), zL_units L sc d k f st = some r → zl_W A D cI q [(a2, .inl (cI, 6, .inl f))] st s.heap H locs → lv_has ls 5 [(3, .int (nI k)), (2, .ref a2), (0, .ref b), (1, .ref (q 0))] →
    (∀ (H : Heap) (locs : List Loc) (ls : Array Slot), zl_W A D cI q [(a2, .inl (cI, 6, .inl r.1))] r.2 s.heap H locs → lv_has ls 5 [(2, .ref a2), (0, .ref b), (1, .ref (q 0))] → W p l e room_1 s m args below meth c H locs 58 7278 Q (F0 m 156 ls [])) → W p l e room_1 s m args below meth c H locs 58 7278 Q (F0 m 87 ls []) := by
  obtain ⟨C, hX, hbl, hbA, hL⟩ := C0
  obtain ⟨hx, hb, hml, hown, hts⟩ := id C.1
  intro d
  induction d with
  | zero =>
    intro k hk f st r H locs ls hf hw hl kk
    obtain rfl : k = 6 := by omega
    cases hf
    refine lv_iload_n hx hb dL_law_87 rfl (lv_at hl 0 rfl) ?_
    refine lv_bipush (v := 6) hx hb dL_law_88 (by decide) ?_
    refine lv_icmp_ge (tgt := 156) hx hb dL_law_90 (by decide) (fun _ => ?_) (fun h => absurd (by decide) h)
    exact kk H locs ls hw (lv_sub hl [1, 2, 3] rfl)
  | succ d ih =>
    intro k hk f st r H locs ls hf hw hl kk
    rw [zL_units] at hf
    obtain ⟨x, ex, hf⟩ := zz_bo hf
    have hkc : (nI k).toNatClampNeg = k := nI_clamp (by omega)
    have hvp : vp_in (nI k) 6 := nI_in (by omega) (by decide)
    refine lv_iload_n hx hb dL_law_87 rfl (lv_at hl 0 rfl) ?_
    refine lv_bipush (v := 6) hx hb dL_law_88 (by decide) ?_
    refine lv_icmp_ge (tgt := 156) hx hb dL_law_90 (by decide) (fun h => absurd h (nI_ge (a := k) (b := 6) (by omega) (by decide))) (fun _ => ?_)
    refine lv_aload_n hx hb dL_law_93 rfl (lv_at hl 1 rfl) ?_
    refine lv_iload_n hx hb dL_law_94 rfl (lv_at hl 0 rfl) ?_
    refine lv_aload_n hx hb dL_law_95 rfl (lv_at hl 2 rfl) ?_
    refine lv_iload_n hx hb dL_law_96 rfl (lv_at hl 0 rfl) ?_
    refine lv_iconst (v := 2) hx hb dL_law_97 (by decide) ?_
    refine lv_iadd hx hb dL_law_98 ?_
    refine zl_cell C hX hbl hbA hL (zL_np k 2 (by omega)) gL_law_L_cell ⟨Nat.le_of_ble_eq_true rfl, Nat.le_of_ble_eq_true rfl⟩ hw hl (Nat.le_of_ble_eq_true rfl) dL_law_99 ⟨Nat.le_of_ble_eq_true rfl, Nat.le_of_ble_eq_true rfl⟩ (fun H locs hw => ?_)
    refine lv_iconst (v := 5) hx hb dL_law_102 (by decide) ?_
    refine zl_below C (by decide) gL_law_L_below ⟨Nat.le_of_ble_eq_true rfl, Nat.le_of_ble_eq_true rfl⟩ hw hl (Nat.le_of_ble_eq_true rfl) dL_law_103 ⟨Nat.le_of_ble_eq_true rfl, Nat.le_of_ble_eq_true rfl⟩ (fun H locs hw => ?_)
    refine zl_ist C hw 0 rfl hvp dL_law_106 (fun H locs hw => ?_)
    rw [hkc] at hw
    obtain ⟨f1, hf1⟩ : ∃ f1, upd f k (zL_bw (zL_cell L sc (nI k + 2)) 5) = f1 := ⟨_, rfl⟩
    rw [hf1] at hw hf ex
    have hw : zl_W A D cI q [(a2, .inl (cI, 6, .inl f1))] st s.heap H locs := hw
    refine lv_aload_n hx hb dL_law_107 rfl (lv_at hl 3 rfl) ?_
    refine lv_aload_n hx hb dL_law_108 rfl (lv_at hl 1 rfl) ?_
    refine lv_iload_n hx hb dL_law_109 rfl (lv_at hl 0 rfl) ?_
    refine zl_ild C hw 0 rfl hvp dL_law_110 ?_
    rw [hkc]
    refine lv_iconst (v := 1) hx hb dL_law_111 (by decide) ?_
    refine lv_aload_n hx hb dL_law_112 rfl (lv_at hl 2 rfl) ?_
    refine lv_iload_n hx hb dL_law_113 rfl (lv_at hl 0 rfl) ?_
    refine lv_iconst (v := 5) hx hb dL_law_114 (by decide) ?_
    refine lv_iadd hx hb dL_law_115 ?_
    refine zl_cell C hX hbl hbA hL (zL_np k 5 (by omega)) gL_law_L_cell ⟨Nat.le_of_ble_eq_true rfl, Nat.le_of_ble_eq_true rfl⟩ hw hl (Nat.le_of_ble_eq_true rfl) dL_law_116 ⟨Nat.le_of_ble_eq_true rfl, Nat.le_of_ble_eq_true rfl⟩ (fun H locs hw => ?_)
    refine lv_iconst (v := 5) hx hb dL_law_119 (by decide) ?_
    refine zl_below C (by decide) gL_law_L_below ⟨Nat.le_of_ble_eq_true rfl, Nat.le_of_ble_eq_true rfl⟩ hw hl (Nat.le_of_ble_eq_true rfl) dL_law_120 ⟨Nat.le_of_ble_eq_true rfl, Nat.le_of_ble_eq_true rfl⟩ (fun H locs hw => ?_)
    refine lv_iadd hx hb dL_law_123 ?_
    refine lv_aload_n hx hb dL_law_124 rfl (lv_at hl 2 rfl) ?_
    refine lv_iload_n hx hb dL_law_125 rfl (lv_at hl 0 rfl) ?_
    refine lv_bipush (v := 8) hx hb dL_law_126 (by decide) ?_
    refine lv_iadd hx hb dL_law_128 ?_
    refine zl_cell C hX hbl hbA hL (zL_np k 8 (by omega)) gL_law_L_cell ⟨Nat.le_of_ble_eq_true rfl, Nat.le_of_ble_eq_true rfl⟩ hw hl (Nat.le_of_ble_eq_true rfl) dL_law_129 ⟨Nat.le_of_ble_eq_true rfl, Nat.le_of_ble_eq_true rfl⟩ (fun H locs hw => ?_)
    refine lv_bipush (v := 6) hx hb dL_law_132 (by decide) ?_
    refine zl_below C (by decide) gL_law_L_below ⟨Nat.le_of_ble_eq_true rfl, Nat.le_of_ble_eq_true rfl⟩ hw hl (Nat.le_of_ble_eq_true rfl) dL_law_134 ⟨Nat.le_of_ble_eq_true rfl, Nat.le_of_ble_eq_true rfl⟩ (fun H locs hw => ?_)
    refine lv_aload_n hx hb dL_law_137 rfl (lv_at hl 2 rfl) ?_
    refine lv_iload_n hx hb dL_law_138 rfl (lv_at hl 0 rfl) ?_
    refine zl_cell C hX hbl hbA hL (nI_pos (by omega)) gL_law_L_cell ⟨Nat.le_of_ble_eq_true rfl, Nat.le_of_ble_eq_true rfl⟩ hw hl (Nat.le_of_ble_eq_true rfl) dL_law_139 ⟨Nat.le_of_ble_eq_true rfl, Nat.le_of_ble_eq_true rfl⟩ (fun H locs hw => ?_)
    refine lv_iconst (v := 3) hx hb dL_law_142 (by decide) ?_
    refine zl_below C (by decide) gL_law_L_below ⟨Nat.le_of_ble_eq_true rfl, Nat.le_of_ble_eq_true rfl⟩ hw hl (Nat.le_of_ble_eq_true rfl) dL_law_143 ⟨Nat.le_of_ble_eq_true rfl, Nat.le_of_ble_eq_true rfl⟩ (fun H locs hw => ?_)
    refine zl_Vi C (As := [.int (f1 k), .int (1 + zL_bw (zL_cell L sc (nI k + 5)) 5), .int (zL_bw (zL_cell L sc (nI k + 8)) 6), .int (zL_bw (zL_cell L sc (nI k)) 3)]) (rest := []) (zc_X8_unit _ _ _ _ _ _ ex) (cwV 4 hts gL_law_X8_unit rfl rfl rfl zd_X8_unit ⟨Nat.le_of_ble_eq_true rfl, Nat.le_of_ble_eq_true rfl⟩) hw 0 rfl rfl rfl hl rfl (Nat.le_of_ble_eq_true rfl) dL_law_146 ⟨Nat.le_of_ble_eq_true rfl, Nat.le_of_ble_eq_true rfl⟩ (fun H locs hw => ?_)
    refine lv_pop hx hb dL_law_149 rfl ?_
    refine lv_iinc (v := nI (k + 1)) (lv' := [(3, .int (nI (k + 1))), (2, .ref a2), (0, .ref b), (1, .ref (q 0))]) hx hb dL_law_150 hl (k := 0) rfl (nI_1 k ▸ congrArg (fun z => nI k + z) (by decide)) (by decide) rfl (fun ls hl => ?_)
    refine lv_goto (tgt := 87) hx hb dL_law_153 (by decide) ?_
    exact ih (k + 1) (by omega) _ _ _ _ _ _ hf hw hl kk
set_option maxHeartbeats 4000000 in
set_option maxRecDepth 100000 in
theorem zL_turns_t (C0 : zL_C A D cI p s m args meth c b L sc) (hst : l.stackTraces = false) (hax : ∀ U : State, s.WarmedH U.vm → ∀ w ∈ zl_ax, va_Nw w U) (a2 : Nat) (f : Nat → Int32) : ∀ (d k : Nat), k + d = 60 → ∀ (cells slots : Nat), cells + 3 * d ≤ 600086 → slots + 15 * d ≤ 7301442 → ∀ (st : zz_T) (H : Heap) (locs : List Loc) (ls : Array Slot), zL_turns L sc f d k st = some true → zl_W A D cI q [(a2, .inl (cI, 6, .inl f))] st s.heap H locs → lv_has ls 5 [(3, .int (nI k)), (2, .ref a2), (0, .ref b), (1, .ref (q 0))] →
    (∀ (H : Heap) (locs : List Loc) (ls : Array Slot), va_S A s.heap H locs → W p l e room_1 s m args below meth c H locs 600086 7301442 Q (F0 m 222 ls [.int 1])) → W p l e room_1 s m args below meth c H locs cells slots Q (F0 m 158 ls []) := by
  obtain ⟨C, hX, hbl, hbA, hL⟩ := C0
  obtain ⟨hx, hb, hml, hown, hts⟩ := id C.1
  intro d
  induction d with
  | zero =>
    intro k hk cells slots hc hsl st H locs ls hf hw hl kk
    obtain rfl : k = 60 := by omega
    rw [zL_turns] at hf
    refine lv_iload_n hx hb dL_law_158 rfl (lv_at hl 0 rfl) ?_
    refine lv_bipush (v := 60) hx hb dL_law_159 (by decide) ?_
    refine lv_icmp_ge (tgt := 218) hx hb dL_law_161 (by decide) (fun _ => ?_) (fun h => absurd (by decide) h)
    refine lv_aload_n hx hb dL_law_218 rfl (lv_at hl 3 rfl) ?_
    refine zl_Vi C (As := []) (rest := []) (zc_X8_isSound _ _ hf) (cwV 0 hts gL_law_X8_isSound rfl rfl rfl zd_X8_isSound ⟨Nat.le_of_ble_eq_true rfl, Nat.le_of_ble_eq_true rfl⟩) hw 0 rfl rfl rfl hl rfl (Nat.le_of_ble_eq_true rfl) dL_law_219 ⟨hc, hsl⟩ (fun H locs hw => ?_)
    exact W.widen hc hsl (kk H locs ls hw.2.2)
  | succ d ih =>
    intro k hk cells slots hc hsl st H locs ls hf hw hl kk
    rw [zL_turns] at hf
    obtain ⟨st1, ea, hf⟩ := zz_bo hf
    have hcc : cells + 1 ≤ room_1.cells ∧ slots + 6 ≤ room_1.slots := ⟨show cells + 1 ≤ 600086 by omega, show slots + 6 ≤ 7301442 by omega⟩
    have hcs : cells ≤ room_1.cells ∧ slots ≤ room_1.slots := ⟨Nat.le_trans (Nat.le_add_right _ _) hcc.1, Nat.le_trans (Nat.le_add_right _ _) hcc.2⟩
    refine lv_iload_n hx hb dL_law_158 rfl (lv_at hl 0 rfl) ?_
    refine lv_bipush (v := 60) hx hb dL_law_159 (by decide) ?_
    refine lv_icmp_ge (tgt := 218) hx hb dL_law_161 (by decide) (fun h => absurd h (nI_ge (a := k) (b := 60) (by omega) (by decide))) (fun _ => ?_)
    refine lv_aload_n hx hb dL_law_164 rfl (lv_at hl 2 rfl) ?_
    refine lv_iload_n hx hb dL_law_165 rfl (lv_at hl 0 rfl) ?_
    refine lv_bipush (v := 16) hx hb dL_law_166 (by decide) ?_
    refine lv_irem hx hb dL_law_168 (by decide) ?_
    refine zl_cell C hX hbl hbA hL (zL_k60 k (by omega)) gL_law_L_cell ⟨Nat.le_of_ble_eq_true rfl, Nat.le_of_ble_eq_true rfl⟩ hw hl (Nat.le_of_ble_eq_true rfl) dL_law_169 hcs (fun H locs hw => ?_)
    refine lv_bipush (v := 37) hx hb dL_law_172 (by decide) ?_
    refine lv_iload_n hx hb dL_law_174 rfl (lv_at hl 0 rfl) ?_
    refine lv_imul hx hb dL_law_175 ?_
    refine lv_iadd hx hb dL_law_176 ?_
    refine lv_istore (lv' := [(4, .int (zL_x L sc k)), (3, .int (nI k)), (2, .ref a2), (0, .ref b), (1, .ref (q 0))]) hx hb dL_law_177 hl (by decide) rfl (fun ls hl => ?_)
    refine lv_aload_n hx hb dL_law_179 rfl (lv_at hl 4 rfl) ?_
    refine lv_iload hx hb dL_law_180 (lv_at hl 0 rfl) ?_
    refine lv_iconst (v := 2) hx hb dL_law_182 (by decide) ?_
    refine lv_ishr hx hb dL_law_183 ?_
    refine lv_iload hx hb dL_law_184 (lv_at hl 0 rfl) ?_
    refine lv_bipush (v := 16) hx hb dL_law_186 (by decide) ?_
    refine zl_below C (by decide) gL_law_L_below ⟨Nat.le_of_ble_eq_true rfl, Nat.le_of_ble_eq_true rfl⟩ hw hl (Nat.le_of_ble_eq_true rfl) dL_law_188 hcs (fun H locs hw => ?_)
    refine va_callv (vx_runSW (As := [.ref (q 0), .int (zL_x L sc k >>> ((2 : Int32) &&& 31)), .int (zL_bw (zL_x L sc k) 16)]) (rest := []) C.1 (zc_L_act hst (A := zl_A A [(a2, .inl (cI, 6, .inl f))]) _ _ st st1 ea) (vx_cwSW 3 hts gL_law_L_act rfl rfl rfl (by decide +kernel) ⟨Nat.le_of_ble_eq_true rfl, Nat.le_of_ble_eq_true rfl⟩) ⟨fun a U g mk h => ⟨h.1, zz_B.call h.2.1, fun w hw => va_Nw.same (zl_axt w hw) (u := U) (U := U.calling g mk a) rfl (h.2.2 w hw)⟩, fun U hU hW => ⟨rfl, zl_B C hw hU hW, hax U hW⟩⟩ rfl rfl hl.1 rfl (lv_room (Nat.le_of_ble_eq_true rfl)) dL_law_191 hcc) hw.2.2 (fun q _ h => h.1) (fun q h => h.1) (fun u t H1 locs1 ht hvm hwu hB hz hk1 hS1 => ?_)
    obtain rfl := hwu
    have hw := zl_on hw (ht ▸ hB.2.1) hk1 hS1
    have hl := lv_sub hl [1, 2, 3, 4] rfl
    refine lv_iload_n hx hb dL_law_194 rfl (lv_at hl 0 rfl) ?_
    refine lv_bipush (v := 6) hx hb dL_law_195 (by decide) ?_
    refine lv_irem hx hb dL_law_197 (by decide) ?_
    refine lv_iconst (v := 5) hx hb dL_law_198 (by decide) ?_
    have go : ∀ (st2 : zz_T) (cells2 slots2 : Nat), cells2 + 3 * d ≤ 600086 → slots2 + 15 * d ≤ 7301442 → zL_turns L sc f d (k + 1) st2 = some true → ∀ (H : Heap) (locs : List Loc), zl_W A D cI q [(a2, .inl (cI, 6, .inl f))] st2 s.heap H locs → W p l e room_1 s m args below meth c H locs cells2 slots2 Q (F0 m 212 ls []) := by
      intro st2 cells2 slots2 hc2 hs2 hf2 H locs hw
      refine lv_iinc (v := nI (k + 1)) (lv' := [(3, .int (nI (k + 1))), (2, .ref a2), (0, .ref b), (1, .ref (q 0))]) hx hb dL_law_212 hl (k := 0) rfl (nI_1 k ▸ congrArg (fun z => nI k + z) (by decide)) (by decide) rfl (fun ls hl => ?_)
      refine lv_goto (tgt := 158) hx hb dL_law_215 (by decide) ?_
      exact ih (k + 1) (by omega) cells2 slots2 hc2 hs2 st2 H locs ls hf2 hw hl kk
    refine lv_icmp_ne (tgt := 212) hx hb dL_law_199 (by decide) (fun h => ?_) (fun h => ?_)
    · rw [if_neg h] at hf
      exact go u (cells + 1) (slots + 6) (by omega) (by omega) hf _ _ hw
    · rw [if_pos h] at hf
      obtain ⟨r, er, hf⟩ := zz_bo hf
      have hr1 : r.1 = true := by
        by_cases h1 : r.1 = true
        · exact h1
        · rw [if_neg h1] at hf; cases hf
      rw [if_pos hr1] at hf
      refine lv_aload_n hx hb dL_law_202 rfl (lv_at hl 3 rfl) ?_
      refine lv_aload_n hx hb dL_law_203 rfl (lv_at hl 1 rfl) ?_
      have hkA : ¬ zl_A A [(a2, .inl (cI, 6, .inl f))] a2 := fun h => h.2 0 _ rfl rfl
      refine va_calli (va_runS (As := [.ref (q 0), .ref a2]) (rest := []) C.1 (zc_L_isAsked (A := zl_A A [(a2, .inl (cI, 6, .inl f))]) a2 f hkA u r er) (va_cwS 2 hts gL_law_L_isAsked rfl rfl rfl (by decide +kernel) ⟨Nat.le_of_ble_eq_true rfl, Nat.le_of_ble_eq_true rfl⟩) ⟨fun a U g mk h => ⟨h.1, zz_B.call h.2.1, h.2.2⟩, fun U hU hW => ⟨rfl, zl_B C hw hU hW, by rw [hU]; exact fun j y hy => hw.1 (57 + j) y (zl_ix q cI u hy)⟩⟩ rfl rfl hl.1 rfl (lv_room (Nat.le_of_ble_eq_true rfl)) dL_law_204 ⟨show cells + 1 + 2 ≤ 600086 by omega, show slots + 6 + 9 ≤ 7301442 by omega⟩) hw.2.2 (fun q _ h => h.1) (fun q h => h.1) (fun x9 u9 t9 H1 locs1 ht hvm hwu hB hz hk1 hS1 => ?_)
      obtain ⟨rfl, rfl⟩ := hwu
      have hw := zl_on hw (ht ▸ hB.2.1) hk1 hS1
      rw [hr1]
      refine lv_if_ne (tgt := 212) hx hb dL_law_207 (by decide) (fun _ => ?_) (fun h => absurd h (by decide))
      exact go r.2 (cells + 1 + 2) (slots + 6 + 9) (by omega) (by omega) hf _ _ hw
end ZLL
