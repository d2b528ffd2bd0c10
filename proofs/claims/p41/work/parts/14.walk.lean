/-! X7_countWires PR -/
theorem zd_X7_countWires : yX7_countWires.cls = RX7 ∧ yX7_countWires.cls ≠ "java/lang/invoke/MethodHandle" ∧ yX7_countWires.cls ≠ "java/lang/invoke/VarHandle" ∧ (parseMethodDescriptor yX7_countWires.desc).map (fun d => d.parameters.length) = some 0 := by decide +kernel
abbrev zr_X7_countWires : Room := { frames := 1, cells := 0, slots := 0, locals := 24 }
theorem zk_X7_countWires_23 : Cond.fieldLink yX7_countWires.cls 23 RX7 "unitCount" "I" ∈ wsX7_countWires := by decide +kernel
theorem zk_X7_countWires_16 : Cond.fieldLink yX7_countWires.cls 16 RX7 "units" "LThirteenthDay$Table;" ∈ wsX7_countWires := by decide +kernel
theorem zi_X7_countWires_X7 : ∀ w ∈ u_ws RX7 TX7 3, w ∈ wsX7_countWires := by decide +kernel
def zX7_countWires_32 (k4 : Int32 → Int32 → zz_T → Option Int32) (v2 : Int32) (k0 : Int32) (k1 : Bool) (st : zz_T) : Option Int32 :=
  zz_v (k0 + (zz_b k1)) fun w1 =>
  if (zz_g 4 v2 11 st) = (-1) then
    zz_v (w1 + 0) fun w3 =>
    k4 w3 (v2 + 1) st
  else
    zz_v (w1 + 1) fun w2 =>
    k4 w2 (v2 + 1) st
set_option maxHeartbeats 4000000 in
set_option maxRecDepth 100000 in
theorem zt_X7_countWires_32 {l : Launch} {A : Nat → Prop} {D : va_G} {cI : ClassId} {q : Nat → Nat} {p : Program} {e : Env} {s : State} {m : MethodId} {args : Array Value} {below : List Frame} {meth : Method} {c : Code} (C : zz_C A D cI q p s m args meth c cX7_countWires 3 wsX7_countWires yX7_countWires.cls) (hr : meth.sig.returnType = some .int) (k4 : Int32 → Int32 → zz_T → Option Int32) (hk4 : ∀ (v1 : Int32) (v2 : Int32) (st : zz_T) (H : Heap) (locs : List Loc) (ls : Array Slot) (r : Int32), k4 v1 v2 st = some r → va_P D vwCl (zz_c q cI st) H → va_S A s.heap H locs → lv_has ls 3 [(0, .ref (q 2)), (1, .int v1), (2, .int v2)] → W p l e zr_X7_countWires s m args below meth c H locs 0 0 (zz_Qi A D cI q r st below args s) (F0 m 4 ls [])) : ∀ (v2 : Int32) (k0 : Int32) (k1 : Bool) (st : zz_T) (H : Heap) (locs : List Loc) (ls : Array Slot) (r : Int32), zX7_countWires_32 k4 v2 k0 k1 st = some r → va_P D vwCl (zz_c q cI st) H → va_S A s.heap H locs → lv_has ls 3 [(0, .ref (q 2)), (2, .int v2)] → W p l e zr_X7_countWires s m args below meth c H locs 0 0 (zz_Qi A D cI q r st below args s) (F0 m 32 ls [.int (zz_b k1), .int k0]) := by
  obtain ⟨hx, hb, hml, hown, hts⟩ := id C.1
  intro v2 k0 k1 st H locs ls r hf hP hS hl
  rw [zX7_countWires_32] at hf
  refine lv_iadd hx hb dX7_countWires_32 ?_
  refine lv_topi (fun w1 e1 => ?_)
  replace hf := zz_vi hf e1
  refine lv_istore_n (lv' := [(1, .int w1), (0, .ref (q 2)), (2, .int v2)]) hx hb dX7_countWires_33 rfl hl (by decide) rfl (fun ls hl => ?_)
  refine lv_iload_n hx hb dX7_countWires_34 rfl (lv_at hl 0 rfl) ?_
  refine lv_aload_n hx hb dX7_countWires_35 rfl (lv_at hl 1 rfl) ?_
  refine zz_getf C zi_X7_countWires_X7 hP 2 rfl rfl 0 (nm := "units") (ds := "LThirteenthDay$Table;") (fin := true) rfl (by decide) zk_X7_countWires_16 rfl dX7_countWires_36 ?_
  refine lv_iload_n hx hb dX7_countWires_39 rfl (lv_at hl 2 rfl) ?_
  refine lv_bipush (v := 11) hx hb dX7_countWires_40 (by decide) ?_
  refine zz_callVi C (As := [.int v2, .int 11]) (rest := [.int w1]) (zc_X5_get 4 (by decide) _ _ _) (cwV 2 hts gX7_countWires_X5_get rfl rfl rfl zd_X5_get ⟨Nat.le_of_ble_eq_true rfl, Nat.le_of_ble_eq_true rfl⟩) hP hS (9 + 4) (zz_c_tab (by decide)) rfl rfl hl rfl (Nat.le_of_ble_eq_true rfl) dX7_countWires_42 ⟨Nat.zero_le _, Nat.zero_le _⟩ (fun H locs hP hS => ?_)
  refine lv_iconst (v := (-1)) hx hb dX7_countWires_45 (by decide) ?_
  refine lv_icmp_ne (tgt := 53) hx hb dX7_countWires_46 (by decide) (fun h => ?_) (fun h => ?_)
  · rw [if_neg h] at hf
    refine lv_iconst (v := 1) hx hb dX7_countWires_53 (by decide) ?_
    refine lv_iadd hx hb dX7_countWires_54 ?_
    refine lv_topi (fun w2 e2 => ?_)
    replace hf := zz_vi hf e2
    refine lv_istore_n (lv' := [(1, .int w2), (0, .ref (q 2)), (2, .int v2)]) hx hb dX7_countWires_55 rfl hl (by decide) rfl (fun ls hl => ?_)
    refine lv_iinc (v := (v2 + 1)) (lv' := [(2, .int (v2 + 1)), (1, .int w2), (0, .ref (q 2))]) hx hb dX7_countWires_56 hl (k := 2) rfl (congrArg (fun z => v2 + z) (by decide)) (by decide) rfl (fun ls hl => ?_)
    refine lv_goto (tgt := 4) hx hb dX7_countWires_59 (by decide) ?_
    exact hk4 _ _ _ _ _ _ _ hf hP hS (lv_sub hl [2, 1, 0] rfl)
  · rw [if_pos h] at hf
    refine lv_iconst (v := 0) hx hb dX7_countWires_49 (by decide) ?_
    refine lv_goto (tgt := 54) hx hb dX7_countWires_50 (by decide) ?_
    refine lv_iadd hx hb dX7_countWires_54 ?_
    refine lv_topi (fun w3 e3 => ?_)
    replace hf := zz_vi hf e3
    refine lv_istore_n (lv' := [(1, .int w3), (0, .ref (q 2)), (2, .int v2)]) hx hb dX7_countWires_55 rfl hl (by decide) rfl (fun ls hl => ?_)
    refine lv_iinc (v := (v2 + 1)) (lv' := [(2, .int (v2 + 1)), (1, .int w3), (0, .ref (q 2))]) hx hb dX7_countWires_56 hl (k := 2) rfl (congrArg (fun z => v2 + z) (by decide)) (by decide) rfl (fun ls hl => ?_)
    refine lv_goto (tgt := 4) hx hb dX7_countWires_59 (by decide) ?_
    exact hk4 _ _ _ _ _ _ _ hf hP hS (lv_sub hl [2, 1, 0] rfl)
def zX7_countWires_4 : Nat → Int32 → Int32 → zz_T → Option Int32
  | 0, _, _, _ => none
  | n + 1, v1, v2, st =>
    if (st.2 4) ≤ v2 then
      some v1
    else
      if (zz_g 4 v2 10 st) = (-1) then
        zX7_countWires_32 (fun v1' v2' st' => zX7_countWires_4 n v1' v2' st') v2 v1 false st
      else
        zX7_countWires_32 (fun v1' v2' st' => zX7_countWires_4 n v1' v2' st') v2 v1 true st
set_option maxHeartbeats 4000000 in
set_option maxRecDepth 100000 in
theorem zt_X7_countWires_4 {l : Launch} {A : Nat → Prop} {D : va_G} {cI : ClassId} {q : Nat → Nat} {p : Program} {e : Env} {s : State} {m : MethodId} {args : Array Value} {below : List Frame} {meth : Method} {c : Code} (C : zz_C A D cI q p s m args meth c cX7_countWires 3 wsX7_countWires yX7_countWires.cls) (hr : meth.sig.returnType = some .int) : ∀ (n : Nat) (v1 : Int32) (v2 : Int32) (st : zz_T) (H : Heap) (locs : List Loc) (ls : Array Slot) (r : Int32), zX7_countWires_4 n v1 v2 st = some r → va_P D vwCl (zz_c q cI st) H → va_S A s.heap H locs → lv_has ls 3 [(0, .ref (q 2)), (1, .int v1), (2, .int v2)] → W p l e zr_X7_countWires s m args below meth c H locs 0 0 (zz_Qi A D cI q r st below args s) (F0 m 4 ls []) := by
  obtain ⟨hx, hb, hml, hown, hts⟩ := id C.1
  intro n
  induction n with
  | zero => intro v1 v2 st H locs ls r hf; cases hf
  | succ n ih =>
    intro v1 v2 st H locs ls r hf hP hS hl
    rw [zX7_countWires_4] at hf
    refine lv_iload_n hx hb dX7_countWires_4 rfl (lv_at hl 2 rfl) ?_
    refine lv_aload_n hx hb dX7_countWires_5 rfl (lv_at hl 0 rfl) ?_
    refine zz_getf C zi_X7_countWires_X7 hP 2 rfl rfl 2 (nm := "unitCount") (ds := "I") (fin := false) rfl (by decide) zk_X7_countWires_23 rfl dX7_countWires_6 ?_
    refine lv_icmp_ge (tgt := 62) hx hb dX7_countWires_9 (by decide) (fun h => ?_) (fun h => ?_)
    · rw [if_pos h] at hf
      refine lv_iload_n hx hb dX7_countWires_62 rfl (lv_at hl 1 rfl) ?_
      rw [← (Option.some.inj hf)]
      exact zz_reti C hr hP hS dX7_countWires_63
    · rw [if_neg h] at hf
      refine lv_iload_n hx hb dX7_countWires_12 rfl (lv_at hl 1 rfl) ?_
      refine lv_aload_n hx hb dX7_countWires_13 rfl (lv_at hl 0 rfl) ?_
      refine zz_getf C zi_X7_countWires_X7 hP 2 rfl rfl 0 (nm := "units") (ds := "LThirteenthDay$Table;") (fin := true) rfl (by decide) zk_X7_countWires_16 rfl dX7_countWires_14 ?_
      refine lv_iload_n hx hb dX7_countWires_17 rfl (lv_at hl 2 rfl) ?_
      refine lv_bipush (v := 10) hx hb dX7_countWires_18 (by decide) ?_
      refine zz_callVi C (As := [.int v2, .int 10]) (rest := [.int v1]) (zc_X5_get 4 (by decide) _ _ _) (cwV 2 hts gX7_countWires_X5_get rfl rfl rfl zd_X5_get ⟨Nat.le_of_ble_eq_true rfl, Nat.le_of_ble_eq_true rfl⟩) hP hS (9 + 4) (zz_c_tab (by decide)) rfl rfl hl rfl (Nat.le_of_ble_eq_true rfl) dX7_countWires_20 ⟨Nat.zero_le _, Nat.zero_le _⟩ (fun H locs hP hS => ?_)
      refine lv_iconst (v := (-1)) hx hb dX7_countWires_23 (by decide) ?_
      refine lv_icmp_ne (tgt := 31) hx hb dX7_countWires_24 (by decide) (fun h => ?_) (fun h => ?_)
      · rw [if_neg h] at hf
        refine lv_iconst (v := 1) hx hb dX7_countWires_31 (by decide) ?_
        exact zt_X7_countWires_32 C hr _ ih _ _ _ _ _ _ _ _ hf hP hS (lv_sub hl [0, 2] rfl)
      · rw [if_pos h] at hf
        refine lv_iconst (v := 0) hx hb dX7_countWires_27 (by decide) ?_
        refine lv_goto (tgt := 32) hx hb dX7_countWires_28 (by decide) ?_
        exact zt_X7_countWires_32 C hr _ ih _ _ _ _ _ _ _ _ hf hP hS (lv_sub hl [0, 2] rfl)
def zX7_countWires (st : zz_T) : Option Int32 :=
  zX7_countWires_4 zz_N 0 0 st
set_option maxHeartbeats 4000000 in
set_option maxRecDepth 100000 in
theorem zc_X7_countWires {l : Launch} {A : Nat → Prop} {D : va_G} {cI : ClassId} {q : Nat → Nat} (st : zz_T) (r : Int32) (hf : zX7_countWires st = some r) : zz_Mi l A D cI q yX7_countWires wsX7_countWires zr_X7_countWires [.ref (q 2)] st r st := by
  refine zz_of (cc := cX7_countWires) (nL := 3) (ret := some .int) (by decide) rfl (Nat.le_of_ble_eq_true rfl) ?_
  intro p e s m args below meth c ls C hr hP hS hl
  obtain ⟨hx, hb, hml, hown, hts⟩ := id C.1
  have hl : lv_has ls 3 [(0, .ref (q 2))] := hl
  rw [zX7_countWires] at hf
  skip
  refine lv_iconst (v := 0) hx hb dX7_countWires_0 (by decide) ?_
  refine lv_istore_n (lv' := [(1, .int 0), (0, .ref (q 2))]) hx hb dX7_countWires_1 rfl hl (by decide) rfl (fun ls hl => ?_)
  refine lv_iconst (v := 0) hx hb dX7_countWires_2 (by decide) ?_
  refine lv_istore_n (lv' := [(2, .int 0), (1, .int 0), (0, .ref (q 2))]) hx hb dX7_countWires_3 rfl hl (by decide) rfl (fun ls hl => ?_)
  exact zt_X7_countWires_4 C hr zz_N _ _ _ _ _ _ _ hf hP hS (lv_sub hl [2, 1, 0] rfl)
/-! X7_sumOf PR -/
theorem zd_X7_sumOf : yX7_sumOf.cls = RX7 ∧ yX7_sumOf.cls ≠ "java/lang/invoke/MethodHandle" ∧ yX7_sumOf.cls ≠ "java/lang/invoke/VarHandle" ∧ (parseMethodDescriptor yX7_sumOf.desc).map (fun d => d.parameters.length) = some 1 := by decide +kernel
abbrev zr_X7_sumOf : Room := { frames := 1, cells := 0, slots := 0, locals := 24 }
theorem zk_X7_sumOf_23 : Cond.fieldLink yX7_sumOf.cls 23 RX7 "unitCount" "I" ∈ wsX7_sumOf := by decide +kernel
theorem zk_X7_sumOf_16 : Cond.fieldLink yX7_sumOf.cls 16 RX7 "units" "LThirteenthDay$Table;" ∈ wsX7_sumOf := by decide +kernel
theorem zi_X7_sumOf_X7 : ∀ w ∈ u_ws RX7 TX7 3, w ∈ wsX7_sumOf := by decide +kernel
def zX7_sumOf_4 : Nat → Int32 → Int32 → Int32 → zz_T → Option Int32
  | 0, _, _, _, _ => none
  | n + 1, v1, v2, v3, st =>
    if (st.2 4) ≤ v3 then
      some v2
    else
      zz_v (v2 + (zz_g 4 v3 v1 st)) fun w1 =>
      zX7_sumOf_4 n v1 w1 (v3 + 1) st
set_option maxHeartbeats 4000000 in
set_option maxRecDepth 100000 in
theorem zt_X7_sumOf_4 {l : Launch} {A : Nat → Prop} {D : va_G} {cI : ClassId} {q : Nat → Nat} {p : Program} {e : Env} {s : State} {m : MethodId} {args : Array Value} {below : List Frame} {meth : Method} {c : Code} (C : zz_C A D cI q p s m args meth c cX7_sumOf 4 wsX7_sumOf yX7_sumOf.cls) (hr : meth.sig.returnType = some .int) : ∀ (n : Nat) (v1 : Int32) (v2 : Int32) (v3 : Int32) (st : zz_T) (H : Heap) (locs : List Loc) (ls : Array Slot) (r : Int32), zX7_sumOf_4 n v1 v2 v3 st = some r → va_P D vwCl (zz_c q cI st) H → va_S A s.heap H locs → lv_has ls 4 [(0, .ref (q 2)), (1, .int v1), (2, .int v2), (3, .int v3)] → W p l e zr_X7_sumOf s m args below meth c H locs 0 0 (zz_Qi A D cI q r st below args s) (F0 m 4 ls []) := by
  obtain ⟨hx, hb, hml, hown, hts⟩ := id C.1
  intro n
  induction n with
  | zero => intro v1 v2 v3 st H locs ls r hf; cases hf
  | succ n ih =>
    intro v1 v2 v3 st H locs ls r hf hP hS hl
    rw [zX7_sumOf_4] at hf
    refine lv_iload_n hx hb dX7_sumOf_4 rfl (lv_at hl 3 rfl) ?_
    refine lv_aload_n hx hb dX7_sumOf_5 rfl (lv_at hl 0 rfl) ?_
    refine zz_getf C zi_X7_sumOf_X7 hP 2 rfl rfl 2 (nm := "unitCount") (ds := "I") (fin := false) rfl (by decide) zk_X7_sumOf_23 rfl dX7_sumOf_6 ?_
    refine lv_icmp_ge (tgt := 30) hx hb dX7_sumOf_9 (by decide) (fun h => ?_) (fun h => ?_)
    · rw [if_pos h] at hf
      refine lv_iload_n hx hb dX7_sumOf_30 rfl (lv_at hl 2 rfl) ?_
      rw [← (Option.some.inj hf)]
      exact zz_reti C hr hP hS dX7_sumOf_31
    · rw [if_neg h] at hf
      refine lv_iload_n hx hb dX7_sumOf_12 rfl (lv_at hl 2 rfl) ?_
      refine lv_aload_n hx hb dX7_sumOf_13 rfl (lv_at hl 0 rfl) ?_
      refine zz_getf C zi_X7_sumOf_X7 hP 2 rfl rfl 0 (nm := "units") (ds := "LThirteenthDay$Table;") (fin := true) rfl (by decide) zk_X7_sumOf_16 rfl dX7_sumOf_14 ?_
      refine lv_iload_n hx hb dX7_sumOf_17 rfl (lv_at hl 3 rfl) ?_
      refine lv_iload_n hx hb dX7_sumOf_18 rfl (lv_at hl 1 rfl) ?_
      refine zz_callVi C (As := [.int v3, .int v1]) (rest := [.int v2]) (zc_X5_get 4 (by decide) _ _ _) (cwV 2 hts gX7_sumOf_X5_get rfl rfl rfl zd_X5_get ⟨Nat.le_of_ble_eq_true rfl, Nat.le_of_ble_eq_true rfl⟩) hP hS (9 + 4) (zz_c_tab (by decide)) rfl rfl hl rfl (Nat.le_of_ble_eq_true rfl) dX7_sumOf_19 ⟨Nat.zero_le _, Nat.zero_le _⟩ (fun H locs hP hS => ?_)
      refine lv_iadd hx hb dX7_sumOf_22 ?_
      refine lv_topi (fun w1 e1 => ?_)
      replace hf := zz_vi hf e1
      refine lv_istore_n (lv' := [(2, .int w1), (0, .ref (q 2)), (1, .int v1), (3, .int v3)]) hx hb dX7_sumOf_23 rfl hl (by decide) rfl (fun ls hl => ?_)
      refine lv_iinc (v := (v3 + 1)) (lv' := [(3, .int (v3 + 1)), (2, .int w1), (0, .ref (q 2)), (1, .int v1)]) hx hb dX7_sumOf_24 hl (k := 3) rfl (congrArg (fun z => v3 + z) (by decide)) (by decide) rfl (fun ls hl => ?_)
      refine lv_goto (tgt := 4) hx hb dX7_sumOf_27 (by decide) ?_
      exact ih _ _ _ _ _ _ _ _ hf hP hS (lv_sub hl [2, 3, 1, 0] rfl)
def zX7_sumOf (v1 : Int32) (st : zz_T) : Option Int32 :=
  zX7_sumOf_4 zz_N v1 0 0 st
set_option maxHeartbeats 4000000 in
set_option maxRecDepth 100000 in
theorem zc_X7_sumOf {l : Launch} {A : Nat → Prop} {D : va_G} {cI : ClassId} {q : Nat → Nat} (v1 : Int32) (st : zz_T) (r : Int32) (hf : zX7_sumOf v1 st = some r) : zz_Mi l A D cI q yX7_sumOf wsX7_sumOf zr_X7_sumOf [.ref (q 2), .int v1] st r st := by
  refine zz_of (cc := cX7_sumOf) (nL := 4) (ret := some .int) (by decide) rfl (Nat.le_of_ble_eq_true rfl) ?_
  intro p e s m args below meth c ls C hr hP hS hl
  obtain ⟨hx, hb, hml, hown, hts⟩ := id C.1
  have hl : lv_has ls 4 [(0, .ref (q 2)), (1, .int v1)] := hl
  rw [zX7_sumOf] at hf
  skip
  refine lv_iconst (v := 0) hx hb dX7_sumOf_0 (by decide) ?_
  refine lv_istore_n (lv' := [(2, .int 0), (0, .ref (q 2)), (1, .int v1)]) hx hb dX7_sumOf_1 rfl hl (by decide) rfl (fun ls hl => ?_)
  refine lv_iconst (v := 0) hx hb dX7_sumOf_2 (by decide) ?_
  refine lv_istore_n (lv' := [(3, .int 0), (2, .int 0), (0, .ref (q 2)), (1, .int v1)]) hx hb dX7_sumOf_3 rfl hl (by decide) rfl (fun ls hl => ?_)
  exact zt_X7_sumOf_4 C hr zz_N _ _ _ _ _ _ _ _ hf hP hS (lv_sub hl [2, 3, 1, 0] rfl)
/-! X8_manyFact PR -/
theorem zd_X8_manyFact : yX8_manyFact.cls = RX8 ∧ yX8_manyFact.cls ≠ "java/lang/invoke/MethodHandle" ∧ yX8_manyFact.cls ≠ "java/lang/invoke/VarHandle" ∧ (parseMethodDescriptor yX8_manyFact.desc).map (fun d => d.parameters.length) = some 1 := by decide +kernel
abbrev zr_X8_manyFact : Room := { frames := 3, cells := 0, slots := 0, locals := 69 }
theorem zk_X8_manyFact_70 : Cond.fieldLink yX8_manyFact.cls 70 RX8 "tick" "I" ∈ wsX8_manyFact := by decide +kernel
theorem zk_X8_manyFact_10 : Cond.fieldLink yX8_manyFact.cls 10 RX8 "land" "LThirteenthDay$Land;" ∈ wsX8_manyFact := by decide +kernel
theorem zk_X8_manyFact_19 : Cond.fieldLink yX8_manyFact.cls 19 RX8 "units" "LThirteenthDay$Units;" ∈ wsX8_manyFact := by decide +kernel
theorem zk_X8_manyFact_36 : Cond.fieldLink yX8_manyFact.cls 36 RX8 "trains" "LThirteenthDay$Trains;" ∈ wsX8_manyFact := by decide +kernel
theorem zk_X8_manyFact_26 : Cond.fieldLink yX8_manyFact.cls 26 RX8 "paths" "LThirteenthDay$Paths;" ∈ wsX8_manyFact := by decide +kernel
theorem zk_X8_manyFact_43 : Cond.fieldLink yX8_manyFact.cls 43 RX8 "supplies" "LThirteenthDay$Supplies;" ∈ wsX8_manyFact := by decide +kernel
theorem zk_X8_manyFact_57 : Cond.fieldLink yX8_manyFact.cls 57 RX8 "foes" "LThirteenthDay$Foes;" ∈ wsX8_manyFact := by decide +kernel
theorem zi_X8_manyFact_X8 : ∀ w ∈ u_ws RX8 TX8 11, w ∈ wsX8_manyFact := by decide +kernel
def zX8_manyFact (v1 : Int32) (st : zz_T) : Option Int32 :=
  if v1 = 0 then
    some (st.2 0)
  else if v1 = 1 then
    some (zX8_day st)
  else if v1 = 2 then
    some (zX1_countStations st)
  else if v1 = 3 then
    some (zX1_countLines st)
  else if v1 = 4 then
    some (zX7_count st)
  else if v1 = 5 then
    some (zX6_count st)
  else if v1 = 6 then
    (zX6_countDone st).bind fun x1 =>
    some x1
  else if v1 = 7 then
    (zX2_countKept 6 st).bind fun x3 =>
    some x3
  else if v1 = 8 then
    (zX4_count st).bind fun x5 =>
    some x5
  else if v1 = 9 then
    (zX7_sumOf 8 st).bind fun x7 =>
    some x7
  else if v1 = 10 then
    (zX6_greatestLate (st.2 0) st).bind fun x9 =>
    some x9
  else if v1 = 11 then
    (zX7_countWires st).bind fun x11 =>
    some x11
  else 
    some (zX0_count st)
set_option maxHeartbeats 4000000 in
set_option maxRecDepth 100000 in
theorem zc_X8_manyFact {l : Launch} {A : Nat → Prop} {D : va_G} {cI : ClassId} {q : Nat → Nat} (v1 : Int32) (st : zz_T) (r : Int32) (hf : zX8_manyFact v1 st = some r) : zz_Mi l A D cI q yX8_manyFact wsX8_manyFact zr_X8_manyFact [.ref (q 0), .int v1] st r st := by
  refine zz_of (cc := cX8_manyFact) (nL := 2) (ret := some .int) (by decide) rfl (Nat.le_of_ble_eq_true rfl) ?_
  intro p e s m args below meth c ls C hr hP hS hl
  obtain ⟨hx, hb, hml, hown, hts⟩ := id C.1
  have hl : lv_has ls 2 [(0, .ref (q 0)), (1, .int v1)] := hl
  rw [zX8_manyFact] at hf
  skip
  refine lv_iload_n hx hb dX8_manyFact_0 rfl (lv_at hl 1 rfl) ?_
  by_cases h1_0 : v1 = 0
  · rw [if_pos h1_0] at hf
    refine lv_tableIn (tgt := 64) hx hb dX8_manyFact_1 (by rw [h1_0]; decide) (by rw [h1_0]; decide) (by rw [h1_0]; rfl) (by decide) ?_
    refine lv_aload_n hx hb dX8_manyFact_64 rfl (lv_at hl 0 rfl) ?_
    refine zz_getf C zi_X8_manyFact_X8 hP 0 rfl rfl 9 (nm := "tick") (ds := "I") (fin := false) rfl (by decide) zk_X8_manyFact_70 rfl dX8_manyFact_65 ?_
    rw [← (Option.some.inj hf)]
    exact zz_reti C hr hP hS dX8_manyFact_68
  rw [if_neg h1_0] at hf
  by_cases h1_1 : v1 = 1
  · rw [if_pos h1_1] at hf
    refine lv_tableIn (tgt := 69) hx hb dX8_manyFact_1 (by rw [h1_1]; decide) (by rw [h1_1]; decide) (by rw [h1_1]; rfl) (by decide) ?_
    refine lv_aload_n hx hb dX8_manyFact_69 rfl (lv_at hl 0 rfl) ?_
    refine zz_callVi C (As := []) (rest := []) (zc_X8_day _) (cwV 0 hts gX8_manyFact_X8_day rfl rfl rfl zd_X8_day ⟨Nat.le_of_ble_eq_true rfl, Nat.le_of_ble_eq_true rfl⟩) hP hS 0 rfl rfl rfl hl rfl (Nat.le_of_ble_eq_true rfl) dX8_manyFact_70 ⟨Nat.zero_le _, Nat.zero_le _⟩ (fun H locs hP hS => ?_)
    rw [← (Option.some.inj hf)]
    exact zz_reti C hr hP hS dX8_manyFact_73
  rw [if_neg h1_1] at hf
  by_cases h1_2 : v1 = 2
  · rw [if_pos h1_2] at hf
    refine lv_tableIn (tgt := 74) hx hb dX8_manyFact_1 (by rw [h1_2]; decide) (by rw [h1_2]; decide) (by rw [h1_2]; rfl) (by decide) ?_
    refine lv_aload_n hx hb dX8_manyFact_74 rfl (lv_at hl 0 rfl) ?_
    refine zz_getf C zi_X8_manyFact_X8 hP 0 rfl rfl 0 (nm := "land") (ds := "LThirteenthDay$Land;") (fin := true) rfl (by decide) zk_X8_manyFact_10 rfl dX8_manyFact_75 ?_
    refine zz_callVi C (As := []) (rest := []) (zc_X1_countStations _) (cwV 0 hts gX8_manyFact_X1_countStations rfl rfl rfl zd_X1_countStations ⟨Nat.le_of_ble_eq_true rfl, Nat.le_of_ble_eq_true rfl⟩) hP hS 1 rfl rfl rfl hl rfl (Nat.le_of_ble_eq_true rfl) dX8_manyFact_78 ⟨Nat.zero_le _, Nat.zero_le _⟩ (fun H locs hP hS => ?_)
    rw [← (Option.some.inj hf)]
    exact zz_reti C hr hP hS dX8_manyFact_81
  rw [if_neg h1_2] at hf
  by_cases h1_3 : v1 = 3
  · rw [if_pos h1_3] at hf
    refine lv_tableIn (tgt := 82) hx hb dX8_manyFact_1 (by rw [h1_3]; decide) (by rw [h1_3]; decide) (by rw [h1_3]; rfl) (by decide) ?_
    refine lv_aload_n hx hb dX8_manyFact_82 rfl (lv_at hl 0 rfl) ?_
    refine zz_getf C zi_X8_manyFact_X8 hP 0 rfl rfl 0 (nm := "land") (ds := "LThirteenthDay$Land;") (fin := true) rfl (by decide) zk_X8_manyFact_10 rfl dX8_manyFact_83 ?_
    refine zz_callVi C (As := []) (rest := []) (zc_X1_countLines _) (cwV 0 hts gX8_manyFact_X1_countLines rfl rfl rfl zd_X1_countLines ⟨Nat.le_of_ble_eq_true rfl, Nat.le_of_ble_eq_true rfl⟩) hP hS 1 rfl rfl rfl hl rfl (Nat.le_of_ble_eq_true rfl) dX8_manyFact_86 ⟨Nat.zero_le _, Nat.zero_le _⟩ (fun H locs hP hS => ?_)
    rw [← (Option.some.inj hf)]
    exact zz_reti C hr hP hS dX8_manyFact_89
  rw [if_neg h1_3] at hf
  by_cases h1_4 : v1 = 4
  · rw [if_pos h1_4] at hf
    refine lv_tableIn (tgt := 90) hx hb dX8_manyFact_1 (by rw [h1_4]; decide) (by rw [h1_4]; decide) (by rw [h1_4]; rfl) (by decide) ?_
    refine lv_aload_n hx hb dX8_manyFact_90 rfl (lv_at hl 0 rfl) ?_
    refine zz_getf C zi_X8_manyFact_X8 hP 0 rfl rfl 1 (nm := "units") (ds := "LThirteenthDay$Units;") (fin := true) rfl (by decide) zk_X8_manyFact_19 rfl dX8_manyFact_91 ?_
    refine zz_callVi C (As := []) (rest := []) (zc_X7_count _) (cwV 0 hts gX8_manyFact_X7_count rfl rfl rfl zd_X7_count ⟨Nat.le_of_ble_eq_true rfl, Nat.le_of_ble_eq_true rfl⟩) hP hS 2 rfl rfl rfl hl rfl (Nat.le_of_ble_eq_true rfl) dX8_manyFact_94 ⟨Nat.zero_le _, Nat.zero_le _⟩ (fun H locs hP hS => ?_)
    rw [← (Option.some.inj hf)]
    exact zz_reti C hr hP hS dX8_manyFact_97
  rw [if_neg h1_4] at hf
  by_cases h1_5 : v1 = 5
  · rw [if_pos h1_5] at hf
    refine lv_tableIn (tgt := 98) hx hb dX8_manyFact_1 (by rw [h1_5]; decide) (by rw [h1_5]; decide) (by rw [h1_5]; rfl) (by decide) ?_
    refine lv_aload_n hx hb dX8_manyFact_98 rfl (lv_at hl 0 rfl) ?_
    refine zz_getf C zi_X8_manyFact_X8 hP 0 rfl rfl 4 (nm := "trains") (ds := "LThirteenthDay$Trains;") (fin := true) rfl (by decide) zk_X8_manyFact_36 rfl dX8_manyFact_99 ?_
    refine zz_callVi C (As := []) (rest := []) (zc_X6_count _) (cwV 0 hts gX8_manyFact_X6_count rfl rfl rfl zd_X6_count ⟨Nat.le_of_ble_eq_true rfl, Nat.le_of_ble_eq_true rfl⟩) hP hS 5 rfl rfl rfl hl rfl (Nat.le_of_ble_eq_true rfl) dX8_manyFact_102 ⟨Nat.zero_le _, Nat.zero_le _⟩ (fun H locs hP hS => ?_)
    rw [← (Option.some.inj hf)]
    exact zz_reti C hr hP hS dX8_manyFact_105
  rw [if_neg h1_5] at hf
  by_cases h1_6 : v1 = 6
  · rw [if_pos h1_6] at hf
    refine lv_tableIn (tgt := 106) hx hb dX8_manyFact_1 (by rw [h1_6]; decide) (by rw [h1_6]; decide) (by rw [h1_6]; rfl) (by decide) ?_
    refine lv_aload_n hx hb dX8_manyFact_106 rfl (lv_at hl 0 rfl) ?_
    refine zz_getf C zi_X8_manyFact_X8 hP 0 rfl rfl 4 (nm := "trains") (ds := "LThirteenthDay$Trains;") (fin := true) rfl (by decide) zk_X8_manyFact_36 rfl dX8_manyFact_107 ?_
    obtain ⟨x1, e2, hf⟩ := zz_bo hf
    refine zz_callVi C (As := []) (rest := []) (zc_X6_countDone _ _ e2) (cwV 0 hts gX8_manyFact_X6_countDone rfl rfl rfl zd_X6_countDone ⟨Nat.le_of_ble_eq_true rfl, Nat.le_of_ble_eq_true rfl⟩) hP hS 5 rfl rfl rfl hl rfl (Nat.le_of_ble_eq_true rfl) dX8_manyFact_110 ⟨Nat.zero_le _, Nat.zero_le _⟩ (fun H locs hP hS => ?_)
    rw [← (Option.some.inj hf)]
    exact zz_reti C hr hP hS dX8_manyFact_113
  rw [if_neg h1_6] at hf
  by_cases h1_7 : v1 = 7
  · rw [if_pos h1_7] at hf
    refine lv_tableIn (tgt := 114) hx hb dX8_manyFact_1 (by rw [h1_7]; decide) (by rw [h1_7]; decide) (by rw [h1_7]; rfl) (by decide) ?_
    refine lv_aload_n hx hb dX8_manyFact_114 rfl (lv_at hl 0 rfl) ?_
    refine zz_getf C zi_X8_manyFact_X8 hP 0 rfl rfl 2 (nm := "paths") (ds := "LThirteenthDay$Paths;") (fin := true) rfl (by decide) zk_X8_manyFact_26 rfl dX8_manyFact_115 ?_
    obtain ⟨x3, e4, hf⟩ := zz_bo hf
    refine zz_callVi C (As := []) (rest := []) (zc_X2_countKept 3 6 (by decide) _ _ e4) (cwV 0 hts gX8_manyFact_X2_countKept rfl rfl rfl zd_X2_countKept ⟨Nat.le_of_ble_eq_true rfl, Nat.le_of_ble_eq_true rfl⟩) hP hS 3 rfl rfl rfl hl rfl (Nat.le_of_ble_eq_true rfl) dX8_manyFact_118 ⟨Nat.zero_le _, Nat.zero_le _⟩ (fun H locs hP hS => ?_)
    rw [← (Option.some.inj hf)]
    exact zz_reti C hr hP hS dX8_manyFact_121
  rw [if_neg h1_7] at hf
  by_cases h1_8 : v1 = 8
  · rw [if_pos h1_8] at hf
    refine lv_tableIn (tgt := 122) hx hb dX8_manyFact_1 (by rw [h1_8]; decide) (by rw [h1_8]; decide) (by rw [h1_8]; rfl) (by decide) ?_
    refine lv_aload_n hx hb dX8_manyFact_122 rfl (lv_at hl 0 rfl) ?_
    refine zz_getf C zi_X8_manyFact_X8 hP 0 rfl rfl 5 (nm := "supplies") (ds := "LThirteenthDay$Supplies;") (fin := true) rfl (by decide) zk_X8_manyFact_43 rfl dX8_manyFact_123 ?_
    obtain ⟨x5, e6, hf⟩ := zz_bo hf
    refine zz_callVi C (As := []) (rest := []) (zc_X4_count _ _ e6) (cwV 0 hts gX8_manyFact_X4_count rfl rfl rfl zd_X4_count ⟨Nat.le_of_ble_eq_true rfl, Nat.le_of_ble_eq_true rfl⟩) hP hS 6 rfl rfl rfl hl rfl (Nat.le_of_ble_eq_true rfl) dX8_manyFact_126 ⟨Nat.zero_le _, Nat.zero_le _⟩ (fun H locs hP hS => ?_)
    rw [← (Option.some.inj hf)]
    exact zz_reti C hr hP hS dX8_manyFact_129
  rw [if_neg h1_8] at hf
  by_cases h1_9 : v1 = 9
  · rw [if_pos h1_9] at hf
    refine lv_tableIn (tgt := 130) hx hb dX8_manyFact_1 (by rw [h1_9]; decide) (by rw [h1_9]; decide) (by rw [h1_9]; rfl) (by decide) ?_
    refine lv_aload_n hx hb dX8_manyFact_130 rfl (lv_at hl 0 rfl) ?_
    refine zz_getf C zi_X8_manyFact_X8 hP 0 rfl rfl 1 (nm := "units") (ds := "LThirteenthDay$Units;") (fin := true) rfl (by decide) zk_X8_manyFact_19 rfl dX8_manyFact_131 ?_
    refine lv_bipush (v := 8) hx hb dX8_manyFact_134 (by decide) ?_
    obtain ⟨x7, e8, hf⟩ := zz_bo hf
    refine zz_callVi C (As := [.int 8]) (rest := []) (zc_X7_sumOf _ _ _ e8) (cwV 1 hts gX8_manyFact_X7_sumOf rfl rfl rfl zd_X7_sumOf ⟨Nat.le_of_ble_eq_true rfl, Nat.le_of_ble_eq_true rfl⟩) hP hS 2 rfl rfl rfl hl rfl (Nat.le_of_ble_eq_true rfl) dX8_manyFact_136 ⟨Nat.zero_le _, Nat.zero_le _⟩ (fun H locs hP hS => ?_)
    rw [← (Option.some.inj hf)]
    exact zz_reti C hr hP hS dX8_manyFact_139
  rw [if_neg h1_9] at hf
  by_cases h1_10 : v1 = 10
  · rw [if_pos h1_10] at hf
    refine lv_tableIn (tgt := 140) hx hb dX8_manyFact_1 (by rw [h1_10]; decide) (by rw [h1_10]; decide) (by rw [h1_10]; rfl) (by decide) ?_
    refine lv_aload_n hx hb dX8_manyFact_140 rfl (lv_at hl 0 rfl) ?_
    refine zz_getf C zi_X8_manyFact_X8 hP 0 rfl rfl 4 (nm := "trains") (ds := "LThirteenthDay$Trains;") (fin := true) rfl (by decide) zk_X8_manyFact_36 rfl dX8_manyFact_141 ?_
    refine lv_aload_n hx hb dX8_manyFact_144 rfl (lv_at hl 0 rfl) ?_
    refine zz_getf C zi_X8_manyFact_X8 hP 0 rfl rfl 9 (nm := "tick") (ds := "I") (fin := false) rfl (by decide) zk_X8_manyFact_70 rfl dX8_manyFact_145 ?_
    obtain ⟨x9, e10, hf⟩ := zz_bo hf
    refine zz_callVi C (As := [.int (st.2 0)]) (rest := []) (zc_X6_greatestLate _ _ _ e10) (cwV 1 hts gX8_manyFact_X6_greatestLate rfl rfl rfl zd_X6_greatestLate ⟨Nat.le_of_ble_eq_true rfl, Nat.le_of_ble_eq_true rfl⟩) hP hS 5 rfl rfl rfl hl rfl (Nat.le_of_ble_eq_true rfl) dX8_manyFact_148 ⟨Nat.zero_le _, Nat.zero_le _⟩ (fun H locs hP hS => ?_)
    rw [← (Option.some.inj hf)]
    exact zz_reti C hr hP hS dX8_manyFact_151
  rw [if_neg h1_10] at hf
  by_cases h1_11 : v1 = 11
  · rw [if_pos h1_11] at hf
    refine lv_tableIn (tgt := 152) hx hb dX8_manyFact_1 (by rw [h1_11]; decide) (by rw [h1_11]; decide) (by rw [h1_11]; rfl) (by decide) ?_
    refine lv_aload_n hx hb dX8_manyFact_152 rfl (lv_at hl 0 rfl) ?_
    refine zz_getf C zi_X8_manyFact_X8 hP 0 rfl rfl 1 (nm := "units") (ds := "LThirteenthDay$Units;") (fin := true) rfl (by decide) zk_X8_manyFact_19 rfl dX8_manyFact_153 ?_
    obtain ⟨x11, e12, hf⟩ := zz_bo hf
    refine zz_callVi C (As := []) (rest := []) (zc_X7_countWires _ _ e12) (cwV 0 hts gX8_manyFact_X7_countWires rfl rfl rfl zd_X7_countWires ⟨Nat.le_of_ble_eq_true rfl, Nat.le_of_ble_eq_true rfl⟩) hP hS 2 rfl rfl rfl hl rfl (Nat.le_of_ble_eq_true rfl) dX8_manyFact_156 ⟨Nat.zero_le _, Nat.zero_le _⟩ (fun H locs hP hS => ?_)
    rw [← (Option.some.inj hf)]
    exact zz_reti C hr hP hS dX8_manyFact_159
  rw [if_neg h1_11] at hf
  have g1_0 : ¬ (v1 : Int32).toInt = 0 := lv_neT h1_0 rfl
  have g1_1 : ¬ (v1 : Int32).toInt = 1 := lv_neT h1_1 rfl
  have g1_2 : ¬ (v1 : Int32).toInt = 2 := lv_neT h1_2 rfl
  have g1_3 : ¬ (v1 : Int32).toInt = 3 := lv_neT h1_3 rfl
  have g1_4 : ¬ (v1 : Int32).toInt = 4 := lv_neT h1_4 rfl
  have g1_5 : ¬ (v1 : Int32).toInt = 5 := lv_neT h1_5 rfl
  have g1_6 : ¬ (v1 : Int32).toInt = 6 := lv_neT h1_6 rfl
  have g1_7 : ¬ (v1 : Int32).toInt = 7 := lv_neT h1_7 rfl
  have g1_8 : ¬ (v1 : Int32).toInt = 8 := lv_neT h1_8 rfl
  have g1_9 : ¬ (v1 : Int32).toInt = 9 := lv_neT h1_9 rfl
  have g1_10 : ¬ (v1 : Int32).toInt = 10 := lv_neT h1_10 rfl
  have g1_11 : ¬ (v1 : Int32).toInt = 11 := lv_neT h1_11 rfl
  refine lv_tableOut (tgt := 160) hx hb dX8_manyFact_1 (by omega) (by decide) ?_
  refine lv_aload_n hx hb dX8_manyFact_160 rfl (lv_at hl 0 rfl) ?_
  refine zz_getf C zi_X8_manyFact_X8 hP 0 rfl rfl 7 (nm := "foes") (ds := "LThirteenthDay$Foes;") (fin := true) rfl (by decide) zk_X8_manyFact_57 rfl dX8_manyFact_161 ?_
  refine zz_callVi C (As := []) (rest := []) (zc_X0_count _) (cwV 0 hts gX8_manyFact_X0_count rfl rfl rfl zd_X0_count ⟨Nat.le_of_ble_eq_true rfl, Nat.le_of_ble_eq_true rfl⟩) hP hS 8 rfl rfl rfl hl rfl (Nat.le_of_ble_eq_true rfl) dX8_manyFact_164 ⟨Nat.zero_le _, Nat.zero_le _⟩ (fun H locs hP hS => ?_)
  rw [← (Option.some.inj hf)]
  exact zz_reti C hr hP hS dX8_manyFact_167
/-! X8_digest PR -/
theorem zd_X8_digest : yX8_digest.cls = RX8 ∧ yX8_digest.cls ≠ "java/lang/invoke/MethodHandle" ∧ yX8_digest.cls ≠ "java/lang/invoke/VarHandle" ∧ (parseMethodDescriptor yX8_digest.desc).map (fun d => d.parameters.length) = some 0 := by decide +kernel
abbrev zr_X8_digest : Room := { frames := 6, cells := 0, slots := 0, locals := 149 }
theorem zk_X8_digest_c402 : Cond.constantLong yX8_digest.cls 402 58259 ∈ wsX8_digest := by decide +kernel
theorem zk_X8_digest_c404 : Cond.constantLong yX8_digest.cls 404 31 ∈ wsX8_digest := by decide +kernel
theorem zk_X8_digest_57 : Cond.fieldLink yX8_digest.cls 57 RX8 "foes" "LThirteenthDay$Foes;" ∈ wsX8_digest := by decide +kernel
theorem zi_X8_digest_X8 : ∀ w ∈ u_ws RX8 TX8 11, w ∈ wsX8_digest := by decide +kernel
def zX8_digest_6 : Nat → Int64 → Int32 → zz_T → Option Int64
  | 0, _, _, _ => none
  | n + 1, v1, v3, st =>
    if 12 < v3 then
      (zX8_digestLand v1 st).bind fun x1 =>
      (zX8_digestUnits x1 st).bind fun x3 =>
      (zX8_digestTrains x3 st).bind fun x5 =>
      (zX8_digestSectors x5 st).bind fun x7 =>
      (zX0_guessOn (zX8_day st) st).bind fun x9 =>
      zz_v ((x7 * 31) + (x9.toInt64)) fun w11 =>
      (zX8_isWholeSound st).bind fun x12 =>
      if x12 = true then
        some ((w11 * 31) + ((1 : Int32).toInt64))
      else
        some ((w11 * 31) + ((0 : Int32).toInt64))
    else
      (zX8_manyFact v3 st).bind fun x14 =>
      zz_v ((v1 * 31) + (x14.toInt64)) fun w16 =>
      zX8_digest_6 n w16 (v3 + 1) st
set_option maxHeartbeats 4000000 in
set_option maxRecDepth 100000 in
theorem zt_X8_digest_6 {l : Launch} {A : Nat → Prop} {D : va_G} {cI : ClassId} {q : Nat → Nat} {p : Program} {e : Env} {s : State} {m : MethodId} {args : Array Value} {below : List Frame} {meth : Method} {c : Code} (C : zz_C A D cI q p s m args meth c cX8_digest 4 wsX8_digest yX8_digest.cls) (hr : meth.sig.returnType = some .long) : ∀ (n : Nat) (v1 : Int64) (v3 : Int32) (st : zz_T) (H : Heap) (locs : List Loc) (ls : Array Slot) (r : Int64), zX8_digest_6 n v1 v3 st = some r → va_P D vwCl (zz_c q cI st) H → va_S A s.heap H locs → lv_has ls 4 [(0, .ref (q 0)), (1, .long v1), (3, .int v3)] → W p l e zr_X8_digest s m args below meth c H locs 0 0 (zz_Ql A D cI q r st below args s) (F0 m 6 ls []) := by
  obtain ⟨hx, hb, hml, hown, hts⟩ := id C.1
  intro n
  induction n with
  | zero => intro v1 v3 st H locs ls r hf; cases hf
  | succ n ih =>
    intro v1 v3 st H locs ls r hf hP hS hl
    rw [zX8_digest_6] at hf
    refine lv_iload_n hx hb dX8_digest_6 rfl (lv_at hl 2 rfl) ?_
    refine lv_bipush (v := 12) hx hb dX8_digest_7 (by decide) ?_
    refine lv_icmp_gt (tgt := 31) hx hb dX8_digest_9 (by decide) (fun h => ?_) (fun h => ?_)
    · rw [if_pos h] at hf
      refine lv_aload_n hx hb dX8_digest_31 rfl (lv_at hl 0 rfl) ?_
      refine lv_lload_n hx hb dX8_digest_32 rfl (lv_at hl 1 rfl) ?_
      obtain ⟨x1, e2, hf⟩ := zz_bo hf
      refine zz_callVl C (As := [.long v1]) (rest := []) (zc_X8_digestLand _ _ _ e2) (cwV 1 hts gX8_digest_X8_digestLand rfl rfl rfl zd_X8_digestLand ⟨Nat.le_of_ble_eq_true rfl, Nat.le_of_ble_eq_true rfl⟩) hP hS 0 rfl rfl rfl hl rfl (Nat.le_of_ble_eq_true rfl) dX8_digest_33 ⟨Nat.zero_le _, Nat.zero_le _⟩ (fun H locs hP hS => ?_)
      refine lv_lstore_n (lv' := [(1, .long x1), (0, .ref (q 0)), (3, .int v3)]) hx hb dX8_digest_36 rfl hl (by decide) rfl (fun ls hl => ?_)
      refine lv_aload_n hx hb dX8_digest_37 rfl (lv_at hl 1 rfl) ?_
      refine lv_lload_n hx hb dX8_digest_38 rfl (lv_at hl 0 rfl) ?_
      obtain ⟨x3, e4, hf⟩ := zz_bo hf
      refine zz_callVl C (As := [.long x1]) (rest := []) (zc_X8_digestUnits _ _ _ e4) (cwV 1 hts gX8_digest_X8_digestUnits rfl rfl rfl zd_X8_digestUnits ⟨Nat.le_of_ble_eq_true rfl, Nat.le_of_ble_eq_true rfl⟩) hP hS 0 rfl rfl rfl hl rfl (Nat.le_of_ble_eq_true rfl) dX8_digest_39 ⟨Nat.zero_le _, Nat.zero_le _⟩ (fun H locs hP hS => ?_)
      refine lv_lstore_n (lv' := [(1, .long x3), (0, .ref (q 0)), (3, .int v3)]) hx hb dX8_digest_42 rfl hl (by decide) rfl (fun ls hl => ?_)
      refine lv_aload_n hx hb dX8_digest_43 rfl (lv_at hl 1 rfl) ?_
      refine lv_lload_n hx hb dX8_digest_44 rfl (lv_at hl 0 rfl) ?_
      obtain ⟨x5, e6, hf⟩ := zz_bo hf
      refine zz_callVl C (As := [.long x3]) (rest := []) (zc_X8_digestTrains _ _ _ e6) (cwV 1 hts gX8_digest_X8_digestTrains rfl rfl rfl zd_X8_digestTrains ⟨Nat.le_of_ble_eq_true rfl, Nat.le_of_ble_eq_true rfl⟩) hP hS 0 rfl rfl rfl hl rfl (Nat.le_of_ble_eq_true rfl) dX8_digest_45 ⟨Nat.zero_le _, Nat.zero_le _⟩ (fun H locs hP hS => ?_)
      refine lv_lstore_n (lv' := [(1, .long x5), (0, .ref (q 0)), (3, .int v3)]) hx hb dX8_digest_48 rfl hl (by decide) rfl (fun ls hl => ?_)
      refine lv_aload_n hx hb dX8_digest_49 rfl (lv_at hl 1 rfl) ?_
      refine lv_lload_n hx hb dX8_digest_50 rfl (lv_at hl 0 rfl) ?_
      obtain ⟨x7, e8, hf⟩ := zz_bo hf
      refine zz_callVl C (As := [.long x5]) (rest := []) (zc_X8_digestSectors _ _ _ e8) (cwV 1 hts gX8_digest_X8_digestSectors rfl rfl rfl zd_X8_digestSectors ⟨Nat.le_of_ble_eq_true rfl, Nat.le_of_ble_eq_true rfl⟩) hP hS 0 rfl rfl rfl hl rfl (Nat.le_of_ble_eq_true rfl) dX8_digest_51 ⟨Nat.zero_le _, Nat.zero_le _⟩ (fun H locs hP hS => ?_)
      refine lv_lstore_n (lv' := [(1, .long x7), (0, .ref (q 0)), (3, .int v3)]) hx hb dX8_digest_54 rfl hl (by decide) rfl (fun ls hl => ?_)
      refine lv_lload_n hx hb dX8_digest_55 rfl (lv_at hl 0 rfl) ?_
      refine lv_ldc2 (v := 31) hx hb hown (hts _ zk_X8_digest_c404) dX8_digest_56 ?_
      refine lv_lmul hx hb dX8_digest_59 ?_
      refine lv_aload_n hx hb dX8_digest_60 rfl (lv_at hl 1 rfl) ?_
      refine zz_getf C zi_X8_digest_X8 hP 0 rfl rfl 7 (nm := "foes") (ds := "LThirteenthDay$Foes;") (fin := true) rfl (by decide) zk_X8_digest_57 rfl dX8_digest_61 ?_
      refine lv_aload_n hx hb dX8_digest_64 rfl (lv_at hl 1 rfl) ?_
      refine zz_callVi C (As := []) (rest := [.ref (q 8), .long (x7 * 31)]) (zc_X8_day _) (cwV 0 hts gX8_digest_X8_day rfl rfl rfl zd_X8_day ⟨Nat.le_of_ble_eq_true rfl, Nat.le_of_ble_eq_true rfl⟩) hP hS 0 rfl rfl rfl hl rfl (Nat.le_of_ble_eq_true rfl) dX8_digest_65 ⟨Nat.zero_le _, Nat.zero_le _⟩ (fun H locs hP hS => ?_)
      obtain ⟨x9, e10, hf⟩ := zz_bo hf
      refine zz_callVi C (As := [.int (zX8_day st)]) (rest := [.long (x7 * 31)]) (zc_X0_guessOn _ _ _ e10) (cwV 1 hts gX8_digest_X0_guessOn rfl rfl rfl zd_X0_guessOn ⟨Nat.le_of_ble_eq_true rfl, Nat.le_of_ble_eq_true rfl⟩) hP hS 8 rfl rfl rfl hl rfl (Nat.le_of_ble_eq_true rfl) dX8_digest_68 ⟨Nat.zero_le _, Nat.zero_le _⟩ (fun H locs hP hS => ?_)
      refine lv_i2l (v := x9.toInt64) hx hb dX8_digest_71 rfl ?_
      refine lv_ladd hx hb dX8_digest_72 ?_
      refine lv_topl (fun w11 e11 => ?_)
      replace hf := zz_vi hf e11
      refine lv_lstore_n (lv' := [(1, .long w11), (0, .ref (q 0)), (3, .int v3)]) hx hb dX8_digest_73 rfl hl (by decide) rfl (fun ls hl => ?_)
      refine lv_lload_n hx hb dX8_digest_74 rfl (lv_at hl 0 rfl) ?_
      refine lv_ldc2 (v := 31) hx hb hown (hts _ zk_X8_digest_c404) dX8_digest_75 ?_
      refine lv_lmul hx hb dX8_digest_78 ?_
      refine lv_aload_n hx hb dX8_digest_79 rfl (lv_at hl 1 rfl) ?_
      obtain ⟨x12, e13, hf⟩ := zz_bo hf
      refine zz_callVi C (As := []) (rest := [.long (w11 * 31)]) (zc_X8_isWholeSound _ _ e13) (cwV 0 hts gX8_digest_X8_isWholeSound rfl rfl rfl zd_X8_isWholeSound ⟨Nat.le_of_ble_eq_true rfl, Nat.le_of_ble_eq_true rfl⟩) hP hS 0 rfl rfl rfl hl rfl (Nat.le_of_ble_eq_true rfl) dX8_digest_80 ⟨Nat.zero_le _, Nat.zero_le _⟩ (fun H locs hP hS => ?_)
      refine lv_if_eq (tgt := 90) hx hb dX8_digest_83 (by decide) (fun h => ?_) (fun h => ?_)
      · rw [zz_if0 (zz_b0 h)] at hf
        refine lv_iconst (v := 0) hx hb dX8_digest_90 (by decide) ?_
        refine lv_i2l (v := (0 : Int32).toInt64) hx hb dX8_digest_91 rfl ?_
        refine lv_ladd hx hb dX8_digest_92 ?_
        rw [← (Option.some.inj hf)]
        exact zz_retl C hr hP hS dX8_digest_93
      · rw [zz_if1 (zz_b1 h)] at hf
        refine lv_iconst (v := 1) hx hb dX8_digest_86 (by decide) ?_
        refine lv_goto (tgt := 91) hx hb dX8_digest_87 (by decide) ?_
        refine lv_i2l (v := (1 : Int32).toInt64) hx hb dX8_digest_91 rfl ?_
        refine lv_ladd hx hb dX8_digest_92 ?_
        rw [← (Option.some.inj hf)]
        exact zz_retl C hr hP hS dX8_digest_93
    · rw [if_neg h] at hf
      refine lv_lload_n hx hb dX8_digest_12 rfl (lv_at hl 1 rfl) ?_
      refine lv_ldc2 (v := 31) hx hb hown (hts _ zk_X8_digest_c404) dX8_digest_13 ?_
      refine lv_lmul hx hb dX8_digest_16 ?_
      refine lv_aload_n hx hb dX8_digest_17 rfl (lv_at hl 0 rfl) ?_
      refine lv_iload_n hx hb dX8_digest_18 rfl (lv_at hl 2 rfl) ?_
      obtain ⟨x14, e15, hf⟩ := zz_bo hf
      refine zz_callVi C (As := [.int v3]) (rest := [.long (v1 * 31)]) (zc_X8_manyFact _ _ _ e15) (cwV 1 hts gX8_digest_X8_manyFact rfl rfl rfl zd_X8_manyFact ⟨Nat.le_of_ble_eq_true rfl, Nat.le_of_ble_eq_true rfl⟩) hP hS 0 rfl rfl rfl hl rfl (Nat.le_of_ble_eq_true rfl) dX8_digest_19 ⟨Nat.zero_le _, Nat.zero_le _⟩ (fun H locs hP hS => ?_)
      refine lv_i2l (v := x14.toInt64) hx hb dX8_digest_22 rfl ?_
      refine lv_ladd hx hb dX8_digest_23 ?_
      refine lv_topl (fun w16 e16 => ?_)
      replace hf := zz_vi hf e16
      refine lv_lstore_n (lv' := [(1, .long w16), (0, .ref (q 0)), (3, .int v3)]) hx hb dX8_digest_24 rfl hl (by decide) rfl (fun ls hl => ?_)
      refine lv_iinc (v := (v3 + 1)) (lv' := [(3, .int (v3 + 1)), (1, .long w16), (0, .ref (q 0))]) hx hb dX8_digest_25 hl (k := 2) rfl (congrArg (fun z => v3 + z) (by decide)) (by decide) rfl (fun ls hl => ?_)
      refine lv_goto (tgt := 6) hx hb dX8_digest_28 (by decide) ?_
      exact ih _ _ _ _ _ _ _ hf hP hS (lv_sub hl [2, 1, 0] rfl)
def zX8_digest (st : zz_T) : Option Int64 :=
  zX8_digest_6 zz_N 58259 0 st
set_option maxHeartbeats 4000000 in
set_option maxRecDepth 100000 in
theorem zc_X8_digest {l : Launch} {A : Nat → Prop} {D : va_G} {cI : ClassId} {q : Nat → Nat} (st : zz_T) (r : Int64) (hf : zX8_digest st = some r) : zz_Ml l A D cI q yX8_digest wsX8_digest zr_X8_digest [.ref (q 0)] st r st := by
  refine zz_of (cc := cX8_digest) (nL := 4) (ret := some .long) (by decide) rfl (Nat.le_of_ble_eq_true rfl) ?_
  intro p e s m args below meth c ls C hr hP hS hl
  obtain ⟨hx, hb, hml, hown, hts⟩ := id C.1
  have hl : lv_has ls 4 [(0, .ref (q 0))] := hl
  rw [zX8_digest] at hf
  skip
  refine lv_ldc2 (v := 58259) hx hb hown (hts _ zk_X8_digest_c402) dX8_digest_0 ?_
  refine lv_lstore_n (lv' := [(1, .long 58259), (0, .ref (q 0))]) hx hb dX8_digest_3 rfl hl (by decide) rfl (fun ls hl => ?_)
  refine lv_iconst (v := 0) hx hb dX8_digest_4 (by decide) ?_
  refine lv_istore_n (lv' := [(3, .int 0), (1, .long 58259), (0, .ref (q 0))]) hx hb dX8_digest_5 rfl hl (by decide) rfl (fun ls hl => ?_)
  exact zt_X8_digest_6 C hr zz_N _ _ _ _ _ _ _ hf hP hS (lv_sub hl [2, 1, 0] rfl)
/-! X8_isSound PR -/
theorem zd_X8_isSound : yX8_isSound.cls = RX8 ∧ yX8_isSound.cls ≠ "java/lang/invoke/MethodHandle" ∧ yX8_isSound.cls ≠ "java/lang/invoke/VarHandle" ∧ (parseMethodDescriptor yX8_isSound.desc).map (fun d => d.parameters.length) = some 0 := by decide +kernel
abbrev zr_X8_isSound : Room := { frames := 5, cells := 0, slots := 0, locals := 117 }
def zX8_isSound (st : zz_T) : Option Bool :=
  (zX8_isWholeSound st).bind fun x1 =>
  some x1
set_option maxHeartbeats 4000000 in
set_option maxRecDepth 100000 in
theorem zc_X8_isSound {l : Launch} {A : Nat → Prop} {D : va_G} {cI : ClassId} {q : Nat → Nat} (st : zz_T) (r : Bool) (hf : zX8_isSound st = some r) : zz_Mi l A D cI q yX8_isSound wsX8_isSound zr_X8_isSound [.ref (q 0)] st (zz_b r) st := by
  refine zz_of (cc := cX8_isSound) (nL := 1) (ret := some .boolean) (by decide) rfl (Nat.le_of_ble_eq_true rfl) ?_
  intro p e s m args below meth c ls C hr hP hS hl
  obtain ⟨hx, hb, hml, hown, hts⟩ := id C.1
  have hl : lv_has ls 1 [(0, .ref (q 0))] := hl
  rw [zX8_isSound] at hf
  skip
  refine lv_aload_n hx hb dX8_isSound_0 rfl (lv_at hl 0 rfl) ?_
  obtain ⟨x1, e2, hf⟩ := zz_bo hf
  refine zz_callVi C (As := []) (rest := []) (zc_X8_isWholeSound _ _ e2) (cwV 0 hts gX8_isSound_X8_isWholeSound rfl rfl rfl zd_X8_isWholeSound ⟨Nat.le_of_ble_eq_true rfl, Nat.le_of_ble_eq_true rfl⟩) hP hS 0 rfl rfl rfl hl rfl (Nat.le_of_ble_eq_true rfl) dX8_isSound_1 ⟨Nat.zero_le _, Nat.zero_le _⟩ (fun H locs hP hS => ?_)
  rw [← (Option.some.inj hf)]
  exact zz_retz (v := x1) C hr hP hS dX8_isSound_4
/-! X8_many PR -/
theorem zd_X8_many : yX8_many.cls = RX8 ∧ yX8_many.cls ≠ "java/lang/invoke/MethodHandle" ∧ yX8_many.cls ≠ "java/lang/invoke/VarHandle" ∧ (parseMethodDescriptor yX8_many.desc).map (fun d => d.parameters.length) = some 1 := by decide +kernel
abbrev zr_X8_many : Room := { frames := 4, cells := 0, slots := 0, locals := 90 }
def zX8_many (v1 : Int32) (st : zz_T) : Option Int32 :=
  if v1 < 0 then
    none
  else
    if v1 ≤ 12 then
      (zX8_manyFact v1 st).bind fun x1 =>
      some x1
    else
      none
set_option maxHeartbeats 4000000 in
set_option maxRecDepth 100000 in
theorem zc_X8_many {l : Launch} {A : Nat → Prop} {D : va_G} {cI : ClassId} {q : Nat → Nat} (v1 : Int32) (st : zz_T) (r : Int32) (hf : zX8_many v1 st = some r) : zz_Mi l A D cI q yX8_many wsX8_many zr_X8_many [.ref (q 0), .int v1] st r st := by
  refine zz_of (cc := cX8_many) (nL := 2) (ret := some .int) (by decide) rfl (Nat.le_of_ble_eq_true rfl) ?_
  intro p e s m args below meth c ls C hr hP hS hl
  obtain ⟨hx, hb, hml, hown, hts⟩ := id C.1
  have hl : lv_has ls 2 [(0, .ref (q 0)), (1, .int v1)] := hl
  rw [zX8_many] at hf
  skip
  refine lv_iload_n hx hb dX8_many_0 rfl (lv_at hl 1 rfl) ?_
  refine lv_if_lt (tgt := 10) hx hb dX8_many_1 (by decide) (fun h => ?_) (fun h => ?_)
  · rw [if_pos h] at hf
    cases hf
  · rw [if_neg h] at hf
    refine lv_iload_n hx hb dX8_many_4 rfl (lv_at hl 1 rfl) ?_
    refine lv_bipush (v := 12) hx hb dX8_many_5 (by decide) ?_
    refine lv_icmp_le (tgt := 20) hx hb dX8_many_7 (by decide) (fun h => ?_) (fun h => ?_)
    · rw [if_pos h] at hf
      refine lv_aload_n hx hb dX8_many_20 rfl (lv_at hl 0 rfl) ?_
      refine lv_iload_n hx hb dX8_many_21 rfl (lv_at hl 1 rfl) ?_
      obtain ⟨x1, e2, hf⟩ := zz_bo hf
      refine zz_callVi C (As := [.int v1]) (rest := []) (zc_X8_manyFact _ _ _ e2) (cwV 1 hts gX8_many_X8_manyFact rfl rfl rfl zd_X8_manyFact ⟨Nat.le_of_ble_eq_true rfl, Nat.le_of_ble_eq_true rfl⟩) hP hS 0 rfl rfl rfl hl rfl (Nat.le_of_ble_eq_true rfl) dX8_many_22 ⟨Nat.zero_le _, Nat.zero_le _⟩ (fun H locs hP hS => ?_)
      rw [← (Option.some.inj hf)]
      exact zz_reti C hr hP hS dX8_many_25
    · rw [if_neg h] at hf
      cases hf
/-! X1_hasLine TR -/
theorem zd_X1_hasLine : yX1_hasLine.cls = RX1 ∧ yX1_hasLine.cls ≠ "java/lang/invoke/MethodHandle" ∧ yX1_hasLine.cls ≠ "java/lang/invoke/VarHandle" ∧ (parseMethodDescriptor yX1_hasLine.desc).map (fun d => d.parameters.length) = some 1 := by decide +kernel
abbrev zr_X1_hasLine : Room := { frames := 0, cells := 0, slots := 0, locals := 0 }
theorem zk_X1_hasLine_33 : Cond.fieldLink yX1_hasLine.cls 33 RX1 "lineCount" "I" ∈ wsX1_hasLine := by decide +kernel
theorem zi_X1_hasLine_X1 : ∀ w ∈ u_ws RX1 TX1 6, w ∈ wsX1_hasLine := by decide +kernel
def zX1_hasLine (v1 : Int32) (st : zz_T) : Bool :=
  if v1 < 0 then
    false
  else
    if (st.2 3) ≤ v1 then
      false
    else
      true
set_option maxHeartbeats 4000000 in
set_option maxRecDepth 100000 in
theorem zc_X1_hasLine {l : Launch} {A : Nat → Prop} {D : va_G} {cI : ClassId} {q : Nat → Nat} (v1 : Int32) (st : zz_T) : zz_Mi l A D cI q yX1_hasLine wsX1_hasLine zr_X1_hasLine [.ref (q 1), .int v1] st (zz_b (zX1_hasLine v1 st)) st := by
  refine zz_of (cc := cX1_hasLine) (nL := 2) (ret := some .boolean) (by decide) rfl (Nat.le_of_ble_eq_true rfl) ?_
  intro p e s m args below meth c ls C hr hP hS hl
  obtain ⟨hx, hb, hml, hown, hts⟩ := id C.1
  have hl : lv_has ls 2 [(0, .ref (q 1)), (1, .int v1)] := hl
  obtain ⟨r, hf⟩ : ∃ r, zX1_hasLine v1 st = r := ⟨_, rfl⟩
  rw [hf]
  rw [zX1_hasLine] at hf
  skip
  refine lv_iload_n hx hb dX1_hasLine_0 rfl (lv_at hl 1 rfl) ?_
  refine lv_if_lt (tgt := 16) hx hb dX1_hasLine_1 (by decide) (fun h => ?_) (fun h => ?_)
  · rw [if_pos h] at hf
    refine lv_iconst (v := 0) hx hb dX1_hasLine_16 (by decide) ?_
    rw [← hf]
    exact zz_retz (v := false) C hr hP hS dX1_hasLine_17
  · rw [if_neg h] at hf
    refine lv_iload_n hx hb dX1_hasLine_4 rfl (lv_at hl 1 rfl) ?_
    refine lv_aload_n hx hb dX1_hasLine_5 rfl (lv_at hl 0 rfl) ?_
    refine zz_getf C zi_X1_hasLine_X1 hP 1 rfl rfl 5 (nm := "lineCount") (ds := "I") (fin := false) rfl (by decide) zk_X1_hasLine_33 rfl dX1_hasLine_6 ?_
    refine lv_icmp_ge (tgt := 16) hx hb dX1_hasLine_9 (by decide) (fun h => ?_) (fun h => ?_)
    · rw [if_pos h] at hf
      refine lv_iconst (v := 0) hx hb dX1_hasLine_16 (by decide) ?_
      rw [← hf]
      exact zz_retz (v := false) C hr hP hS dX1_hasLine_17
    · rw [if_neg h] at hf
      refine lv_iconst (v := 1) hx hb dX1_hasLine_12 (by decide) ?_
      refine lv_goto (tgt := 17) hx hb dX1_hasLine_13 (by decide) ?_
      rw [← hf]
      exact zz_retz (v := true) C hr hP hS dX1_hasLine_17
/-! X8_ofLine PR -/
theorem zd_X8_ofLine : yX8_ofLine.cls = RX8 ∧ yX8_ofLine.cls ≠ "java/lang/invoke/MethodHandle" ∧ yX8_ofLine.cls ≠ "java/lang/invoke/VarHandle" ∧ (parseMethodDescriptor yX8_ofLine.desc).map (fun d => d.parameters.length) = some 2 := by decide +kernel
abbrev zr_X8_ofLine : Room := { frames := 4, cells := 0, slots := 0, locals := 91 }
theorem zk_X8_ofLine_10 : Cond.fieldLink yX8_ofLine.cls 10 RX8 "land" "LThirteenthDay$Land;" ∈ wsX8_ofLine := by decide +kernel
theorem zi_X8_ofLine_X8 : ∀ w ∈ u_ws RX8 TX8 11, w ∈ wsX8_ofLine := by decide +kernel
def zX8_ofLine (v1 : Int32) (v2 : Int32) (st : zz_T) : Option Int32 :=
  if (zX1_hasLine v1 st) = true then
    if v2 < 0 then
      none
    else
      if v2 ≤ 6 then
        (zX8_lineFact v1 v2 st).bind fun x1 =>
        some x1
      else
        none
  else
    none
set_option maxHeartbeats 4000000 in
set_option maxRecDepth 100000 in
theorem zc_X8_ofLine {l : Launch} {A : Nat → Prop} {D : va_G} {cI : ClassId} {q : Nat → Nat} (v1 : Int32) (v2 : Int32) (st : zz_T) (r : Int32) (hf : zX8_ofLine v1 v2 st = some r) : zz_Mi l A D cI q yX8_ofLine wsX8_ofLine zr_X8_ofLine [.ref (q 0), .int v1, .int v2] st r st := by
  refine zz_of (cc := cX8_ofLine) (nL := 3) (ret := some .int) (by decide) rfl (Nat.le_of_ble_eq_true rfl) ?_
  intro p e s m args below meth c ls C hr hP hS hl
  obtain ⟨hx, hb, hml, hown, hts⟩ := id C.1
  have hl : lv_has ls 3 [(0, .ref (q 0)), (1, .int v1), (2, .int v2)] := hl
  rw [zX8_ofLine] at hf
  skip
  refine lv_aload_n hx hb dX8_ofLine_0 rfl (lv_at hl 0 rfl) ?_
  refine zz_getf C zi_X8_ofLine_X8 hP 0 rfl rfl 0 (nm := "land") (ds := "LThirteenthDay$Land;") (fin := true) rfl (by decide) zk_X8_ofLine_10 rfl dX8_ofLine_1 ?_
  refine lv_iload_n hx hb dX8_ofLine_4 rfl (lv_at hl 1 rfl) ?_
  refine zz_callVi C (As := [.int v1]) (rest := []) (zc_X1_hasLine _ _) (cwV 1 hts gX8_ofLine_X1_hasLine rfl rfl rfl zd_X1_hasLine ⟨Nat.le_of_ble_eq_true rfl, Nat.le_of_ble_eq_true rfl⟩) hP hS 1 rfl rfl rfl hl rfl (Nat.le_of_ble_eq_true rfl) dX8_ofLine_5 ⟨Nat.zero_le _, Nat.zero_le _⟩ (fun H locs hP hS => ?_)
  refine lv_if_ne (tgt := 21) hx hb dX8_ofLine_8 (by decide) (fun h => ?_) (fun h => ?_)
  · rw [zz_if1 (zz_b1 h)] at hf
    refine lv_iload_n hx hb dX8_ofLine_21 rfl (lv_at hl 2 rfl) ?_
    refine lv_if_lt (tgt := 31) hx hb dX8_ofLine_22 (by decide) (fun h => ?_) (fun h => ?_)
    · rw [if_pos h] at hf
      cases hf
    · rw [if_neg h] at hf
      refine lv_iload_n hx hb dX8_ofLine_25 rfl (lv_at hl 2 rfl) ?_
      refine lv_bipush (v := 6) hx hb dX8_ofLine_26 (by decide) ?_
      refine lv_icmp_le (tgt := 41) hx hb dX8_ofLine_28 (by decide) (fun h => ?_) (fun h => ?_)
      · rw [if_pos h] at hf
        refine lv_aload_n hx hb dX8_ofLine_41 rfl (lv_at hl 0 rfl) ?_
        refine lv_iload_n hx hb dX8_ofLine_42 rfl (lv_at hl 1 rfl) ?_
        refine lv_iload_n hx hb dX8_ofLine_43 rfl (lv_at hl 2 rfl) ?_
        obtain ⟨x1, e2, hf⟩ := zz_bo hf
        refine zz_callVi C (As := [.int v1, .int v2]) (rest := []) (zc_X8_lineFact _ _ _ _ e2) (cwV 2 hts gX8_ofLine_X8_lineFact rfl rfl rfl zd_X8_lineFact ⟨Nat.le_of_ble_eq_true rfl, Nat.le_of_ble_eq_true rfl⟩) hP hS 0 rfl rfl rfl hl rfl (Nat.le_of_ble_eq_true rfl) dX8_ofLine_44 ⟨Nat.zero_le _, Nat.zero_le _⟩ (fun H locs hP hS => ?_)
        rw [← (Option.some.inj hf)]
        exact zz_reti C hr hP hS dX8_ofLine_47
      · rw [if_neg h] at hf
        cases hf
  · rw [zz_if0 (zz_b0 h)] at hf
    cases hf
/-! X8_isNoSector TR -/
theorem zd_X8_isNoSector : yX8_isNoSector.cls = RX8 ∧ yX8_isNoSector.cls ≠ "java/lang/invoke/MethodHandle" ∧ yX8_isNoSector.cls ≠ "java/lang/invoke/VarHandle" ∧ (parseMethodDescriptor yX8_isNoSector.desc).map (fun d => d.parameters.length) = some 1 := by decide +kernel
abbrev zr_X8_isNoSector : Room := { frames := 0, cells := 0, slots := 0, locals := 0 }
def zX8_isNoSector (v0 : Int32) (st : zz_T) : Bool :=
  if v0 < 0 then
    true
  else
    if v0 < 3 then
      false
    else
      true
set_option maxHeartbeats 4000000 in
set_option maxRecDepth 100000 in
theorem zc_X8_isNoSector {l : Launch} {A : Nat → Prop} {D : va_G} {cI : ClassId} {q : Nat → Nat} (v0 : Int32) (st : zz_T) : zz_Mi l A D cI q yX8_isNoSector wsX8_isNoSector zr_X8_isNoSector [.int v0] st (zz_b (zX8_isNoSector v0 st)) st := by
  refine zz_of (cc := cX8_isNoSector) (nL := 1) (ret := some .boolean) (by decide) rfl (Nat.le_of_ble_eq_true rfl) ?_
  intro p e s m args below meth c ls C hr hP hS hl
  obtain ⟨hx, hb, hml, hown, hts⟩ := id C.1
  have hl : lv_has ls 1 [(0, .int v0)] := hl
  obtain ⟨r, hf⟩ : ∃ r, zX8_isNoSector v0 st = r := ⟨_, rfl⟩
  rw [hf]
  rw [zX8_isNoSector] at hf
  skip
  refine lv_iload_n hx hb dX8_isNoSector_0 rfl (lv_at hl 0 rfl) ?_
  refine lv_if_lt (tgt := 9) hx hb dX8_isNoSector_1 (by decide) (fun h => ?_) (fun h => ?_)
  · rw [if_pos h] at hf
    refine lv_iconst (v := 1) hx hb dX8_isNoSector_9 (by decide) ?_
    refine lv_goto (tgt := 14) hx hb dX8_isNoSector_10 (by decide) ?_
    rw [← hf]
    exact zz_retz (v := true) C hr hP hS dX8_isNoSector_14
  · rw [if_neg h] at hf
    refine lv_iload_n hx hb dX8_isNoSector_4 rfl (lv_at hl 0 rfl) ?_
    refine lv_iconst (v := 3) hx hb dX8_isNoSector_5 (by decide) ?_
    refine lv_icmp_lt (tgt := 13) hx hb dX8_isNoSector_6 (by decide) (fun h => ?_) (fun h => ?_)
    · rw [if_pos h] at hf
      refine lv_iconst (v := 0) hx hb dX8_isNoSector_13 (by decide) ?_
      rw [← hf]
      exact zz_retz (v := false) C hr hP hS dX8_isNoSector_14
    · rw [if_neg h] at hf
      refine lv_iconst (v := 1) hx hb dX8_isNoSector_9 (by decide) ?_
      refine lv_goto (tgt := 14) hx hb dX8_isNoSector_10 (by decide) ?_
      rw [← hf]
      exact zz_retz (v := true) C hr hP hS dX8_isNoSector_14
/-! X8_ofSector PR -/
theorem zd_X8_ofSector : yX8_ofSector.cls = RX8 ∧ yX8_ofSector.cls ≠ "java/lang/invoke/MethodHandle" ∧ yX8_ofSector.cls ≠ "java/lang/invoke/VarHandle" ∧ (parseMethodDescriptor yX8_ofSector.desc).map (fun d => d.parameters.length) = some 2 := by decide +kernel
abbrev zr_X8_ofSector : Room := { frames := 4, cells := 0, slots := 0, locals := 96 }
def zX8_ofSector (v1 : Int32) (v2 : Int32) (st : zz_T) : Option Int32 :=
  if (zX8_isNoSector v1 st) = true then
    none
  else
    if v2 < 0 then
      none
    else
      if v2 ≤ 12 then
        (zX8_sectorFact v1 v2 st).bind fun x1 =>
        some x1
      else
        none
set_option maxHeartbeats 4000000 in
set_option maxRecDepth 100000 in
theorem zc_X8_ofSector {l : Launch} {A : Nat → Prop} {D : va_G} {cI : ClassId} {q : Nat → Nat} (v1 : Int32) (v2 : Int32) (st : zz_T) (r : Int32) (hf : zX8_ofSector v1 v2 st = some r) : zz_Mi l A D cI q yX8_ofSector wsX8_ofSector zr_X8_ofSector [.ref (q 0), .int v1, .int v2] st r st := by
  refine zz_of (cc := cX8_ofSector) (nL := 3) (ret := some .int) (by decide) rfl (Nat.le_of_ble_eq_true rfl) ?_
  intro p e s m args below meth c ls C hr hP hS hl
  obtain ⟨hx, hb, hml, hown, hts⟩ := id C.1
  have hl : lv_has ls 3 [(0, .ref (q 0)), (1, .int v1), (2, .int v2)] := hl
  rw [zX8_ofSector] at hf
  skip
  refine lv_iload_n hx hb dX8_ofSector_0 rfl (lv_at hl 1 rfl) ?_
  refine zz_callSi C (As := [.int v1]) (rest := []) (zc_X8_isNoSector _ _) (va_cwS 1 hts gX8_ofSector_X8_isNoSector rfl rfl rfl zd_X8_isNoSector.2 ⟨Nat.le_of_ble_eq_true rfl, Nat.le_of_ble_eq_true rfl⟩) hP hS rfl hl rfl (Nat.le_of_ble_eq_true rfl) dX8_ofSector_1 ⟨Nat.zero_le _, Nat.zero_le _⟩ (fun H locs hP hS => ?_)
  refine lv_if_eq (tgt := 17) hx hb dX8_ofSector_4 (by decide) (fun h => ?_) (fun h => ?_)
  · rw [zz_if0 (zz_b0 h)] at hf
    refine lv_iload_n hx hb dX8_ofSector_17 rfl (lv_at hl 2 rfl) ?_
    refine lv_if_lt (tgt := 27) hx hb dX8_ofSector_18 (by decide) (fun h => ?_) (fun h => ?_)
    · rw [if_pos h] at hf
      cases hf
    · rw [if_neg h] at hf
      refine lv_iload_n hx hb dX8_ofSector_21 rfl (lv_at hl 2 rfl) ?_
      refine lv_bipush (v := 12) hx hb dX8_ofSector_22 (by decide) ?_
      refine lv_icmp_le (tgt := 37) hx hb dX8_ofSector_24 (by decide) (fun h => ?_) (fun h => ?_)
      · rw [if_pos h] at hf
        refine lv_aload_n hx hb dX8_ofSector_37 rfl (lv_at hl 0 rfl) ?_
        refine lv_iload_n hx hb dX8_ofSector_38 rfl (lv_at hl 1 rfl) ?_
        refine lv_iload_n hx hb dX8_ofSector_39 rfl (lv_at hl 2 rfl) ?_
        obtain ⟨x1, e2, hf⟩ := zz_bo hf
        refine zz_callVi C (As := [.int v1, .int v2]) (rest := []) (zc_X8_sectorFact _ _ _ _ e2) (cwV 2 hts gX8_ofSector_X8_sectorFact rfl rfl rfl zd_X8_sectorFact ⟨Nat.le_of_ble_eq_true rfl, Nat.le_of_ble_eq_true rfl⟩) hP hS 0 rfl rfl rfl hl rfl (Nat.le_of_ble_eq_true rfl) dX8_ofSector_40 ⟨Nat.zero_le _, Nat.zero_le _⟩ (fun H locs hP hS => ?_)
        rw [← (Option.some.inj hf)]
        exact zz_reti C hr hP hS dX8_ofSector_43
      · rw [if_neg h] at hf
        cases hf
  · rw [zz_if1 (zz_b1 h)] at hf
    cases hf
/-! X1_hasStation TR -/
theorem zd_X1_hasStation : yX1_hasStation.cls = RX1 ∧ yX1_hasStation.cls ≠ "java/lang/invoke/MethodHandle" ∧ yX1_hasStation.cls ≠ "java/lang/invoke/VarHandle" ∧ (parseMethodDescriptor yX1_hasStation.desc).map (fun d => d.parameters.length) = some 1 := by decide +kernel
abbrev zr_X1_hasStation : Room := { frames := 0, cells := 0, slots := 0, locals := 0 }
theorem zk_X1_hasStation_29 : Cond.fieldLink yX1_hasStation.cls 29 RX1 "stationCount" "I" ∈ wsX1_hasStation := by decide +kernel
theorem zi_X1_hasStation_X1 : ∀ w ∈ u_ws RX1 TX1 6, w ∈ wsX1_hasStation := by decide +kernel
def zX1_hasStation (v1 : Int32) (st : zz_T) : Bool :=
  if v1 < 0 then
    false
  else
    if (st.2 2) ≤ v1 then
      false
    else
      true
set_option maxHeartbeats 4000000 in
set_option maxRecDepth 100000 in
theorem zc_X1_hasStation {l : Launch} {A : Nat → Prop} {D : va_G} {cI : ClassId} {q : Nat → Nat} (v1 : Int32) (st : zz_T) : zz_Mi l A D cI q yX1_hasStation wsX1_hasStation zr_X1_hasStation [.ref (q 1), .int v1] st (zz_b (zX1_hasStation v1 st)) st := by
  refine zz_of (cc := cX1_hasStation) (nL := 2) (ret := some .boolean) (by decide) rfl (Nat.le_of_ble_eq_true rfl) ?_
  intro p e s m args below meth c ls C hr hP hS hl
  obtain ⟨hx, hb, hml, hown, hts⟩ := id C.1
  have hl : lv_has ls 2 [(0, .ref (q 1)), (1, .int v1)] := hl
  obtain ⟨r, hf⟩ : ∃ r, zX1_hasStation v1 st = r := ⟨_, rfl⟩
  rw [hf]
  rw [zX1_hasStation] at hf
  skip
  refine lv_iload_n hx hb dX1_hasStation_0 rfl (lv_at hl 1 rfl) ?_
  refine lv_if_lt (tgt := 16) hx hb dX1_hasStation_1 (by decide) (fun h => ?_) (fun h => ?_)
  · rw [if_pos h] at hf
    refine lv_iconst (v := 0) hx hb dX1_hasStation_16 (by decide) ?_
    rw [← hf]
    exact zz_retz (v := false) C hr hP hS dX1_hasStation_17
  · rw [if_neg h] at hf
    refine lv_iload_n hx hb dX1_hasStation_4 rfl (lv_at hl 1 rfl) ?_
    refine lv_aload_n hx hb dX1_hasStation_5 rfl (lv_at hl 0 rfl) ?_
    refine zz_getf C zi_X1_hasStation_X1 hP 1 rfl rfl 4 (nm := "stationCount") (ds := "I") (fin := false) rfl (by decide) zk_X1_hasStation_29 rfl dX1_hasStation_6 ?_
    refine lv_icmp_ge (tgt := 16) hx hb dX1_hasStation_9 (by decide) (fun h => ?_) (fun h => ?_)
    · rw [if_pos h] at hf
      refine lv_iconst (v := 0) hx hb dX1_hasStation_16 (by decide) ?_
      rw [← hf]
      exact zz_retz (v := false) C hr hP hS dX1_hasStation_17
    · rw [if_neg h] at hf
      refine lv_iconst (v := 1) hx hb dX1_hasStation_12 (by decide) ?_
      refine lv_goto (tgt := 17) hx hb dX1_hasStation_13 (by decide) ?_
      rw [← hf]
      exact zz_retz (v := true) C hr hP hS dX1_hasStation_17
/-! X8_ofStation PR -/
theorem zd_X8_ofStation : yX8_ofStation.cls = RX8 ∧ yX8_ofStation.cls ≠ "java/lang/invoke/MethodHandle" ∧ yX8_ofStation.cls ≠ "java/lang/invoke/VarHandle" ∧ (parseMethodDescriptor yX8_ofStation.desc).map (fun d => d.parameters.length) = some 2 := by decide +kernel
abbrev zr_X8_ofStation : Room := { frames := 4, cells := 0, slots := 0, locals := 92 }
theorem zk_X8_ofStation_10 : Cond.fieldLink yX8_ofStation.cls 10 RX8 "land" "LThirteenthDay$Land;" ∈ wsX8_ofStation := by decide +kernel
theorem zi_X8_ofStation_X8 : ∀ w ∈ u_ws RX8 TX8 11, w ∈ wsX8_ofStation := by decide +kernel
def zX8_ofStation (v1 : Int32) (v2 : Int32) (st : zz_T) : Option Int32 :=
  if (zX1_hasStation v1 st) = true then
    if v2 < 0 then
      none
    else
      if v2 ≤ 5 then
        (zX8_stationFact v1 v2 st).bind fun x1 =>
        some x1
      else
        none
  else
    none
set_option maxHeartbeats 4000000 in
set_option maxRecDepth 100000 in
theorem zc_X8_ofStation {l : Launch} {A : Nat → Prop} {D : va_G} {cI : ClassId} {q : Nat → Nat} (v1 : Int32) (v2 : Int32) (st : zz_T) (r : Int32) (hf : zX8_ofStation v1 v2 st = some r) : zz_Mi l A D cI q yX8_ofStation wsX8_ofStation zr_X8_ofStation [.ref (q 0), .int v1, .int v2] st r st := by
  refine zz_of (cc := cX8_ofStation) (nL := 3) (ret := some .int) (by decide) rfl (Nat.le_of_ble_eq_true rfl) ?_
  intro p e s m args below meth c ls C hr hP hS hl
  obtain ⟨hx, hb, hml, hown, hts⟩ := id C.1
  have hl : lv_has ls 3 [(0, .ref (q 0)), (1, .int v1), (2, .int v2)] := hl
  rw [zX8_ofStation] at hf
  skip
  refine lv_aload_n hx hb dX8_ofStation_0 rfl (lv_at hl 0 rfl) ?_
  refine zz_getf C zi_X8_ofStation_X8 hP 0 rfl rfl 0 (nm := "land") (ds := "LThirteenthDay$Land;") (fin := true) rfl (by decide) zk_X8_ofStation_10 rfl dX8_ofStation_1 ?_
  refine lv_iload_n hx hb dX8_ofStation_4 rfl (lv_at hl 1 rfl) ?_
  refine zz_callVi C (As := [.int v1]) (rest := []) (zc_X1_hasStation _ _) (cwV 1 hts gX8_ofStation_X1_hasStation rfl rfl rfl zd_X1_hasStation ⟨Nat.le_of_ble_eq_true rfl, Nat.le_of_ble_eq_true rfl⟩) hP hS 1 rfl rfl rfl hl rfl (Nat.le_of_ble_eq_true rfl) dX8_ofStation_5 ⟨Nat.zero_le _, Nat.zero_le _⟩ (fun H locs hP hS => ?_)
  refine lv_if_ne (tgt := 21) hx hb dX8_ofStation_8 (by decide) (fun h => ?_) (fun h => ?_)
  · rw [zz_if1 (zz_b1 h)] at hf
    refine lv_iload_n hx hb dX8_ofStation_21 rfl (lv_at hl 2 rfl) ?_
    refine lv_if_lt (tgt := 30) hx hb dX8_ofStation_22 (by decide) (fun h => ?_) (fun h => ?_)
    · rw [if_pos h] at hf
      cases hf
    · rw [if_neg h] at hf
      refine lv_iload_n hx hb dX8_ofStation_25 rfl (lv_at hl 2 rfl) ?_
      refine lv_iconst (v := 5) hx hb dX8_ofStation_26 (by decide) ?_
      refine lv_icmp_le (tgt := 40) hx hb dX8_ofStation_27 (by decide) (fun h => ?_) (fun h => ?_)
      · rw [if_pos h] at hf
        refine lv_aload_n hx hb dX8_ofStation_40 rfl (lv_at hl 0 rfl) ?_
        refine lv_iload_n hx hb dX8_ofStation_41 rfl (lv_at hl 1 rfl) ?_
        refine lv_iload_n hx hb dX8_ofStation_42 rfl (lv_at hl 2 rfl) ?_
        obtain ⟨x1, e2, hf⟩ := zz_bo hf
        refine zz_callVi C (As := [.int v1, .int v2]) (rest := []) (zc_X8_stationFact _ _ _ _ e2) (cwV 2 hts gX8_ofStation_X8_stationFact rfl rfl rfl zd_X8_stationFact ⟨Nat.le_of_ble_eq_true rfl, Nat.le_of_ble_eq_true rfl⟩) hP hS 0 rfl rfl rfl hl rfl (Nat.le_of_ble_eq_true rfl) dX8_ofStation_43 ⟨Nat.zero_le _, Nat.zero_le _⟩ (fun H locs hP hS => ?_)
        rw [← (Option.some.inj hf)]
        exact zz_reti C hr hP hS dX8_ofStation_46
      · rw [if_neg h] at hf
        cases hf
  · rw [zz_if0 (zz_b0 h)] at hf
    cases hf
/-! X6_has TR -/
theorem zd_X6_has : yX6_has.cls = RX6 ∧ yX6_has.cls ≠ "java/lang/invoke/MethodHandle" ∧ yX6_has.cls ≠ "java/lang/invoke/VarHandle" ∧ (parseMethodDescriptor yX6_has.desc).map (fun d => d.parameters.length) = some 1 := by decide +kernel
abbrev zr_X6_has : Room := { frames := 0, cells := 0, slots := 0, locals := 0 }
theorem zk_X6_has_23 : Cond.fieldLink yX6_has.cls 23 RX6 "trainCount" "I" ∈ wsX6_has := by decide +kernel
theorem zi_X6_has_X6 : ∀ w ∈ u_ws RX6 TX6 3, w ∈ wsX6_has := by decide +kernel
def zX6_has (v1 : Int32) (st : zz_T) : Bool :=
  if v1 < 0 then
    false
  else
    if (st.2 5) ≤ v1 then
      false
    else
      true
set_option maxHeartbeats 4000000 in
set_option maxRecDepth 100000 in
theorem zc_X6_has {l : Launch} {A : Nat → Prop} {D : va_G} {cI : ClassId} {q : Nat → Nat} (v1 : Int32) (st : zz_T) : zz_Mi l A D cI q yX6_has wsX6_has zr_X6_has [.ref (q 5), .int v1] st (zz_b (zX6_has v1 st)) st := by
  refine zz_of (cc := cX6_has) (nL := 2) (ret := some .boolean) (by decide) rfl (Nat.le_of_ble_eq_true rfl) ?_
  intro p e s m args below meth c ls C hr hP hS hl
  obtain ⟨hx, hb, hml, hown, hts⟩ := id C.1
  have hl : lv_has ls 2 [(0, .ref (q 5)), (1, .int v1)] := hl
  obtain ⟨r, hf⟩ : ∃ r, zX6_has v1 st = r := ⟨_, rfl⟩
  rw [hf]
  rw [zX6_has] at hf
  skip
  refine lv_iload_n hx hb dX6_has_0 rfl (lv_at hl 1 rfl) ?_
  refine lv_if_lt (tgt := 16) hx hb dX6_has_1 (by decide) (fun h => ?_) (fun h => ?_)
  · rw [if_pos h] at hf
    refine lv_iconst (v := 0) hx hb dX6_has_16 (by decide) ?_
    rw [← hf]
    exact zz_retz (v := false) C hr hP hS dX6_has_17
  · rw [if_neg h] at hf
    refine lv_iload_n hx hb dX6_has_4 rfl (lv_at hl 1 rfl) ?_
    refine lv_aload_n hx hb dX6_has_5 rfl (lv_at hl 0 rfl) ?_
    refine zz_getf C zi_X6_has_X6 hP 5 rfl rfl 2 (nm := "trainCount") (ds := "I") (fin := false) rfl (by decide) zk_X6_has_23 rfl dX6_has_6 ?_
    refine lv_icmp_ge (tgt := 16) hx hb dX6_has_9 (by decide) (fun h => ?_) (fun h => ?_)
    · rw [if_pos h] at hf
      refine lv_iconst (v := 0) hx hb dX6_has_16 (by decide) ?_
      rw [← hf]
      exact zz_retz (v := false) C hr hP hS dX6_has_17
    · rw [if_neg h] at hf
      refine lv_iconst (v := 1) hx hb dX6_has_12 (by decide) ?_
      refine lv_goto (tgt := 17) hx hb dX6_has_13 (by decide) ?_
      rw [← hf]
      exact zz_retz (v := true) C hr hP hS dX6_has_17
/-! X8_ofTrain PR -/
theorem zd_X8_ofTrain : yX8_ofTrain.cls = RX8 ∧ yX8_ofTrain.cls ≠ "java/lang/invoke/MethodHandle" ∧ yX8_ofTrain.cls ≠ "java/lang/invoke/VarHandle" ∧ (parseMethodDescriptor yX8_ofTrain.desc).map (fun d => d.parameters.length) = some 2 := by decide +kernel
abbrev zr_X8_ofTrain : Room := { frames := 3, cells := 0, slots := 0, locals := 68 }
theorem zk_X8_ofTrain_36 : Cond.fieldLink yX8_ofTrain.cls 36 RX8 "trains" "LThirteenthDay$Trains;" ∈ wsX8_ofTrain := by decide +kernel
theorem zi_X8_ofTrain_X8 : ∀ w ∈ u_ws RX8 TX8 11, w ∈ wsX8_ofTrain := by decide +kernel
def zX8_ofTrain (v1 : Int32) (v2 : Int32) (st : zz_T) : Option Int32 :=
  if (zX6_has v1 st) = true then
    if v2 < 0 then
      none
    else
      if v2 ≤ 9 then
        some (zX8_trainFact v1 v2 st)
      else
        none
  else
    none
set_option maxHeartbeats 4000000 in
set_option maxRecDepth 100000 in
theorem zc_X8_ofTrain {l : Launch} {A : Nat → Prop} {D : va_G} {cI : ClassId} {q : Nat → Nat} (v1 : Int32) (v2 : Int32) (st : zz_T) (r : Int32) (hf : zX8_ofTrain v1 v2 st = some r) : zz_Mi l A D cI q yX8_ofTrain wsX8_ofTrain zr_X8_ofTrain [.ref (q 0), .int v1, .int v2] st r st := by
  refine zz_of (cc := cX8_ofTrain) (nL := 3) (ret := some .int) (by decide) rfl (Nat.le_of_ble_eq_true rfl) ?_
  intro p e s m args below meth c ls C hr hP hS hl
  obtain ⟨hx, hb, hml, hown, hts⟩ := id C.1
  have hl : lv_has ls 3 [(0, .ref (q 0)), (1, .int v1), (2, .int v2)] := hl
  rw [zX8_ofTrain] at hf
  skip
  refine lv_aload_n hx hb dX8_ofTrain_0 rfl (lv_at hl 0 rfl) ?_
  refine zz_getf C zi_X8_ofTrain_X8 hP 0 rfl rfl 4 (nm := "trains") (ds := "LThirteenthDay$Trains;") (fin := true) rfl (by decide) zk_X8_ofTrain_36 rfl dX8_ofTrain_1 ?_
  refine lv_iload_n hx hb dX8_ofTrain_4 rfl (lv_at hl 1 rfl) ?_
  refine zz_callVi C (As := [.int v1]) (rest := []) (zc_X6_has _ _) (cwV 1 hts gX8_ofTrain_X6_has rfl rfl rfl zd_X6_has ⟨Nat.le_of_ble_eq_true rfl, Nat.le_of_ble_eq_true rfl⟩) hP hS 5 rfl rfl rfl hl rfl (Nat.le_of_ble_eq_true rfl) dX8_ofTrain_5 ⟨Nat.zero_le _, Nat.zero_le _⟩ (fun H locs hP hS => ?_)
  refine lv_if_ne (tgt := 22) hx hb dX8_ofTrain_8 (by decide) (fun h => ?_) (fun h => ?_)
  · rw [zz_if1 (zz_b1 h)] at hf
    refine lv_iload_n hx hb dX8_ofTrain_22 rfl (lv_at hl 2 rfl) ?_
    refine lv_if_lt (tgt := 32) hx hb dX8_ofTrain_23 (by decide) (fun h => ?_) (fun h => ?_)
    · rw [if_pos h] at hf
      cases hf
    · rw [if_neg h] at hf
      refine lv_iload_n hx hb dX8_ofTrain_26 rfl (lv_at hl 2 rfl) ?_
      refine lv_bipush (v := 9) hx hb dX8_ofTrain_27 (by decide) ?_
      refine lv_icmp_le (tgt := 43) hx hb dX8_ofTrain_29 (by decide) (fun h => ?_) (fun h => ?_)
      · rw [if_pos h] at hf
        refine lv_aload_n hx hb dX8_ofTrain_43 rfl (lv_at hl 0 rfl) ?_
        refine lv_iload_n hx hb dX8_ofTrain_44 rfl (lv_at hl 1 rfl) ?_
        refine lv_iload_n hx hb dX8_ofTrain_45 rfl (lv_at hl 2 rfl) ?_
        refine zz_callVi C (As := [.int v1, .int v2]) (rest := []) (zc_X8_trainFact _ _ _) (cwV 2 hts gX8_ofTrain_X8_trainFact rfl rfl rfl zd_X8_trainFact ⟨Nat.le_of_ble_eq_true rfl, Nat.le_of_ble_eq_true rfl⟩) hP hS 0 rfl rfl rfl hl rfl (Nat.le_of_ble_eq_true rfl) dX8_ofTrain_46 ⟨Nat.zero_le _, Nat.zero_le _⟩ (fun H locs hP hS => ?_)
        rw [← (Option.some.inj hf)]
        exact zz_reti C hr hP hS dX8_ofTrain_49
      · rw [if_neg h] at hf
        cases hf
  · rw [zz_if0 (zz_b0 h)] at hf
    cases hf
/-! X8_ofUnit PR -/
theorem zd_X8_ofUnit : yX8_ofUnit.cls = RX8 ∧ yX8_ofUnit.cls ≠ "java/lang/invoke/MethodHandle" ∧ yX8_ofUnit.cls ≠ "java/lang/invoke/VarHandle" ∧ (parseMethodDescriptor yX8_ofUnit.desc).map (fun d => d.parameters.length) = some 2 := by decide +kernel
abbrev zr_X8_ofUnit : Room := { frames := 3, cells := 0, slots := 0, locals := 72 }
theorem zk_X8_ofUnit_19 : Cond.fieldLink yX8_ofUnit.cls 19 RX8 "units" "LThirteenthDay$Units;" ∈ wsX8_ofUnit := by decide +kernel
theorem zi_X8_ofUnit_X8 : ∀ w ∈ u_ws RX8 TX8 11, w ∈ wsX8_ofUnit := by decide +kernel
def zX8_ofUnit (v1 : Int32) (v2 : Int32) (st : zz_T) : Option Int32 :=
  if (zX7_has v1 st) = true then
    if v2 < 0 then
      none
    else
      if v2 ≤ 12 then
        (zX8_unitFact v1 v2 st).bind fun x1 =>
        some x1
      else
        none
  else
    none
set_option maxHeartbeats 4000000 in
set_option maxRecDepth 100000 in
theorem zc_X8_ofUnit {l : Launch} {A : Nat → Prop} {D : va_G} {cI : ClassId} {q : Nat → Nat} (v1 : Int32) (v2 : Int32) (st : zz_T) (r : Int32) (hf : zX8_ofUnit v1 v2 st = some r) : zz_Mi l A D cI q yX8_ofUnit wsX8_ofUnit zr_X8_ofUnit [.ref (q 0), .int v1, .int v2] st r st := by
  refine zz_of (cc := cX8_ofUnit) (nL := 3) (ret := some .int) (by decide) rfl (Nat.le_of_ble_eq_true rfl) ?_
  intro p e s m args below meth c ls C hr hP hS hl
  obtain ⟨hx, hb, hml, hown, hts⟩ := id C.1
  have hl : lv_has ls 3 [(0, .ref (q 0)), (1, .int v1), (2, .int v2)] := hl
  rw [zX8_ofUnit] at hf
  skip
  refine lv_aload_n hx hb dX8_ofUnit_0 rfl (lv_at hl 0 rfl) ?_
  refine zz_getf C zi_X8_ofUnit_X8 hP 0 rfl rfl 1 (nm := "units") (ds := "LThirteenthDay$Units;") (fin := true) rfl (by decide) zk_X8_ofUnit_19 rfl dX8_ofUnit_1 ?_
  refine lv_iload_n hx hb dX8_ofUnit_4 rfl (lv_at hl 1 rfl) ?_
  refine zz_callVi C (As := [.int v1]) (rest := []) (zc_X7_has _ _) (cwV 1 hts gX8_ofUnit_X7_has rfl rfl rfl zd_X7_has ⟨Nat.le_of_ble_eq_true rfl, Nat.le_of_ble_eq_true rfl⟩) hP hS 2 rfl rfl rfl hl rfl (Nat.le_of_ble_eq_true rfl) dX8_ofUnit_5 ⟨Nat.zero_le _, Nat.zero_le _⟩ (fun H locs hP hS => ?_)
  refine lv_if_ne (tgt := 21) hx hb dX8_ofUnit_8 (by decide) (fun h => ?_) (fun h => ?_)
  · rw [zz_if1 (zz_b1 h)] at hf
    refine lv_iload_n hx hb dX8_ofUnit_21 rfl (lv_at hl 2 rfl) ?_
    refine lv_if_lt (tgt := 31) hx hb dX8_ofUnit_22 (by decide) (fun h => ?_) (fun h => ?_)
    · rw [if_pos h] at hf
      cases hf
    · rw [if_neg h] at hf
      refine lv_iload_n hx hb dX8_ofUnit_25 rfl (lv_at hl 2 rfl) ?_
      refine lv_bipush (v := 12) hx hb dX8_ofUnit_26 (by decide) ?_
      refine lv_icmp_le (tgt := 41) hx hb dX8_ofUnit_28 (by decide) (fun h => ?_) (fun h => ?_)
      · rw [if_pos h] at hf
        refine lv_aload_n hx hb dX8_ofUnit_41 rfl (lv_at hl 0 rfl) ?_
        refine lv_iload_n hx hb dX8_ofUnit_42 rfl (lv_at hl 1 rfl) ?_
        refine lv_iload_n hx hb dX8_ofUnit_43 rfl (lv_at hl 2 rfl) ?_
        obtain ⟨x1, e2, hf⟩ := zz_bo hf
        refine zz_callVi C (As := [.int v1, .int v2]) (rest := []) (zc_X8_unitFact _ _ _ _ e2) (cwV 2 hts gX8_ofUnit_X8_unitFact rfl rfl rfl zd_X8_unitFact ⟨Nat.le_of_ble_eq_true rfl, Nat.le_of_ble_eq_true rfl⟩) hP hS 0 rfl rfl rfl hl rfl (Nat.le_of_ble_eq_true rfl) dX8_ofUnit_44 ⟨Nat.zero_le _, Nat.zero_le _⟩ (fun H locs hP hS => ?_)
        rw [← (Option.some.inj hf)]
        exact zz_reti C hr hP hS dX8_ofUnit_47
      · rw [if_neg h] at hf
        cases hf
  · rw [zz_if0 (zz_b0 h)] at hf
    cases hf
/-! X0_add TW -/
theorem zd_X0_add : yX0_add.cls = RX0 ∧ yX0_add.cls ≠ "java/lang/invoke/MethodHandle" ∧ yX0_add.cls ≠ "java/lang/invoke/VarHandle" ∧ (parseMethodDescriptor yX0_add.desc).map (fun d => d.parameters.length) = some 4 := by decide +kernel
abbrev zr_X0_add : Room := { frames := 1, cells := 0, slots := 0, locals := 24 }
theorem zk_X0_add_20 : Cond.fieldLink yX0_add.cls 20 RX0 "plans" "LThirteenthDay$Table;" ∈ wsX0_add := by decide +kernel
theorem zk_X0_add_16 : Cond.fieldLink yX0_add.cls 16 RX0 "entries" "LThirteenthDay$Table;" ∈ wsX0_add := by decide +kernel
theorem zi_X0_add_X0 : ∀ w ∈ u_ws RX0 TX0 4, w ∈ wsX0_add := by decide +kernel
def zX0_add (v1 : Int32) (v2 : Int32) (v3 : Int32) (v4 : Int32) (st : zz_T) : (Int32 × zz_T) :=
  zz_v ((v1 * 6) + (zz_g 21 v1 0 st)) fun w1 =>
  zz_v (zz_set 20 w1 0 v2 st) fun st2 =>
  zz_v (zz_set 20 w1 1 v3 st2) fun st4 =>
  zz_v (zz_set 20 w1 2 v4 st4) fun st6 =>
  zz_v (zz_add 21 v1 0 1 st6) fun st8 =>
  ((zz_g 21 v1 0 st8), st8)
set_option maxHeartbeats 4000000 in
set_option maxRecDepth 100000 in
theorem zc_X0_add {l : Launch} {A : Nat → Prop} {D : va_G} {cI : ClassId} {q : Nat → Nat} (v1 : Int32) (v2 : Int32) (v3 : Int32) (v4 : Int32) (st : zz_T) : zz_Mi l A D cI q yX0_add wsX0_add zr_X0_add [.ref (q 8), .int v1, .int v2, .int v3, .int v4] st (zX0_add v1 v2 v3 v4 st).1 (zX0_add v1 v2 v3 v4 st).2 := by
  refine zz_of (cc := cX0_add) (nL := 6) (ret := some .int) (by decide) rfl (Nat.le_of_ble_eq_true rfl) ?_
  intro p e s m args below meth c ls C hr hP hS hl
  obtain ⟨hx, hb, hml, hown, hts⟩ := id C.1
  have hl : lv_has ls 6 [(0, .ref (q 8)), (1, .int v1), (2, .int v2), (3, .int v3), (4, .int v4)] := hl
  obtain ⟨r, hf⟩ : ∃ r, zX0_add v1 v2 v3 v4 st = r := ⟨_, rfl⟩
  rw [hf]
  rw [zX0_add] at hf
  skip
  refine lv_iload_n hx hb dX0_add_0 rfl (lv_at hl 1 rfl) ?_
  refine lv_bipush (v := 6) hx hb dX0_add_1 (by decide) ?_
  refine lv_imul hx hb dX0_add_3 ?_
  refine lv_aload_n hx hb dX0_add_4 rfl (lv_at hl 0 rfl) ?_
  refine zz_getf C zi_X0_add_X0 hP 8 rfl rfl 1 (nm := "plans") (ds := "LThirteenthDay$Table;") (fin := true) rfl (by decide) zk_X0_add_20 rfl dX0_add_5 ?_
  refine lv_iload_n hx hb dX0_add_8 rfl (lv_at hl 1 rfl) ?_
  refine lv_iconst (v := 0) hx hb dX0_add_9 (by decide) ?_
  refine zz_callVi C (As := [.int v1, .int 0]) (rest := [.int (v1 * 6)]) (zc_X5_get 21 (by decide) _ _ _) (cwV 2 hts gX0_add_X5_get rfl rfl rfl zd_X5_get ⟨Nat.le_of_ble_eq_true rfl, Nat.le_of_ble_eq_true rfl⟩) hP hS (9 + 21) (zz_c_tab (by decide)) rfl rfl hl rfl (Nat.le_of_ble_eq_true rfl) dX0_add_10 ⟨Nat.zero_le _, Nat.zero_le _⟩ (fun H locs hP hS => ?_)
  refine lv_iadd hx hb dX0_add_13 ?_
  refine lv_topi (fun w1 e1 => ?_)
  replace hf := zz_vi hf e1
  refine lv_istore (lv' := [(5, .int w1), (0, .ref (q 8)), (1, .int v1), (2, .int v2), (3, .int v3), (4, .int v4)]) hx hb dX0_add_14 hl (by decide) rfl (fun ls hl => ?_)
  refine lv_aload_n hx hb dX0_add_16 rfl (lv_at hl 1 rfl) ?_
  refine zz_getf C zi_X0_add_X0 hP 8 rfl rfl 0 (nm := "entries") (ds := "LThirteenthDay$Table;") (fin := true) rfl (by decide) zk_X0_add_16 rfl dX0_add_17 ?_
  refine lv_iload hx hb dX0_add_20 (lv_at hl 0 rfl) ?_
  refine lv_iconst (v := 0) hx hb dX0_add_22 (by decide) ?_
  refine lv_iload_n hx hb dX0_add_23 rfl (lv_at hl 3 rfl) ?_
  obtain ⟨st2, e3, hf⟩ := zz_vo hf
  refine zz_callVv C (As := [.int w1, .int 0, .int v2]) (rest := []) (zz_Mv_e e3 (zc_X5_set 20 (by decide) _ _ _ _)) (cwV 3 hts gX0_add_X5_set rfl rfl rfl zd_X5_set ⟨Nat.le_of_ble_eq_true rfl, Nat.le_of_ble_eq_true rfl⟩) hP hS (9 + 20) (zz_c_tab (by decide)) rfl rfl hl rfl (Nat.le_of_ble_eq_true rfl) dX0_add_24 ⟨Nat.zero_le _, Nat.zero_le _⟩ (fun H locs hP hS => ?_)
  refine lv_aload_n hx hb dX0_add_27 rfl (lv_at hl 1 rfl) ?_
  refine zz_getf C zi_X0_add_X0 hP 8 rfl rfl 0 (nm := "entries") (ds := "LThirteenthDay$Table;") (fin := true) rfl (by decide) zk_X0_add_16 rfl dX0_add_28 ?_
  refine lv_iload hx hb dX0_add_31 (lv_at hl 0 rfl) ?_
  refine lv_iconst (v := 1) hx hb dX0_add_33 (by decide) ?_
  refine lv_iload_n hx hb dX0_add_34 rfl (lv_at hl 4 rfl) ?_
  obtain ⟨st4, e5, hf⟩ := zz_vo hf
  refine zz_callVv C (As := [.int w1, .int 1, .int v3]) (rest := []) (zz_Mv_e e5 (zc_X5_set 20 (by decide) _ _ _ _)) (cwV 3 hts gX0_add_X5_set rfl rfl rfl zd_X5_set ⟨Nat.le_of_ble_eq_true rfl, Nat.le_of_ble_eq_true rfl⟩) hP hS (9 + 20) (zz_c_tab (by decide)) rfl rfl hl rfl (Nat.le_of_ble_eq_true rfl) dX0_add_35 ⟨Nat.zero_le _, Nat.zero_le _⟩ (fun H locs hP hS => ?_)
  refine lv_aload_n hx hb dX0_add_38 rfl (lv_at hl 1 rfl) ?_
  refine zz_getf C zi_X0_add_X0 hP 8 rfl rfl 0 (nm := "entries") (ds := "LThirteenthDay$Table;") (fin := true) rfl (by decide) zk_X0_add_16 rfl dX0_add_39 ?_
  refine lv_iload hx hb dX0_add_42 (lv_at hl 0 rfl) ?_
  refine lv_iconst (v := 2) hx hb dX0_add_44 (by decide) ?_
  refine lv_iload hx hb dX0_add_45 (lv_at hl 5 rfl) ?_
  obtain ⟨st6, e7, hf⟩ := zz_vo hf
  refine zz_callVv C (As := [.int w1, .int 2, .int v4]) (rest := []) (zz_Mv_e e7 (zc_X5_set 20 (by decide) _ _ _ _)) (cwV 3 hts gX0_add_X5_set rfl rfl rfl zd_X5_set ⟨Nat.le_of_ble_eq_true rfl, Nat.le_of_ble_eq_true rfl⟩) hP hS (9 + 20) (zz_c_tab (by decide)) rfl rfl hl rfl (Nat.le_of_ble_eq_true rfl) dX0_add_47 ⟨Nat.zero_le _, Nat.zero_le _⟩ (fun H locs hP hS => ?_)
  refine lv_aload_n hx hb dX0_add_50 rfl (lv_at hl 1 rfl) ?_
  refine zz_getf C zi_X0_add_X0 hP 8 rfl rfl 1 (nm := "plans") (ds := "LThirteenthDay$Table;") (fin := true) rfl (by decide) zk_X0_add_20 rfl dX0_add_51 ?_
  refine lv_iload_n hx hb dX0_add_54 rfl (lv_at hl 2 rfl) ?_
  refine lv_iconst (v := 0) hx hb dX0_add_55 (by decide) ?_
  refine lv_iconst (v := 1) hx hb dX0_add_56 (by decide) ?_
  obtain ⟨st8, e9, hf⟩ := zz_vo hf
  refine zz_callVv C (As := [.int v1, .int 0, .int 1]) (rest := []) (zz_Mv_e e9 (zc_X5_add 21 (by decide) _ _ _ _)) (cwV 3 hts gX0_add_X5_add rfl rfl rfl zd_X5_add ⟨Nat.le_of_ble_eq_true rfl, Nat.le_of_ble_eq_true rfl⟩) hP hS (9 + 21) (zz_c_tab (by decide)) rfl rfl hl rfl (Nat.le_of_ble_eq_true rfl) dX0_add_57 ⟨Nat.zero_le _, Nat.zero_le _⟩ (fun H locs hP hS => ?_)
  refine lv_aload_n hx hb dX0_add_60 rfl (lv_at hl 1 rfl) ?_
  refine zz_getf C zi_X0_add_X0 hP 8 rfl rfl 1 (nm := "plans") (ds := "LThirteenthDay$Table;") (fin := true) rfl (by decide) zk_X0_add_20 rfl dX0_add_61 ?_
  refine lv_iload_n hx hb dX0_add_64 rfl (lv_at hl 2 rfl) ?_
  refine lv_iconst (v := 0) hx hb dX0_add_65 (by decide) ?_
  refine zz_callVi C (As := [.int v1, .int 0]) (rest := []) (zc_X5_get 21 (by decide) _ _ _) (cwV 2 hts gX0_add_X5_get rfl rfl rfl zd_X5_get ⟨Nat.le_of_ble_eq_true rfl, Nat.le_of_ble_eq_true rfl⟩) hP hS (9 + 21) (zz_c_tab (by decide)) rfl rfl hl rfl (Nat.le_of_ble_eq_true rfl) dX0_add_66 ⟨Nat.zero_le _, Nat.zero_le _⟩ (fun H locs hP hS => ?_)
  rw [← hf]
  exact zz_reti C hr hP hS dX0_add_69
/-! X0_come PW -/
theorem zd_X0_come : yX0_come.cls = RX0 ∧ yX0_come.cls ≠ "java/lang/invoke/MethodHandle" ∧ yX0_come.cls ≠ "java/lang/invoke/VarHandle" ∧ (parseMethodDescriptor yX0_come.desc).map (fun d => d.parameters.length) = some 2 := by decide +kernel
abbrev zr_X0_come : Room := { frames := 2, cells := 0, slots := 0, locals := 53 }
theorem zk_X0_come_26 : Cond.fieldLink yX0_come.cls 26 RX0 "carriedOut" "I" ∈ wsX0_come := by decide +kernel
theorem zk_X0_come_23 : Cond.fieldLink yX0_come.cls 23 RX0 "came" "LThirteenthDay$Table;" ∈ wsX0_come := by decide +kernel
theorem zi_X0_come_X0 : ∀ w ∈ u_ws RX0 TX0 4, w ∈ wsX0_come := by decide +kernel
def zX0_come (v1 : Int32) (v2 : Int32) (st : zz_T) : Option (Int32 × zz_T) :=
  (zX0_toldFromTo (st.2 7) v1 v2 v2 st).bind fun x1 =>
  zz_v (zz_set 22 v1 v2 x1 st) fun st3 =>
  some (x1, st3)
set_option maxHeartbeats 4000000 in
set_option maxRecDepth 100000 in
theorem zc_X0_come {l : Launch} {A : Nat → Prop} {D : va_G} {cI : ClassId} {q : Nat → Nat} (v1 : Int32) (v2 : Int32) (st : zz_T) (r : (Int32 × zz_T)) (hf : zX0_come v1 v2 st = some r) : zz_Mi l A D cI q yX0_come wsX0_come zr_X0_come [.ref (q 8), .int v1, .int v2] st r.1 r.2 := by
  refine zz_of (cc := cX0_come) (nL := 4) (ret := some .int) (by decide) rfl (Nat.le_of_ble_eq_true rfl) ?_
  intro p e s m args below meth c ls C hr hP hS hl
  obtain ⟨hx, hb, hml, hown, hts⟩ := id C.1
  have hl : lv_has ls 4 [(0, .ref (q 8)), (1, .int v1), (2, .int v2)] := hl
  rw [zX0_come] at hf
  skip
  refine lv_aload_n hx hb dX0_come_0 rfl (lv_at hl 0 rfl) ?_
  refine lv_aload_n hx hb dX0_come_1 rfl (lv_at hl 0 rfl) ?_
  refine zz_getf C zi_X0_come_X0 hP 8 rfl rfl 3 (nm := "carriedOut") (ds := "I") (fin := false) rfl (by decide) zk_X0_come_26 rfl dX0_come_2 ?_
  refine lv_iload_n hx hb dX0_come_5 rfl (lv_at hl 1 rfl) ?_
  refine lv_iload_n hx hb dX0_come_6 rfl (lv_at hl 2 rfl) ?_
  refine lv_iload_n hx hb dX0_come_7 rfl (lv_at hl 2 rfl) ?_
  obtain ⟨x1, e2, hf⟩ := zz_bo hf
  refine zz_callVi C (As := [.int (st.2 7), .int v1, .int v2, .int v2]) (rest := []) (zc_X0_toldFromTo _ _ _ _ _ _ e2) (cwV 4 hts gX0_come_X0_toldFromTo rfl rfl rfl zd_X0_toldFromTo ⟨Nat.le_of_ble_eq_true rfl, Nat.le_of_ble_eq_true rfl⟩) hP hS 8 rfl rfl rfl hl rfl (Nat.le_of_ble_eq_true rfl) dX0_come_8 ⟨Nat.zero_le _, Nat.zero_le _⟩ (fun H locs hP hS => ?_)
  refine lv_istore_n (lv' := [(3, .int x1), (0, .ref (q 8)), (1, .int v1), (2, .int v2)]) hx hb dX0_come_11 rfl hl (by decide) rfl (fun ls hl => ?_)
  refine lv_aload_n hx hb dX0_come_12 rfl (lv_at hl 1 rfl) ?_
  refine zz_getf C zi_X0_come_X0 hP 8 rfl rfl 2 (nm := "came") (ds := "LThirteenthDay$Table;") (fin := true) rfl (by decide) zk_X0_come_23 rfl dX0_come_13 ?_
  refine lv_iload_n hx hb dX0_come_16 rfl (lv_at hl 2 rfl) ?_
  refine lv_iload_n hx hb dX0_come_17 rfl (lv_at hl 3 rfl) ?_
  refine lv_iload_n hx hb dX0_come_18 rfl (lv_at hl 0 rfl) ?_
  obtain ⟨st3, e4, hf⟩ := zz_vo hf
  refine zz_callVv C (As := [.int v1, .int v2, .int x1]) (rest := []) (zz_Mv_e e4 (zc_X5_set 22 (by decide) _ _ _ _)) (cwV 3 hts gX0_come_X5_set rfl rfl rfl zd_X5_set ⟨Nat.le_of_ble_eq_true rfl, Nat.le_of_ble_eq_true rfl⟩) hP hS (9 + 22) (zz_c_tab (by decide)) rfl rfl hl rfl (Nat.le_of_ble_eq_true rfl) dX0_come_19 ⟨Nat.zero_le _, Nat.zero_le _⟩ (fun H locs hP hS => ?_)
  refine lv_iload_n hx hb dX0_come_22 rfl (lv_at hl 0 rfl) ?_
  rw [← (Option.some.inj hf)]
  exact zz_reti C hr hP hS dX0_come_23
/-! X0_countOf TR -/
theorem zd_X0_countOf : yX0_countOf.cls = RX0 ∧ yX0_countOf.cls ≠ "java/lang/invoke/MethodHandle" ∧ yX0_countOf.cls ≠ "java/lang/invoke/VarHandle" ∧ (parseMethodDescriptor yX0_countOf.desc).map (fun d => d.parameters.length) = some 1 := by decide +kernel
abbrev zr_X0_countOf : Room := { frames := 1, cells := 0, slots := 0, locals := 24 }
theorem zk_X0_countOf_20 : Cond.fieldLink yX0_countOf.cls 20 RX0 "plans" "LThirteenthDay$Table;" ∈ wsX0_countOf := by decide +kernel
theorem zi_X0_countOf_X0 : ∀ w ∈ u_ws RX0 TX0 4, w ∈ wsX0_countOf := by decide +kernel
def zX0_countOf (v1 : Int32) (st : zz_T) : Int32 :=
  (zz_g 21 v1 0 st)
set_option maxHeartbeats 4000000 in
set_option maxRecDepth 100000 in
theorem zc_X0_countOf {l : Launch} {A : Nat → Prop} {D : va_G} {cI : ClassId} {q : Nat → Nat} (v1 : Int32) (st : zz_T) : zz_Mi l A D cI q yX0_countOf wsX0_countOf zr_X0_countOf [.ref (q 8), .int v1] st (zX0_countOf v1 st) st := by
  refine zz_of (cc := cX0_countOf) (nL := 2) (ret := some .int) (by decide) rfl (Nat.le_of_ble_eq_true rfl) ?_
  intro p e s m args below meth c ls C hr hP hS hl
  obtain ⟨hx, hb, hml, hown, hts⟩ := id C.1
  have hl : lv_has ls 2 [(0, .ref (q 8)), (1, .int v1)] := hl
  obtain ⟨r, hf⟩ : ∃ r, zX0_countOf v1 st = r := ⟨_, rfl⟩
  rw [hf]
  rw [zX0_countOf] at hf
  skip
  refine lv_aload_n hx hb dX0_countOf_0 rfl (lv_at hl 0 rfl) ?_
  refine zz_getf C zi_X0_countOf_X0 hP 8 rfl rfl 1 (nm := "plans") (ds := "LThirteenthDay$Table;") (fin := true) rfl (by decide) zk_X0_countOf_20 rfl dX0_countOf_1 ?_
  refine lv_iload_n hx hb dX0_countOf_4 rfl (lv_at hl 1 rfl) ?_
  refine lv_iconst (v := 0) hx hb dX0_countOf_5 (by decide) ?_
  refine zz_callVi C (As := [.int v1, .int 0]) (rest := []) (zc_X5_get 21 (by decide) _ _ _) (cwV 2 hts gX0_countOf_X5_get rfl rfl rfl zd_X5_get ⟨Nat.le_of_ble_eq_true rfl, Nat.le_of_ble_eq_true rfl⟩) hP hS (9 + 21) (zz_c_tab (by decide)) rfl rfl hl rfl (Nat.le_of_ble_eq_true rfl) dX0_countOf_6 ⟨Nat.zero_le _, Nat.zero_le _⟩ (fun H locs hP hS => ?_)
  rw [← hf]
  exact zz_reti C hr hP hS dX0_countOf_9
/-! X1_addEngines TW -/
theorem zd_X1_addEngines : yX1_addEngines.cls = RX1 ∧ yX1_addEngines.cls ≠ "java/lang/invoke/MethodHandle" ∧ yX1_addEngines.cls ≠ "java/lang/invoke/VarHandle" ∧ (parseMethodDescriptor yX1_addEngines.desc).map (fun d => d.parameters.length) = some 2 := by decide +kernel
abbrev zr_X1_addEngines : Room := { frames := 1, cells := 0, slots := 0, locals := 24 }
theorem zk_X1_addEngines_16 : Cond.fieldLink yX1_addEngines.cls 16 RX1 "stations" "LThirteenthDay$Table;" ∈ wsX1_addEngines := by decide +kernel
theorem zi_X1_addEngines_X1 : ∀ w ∈ u_ws RX1 TX1 6, w ∈ wsX1_addEngines := by decide +kernel
def zX1_addEngines (v1 : Int32) (v2 : Int32) (st : zz_T) : zz_T :=
  zz_v (zz_add 0 v1 2 v2 st) fun st1 =>
  st1
set_option maxHeartbeats 4000000 in
set_option maxRecDepth 100000 in
theorem zc_X1_addEngines {l : Launch} {A : Nat → Prop} {D : va_G} {cI : ClassId} {q : Nat → Nat} (v1 : Int32) (v2 : Int32) (st : zz_T) : zz_Mv l A D cI q yX1_addEngines wsX1_addEngines zr_X1_addEngines [.ref (q 1), .int v1, .int v2] st (zX1_addEngines v1 v2 st) := by
  refine zz_of (cc := cX1_addEngines) (nL := 3) (ret := none) (by decide) rfl (Nat.le_of_ble_eq_true rfl) ?_
  intro p e s m args below meth c ls C hr hP hS hl
  obtain ⟨hx, hb, hml, hown, hts⟩ := id C.1
  have hl : lv_has ls 3 [(0, .ref (q 1)), (1, .int v1), (2, .int v2)] := hl
  obtain ⟨r, hf⟩ : ∃ r, zX1_addEngines v1 v2 st = r := ⟨_, rfl⟩
  rw [hf]
  rw [zX1_addEngines] at hf
  skip
  refine lv_aload_n hx hb dX1_addEngines_0 rfl (lv_at hl 0 rfl) ?_
  refine zz_getf C zi_X1_addEngines_X1 hP 1 rfl rfl 0 (nm := "stations") (ds := "LThirteenthDay$Table;") (fin := true) rfl (by decide) zk_X1_addEngines_16 rfl dX1_addEngines_1 ?_
  refine lv_iload_n hx hb dX1_addEngines_4 rfl (lv_at hl 1 rfl) ?_
  refine lv_iconst (v := 2) hx hb dX1_addEngines_5 (by decide) ?_
  refine lv_iload_n hx hb dX1_addEngines_6 rfl (lv_at hl 2 rfl) ?_
  obtain ⟨st1, e2, hf⟩ := zz_vo hf
  refine zz_callVv C (As := [.int v1, .int 2, .int v2]) (rest := []) (zz_Mv_e e2 (zc_X5_add 0 (by decide) _ _ _ _)) (cwV 3 hts gX1_addEngines_X5_add rfl rfl rfl zd_X5_add ⟨Nat.le_of_ble_eq_true rfl, Nat.le_of_ble_eq_true rfl⟩) hP hS (9 + 0) (zz_c_tab (by decide)) rfl rfl hl rfl (Nat.le_of_ble_eq_true rfl) dX1_addEngines_7 ⟨Nat.zero_le _, Nat.zero_le _⟩ (fun H locs hP hS => ?_)
  rw [← hf]
  exact zz_retv C hr hP hS dX1_addEngines_10
/-! X1_noteFirst TW -/
theorem zd_X1_noteFirst : yX1_noteFirst.cls = RX1 ∧ yX1_noteFirst.cls ≠ "java/lang/invoke/MethodHandle" ∧ yX1_noteFirst.cls ≠ "java/lang/invoke/VarHandle" ∧ (parseMethodDescriptor yX1_noteFirst.desc).map (fun d => d.parameters.length) = some 4 := by decide +kernel
abbrev zr_X1_noteFirst : Room := { frames := 1, cells := 0, slots := 0, locals := 24 }
theorem zk_X1_noteFirst_20 : Cond.fieldLink yX1_noteFirst.cls 20 RX1 "lines" "LThirteenthDay$Table;" ∈ wsX1_noteFirst := by decide +kernel
theorem zk_X1_noteFirst_23 : Cond.fieldLink yX1_noteFirst.cls 23 RX1 "times" "LThirteenthDay$Table;" ∈ wsX1_noteFirst := by decide +kernel
theorem zk_X1_noteFirst_26 : Cond.fieldLink yX1_noteFirst.cls 26 RX1 "firsts" "LThirteenthDay$Table;" ∈ wsX1_noteFirst := by decide +kernel
theorem zi_X1_noteFirst_X1 : ∀ w ∈ u_ws RX1 TX1 6, w ∈ wsX1_noteFirst := by decide +kernel
def zX1_noteFirst (v1 : Int32) (v2 : Int32) (v3 : Int32) (v4 : Int32) (st : zz_T) : zz_T :=
  zz_v (zz_g 1 v1 v2 st) fun w1 =>
  zz_v (zz_g 2 (zz_g 1 v1 v3 st) v4 st) fun w2 =>
  if (zz_g 1 v1 4 st) = 1 then
    if w2 = (-1) then
      st
    else
      if (zz_g 2 w1 v4 st) = ((zz_g 1 v1 7 st) + w2) then
        zz_v (zz_set 3 w1 v4 v1 st) fun st3 =>
        st3
      else
        st
  else
    st
set_option maxHeartbeats 4000000 in
set_option maxRecDepth 100000 in
theorem zc_X1_noteFirst {l : Launch} {A : Nat → Prop} {D : va_G} {cI : ClassId} {q : Nat → Nat} (v1 : Int32) (v2 : Int32) (v3 : Int32) (v4 : Int32) (st : zz_T) : zz_Mv l A D cI q yX1_noteFirst wsX1_noteFirst zr_X1_noteFirst [.ref (q 1), .int v1, .int v2, .int v3, .int v4] st (zX1_noteFirst v1 v2 v3 v4 st) := by
  refine zz_of (cc := cX1_noteFirst) (nL := 8) (ret := none) (by decide) rfl (Nat.le_of_ble_eq_true rfl) ?_
  intro p e s m args below meth c ls C hr hP hS hl
  obtain ⟨hx, hb, hml, hown, hts⟩ := id C.1
  have hl : lv_has ls 8 [(0, .ref (q 1)), (1, .int v1), (2, .int v2), (3, .int v3), (4, .int v4)] := hl
  obtain ⟨r, hf⟩ : ∃ r, zX1_noteFirst v1 v2 v3 v4 st = r := ⟨_, rfl⟩
  rw [hf]
  rw [zX1_noteFirst] at hf
  skip
  refine lv_aload_n hx hb dX1_noteFirst_0 rfl (lv_at hl 0 rfl) ?_
  refine zz_getf C zi_X1_noteFirst_X1 hP 1 rfl rfl 1 (nm := "lines") (ds := "LThirteenthDay$Table;") (fin := true) rfl (by decide) zk_X1_noteFirst_20 rfl dX1_noteFirst_1 ?_
  refine lv_iload_n hx hb dX1_noteFirst_4 rfl (lv_at hl 1 rfl) ?_
  refine lv_iload_n hx hb dX1_noteFirst_5 rfl (lv_at hl 2 rfl) ?_
  refine zz_callVi C (As := [.int v1, .int v2]) (rest := []) (zc_X5_get 1 (by decide) _ _ _) (cwV 2 hts gX1_noteFirst_X5_get rfl rfl rfl zd_X5_get ⟨Nat.le_of_ble_eq_true rfl, Nat.le_of_ble_eq_true rfl⟩) hP hS (9 + 1) (zz_c_tab (by decide)) rfl rfl hl rfl (Nat.le_of_ble_eq_true rfl) dX1_noteFirst_6 ⟨Nat.zero_le _, Nat.zero_le _⟩ (fun H locs hP hS => ?_)
  refine lv_topi (fun w1 e1 => ?_)
  replace hf := zz_vi hf e1
  refine lv_istore (lv' := [(5, .int w1), (0, .ref (q 1)), (1, .int v1), (2, .int v2), (3, .int v3), (4, .int v4)]) hx hb dX1_noteFirst_9 hl (by decide) rfl (fun ls hl => ?_)
  refine lv_aload_n hx hb dX1_noteFirst_11 rfl (lv_at hl 1 rfl) ?_
  refine zz_getf C zi_X1_noteFirst_X1 hP 1 rfl rfl 2 (nm := "times") (ds := "LThirteenthDay$Table;") (fin := true) rfl (by decide) zk_X1_noteFirst_23 rfl dX1_noteFirst_12 ?_
  refine lv_aload_n hx hb dX1_noteFirst_15 rfl (lv_at hl 1 rfl) ?_
  refine zz_getf C zi_X1_noteFirst_X1 hP 1 rfl rfl 1 (nm := "lines") (ds := "LThirteenthDay$Table;") (fin := true) rfl (by decide) zk_X1_noteFirst_20 rfl dX1_noteFirst_16 ?_
  refine lv_iload_n hx hb dX1_noteFirst_19 rfl (lv_at hl 2 rfl) ?_
  refine lv_iload_n hx hb dX1_noteFirst_20 rfl (lv_at hl 4 rfl) ?_
  refine zz_callVi C (As := [.int v1, .int v3]) (rest := [.ref (q (9 + 2))]) (zc_X5_get 1 (by decide) _ _ _) (cwV 2 hts gX1_noteFirst_X5_get rfl rfl rfl zd_X5_get ⟨Nat.le_of_ble_eq_true rfl, Nat.le_of_ble_eq_true rfl⟩) hP hS (9 + 1) (zz_c_tab (by decide)) rfl rfl hl rfl (Nat.le_of_ble_eq_true rfl) dX1_noteFirst_21 ⟨Nat.zero_le _, Nat.zero_le _⟩ (fun H locs hP hS => ?_)
  refine lv_iload hx hb dX1_noteFirst_24 (lv_at hl 5 rfl) ?_
  refine zz_callVi C (As := [.int (zz_g 1 v1 v3 st), .int v4]) (rest := []) (zc_X5_get 2 (by decide) _ _ _) (cwV 2 hts gX1_noteFirst_X5_get rfl rfl rfl zd_X5_get ⟨Nat.le_of_ble_eq_true rfl, Nat.le_of_ble_eq_true rfl⟩) hP hS (9 + 2) (zz_c_tab (by decide)) rfl rfl hl rfl (Nat.le_of_ble_eq_true rfl) dX1_noteFirst_26 ⟨Nat.zero_le _, Nat.zero_le _⟩ (fun H locs hP hS => ?_)
  refine lv_topi (fun w2 e2 => ?_)
  replace hf := zz_vi hf e2
  refine lv_istore (lv' := [(6, .int w2), (5, .int w1), (0, .ref (q 1)), (1, .int v1), (2, .int v2), (3, .int v3), (4, .int v4)]) hx hb dX1_noteFirst_29 hl (by decide) rfl (fun ls hl => ?_)
  refine lv_aload_n hx hb dX1_noteFirst_31 rfl (lv_at hl 2 rfl) ?_
  refine zz_getf C zi_X1_noteFirst_X1 hP 1 rfl rfl 1 (nm := "lines") (ds := "LThirteenthDay$Table;") (fin := true) rfl (by decide) zk_X1_noteFirst_20 rfl dX1_noteFirst_32 ?_
  refine lv_iload_n hx hb dX1_noteFirst_35 rfl (lv_at hl 3 rfl) ?_
  refine lv_iconst (v := 4) hx hb dX1_noteFirst_36 (by decide) ?_
  refine zz_callVi C (As := [.int v1, .int 4]) (rest := []) (zc_X5_get 1 (by decide) _ _ _) (cwV 2 hts gX1_noteFirst_X5_get rfl rfl rfl zd_X5_get ⟨Nat.le_of_ble_eq_true rfl, Nat.le_of_ble_eq_true rfl⟩) hP hS (9 + 1) (zz_c_tab (by decide)) rfl rfl hl rfl (Nat.le_of_ble_eq_true rfl) dX1_noteFirst_37 ⟨Nat.zero_le _, Nat.zero_le _⟩ (fun H locs hP hS => ?_)
  refine lv_iconst (v := 1) hx hb dX1_noteFirst_40 (by decide) ?_
  refine lv_icmp_ne (tgt := 81) hx hb dX1_noteFirst_41 (by decide) (fun h => ?_) (fun h => ?_)
  · rw [if_neg h] at hf
    refine lv_iconst (v := 0) hx hb dX1_noteFirst_81 (by decide) ?_
    refine lv_istore (lv' := [(7, .int 0), (6, .int w2), (5, .int w1), (0, .ref (q 1)), (1, .int v1), (2, .int v2), (3, .int v3), (4, .int v4)]) hx hb dX1_noteFirst_82 hl (by decide) rfl (fun ls hl => ?_)
    refine lv_iload hx hb dX1_noteFirst_84 (lv_at hl 0 rfl) ?_
    refine lv_if_eq (tgt := 101) hx hb dX1_noteFirst_86 (by decide) (fun _ => ?_) (fun h => absurd (by decide) h)
    rw [← hf]
    exact zz_retv C hr hP hS dX1_noteFirst_101
  · rw [if_pos h] at hf
    refine lv_iload hx hb dX1_noteFirst_44 (lv_at hl 0 rfl) ?_
    refine lv_iconst (v := (-1)) hx hb dX1_noteFirst_46 (by decide) ?_
    refine lv_icmp_eq (tgt := 81) hx hb dX1_noteFirst_47 (by decide) (fun h => ?_) (fun h => ?_)
    · rw [if_pos h] at hf
      refine lv_iconst (v := 0) hx hb dX1_noteFirst_81 (by decide) ?_
      refine lv_istore (lv' := [(7, .int 0), (6, .int w2), (5, .int w1), (0, .ref (q 1)), (1, .int v1), (2, .int v2), (3, .int v3), (4, .int v4)]) hx hb dX1_noteFirst_82 hl (by decide) rfl (fun ls hl => ?_)
      refine lv_iload hx hb dX1_noteFirst_84 (lv_at hl 0 rfl) ?_
      refine lv_if_eq (tgt := 101) hx hb dX1_noteFirst_86 (by decide) (fun _ => ?_) (fun h => absurd (by decide) h)
      rw [← hf]
      exact zz_retv C hr hP hS dX1_noteFirst_101
    · rw [if_neg h] at hf
      refine lv_aload_n hx hb dX1_noteFirst_50 rfl (lv_at hl 2 rfl) ?_
      refine zz_getf C zi_X1_noteFirst_X1 hP 1 rfl rfl 2 (nm := "times") (ds := "LThirteenthDay$Table;") (fin := true) rfl (by decide) zk_X1_noteFirst_23 rfl dX1_noteFirst_51 ?_
      refine lv_iload hx hb dX1_noteFirst_54 (lv_at hl 1 rfl) ?_
      refine lv_iload hx hb dX1_noteFirst_56 (lv_at hl 6 rfl) ?_
      refine zz_callVi C (As := [.int w1, .int v4]) (rest := []) (zc_X5_get 2 (by decide) _ _ _) (cwV 2 hts gX1_noteFirst_X5_get rfl rfl rfl zd_X5_get ⟨Nat.le_of_ble_eq_true rfl, Nat.le_of_ble_eq_true rfl⟩) hP hS (9 + 2) (zz_c_tab (by decide)) rfl rfl hl rfl (Nat.le_of_ble_eq_true rfl) dX1_noteFirst_58 ⟨Nat.zero_le _, Nat.zero_le _⟩ (fun H locs hP hS => ?_)
      refine lv_aload_n hx hb dX1_noteFirst_61 rfl (lv_at hl 2 rfl) ?_
      refine zz_getf C zi_X1_noteFirst_X1 hP 1 rfl rfl 1 (nm := "lines") (ds := "LThirteenthDay$Table;") (fin := true) rfl (by decide) zk_X1_noteFirst_20 rfl dX1_noteFirst_62 ?_
      refine lv_iload_n hx hb dX1_noteFirst_65 rfl (lv_at hl 3 rfl) ?_
      refine lv_bipush (v := 7) hx hb dX1_noteFirst_66 (by decide) ?_
      refine zz_callVi C (As := [.int v1, .int 7]) (rest := [.int (zz_g 2 w1 v4 st)]) (zc_X5_get 1 (by decide) _ _ _) (cwV 2 hts gX1_noteFirst_X5_get rfl rfl rfl zd_X5_get ⟨Nat.le_of_ble_eq_true rfl, Nat.le_of_ble_eq_true rfl⟩) hP hS (9 + 1) (zz_c_tab (by decide)) rfl rfl hl rfl (Nat.le_of_ble_eq_true rfl) dX1_noteFirst_68 ⟨Nat.zero_le _, Nat.zero_le _⟩ (fun H locs hP hS => ?_)
      refine lv_iload hx hb dX1_noteFirst_71 (lv_at hl 0 rfl) ?_
      refine lv_iadd hx hb dX1_noteFirst_73 ?_
      refine lv_icmp_ne (tgt := 81) hx hb dX1_noteFirst_74 (by decide) (fun h => ?_) (fun h => ?_)
      · rw [if_neg h] at hf
        refine lv_iconst (v := 0) hx hb dX1_noteFirst_81 (by decide) ?_
        refine lv_istore (lv' := [(7, .int 0), (6, .int w2), (5, .int w1), (0, .ref (q 1)), (1, .int v1), (2, .int v2), (3, .int v3), (4, .int v4)]) hx hb dX1_noteFirst_82 hl (by decide) rfl (fun ls hl => ?_)
        refine lv_iload hx hb dX1_noteFirst_84 (lv_at hl 0 rfl) ?_
        refine lv_if_eq (tgt := 101) hx hb dX1_noteFirst_86 (by decide) (fun _ => ?_) (fun h => absurd (by decide) h)
        rw [← hf]
        exact zz_retv C hr hP hS dX1_noteFirst_101
      · rw [if_pos h] at hf
        refine lv_iconst (v := 1) hx hb dX1_noteFirst_77 (by decide) ?_
        refine lv_goto (tgt := 82) hx hb dX1_noteFirst_78 (by decide) ?_
        refine lv_istore (lv' := [(7, .int 1), (6, .int w2), (5, .int w1), (0, .ref (q 1)), (1, .int v1), (2, .int v2), (3, .int v3), (4, .int v4)]) hx hb dX1_noteFirst_82 hl (by decide) rfl (fun ls hl => ?_)
        refine lv_iload hx hb dX1_noteFirst_84 (lv_at hl 0 rfl) ?_
        refine lv_if_eq (tgt := 101) hx hb dX1_noteFirst_86 (by decide) (fun h => absurd h (by decide)) (fun _ => ?_)
        refine lv_aload_n hx hb dX1_noteFirst_89 rfl (lv_at hl 3 rfl) ?_
        refine zz_getf C zi_X1_noteFirst_X1 hP 1 rfl rfl 3 (nm := "firsts") (ds := "LThirteenthDay$Table;") (fin := true) rfl (by decide) zk_X1_noteFirst_26 rfl dX1_noteFirst_90 ?_
        refine lv_iload hx hb dX1_noteFirst_93 (lv_at hl 2 rfl) ?_
        refine lv_iload hx hb dX1_noteFirst_95 (lv_at hl 7 rfl) ?_
        refine lv_iload_n hx hb dX1_noteFirst_97 rfl (lv_at hl 4 rfl) ?_
        obtain ⟨st3, e4, hf⟩ := zz_vo hf
        refine zz_callVv C (As := [.int w1, .int v4, .int v1]) (rest := []) (zz_Mv_e e4 (zc_X5_set 3 (by decide) _ _ _ _)) (cwV 3 hts gX1_noteFirst_X5_set rfl rfl rfl zd_X5_set ⟨Nat.le_of_ble_eq_true rfl, Nat.le_of_ble_eq_true rfl⟩) hP hS (9 + 3) (zz_c_tab (by decide)) rfl rfl hl rfl (Nat.le_of_ble_eq_true rfl) dX1_noteFirst_98 ⟨Nat.zero_le _, Nat.zero_le _⟩ (fun H locs hP hS => ?_)
        rw [← hf]
        exact zz_retv C hr hP hS dX1_noteFirst_101
/-! X1_findFirsts PW -/
theorem zd_X1_findFirsts : yX1_findFirsts.cls = RX1 ∧ yX1_findFirsts.cls ≠ "java/lang/invoke/MethodHandle" ∧ yX1_findFirsts.cls ≠ "java/lang/invoke/VarHandle" ∧ (parseMethodDescriptor yX1_findFirsts.desc).map (fun d => d.parameters.length) = some 1 := by decide +kernel
abbrev zr_X1_findFirsts : Room := { frames := 2, cells := 0, slots := 0, locals := 51 }
theorem zk_X1_findFirsts_33 : Cond.fieldLink yX1_findFirsts.cls 33 RX1 "lineCount" "I" ∈ wsX1_findFirsts := by decide +kernel
theorem zi_X1_findFirsts_X1 : ∀ w ∈ u_ws RX1 TX1 6, w ∈ wsX1_findFirsts := by decide +kernel
def zX1_findFirsts_7 : Nat → Int32 → Int32 → zz_T → Option zz_T
  | 0, _, _, _ => none
  | n + 1, v1, v2, st =>
    if v2 < 0 then
      some st
    else
      zz_v (zX1_noteFirst v2 0 1 v1 st) fun st2 =>
      zz_v (zX1_noteFirst v2 1 0 v1 st2) fun st4 =>
      zX1_findFirsts_7 n v1 (v2 + (-1)) st4
set_option maxHeartbeats 4000000 in
set_option maxRecDepth 100000 in
theorem zt_X1_findFirsts_7 {l : Launch} {A : Nat → Prop} {D : va_G} {cI : ClassId} {q : Nat → Nat} {p : Program} {e : Env} {s : State} {m : MethodId} {args : Array Value} {below : List Frame} {meth : Method} {c : Code} (C : zz_C A D cI q p s m args meth c cX1_findFirsts 3 wsX1_findFirsts yX1_findFirsts.cls) (hr : meth.sig.returnType = none) : ∀ (n : Nat) (v1 : Int32) (v2 : Int32) (st : zz_T) (H : Heap) (locs : List Loc) (ls : Array Slot) (r : zz_T), zX1_findFirsts_7 n v1 v2 st = some r → va_P D vwCl (zz_c q cI st) H → va_S A s.heap H locs → lv_has ls 3 [(0, .ref (q 1)), (1, .int v1), (2, .int v2)] → W p l e zr_X1_findFirsts s m args below meth c H locs 0 0 (zz_Qv A D cI q r below args s) (F0 m 7 ls []) := by
  obtain ⟨hx, hb, hml, hown, hts⟩ := id C.1
  intro n
  induction n with
  | zero => intro v1 v2 st H locs ls r hf; cases hf
  | succ n ih =>
    intro v1 v2 st H locs ls r hf hP hS hl
    rw [zX1_findFirsts_7] at hf
    refine lv_iload_n hx hb dX1_findFirsts_7 rfl (lv_at hl 2 rfl) ?_
    refine lv_if_lt (tgt := 33) hx hb dX1_findFirsts_8 (by decide) (fun h => ?_) (fun h => ?_)
    · rw [if_pos h] at hf
      rw [← (Option.some.inj hf)]
      exact zz_retv C hr hP hS dX1_findFirsts_33
    · rw [if_neg h] at hf
      refine lv_aload_n hx hb dX1_findFirsts_11 rfl (lv_at hl 0 rfl) ?_
      refine lv_iload_n hx hb dX1_findFirsts_12 rfl (lv_at hl 2 rfl) ?_
      refine lv_iconst (v := 0) hx hb dX1_findFirsts_13 (by decide) ?_
      refine lv_iconst (v := 1) hx hb dX1_findFirsts_14 (by decide) ?_
      refine lv_iload_n hx hb dX1_findFirsts_15 rfl (lv_at hl 1 rfl) ?_
      obtain ⟨st2, e3, hf⟩ := zz_vo hf
      refine zz_callVv C (As := [.int v2, .int 0, .int 1, .int v1]) (rest := []) (zz_Mv_e e3 (zc_X1_noteFirst _ _ _ _ _)) (cwV 4 hts gX1_findFirsts_X1_noteFirst rfl rfl rfl zd_X1_noteFirst ⟨Nat.le_of_ble_eq_true rfl, Nat.le_of_ble_eq_true rfl⟩) hP hS 1 rfl rfl rfl hl rfl (Nat.le_of_ble_eq_true rfl) dX1_findFirsts_16 ⟨Nat.zero_le _, Nat.zero_le _⟩ (fun H locs hP hS => ?_)
      refine lv_aload_n hx hb dX1_findFirsts_19 rfl (lv_at hl 0 rfl) ?_
      refine lv_iload_n hx hb dX1_findFirsts_20 rfl (lv_at hl 2 rfl) ?_
      refine lv_iconst (v := 1) hx hb dX1_findFirsts_21 (by decide) ?_
      refine lv_iconst (v := 0) hx hb dX1_findFirsts_22 (by decide) ?_
      refine lv_iload_n hx hb dX1_findFirsts_23 rfl (lv_at hl 1 rfl) ?_
      obtain ⟨st4, e5, hf⟩ := zz_vo hf
      refine zz_callVv C (As := [.int v2, .int 1, .int 0, .int v1]) (rest := []) (zz_Mv_e e5 (zc_X1_noteFirst _ _ _ _ _)) (cwV 4 hts gX1_findFirsts_X1_noteFirst rfl rfl rfl zd_X1_noteFirst ⟨Nat.le_of_ble_eq_true rfl, Nat.le_of_ble_eq_true rfl⟩) hP hS 1 rfl rfl rfl hl rfl (Nat.le_of_ble_eq_true rfl) dX1_findFirsts_24 ⟨Nat.zero_le _, Nat.zero_le _⟩ (fun H locs hP hS => ?_)
      refine lv_iinc (v := (v2 + (-1))) (lv' := [(2, .int (v2 + (-1))), (0, .ref (q 1)), (1, .int v1)]) hx hb dX1_findFirsts_27 hl (k := 2) rfl (congrArg (fun z => v2 + z) (by decide)) (by decide) rfl (fun ls hl => ?_)
      refine lv_goto (tgt := 7) hx hb dX1_findFirsts_30 (by decide) ?_
      exact ih _ _ _ _ _ _ _ hf hP hS (lv_sub hl [1, 2, 0] rfl)
def zX1_findFirsts (v1 : Int32) (st : zz_T) : Option zz_T :=
  zz_v ((st.2 3) - 1) fun w1 =>
  zX1_findFirsts_7 zz_N v1 w1 st
set_option maxHeartbeats 4000000 in
set_option maxRecDepth 100000 in
theorem zc_X1_findFirsts {l : Launch} {A : Nat → Prop} {D : va_G} {cI : ClassId} {q : Nat → Nat} (v1 : Int32) (st : zz_T) (r : zz_T) (hf : zX1_findFirsts v1 st = some r) : zz_Mv l A D cI q yX1_findFirsts wsX1_findFirsts zr_X1_findFirsts [.ref (q 1), .int v1] st r := by
  refine zz_of (cc := cX1_findFirsts) (nL := 3) (ret := none) (by decide) rfl (Nat.le_of_ble_eq_true rfl) ?_
  intro p e s m args below meth c ls C hr hP hS hl
  obtain ⟨hx, hb, hml, hown, hts⟩ := id C.1
  have hl : lv_has ls 3 [(0, .ref (q 1)), (1, .int v1)] := hl
  rw [zX1_findFirsts] at hf
  skip
  refine lv_aload_n hx hb dX1_findFirsts_0 rfl (lv_at hl 0 rfl) ?_
  refine zz_getf C zi_X1_findFirsts_X1 hP 1 rfl rfl 5 (nm := "lineCount") (ds := "I") (fin := false) rfl (by decide) zk_X1_findFirsts_33 rfl dX1_findFirsts_1 ?_
  refine lv_iconst (v := 1) hx hb dX1_findFirsts_4 (by decide) ?_
  refine lv_isub hx hb dX1_findFirsts_5 ?_
  refine lv_topi (fun w1 e1 => ?_)
  replace hf := zz_vi hf e1
  refine lv_istore_n (lv' := [(2, .int w1), (0, .ref (q 1)), (1, .int v1)]) hx hb dX1_findFirsts_6 rfl hl (by decide) rfl (fun ls hl => ?_)
  exact zt_X1_findFirsts_7 C hr zz_N _ _ _ _ _ _ _ hf hP hS (lv_sub hl [1, 2, 0] rfl)
/-! X1_shorten TW -/
theorem zd_X1_shorten : yX1_shorten.cls = RX1 ∧ yX1_shorten.cls ≠ "java/lang/invoke/MethodHandle" ∧ yX1_shorten.cls ≠ "java/lang/invoke/VarHandle" ∧ (parseMethodDescriptor yX1_shorten.desc).map (fun d => d.parameters.length) = some 4 := by decide +kernel
abbrev zr_X1_shorten : Room := { frames := 1, cells := 0, slots := 0, locals := 24 }
theorem zq_X1_shorten_min : Cond.methodLink yX1_shorten.cls 73 Lib.Math.min.name ∈ wsX1_shorten ∧ Cond.static Lib.Math.min.name ∈ wsX1_shorten ∧ Cond.initialized "java/lang/Math" ∈ wsX1_shorten ∧ Cond.code Lib.Math.min.name Lib.Math.min.code 2 (some .int) ∈ wsX1_shorten := by decide +kernel
theorem zk_X1_shorten_23 : Cond.fieldLink yX1_shorten.cls 23 RX1 "times" "LThirteenthDay$Table;" ∈ wsX1_shorten := by decide +kernel
theorem zk_X1_shorten_20 : Cond.fieldLink yX1_shorten.cls 20 RX1 "lines" "LThirteenthDay$Table;" ∈ wsX1_shorten := by decide +kernel
theorem zi_X1_shorten_X1 : ∀ w ∈ u_ws RX1 TX1 6, w ∈ wsX1_shorten := by decide +kernel
def zX1_shorten (v1 : Int32) (v2 : Int32) (v3 : Int32) (v4 : Int32) (st : zz_T) : zz_T :=
  zz_v (zz_g 2 (zz_g 1 v1 v3 st) v4 st) fun w1 =>
  if (zz_g 1 v1 4 st) = 1 then
    if w1 = (-1) then
      st
    else
      zz_v (zz_g 1 v1 v2 st) fun w2 =>
      zz_v ((zz_g 1 v1 7 st) + w1) fun w3 =>
      zz_v (zz_g 2 w2 v4 st) fun w4 =>
      if w4 = (-1) then
        zz_v (zz_set 2 w2 v4 w3 st) fun st7 =>
        st7
      else
        zz_v (zz_set 2 w2 v4 (zz_min w3 w4) st) fun st5 =>
        st5
  else
    st
set_option maxHeartbeats 4000000 in
set_option maxRecDepth 100000 in
theorem zc_X1_shorten {l : Launch} {A : Nat → Prop} {D : va_G} {cI : ClassId} {q : Nat → Nat} (v1 : Int32) (v2 : Int32) (v3 : Int32) (v4 : Int32) (st : zz_T) : zz_Mv l A D cI q yX1_shorten wsX1_shorten zr_X1_shorten [.ref (q 1), .int v1, .int v2, .int v3, .int v4] st (zX1_shorten v1 v2 v3 v4 st) := by
  refine zz_of (cc := cX1_shorten) (nL := 9) (ret := none) (by decide) rfl (Nat.le_of_ble_eq_true rfl) ?_
  intro p e s m args below meth c ls C hr hP hS hl
  obtain ⟨hx, hb, hml, hown, hts⟩ := id C.1
  have hl : lv_has ls 9 [(0, .ref (q 1)), (1, .int v1), (2, .int v2), (3, .int v3), (4, .int v4)] := hl
  obtain ⟨r, hf⟩ : ∃ r, zX1_shorten v1 v2 v3 v4 st = r := ⟨_, rfl⟩
  rw [hf]
  rw [zX1_shorten] at hf
  skip
  refine lv_aload_n hx hb dX1_shorten_0 rfl (lv_at hl 0 rfl) ?_
  refine zz_getf C zi_X1_shorten_X1 hP 1 rfl rfl 2 (nm := "times") (ds := "LThirteenthDay$Table;") (fin := true) rfl (by decide) zk_X1_shorten_23 rfl dX1_shorten_1 ?_
  refine lv_aload_n hx hb dX1_shorten_4 rfl (lv_at hl 0 rfl) ?_
  refine zz_getf C zi_X1_shorten_X1 hP 1 rfl rfl 1 (nm := "lines") (ds := "LThirteenthDay$Table;") (fin := true) rfl (by decide) zk_X1_shorten_20 rfl dX1_shorten_5 ?_
  refine lv_iload_n hx hb dX1_shorten_8 rfl (lv_at hl 1 rfl) ?_
  refine lv_iload_n hx hb dX1_shorten_9 rfl (lv_at hl 3 rfl) ?_
  refine zz_callVi C (As := [.int v1, .int v3]) (rest := [.ref (q (9 + 2))]) (zc_X5_get 1 (by decide) _ _ _) (cwV 2 hts gX1_shorten_X5_get rfl rfl rfl zd_X5_get ⟨Nat.le_of_ble_eq_true rfl, Nat.le_of_ble_eq_true rfl⟩) hP hS (9 + 1) (zz_c_tab (by decide)) rfl rfl hl rfl (Nat.le_of_ble_eq_true rfl) dX1_shorten_10 ⟨Nat.zero_le _, Nat.zero_le _⟩ (fun H locs hP hS => ?_)
  refine lv_iload hx hb dX1_shorten_13 (lv_at hl 4 rfl) ?_
  refine zz_callVi C (As := [.int (zz_g 1 v1 v3 st), .int v4]) (rest := []) (zc_X5_get 2 (by decide) _ _ _) (cwV 2 hts gX1_shorten_X5_get rfl rfl rfl zd_X5_get ⟨Nat.le_of_ble_eq_true rfl, Nat.le_of_ble_eq_true rfl⟩) hP hS (9 + 2) (zz_c_tab (by decide)) rfl rfl hl rfl (Nat.le_of_ble_eq_true rfl) dX1_shorten_15 ⟨Nat.zero_le _, Nat.zero_le _⟩ (fun H locs hP hS => ?_)
  refine lv_topi (fun w1 e1 => ?_)
  replace hf := zz_vi hf e1
  refine lv_istore (lv' := [(5, .int w1), (0, .ref (q 1)), (1, .int v1), (2, .int v2), (3, .int v3), (4, .int v4)]) hx hb dX1_shorten_18 hl (by decide) rfl (fun ls hl => ?_)
  refine lv_aload_n hx hb dX1_shorten_20 rfl (lv_at hl 1 rfl) ?_
  refine zz_getf C zi_X1_shorten_X1 hP 1 rfl rfl 1 (nm := "lines") (ds := "LThirteenthDay$Table;") (fin := true) rfl (by decide) zk_X1_shorten_20 rfl dX1_shorten_21 ?_
  refine lv_iload_n hx hb dX1_shorten_24 rfl (lv_at hl 2 rfl) ?_
  refine lv_iconst (v := 4) hx hb dX1_shorten_25 (by decide) ?_
  refine zz_callVi C (As := [.int v1, .int 4]) (rest := []) (zc_X5_get 1 (by decide) _ _ _) (cwV 2 hts gX1_shorten_X5_get rfl rfl rfl zd_X5_get ⟨Nat.le_of_ble_eq_true rfl, Nat.le_of_ble_eq_true rfl⟩) hP hS (9 + 1) (zz_c_tab (by decide)) rfl rfl hl rfl (Nat.le_of_ble_eq_true rfl) dX1_shorten_26 ⟨Nat.zero_le _, Nat.zero_le _⟩ (fun H locs hP hS => ?_)
  refine lv_iconst (v := 1) hx hb dX1_shorten_29 (by decide) ?_
  refine lv_icmp_ne (tgt := 107) hx hb dX1_shorten_30 (by decide) (fun h => ?_) (fun h => ?_)
  · rw [if_neg h] at hf
    rw [← hf]
    exact zz_retv C hr hP hS dX1_shorten_107
  · rw [if_pos h] at hf
    refine lv_iload hx hb dX1_shorten_33 (lv_at hl 0 rfl) ?_
    refine lv_iconst (v := (-1)) hx hb dX1_shorten_35 (by decide) ?_
    refine lv_icmp_eq (tgt := 107) hx hb dX1_shorten_36 (by decide) (fun h => ?_) (fun h => ?_)
    · rw [if_pos h] at hf
      rw [← hf]
      exact zz_retv C hr hP hS dX1_shorten_107
    · rw [if_neg h] at hf
      refine lv_aload_n hx hb dX1_shorten_39 rfl (lv_at hl 1 rfl) ?_
      refine zz_getf C zi_X1_shorten_X1 hP 1 rfl rfl 1 (nm := "lines") (ds := "LThirteenthDay$Table;") (fin := true) rfl (by decide) zk_X1_shorten_20 rfl dX1_shorten_40 ?_
      refine lv_iload_n hx hb dX1_shorten_43 rfl (lv_at hl 2 rfl) ?_
      refine lv_iload_n hx hb dX1_shorten_44 rfl (lv_at hl 3 rfl) ?_
      refine zz_callVi C (As := [.int v1, .int v2]) (rest := []) (zc_X5_get 1 (by decide) _ _ _) (cwV 2 hts gX1_shorten_X5_get rfl rfl rfl zd_X5_get ⟨Nat.le_of_ble_eq_true rfl, Nat.le_of_ble_eq_true rfl⟩) hP hS (9 + 1) (zz_c_tab (by decide)) rfl rfl hl rfl (Nat.le_of_ble_eq_true rfl) dX1_shorten_45 ⟨Nat.zero_le _, Nat.zero_le _⟩ (fun H locs hP hS => ?_)
      refine lv_topi (fun w2 e2 => ?_)
      replace hf := zz_vi hf e2
      refine lv_istore (lv' := [(6, .int w2), (5, .int w1), (0, .ref (q 1)), (1, .int v1), (2, .int v2), (3, .int v3), (4, .int v4)]) hx hb dX1_shorten_48 hl (by decide) rfl (fun ls hl => ?_)
      refine lv_aload_n hx hb dX1_shorten_50 rfl (lv_at hl 2 rfl) ?_
      refine zz_getf C zi_X1_shorten_X1 hP 1 rfl rfl 1 (nm := "lines") (ds := "LThirteenthDay$Table;") (fin := true) rfl (by decide) zk_X1_shorten_20 rfl dX1_shorten_51 ?_
      refine lv_iload_n hx hb dX1_shorten_54 rfl (lv_at hl 3 rfl) ?_
      refine lv_bipush (v := 7) hx hb dX1_shorten_55 (by decide) ?_
      refine zz_callVi C (As := [.int v1, .int 7]) (rest := []) (zc_X5_get 1 (by decide) _ _ _) (cwV 2 hts gX1_shorten_X5_get rfl rfl rfl zd_X5_get ⟨Nat.le_of_ble_eq_true rfl, Nat.le_of_ble_eq_true rfl⟩) hP hS (9 + 1) (zz_c_tab (by decide)) rfl rfl hl rfl (Nat.le_of_ble_eq_true rfl) dX1_shorten_57 ⟨Nat.zero_le _, Nat.zero_le _⟩ (fun H locs hP hS => ?_)
      refine lv_iload hx hb dX1_shorten_60 (lv_at hl 1 rfl) ?_
      refine lv_iadd hx hb dX1_shorten_62 ?_
      refine lv_topi (fun w3 e3 => ?_)
      replace hf := zz_vi hf e3
      refine lv_istore (lv' := [(7, .int w3), (6, .int w2), (5, .int w1), (0, .ref (q 1)), (1, .int v1), (2, .int v2), (3, .int v3), (4, .int v4)]) hx hb dX1_shorten_63 hl (by decide) rfl (fun ls hl => ?_)
      refine lv_aload_n hx hb dX1_shorten_65 rfl (lv_at hl 3 rfl) ?_
      refine zz_getf C zi_X1_shorten_X1 hP 1 rfl rfl 2 (nm := "times") (ds := "LThirteenthDay$Table;") (fin := true) rfl (by decide) zk_X1_shorten_23 rfl dX1_shorten_66 ?_
      refine lv_iload hx hb dX1_shorten_69 (lv_at hl 1 rfl) ?_
      refine lv_iload hx hb dX1_shorten_71 (lv_at hl 7 rfl) ?_
      refine zz_callVi C (As := [.int w2, .int v4]) (rest := []) (zc_X5_get 2 (by decide) _ _ _) (cwV 2 hts gX1_shorten_X5_get rfl rfl rfl zd_X5_get ⟨Nat.le_of_ble_eq_true rfl, Nat.le_of_ble_eq_true rfl⟩) hP hS (9 + 2) (zz_c_tab (by decide)) rfl rfl hl rfl (Nat.le_of_ble_eq_true rfl) dX1_shorten_73 ⟨Nat.zero_le _, Nat.zero_le _⟩ (fun H locs hP hS => ?_)
      refine lv_topi (fun w4 e4 => ?_)
      replace hf := zz_vi hf e4
      refine lv_istore (lv' := [(8, .int w4), (7, .int w3), (6, .int w2), (5, .int w1), (0, .ref (q 1)), (1, .int v1), (2, .int v2), (3, .int v3), (4, .int v4)]) hx hb dX1_shorten_76 hl (by decide) rfl (fun ls hl => ?_)
      refine lv_aload_n hx hb dX1_shorten_78 rfl (lv_at hl 4 rfl) ?_
      refine zz_getf C zi_X1_shorten_X1 hP 1 rfl rfl 2 (nm := "times") (ds := "LThirteenthDay$Table;") (fin := true) rfl (by decide) zk_X1_shorten_23 rfl dX1_shorten_79 ?_
      refine lv_iload hx hb dX1_shorten_82 (lv_at hl 2 rfl) ?_
      refine lv_iload hx hb dX1_shorten_84 (lv_at hl 8 rfl) ?_
      refine lv_iload hx hb dX1_shorten_86 (lv_at hl 0 rfl) ?_
      refine lv_iconst (v := (-1)) hx hb dX1_shorten_88 (by decide) ?_
      refine lv_icmp_ne (tgt := 97) hx hb dX1_shorten_89 (by decide) (fun h => ?_) (fun h => ?_)
      · rw [if_neg h] at hf
        refine lv_iload hx hb dX1_shorten_97 (lv_at hl 1 rfl) ?_
        refine lv_iload hx hb dX1_shorten_99 (lv_at hl 0 rfl) ?_
        refine zz_mmin C zq_X1_shorten_min hl (by decide) (Nat.le_of_ble_eq_true rfl) ⟨Nat.zero_le _, Nat.zero_le _⟩ dX1_shorten_101 ?_
        obtain ⟨st5, e6, hf⟩ := zz_vo hf
        refine zz_callVv C (As := [.int w2, .int v4, .int (zz_min w3 w4)]) (rest := []) (zz_Mv_e e6 (zc_X5_set 2 (by decide) _ _ _ _)) (cwV 3 hts gX1_shorten_X5_set rfl rfl rfl zd_X5_set ⟨Nat.le_of_ble_eq_true rfl, Nat.le_of_ble_eq_true rfl⟩) hP hS (9 + 2) (zz_c_tab (by decide)) rfl rfl hl rfl (Nat.le_of_ble_eq_true rfl) dX1_shorten_104 ⟨Nat.zero_le _, Nat.zero_le _⟩ (fun H locs hP hS => ?_)
        rw [← hf]
        exact zz_retv C hr hP hS dX1_shorten_107
      · rw [if_pos h] at hf
        refine lv_iload hx hb dX1_shorten_92 (lv_at hl 1 rfl) ?_
        refine lv_goto (tgt := 104) hx hb dX1_shorten_94 (by decide) ?_
        obtain ⟨st7, e8, hf⟩ := zz_vo hf
        refine zz_callVv C (As := [.int w2, .int v4, .int w3]) (rest := []) (zz_Mv_e e8 (zc_X5_set 2 (by decide) _ _ _ _)) (cwV 3 hts gX1_shorten_X5_set rfl rfl rfl zd_X5_set ⟨Nat.le_of_ble_eq_true rfl, Nat.le_of_ble_eq_true rfl⟩) hP hS (9 + 2) (zz_c_tab (by decide)) rfl rfl hl rfl (Nat.le_of_ble_eq_true rfl) dX1_shorten_104 ⟨Nat.zero_le _, Nat.zero_le _⟩ (fun H locs hP hS => ?_)
        rw [← hf]
        exact zz_retv C hr hP hS dX1_shorten_107
/-! X1_findWays PW -/
theorem zd_X1_findWays : yX1_findWays.cls = RX1 ∧ yX1_findWays.cls ≠ "java/lang/invoke/MethodHandle" ∧ yX1_findWays.cls ≠ "java/lang/invoke/VarHandle" ∧ (parseMethodDescriptor yX1_findWays.desc).map (fun d => d.parameters.length) = some 0 := by decide +kernel
abbrev zr_X1_findWays : Room := { frames := 3, cells := 0, slots := 0, locals := 73 }
theorem zk_X1_findWays_23 : Cond.fieldLink yX1_findWays.cls 23 RX1 "times" "LThirteenthDay$Table;" ∈ wsX1_findWays := by decide +kernel
theorem zk_X1_findWays_26 : Cond.fieldLink yX1_findWays.cls 26 RX1 "firsts" "LThirteenthDay$Table;" ∈ wsX1_findWays := by decide +kernel
theorem zk_X1_findWays_29 : Cond.fieldLink yX1_findWays.cls 29 RX1 "stationCount" "I" ∈ wsX1_findWays := by decide +kernel
theorem zk_X1_findWays_33 : Cond.fieldLink yX1_findWays.cls 33 RX1 "lineCount" "I" ∈ wsX1_findWays := by decide +kernel
theorem zi_X1_findWays_X1 : ∀ w ∈ u_ws RX1 TX1 6, w ∈ wsX1_findWays := by decide +kernel
def zX1_findWays_48 (k18 : Int32 → zz_T → Option zz_T) (k38 : Int32 → Int32 → zz_T → Option zz_T) : Nat → Int32 → Int32 → Int32 → zz_T → Option zz_T
  | 0, _, _, _, _ => none
  | n + 1, v1, v2, v3, st =>
    if (st.2 3) ≤ v3 then
      k38 v1 (v2 + 1) st
    else
      zz_v (zX1_shorten v3 0 1 v1 st) fun st9 =>
      zz_v (zX1_shorten v3 1 0 v1 st9) fun st11 =>
      zX1_findWays_48 k18 k38 n v1 v2 (v3 + 1) st11
set_option maxHeartbeats 4000000 in
set_option maxRecDepth 100000 in
theorem zt_X1_findWays_48 {l : Launch} {A : Nat → Prop} {D : va_G} {cI : ClassId} {q : Nat → Nat} {p : Program} {e : Env} {s : State} {m : MethodId} {args : Array Value} {below : List Frame} {meth : Method} {c : Code} (C : zz_C A D cI q p s m args meth c cX1_findWays 4 wsX1_findWays yX1_findWays.cls) (hr : meth.sig.returnType = none) (k18 : Int32 → zz_T → Option zz_T) (hk18 : ∀ (v1 : Int32) (st : zz_T) (H : Heap) (locs : List Loc) (ls : Array Slot) (r : zz_T), k18 v1 st = some r → va_P D vwCl (zz_c q cI st) H → va_S A s.heap H locs → lv_has ls 4 [(0, .ref (q 1)), (1, .int v1)] → W p l e zr_X1_findWays s m args below meth c H locs 0 0 (zz_Qv A D cI q r below args s) (F0 m 18 ls [])) (k38 : Int32 → Int32 → zz_T → Option zz_T) (hk38 : ∀ (v1 : Int32) (v2 : Int32) (st : zz_T) (H : Heap) (locs : List Loc) (ls : Array Slot) (r : zz_T), k38 v1 v2 st = some r → va_P D vwCl (zz_c q cI st) H → va_S A s.heap H locs → lv_has ls 4 [(0, .ref (q 1)), (1, .int v1), (2, .int v2)] → W p l e zr_X1_findWays s m args below meth c H locs 0 0 (zz_Qv A D cI q r below args s) (F0 m 38 ls [])) : ∀ (n : Nat) (v1 : Int32) (v2 : Int32) (v3 : Int32) (st : zz_T) (H : Heap) (locs : List Loc) (ls : Array Slot) (r : zz_T), zX1_findWays_48 k18 k38 n v1 v2 v3 st = some r → va_P D vwCl (zz_c q cI st) H → va_S A s.heap H locs → lv_has ls 4 [(0, .ref (q 1)), (1, .int v1), (2, .int v2), (3, .int v3)] → W p l e zr_X1_findWays s m args below meth c H locs 0 0 (zz_Qv A D cI q r below args s) (F0 m 48 ls []) := by
  obtain ⟨hx, hb, hml, hown, hts⟩ := id C.1
  intro n
  induction n with
  | zero => intro v1 v2 v3 st H locs ls r hf; cases hf
  | succ n ih =>
    intro v1 v2 v3 st H locs ls r hf hP hS hl
    rw [zX1_findWays_48] at hf
    refine lv_iload_n hx hb dX1_findWays_48 rfl (lv_at hl 3 rfl) ?_
    refine lv_aload_n hx hb dX1_findWays_49 rfl (lv_at hl 0 rfl) ?_
    refine zz_getf C zi_X1_findWays_X1 hP 1 rfl rfl 5 (nm := "lineCount") (ds := "I") (fin := false) rfl (by decide) zk_X1_findWays_33 rfl dX1_findWays_50 ?_
    refine lv_icmp_ge (tgt := 78) hx hb dX1_findWays_53 (by decide) (fun h => ?_) (fun h => ?_)
    · rw [if_pos h] at hf
      refine lv_iinc (v := (v2 + 1)) (lv' := [(2, .int (v2 + 1)), (0, .ref (q 1)), (1, .int v1), (3, .int v3)]) hx hb dX1_findWays_78 hl (k := 2) rfl (congrArg (fun z => v2 + z) (by decide)) (by decide) rfl (fun ls hl => ?_)
      refine lv_goto (tgt := 38) hx hb dX1_findWays_81 (by decide) ?_
      exact hk38 _ _ _ _ _ _ _ hf hP hS (lv_sub hl [1, 2, 0] rfl)
    · rw [if_neg h] at hf
      refine lv_aload_n hx hb dX1_findWays_56 rfl (lv_at hl 0 rfl) ?_
      refine lv_iload_n hx hb dX1_findWays_57 rfl (lv_at hl 3 rfl) ?_
      refine lv_iconst (v := 0) hx hb dX1_findWays_58 (by decide) ?_
      refine lv_iconst (v := 1) hx hb dX1_findWays_59 (by decide) ?_
      refine lv_iload_n hx hb dX1_findWays_60 rfl (lv_at hl 1 rfl) ?_
      obtain ⟨st9, e10, hf⟩ := zz_vo hf
      refine zz_callVv C (As := [.int v3, .int 0, .int 1, .int v1]) (rest := []) (zz_Mv_e e10 (zc_X1_shorten _ _ _ _ _)) (cwV 4 hts gX1_findWays_X1_shorten rfl rfl rfl zd_X1_shorten ⟨Nat.le_of_ble_eq_true rfl, Nat.le_of_ble_eq_true rfl⟩) hP hS 1 rfl rfl rfl hl rfl (Nat.le_of_ble_eq_true rfl) dX1_findWays_61 ⟨Nat.zero_le _, Nat.zero_le _⟩ (fun H locs hP hS => ?_)
      refine lv_aload_n hx hb dX1_findWays_64 rfl (lv_at hl 0 rfl) ?_
      refine lv_iload_n hx hb dX1_findWays_65 rfl (lv_at hl 3 rfl) ?_
      refine lv_iconst (v := 1) hx hb dX1_findWays_66 (by decide) ?_
      refine lv_iconst (v := 0) hx hb dX1_findWays_67 (by decide) ?_
      refine lv_iload_n hx hb dX1_findWays_68 rfl (lv_at hl 1 rfl) ?_
      obtain ⟨st11, e12, hf⟩ := zz_vo hf
      refine zz_callVv C (As := [.int v3, .int 1, .int 0, .int v1]) (rest := []) (zz_Mv_e e12 (zc_X1_shorten _ _ _ _ _)) (cwV 4 hts gX1_findWays_X1_shorten rfl rfl rfl zd_X1_shorten ⟨Nat.le_of_ble_eq_true rfl, Nat.le_of_ble_eq_true rfl⟩) hP hS 1 rfl rfl rfl hl rfl (Nat.le_of_ble_eq_true rfl) dX1_findWays_69 ⟨Nat.zero_le _, Nat.zero_le _⟩ (fun H locs hP hS => ?_)
      refine lv_iinc (v := (v3 + 1)) (lv' := [(3, .int (v3 + 1)), (0, .ref (q 1)), (1, .int v1), (2, .int v2)]) hx hb dX1_findWays_72 hl (k := 3) rfl (congrArg (fun z => v3 + z) (by decide)) (by decide) rfl (fun ls hl => ?_)
      refine lv_goto (tgt := 48) hx hb dX1_findWays_75 (by decide) ?_
      exact ih _ _ _ _ _ _ _ _ hf hP hS (lv_sub hl [1, 2, 3, 0] rfl)
def zX1_findWays_38 (k18 : Int32 → zz_T → Option zz_T) : Nat → Int32 → Int32 → zz_T → Option zz_T
  | 0, _, _, _ => none
  | n + 1, v1, v2, st =>
    if (st.2 2) ≤ v2 then
      (zX1_findFirsts v1 st).bind fun st7 =>
      k18 (v1 + 1) st7
    else
      zX1_findWays_48 k18 (fun v1' v2' st' => zX1_findWays_38 k18 n v1' v2' st') zz_N v1 v2 0 st
set_option maxHeartbeats 4000000 in
set_option maxRecDepth 100000 in
theorem zt_X1_findWays_38 {l : Launch} {A : Nat → Prop} {D : va_G} {cI : ClassId} {q : Nat → Nat} {p : Program} {e : Env} {s : State} {m : MethodId} {args : Array Value} {below : List Frame} {meth : Method} {c : Code} (C : zz_C A D cI q p s m args meth c cX1_findWays 4 wsX1_findWays yX1_findWays.cls) (hr : meth.sig.returnType = none) (k18 : Int32 → zz_T → Option zz_T) (hk18 : ∀ (v1 : Int32) (st : zz_T) (H : Heap) (locs : List Loc) (ls : Array Slot) (r : zz_T), k18 v1 st = some r → va_P D vwCl (zz_c q cI st) H → va_S A s.heap H locs → lv_has ls 4 [(0, .ref (q 1)), (1, .int v1)] → W p l e zr_X1_findWays s m args below meth c H locs 0 0 (zz_Qv A D cI q r below args s) (F0 m 18 ls [])) : ∀ (n : Nat) (v1 : Int32) (v2 : Int32) (st : zz_T) (H : Heap) (locs : List Loc) (ls : Array Slot) (r : zz_T), zX1_findWays_38 k18 n v1 v2 st = some r → va_P D vwCl (zz_c q cI st) H → va_S A s.heap H locs → lv_has ls 4 [(0, .ref (q 1)), (1, .int v1), (2, .int v2)] → W p l e zr_X1_findWays s m args below meth c H locs 0 0 (zz_Qv A D cI q r below args s) (F0 m 38 ls []) := by
  obtain ⟨hx, hb, hml, hown, hts⟩ := id C.1
  intro n
  induction n with
  | zero => intro v1 v2 st H locs ls r hf; cases hf
  | succ n ih =>
    intro v1 v2 st H locs ls r hf hP hS hl
    rw [zX1_findWays_38] at hf
    refine lv_iload_n hx hb dX1_findWays_38 rfl (lv_at hl 2 rfl) ?_
    refine lv_aload_n hx hb dX1_findWays_39 rfl (lv_at hl 0 rfl) ?_
    refine zz_getf C zi_X1_findWays_X1 hP 1 rfl rfl 4 (nm := "stationCount") (ds := "I") (fin := false) rfl (by decide) zk_X1_findWays_29 rfl dX1_findWays_40 ?_
    refine lv_icmp_ge (tgt := 84) hx hb dX1_findWays_43 (by decide) (fun h => ?_) (fun h => ?_)
    · rw [if_pos h] at hf
      refine lv_aload_n hx hb dX1_findWays_84 rfl (lv_at hl 0 rfl) ?_
      refine lv_iload_n hx hb dX1_findWays_85 rfl (lv_at hl 1 rfl) ?_
      obtain ⟨st7, e8, hf⟩ := zz_bo hf
      refine zz_callVv C (As := [.int v1]) (rest := []) (zc_X1_findFirsts _ _ _ e8) (cwV 1 hts gX1_findWays_X1_findFirsts rfl rfl rfl zd_X1_findFirsts ⟨Nat.le_of_ble_eq_true rfl, Nat.le_of_ble_eq_true rfl⟩) hP hS 1 rfl rfl rfl hl rfl (Nat.le_of_ble_eq_true rfl) dX1_findWays_86 ⟨Nat.zero_le _, Nat.zero_le _⟩ (fun H locs hP hS => ?_)
      refine lv_iinc (v := (v1 + 1)) (lv' := [(1, .int (v1 + 1)), (0, .ref (q 1)), (2, .int v2)]) hx hb dX1_findWays_89 hl (k := 1) rfl (congrArg (fun z => v1 + z) (by decide)) (by decide) rfl (fun ls hl => ?_)
      refine lv_goto (tgt := 18) hx hb dX1_findWays_92 (by decide) ?_
      exact hk18 _ _ _ _ _ _ hf hP hS (lv_sub hl [1, 0] rfl)
    · rw [if_neg h] at hf
      refine lv_iconst (v := 0) hx hb dX1_findWays_46 (by decide) ?_
      refine lv_istore_n (lv' := [(3, .int 0), (0, .ref (q 1)), (1, .int v1), (2, .int v2)]) hx hb dX1_findWays_47 rfl hl (by decide) rfl (fun ls hl => ?_)
      exact zt_X1_findWays_48 C hr _ hk18 _ ih zz_N _ _ _ _ _ _ _ _ hf hP hS (lv_sub hl [1, 2, 3, 0] rfl)
def zX1_findWays_18 : Nat → Int32 → zz_T → Option zz_T
  | 0, _, _ => none
  | n + 1, v1, st =>
    if (st.2 2) ≤ v1 then
      some st
    else
      zz_v (zz_set 2 v1 v1 0 st) fun st5 =>
      zX1_findWays_38 (fun v1' st' => zX1_findWays_18 n v1' st') zz_N v1 1 st5
set_option maxHeartbeats 4000000 in
set_option maxRecDepth 100000 in
theorem zt_X1_findWays_18 {l : Launch} {A : Nat → Prop} {D : va_G} {cI : ClassId} {q : Nat → Nat} {p : Program} {e : Env} {s : State} {m : MethodId} {args : Array Value} {below : List Frame} {meth : Method} {c : Code} (C : zz_C A D cI q p s m args meth c cX1_findWays 4 wsX1_findWays yX1_findWays.cls) (hr : meth.sig.returnType = none) : ∀ (n : Nat) (v1 : Int32) (st : zz_T) (H : Heap) (locs : List Loc) (ls : Array Slot) (r : zz_T), zX1_findWays_18 n v1 st = some r → va_P D vwCl (zz_c q cI st) H → va_S A s.heap H locs → lv_has ls 4 [(0, .ref (q 1)), (1, .int v1)] → W p l e zr_X1_findWays s m args below meth c H locs 0 0 (zz_Qv A D cI q r below args s) (F0 m 18 ls []) := by
  obtain ⟨hx, hb, hml, hown, hts⟩ := id C.1
  intro n
  induction n with
  | zero => intro v1 st H locs ls r hf; cases hf
  | succ n ih =>
    intro v1 st H locs ls r hf hP hS hl
    rw [zX1_findWays_18] at hf
    refine lv_iload_n hx hb dX1_findWays_18 rfl (lv_at hl 1 rfl) ?_
    refine lv_aload_n hx hb dX1_findWays_19 rfl (lv_at hl 0 rfl) ?_
    refine zz_getf C zi_X1_findWays_X1 hP 1 rfl rfl 4 (nm := "stationCount") (ds := "I") (fin := false) rfl (by decide) zk_X1_findWays_29 rfl dX1_findWays_20 ?_
    refine lv_icmp_ge (tgt := 95) hx hb dX1_findWays_23 (by decide) (fun h => ?_) (fun h => ?_)
    · rw [if_pos h] at hf
      rw [← (Option.some.inj hf)]
      exact zz_retv C hr hP hS dX1_findWays_95
    · rw [if_neg h] at hf
      refine lv_aload_n hx hb dX1_findWays_26 rfl (lv_at hl 0 rfl) ?_
      refine zz_getf C zi_X1_findWays_X1 hP 1 rfl rfl 2 (nm := "times") (ds := "LThirteenthDay$Table;") (fin := true) rfl (by decide) zk_X1_findWays_23 rfl dX1_findWays_27 ?_
      refine lv_iload_n hx hb dX1_findWays_30 rfl (lv_at hl 1 rfl) ?_
      refine lv_iload_n hx hb dX1_findWays_31 rfl (lv_at hl 1 rfl) ?_
      refine lv_iconst (v := 0) hx hb dX1_findWays_32 (by decide) ?_
      obtain ⟨st5, e6, hf⟩ := zz_vo hf
      refine zz_callVv C (As := [.int v1, .int v1, .int 0]) (rest := []) (zz_Mv_e e6 (zc_X5_set 2 (by decide) _ _ _ _)) (cwV 3 hts gX1_findWays_X5_set rfl rfl rfl zd_X5_set ⟨Nat.le_of_ble_eq_true rfl, Nat.le_of_ble_eq_true rfl⟩) hP hS (9 + 2) (zz_c_tab (by decide)) rfl rfl hl rfl (Nat.le_of_ble_eq_true rfl) dX1_findWays_33 ⟨Nat.zero_le _, Nat.zero_le _⟩ (fun H locs hP hS => ?_)
      refine lv_iconst (v := 1) hx hb dX1_findWays_36 (by decide) ?_
      refine lv_istore_n (lv' := [(2, .int 1), (0, .ref (q 1)), (1, .int v1)]) hx hb dX1_findWays_37 rfl hl (by decide) rfl (fun ls hl => ?_)
      exact zt_X1_findWays_38 C hr _ ih zz_N _ _ _ _ _ _ _ hf hP hS (lv_sub hl [1, 2, 0] rfl)
def zX1_findWays (st : zz_T) : Option zz_T :=
  zz_v (zz_fill 2 (-1) st) fun st1 =>
  zz_v (zz_fill 3 (-1) st1) fun st3 =>
  zX1_findWays_18 zz_N 0 st3
set_option maxHeartbeats 4000000 in
set_option maxRecDepth 100000 in
theorem zc_X1_findWays {l : Launch} {A : Nat → Prop} {D : va_G} {cI : ClassId} {q : Nat → Nat} (st : zz_T) (r : zz_T) (hf : zX1_findWays st = some r) : zz_Mv l A D cI q yX1_findWays wsX1_findWays zr_X1_findWays [.ref (q 1)] st r := by
  refine zz_of (cc := cX1_findWays) (nL := 4) (ret := none) (by decide) rfl (Nat.le_of_ble_eq_true rfl) ?_
  intro p e s m args below meth c ls C hr hP hS hl
  obtain ⟨hx, hb, hml, hown, hts⟩ := id C.1
  have hl : lv_has ls 4 [(0, .ref (q 1))] := hl
  rw [zX1_findWays] at hf
  skip
  refine lv_aload_n hx hb dX1_findWays_0 rfl (lv_at hl 0 rfl) ?_
  refine zz_getf C zi_X1_findWays_X1 hP 1 rfl rfl 2 (nm := "times") (ds := "LThirteenthDay$Table;") (fin := true) rfl (by decide) zk_X1_findWays_23 rfl dX1_findWays_1 ?_
  refine lv_iconst (v := (-1)) hx hb dX1_findWays_4 (by decide) ?_
  obtain ⟨st1, e2, hf⟩ := zz_vo hf
  refine zz_callVv C (As := [.int (-1)]) (rest := []) (zz_Mv_e e2 (zc_X5_fill 2 (by decide) _ _)) (cwV 1 hts gX1_findWays_X5_fill rfl rfl rfl zd_X5_fill ⟨Nat.le_of_ble_eq_true rfl, Nat.le_of_ble_eq_true rfl⟩) hP hS (9 + 2) (zz_c_tab (by decide)) rfl rfl hl rfl (Nat.le_of_ble_eq_true rfl) dX1_findWays_5 ⟨Nat.zero_le _, Nat.zero_le _⟩ (fun H locs hP hS => ?_)
  refine lv_aload_n hx hb dX1_findWays_8 rfl (lv_at hl 0 rfl) ?_
  refine zz_getf C zi_X1_findWays_X1 hP 1 rfl rfl 3 (nm := "firsts") (ds := "LThirteenthDay$Table;") (fin := true) rfl (by decide) zk_X1_findWays_26 rfl dX1_findWays_9 ?_
  refine lv_iconst (v := (-1)) hx hb dX1_findWays_12 (by decide) ?_
  obtain ⟨st3, e4, hf⟩ := zz_vo hf
  refine zz_callVv C (As := [.int (-1)]) (rest := []) (zz_Mv_e e4 (zc_X5_fill 3 (by decide) _ _)) (cwV 1 hts gX1_findWays_X5_fill rfl rfl rfl zd_X5_fill ⟨Nat.le_of_ble_eq_true rfl, Nat.le_of_ble_eq_true rfl⟩) hP hS (9 + 3) (zz_c_tab (by decide)) rfl rfl hl rfl (Nat.le_of_ble_eq_true rfl) dX1_findWays_13 ⟨Nat.zero_le _, Nat.zero_le _⟩ (fun H locs hP hS => ?_)
  refine lv_iconst (v := 0) hx hb dX1_findWays_16 (by decide) ?_
  refine lv_istore_n (lv' := [(1, .int 0), (0, .ref (q 1))]) hx hb dX1_findWays_17 rfl hl (by decide) rfl (fun ls hl => ?_)
  exact zt_X1_findWays_18 C hr zz_N _ _ _ _ _ _ hf hP hS (lv_sub hl [1, 0] rfl)
/-! X1_addLine PW -/
theorem zd_X1_addLine : yX1_addLine.cls = RX1 ∧ yX1_addLine.cls ≠ "java/lang/invoke/MethodHandle" ∧ yX1_addLine.cls ≠ "java/lang/invoke/VarHandle" ∧ (parseMethodDescriptor yX1_addLine.desc).map (fun d => d.parameters.length) = some 5 := by decide +kernel
abbrev zr_X1_addLine : Room := { frames := 4, cells := 0, slots := 0, locals := 96 }
theorem zk_X1_addLine_33 : Cond.fieldLink yX1_addLine.cls 33 RX1 "lineCount" "I" ∈ wsX1_addLine := by decide +kernel
theorem zk_X1_addLine_20 : Cond.fieldLink yX1_addLine.cls 20 RX1 "lines" "LThirteenthDay$Table;" ∈ wsX1_addLine := by decide +kernel
theorem zi_X1_addLine_X1 : ∀ w ∈ u_ws RX1 TX1 6, w ∈ wsX1_addLine := by decide +kernel
def zX1_addLine_98 (v6 : Int32) (k1 : Int32) (k3 : Bool) (st : zz_T) : Option (Int32 × zz_T) :=
  zz_v (zz_set 1 k1 5 (zz_b k3) st) fun st14 =>
  zz_v (zz_S 3 ((st14.2 3) + 1) st14) fun st16 =>
  (zX1_findWays st16).bind fun st18 =>
  some (v6, st18)
set_option maxHeartbeats 4000000 in
set_option maxRecDepth 100000 in
theorem zt_X1_addLine_98 {l : Launch} {A : Nat → Prop} {D : va_G} {cI : ClassId} {q : Nat → Nat} {p : Program} {e : Env} {s : State} {m : MethodId} {args : Array Value} {below : List Frame} {meth : Method} {c : Code} (C : zz_C A D cI q p s m args meth c cX1_addLine 7 wsX1_addLine yX1_addLine.cls) (hr : meth.sig.returnType = some .int) : ∀ (v6 : Int32) (k1 : Int32) (k3 : Bool) (st : zz_T) (H : Heap) (locs : List Loc) (ls : Array Slot) (r : (Int32 × zz_T)), zX1_addLine_98 v6 k1 k3 st = some r → va_P D vwCl (zz_c q cI st) H → va_S A s.heap H locs → lv_has ls 7 [(0, .ref (q 1)), (6, .int v6)] → W p l e zr_X1_addLine s m args below meth c H locs 0 0 (zz_Qi A D cI q r.1 r.2 below args s) (F0 m 98 ls [.int (zz_b k3), .int 5, .int k1, .ref (q (9 + 1))]) := by
  obtain ⟨hx, hb, hml, hown, hts⟩ := id C.1
  intro v6 k1 k3 st H locs ls r hf hP hS hl
  rw [zX1_addLine_98] at hf
  obtain ⟨st14, e15, hf⟩ := zz_vo hf
  refine zz_callVv C (As := [.int k1, .int 5, .int (zz_b k3)]) (rest := []) (zz_Mv_e e15 (zc_X5_set 1 (by decide) _ _ _ _)) (cwV 3 hts gX1_addLine_X5_set rfl rfl rfl zd_X5_set ⟨Nat.le_of_ble_eq_true rfl, Nat.le_of_ble_eq_true rfl⟩) hP hS (9 + 1) (zz_c_tab (by decide)) rfl rfl hl rfl (Nat.le_of_ble_eq_true rfl) dX1_addLine_98 ⟨Nat.zero_le _, Nat.zero_le _⟩ (fun H locs hP hS => ?_)
  refine lv_aload_n hx hb dX1_addLine_101 rfl (lv_at hl 0 rfl) ?_
  refine lv_dup hx hb dX1_addLine_102 rfl ?_
  refine zz_getf C zi_X1_addLine_X1 hP 1 rfl rfl 5 (nm := "lineCount") (ds := "I") (fin := false) rfl (by decide) zk_X1_addLine_33 rfl dX1_addLine_103 ?_
  refine lv_iconst (v := 1) hx hb dX1_addLine_106 (by decide) ?_
  refine lv_iadd hx hb dX1_addLine_107 ?_
  obtain ⟨st16, e17, hf⟩ := zz_vo hf
  refine zz_putf (st' := st16) C zi_X1_addLine_X1 tyX1 tyX1_ok nmX1 hP hS 1 rfl rfl 5 (nm := "lineCount") rfl (by decide) zk_X1_addLine_33 (Nat.le_of_ble_eq_true rfl) (by rw [← e17]; rfl) dX1_addLine_108 (fun H locs hP hS => ?_)
  refine lv_aload_n hx hb dX1_addLine_111 rfl (lv_at hl 0 rfl) ?_
  obtain ⟨st18, e19, hf⟩ := zz_bo hf
  refine zz_callVv C (As := []) (rest := []) (zc_X1_findWays _ _ e19) (cwV 0 hts gX1_addLine_X1_findWays rfl rfl rfl zd_X1_findWays ⟨Nat.le_of_ble_eq_true rfl, Nat.le_of_ble_eq_true rfl⟩) hP hS 1 rfl rfl rfl hl rfl (Nat.le_of_ble_eq_true rfl) dX1_addLine_112 ⟨Nat.zero_le _, Nat.zero_le _⟩ (fun H locs hP hS => ?_)
  refine lv_iload hx hb dX1_addLine_115 (lv_at hl 1 rfl) ?_
  rw [← (Option.some.inj hf)]
  exact zz_reti C hr hP hS dX1_addLine_117
def zX1_addLine (v1 : Int32) (v2 : Int32) (v3 : Int32) (v4 : Bool) (v5 : Int32) (st : zz_T) : Option (Int32 × zz_T) :=
  zz_v (st.2 3) fun w1 =>
  zz_v (zz_set 1 w1 0 v1 st) fun st2 =>
  zz_v (zz_set 1 w1 1 v2 st2) fun st4 =>
  zz_v (zz_set 1 w1 2 v3 st4) fun st6 =>
  zz_v (zz_set 1 w1 3 (2 + v5) st6) fun st8 =>
  zz_v (zz_set 1 w1 7 (v3 * (2 + v5)) st8) fun st10 =>
  zz_v (zz_set 1 w1 4 1 st10) fun st12 =>
  if v4 = true then
    zX1_addLine_98 w1 w1 true st12
  else
    zX1_addLine_98 w1 w1 false st12
set_option maxHeartbeats 4000000 in
set_option maxRecDepth 100000 in
theorem zc_X1_addLine {l : Launch} {A : Nat → Prop} {D : va_G} {cI : ClassId} {q : Nat → Nat} (v1 : Int32) (v2 : Int32) (v3 : Int32) (v4 : Bool) (v5 : Int32) (st : zz_T) (r : (Int32 × zz_T)) (hf : zX1_addLine v1 v2 v3 v4 v5 st = some r) : zz_Mi l A D cI q yX1_addLine wsX1_addLine zr_X1_addLine [.ref (q 1), .int v1, .int v2, .int v3, .int (zz_b v4), .int v5] st r.1 r.2 := by
  refine zz_of (cc := cX1_addLine) (nL := 7) (ret := some .int) (by decide) rfl (Nat.le_of_ble_eq_true rfl) ?_
  intro p e s m args below meth c ls C hr hP hS hl
  obtain ⟨hx, hb, hml, hown, hts⟩ := id C.1
  have hl : lv_has ls 7 [(0, .ref (q 1)), (1, .int v1), (2, .int v2), (3, .int v3), (4, .int (zz_b v4)), (5, .int v5)] := hl
  rw [zX1_addLine] at hf
  skip
  refine lv_aload_n hx hb dX1_addLine_0 rfl (lv_at hl 0 rfl) ?_
  refine zz_getf C zi_X1_addLine_X1 hP 1 rfl rfl 5 (nm := "lineCount") (ds := "I") (fin := false) rfl (by decide) zk_X1_addLine_33 rfl dX1_addLine_1 ?_
  refine lv_topi (fun w1 e1 => ?_)
  replace hf := zz_vi hf e1
  refine lv_istore (lv' := [(6, .int w1), (0, .ref (q 1)), (1, .int v1), (2, .int v2), (3, .int v3), (4, .int (zz_b v4)), (5, .int v5)]) hx hb dX1_addLine_4 hl (by decide) rfl (fun ls hl => ?_)
  refine lv_aload_n hx hb dX1_addLine_6 rfl (lv_at hl 1 rfl) ?_
  refine zz_getf C zi_X1_addLine_X1 hP 1 rfl rfl 1 (nm := "lines") (ds := "LThirteenthDay$Table;") (fin := true) rfl (by decide) zk_X1_addLine_20 rfl dX1_addLine_7 ?_
  refine lv_iload hx hb dX1_addLine_10 (lv_at hl 0 rfl) ?_
  refine lv_iconst (v := 0) hx hb dX1_addLine_12 (by decide) ?_
  refine lv_iload_n hx hb dX1_addLine_13 rfl (lv_at hl 2 rfl) ?_
  obtain ⟨st2, e3, hf⟩ := zz_vo hf
  refine zz_callVv C (As := [.int w1, .int 0, .int v1]) (rest := []) (zz_Mv_e e3 (zc_X5_set 1 (by decide) _ _ _ _)) (cwV 3 hts gX1_addLine_X5_set rfl rfl rfl zd_X5_set ⟨Nat.le_of_ble_eq_true rfl, Nat.le_of_ble_eq_true rfl⟩) hP hS (9 + 1) (zz_c_tab (by decide)) rfl rfl hl rfl (Nat.le_of_ble_eq_true rfl) dX1_addLine_14 ⟨Nat.zero_le _, Nat.zero_le _⟩ (fun H locs hP hS => ?_)
  refine lv_aload_n hx hb dX1_addLine_17 rfl (lv_at hl 1 rfl) ?_
  refine zz_getf C zi_X1_addLine_X1 hP 1 rfl rfl 1 (nm := "lines") (ds := "LThirteenthDay$Table;") (fin := true) rfl (by decide) zk_X1_addLine_20 rfl dX1_addLine_18 ?_
  refine lv_iload hx hb dX1_addLine_21 (lv_at hl 0 rfl) ?_
  refine lv_iconst (v := 1) hx hb dX1_addLine_23 (by decide) ?_
  refine lv_iload_n hx hb dX1_addLine_24 rfl (lv_at hl 3 rfl) ?_
  obtain ⟨st4, e5, hf⟩ := zz_vo hf
  refine zz_callVv C (As := [.int w1, .int 1, .int v2]) (rest := []) (zz_Mv_e e5 (zc_X5_set 1 (by decide) _ _ _ _)) (cwV 3 hts gX1_addLine_X5_set rfl rfl rfl zd_X5_set ⟨Nat.le_of_ble_eq_true rfl, Nat.le_of_ble_eq_true rfl⟩) hP hS (9 + 1) (zz_c_tab (by decide)) rfl rfl hl rfl (Nat.le_of_ble_eq_true rfl) dX1_addLine_25 ⟨Nat.zero_le _, Nat.zero_le _⟩ (fun H locs hP hS => ?_)
  refine lv_aload_n hx hb dX1_addLine_28 rfl (lv_at hl 1 rfl) ?_
  refine zz_getf C zi_X1_addLine_X1 hP 1 rfl rfl 1 (nm := "lines") (ds := "LThirteenthDay$Table;") (fin := true) rfl (by decide) zk_X1_addLine_20 rfl dX1_addLine_29 ?_
  refine lv_iload hx hb dX1_addLine_32 (lv_at hl 0 rfl) ?_
  refine lv_iconst (v := 2) hx hb dX1_addLine_34 (by decide) ?_
  refine lv_iload_n hx hb dX1_addLine_35 rfl (lv_at hl 4 rfl) ?_
  obtain ⟨st6, e7, hf⟩ := zz_vo hf
  refine zz_callVv C (As := [.int w1, .int 2, .int v3]) (rest := []) (zz_Mv_e e7 (zc_X5_set 1 (by decide) _ _ _ _)) (cwV 3 hts gX1_addLine_X5_set rfl rfl rfl zd_X5_set ⟨Nat.le_of_ble_eq_true rfl, Nat.le_of_ble_eq_true rfl⟩) hP hS (9 + 1) (zz_c_tab (by decide)) rfl rfl hl rfl (Nat.le_of_ble_eq_true rfl) dX1_addLine_36 ⟨Nat.zero_le _, Nat.zero_le _⟩ (fun H locs hP hS => ?_)
  refine lv_aload_n hx hb dX1_addLine_39 rfl (lv_at hl 1 rfl) ?_
  refine zz_getf C zi_X1_addLine_X1 hP 1 rfl rfl 1 (nm := "lines") (ds := "LThirteenthDay$Table;") (fin := true) rfl (by decide) zk_X1_addLine_20 rfl dX1_addLine_40 ?_
  refine lv_iload hx hb dX1_addLine_43 (lv_at hl 0 rfl) ?_
  refine lv_iconst (v := 3) hx hb dX1_addLine_45 (by decide) ?_
  refine lv_iconst (v := 2) hx hb dX1_addLine_46 (by decide) ?_
  refine lv_iload hx hb dX1_addLine_47 (lv_at hl 6 rfl) ?_
  refine lv_iadd hx hb dX1_addLine_49 ?_
  obtain ⟨st8, e9, hf⟩ := zz_vo hf
  refine zz_callVv C (As := [.int w1, .int 3, .int (2 + v5)]) (rest := []) (zz_Mv_e e9 (zc_X5_set 1 (by decide) _ _ _ _)) (cwV 3 hts gX1_addLine_X5_set rfl rfl rfl zd_X5_set ⟨Nat.le_of_ble_eq_true rfl, Nat.le_of_ble_eq_true rfl⟩) hP hS (9 + 1) (zz_c_tab (by decide)) rfl rfl hl rfl (Nat.le_of_ble_eq_true rfl) dX1_addLine_50 ⟨Nat.zero_le _, Nat.zero_le _⟩ (fun H locs hP hS => ?_)
  refine lv_aload_n hx hb dX1_addLine_53 rfl (lv_at hl 1 rfl) ?_
  refine zz_getf C zi_X1_addLine_X1 hP 1 rfl rfl 1 (nm := "lines") (ds := "LThirteenthDay$Table;") (fin := true) rfl (by decide) zk_X1_addLine_20 rfl dX1_addLine_54 ?_
  refine lv_iload hx hb dX1_addLine_57 (lv_at hl 0 rfl) ?_
  refine lv_bipush (v := 7) hx hb dX1_addLine_59 (by decide) ?_
  refine lv_iload_n hx hb dX1_addLine_61 rfl (lv_at hl 4 rfl) ?_
  refine lv_iconst (v := 2) hx hb dX1_addLine_62 (by decide) ?_
  refine lv_iload hx hb dX1_addLine_63 (lv_at hl 6 rfl) ?_
  refine lv_iadd hx hb dX1_addLine_65 ?_
  refine lv_imul hx hb dX1_addLine_66 ?_
  obtain ⟨st10, e11, hf⟩ := zz_vo hf
  refine zz_callVv C (As := [.int w1, .int 7, .int (v3 * (2 + v5))]) (rest := []) (zz_Mv_e e11 (zc_X5_set 1 (by decide) _ _ _ _)) (cwV 3 hts gX1_addLine_X5_set rfl rfl rfl zd_X5_set ⟨Nat.le_of_ble_eq_true rfl, Nat.le_of_ble_eq_true rfl⟩) hP hS (9 + 1) (zz_c_tab (by decide)) rfl rfl hl rfl (Nat.le_of_ble_eq_true rfl) dX1_addLine_67 ⟨Nat.zero_le _, Nat.zero_le _⟩ (fun H locs hP hS => ?_)
  refine lv_aload_n hx hb dX1_addLine_70 rfl (lv_at hl 1 rfl) ?_
  refine zz_getf C zi_X1_addLine_X1 hP 1 rfl rfl 1 (nm := "lines") (ds := "LThirteenthDay$Table;") (fin := true) rfl (by decide) zk_X1_addLine_20 rfl dX1_addLine_71 ?_
  refine lv_iload hx hb dX1_addLine_74 (lv_at hl 0 rfl) ?_
  refine lv_iconst (v := 4) hx hb dX1_addLine_76 (by decide) ?_
  refine lv_iconst (v := 1) hx hb dX1_addLine_77 (by decide) ?_
  obtain ⟨st12, e13, hf⟩ := zz_vo hf
  refine zz_callVv C (As := [.int w1, .int 4, .int 1]) (rest := []) (zz_Mv_e e13 (zc_X5_set 1 (by decide) _ _ _ _)) (cwV 3 hts gX1_addLine_X5_set rfl rfl rfl zd_X5_set ⟨Nat.le_of_ble_eq_true rfl, Nat.le_of_ble_eq_true rfl⟩) hP hS (9 + 1) (zz_c_tab (by decide)) rfl rfl hl rfl (Nat.le_of_ble_eq_true rfl) dX1_addLine_78 ⟨Nat.zero_le _, Nat.zero_le _⟩ (fun H locs hP hS => ?_)
  refine lv_aload_n hx hb dX1_addLine_81 rfl (lv_at hl 1 rfl) ?_
  refine zz_getf C zi_X1_addLine_X1 hP 1 rfl rfl 1 (nm := "lines") (ds := "LThirteenthDay$Table;") (fin := true) rfl (by decide) zk_X1_addLine_20 rfl dX1_addLine_82 ?_
  refine lv_iload hx hb dX1_addLine_85 (lv_at hl 0 rfl) ?_
  refine lv_iconst (v := 5) hx hb dX1_addLine_87 (by decide) ?_
  refine lv_iload hx hb dX1_addLine_88 (lv_at hl 5 rfl) ?_
  refine lv_if_eq (tgt := 97) hx hb dX1_addLine_90 (by decide) (fun h => ?_) (fun h => ?_)
  · rw [zz_if0 (zz_b0 h)] at hf
    refine lv_iconst (v := 0) hx hb dX1_addLine_97 (by decide) ?_
    exact zt_X1_addLine_98 C hr _ _ _ _ _ _ _ _ hf hP hS (lv_sub hl [1, 0] rfl)
  · rw [zz_if1 (zz_b1 h)] at hf
    refine lv_iconst (v := 1) hx hb dX1_addLine_93 (by decide) ?_
    refine lv_goto (tgt := 98) hx hb dX1_addLine_94 (by decide) ?_
    exact zt_X1_addLine_98 C hr _ _ _ _ _ _ _ _ hf hP hS (lv_sub hl [1, 0] rfl)
/-! X1_addStation PW -/
theorem zd_X1_addStation : yX1_addStation.cls = RX1 ∧ yX1_addStation.cls ≠ "java/lang/invoke/MethodHandle" ∧ yX1_addStation.cls ≠ "java/lang/invoke/VarHandle" ∧ (parseMethodDescriptor yX1_addStation.desc).map (fun d => d.parameters.length) = some 4 := by decide +kernel
abbrev zr_X1_addStation : Room := { frames := 4, cells := 0, slots := 0, locals := 96 }
theorem zk_X1_addStation_29 : Cond.fieldLink yX1_addStation.cls 29 RX1 "stationCount" "I" ∈ wsX1_addStation := by decide +kernel
theorem zk_X1_addStation_16 : Cond.fieldLink yX1_addStation.cls 16 RX1 "stations" "LThirteenthDay$Table;" ∈ wsX1_addStation := by decide +kernel
theorem zi_X1_addStation_X1 : ∀ w ∈ u_ws RX1 TX1 6, w ∈ wsX1_addStation := by decide +kernel
def zX1_addStation_56 (v5 : Int32) (k1 : Int32) (k3 : Bool) (st : zz_T) : Option (Int32 × zz_T) :=
  zz_v (zz_set 0 k1 3 (zz_b k3) st) fun st8 =>
  zz_v (zz_S 2 ((st8.2 2) + 1) st8) fun st10 =>
  (zX1_findWays st10).bind fun st12 =>
  some (v5, st12)
set_option maxHeartbeats 4000000 in
set_option maxRecDepth 100000 in
theorem zt_X1_addStation_56 {l : Launch} {A : Nat → Prop} {D : va_G} {cI : ClassId} {q : Nat → Nat} {p : Program} {e : Env} {s : State} {m : MethodId} {args : Array Value} {below : List Frame} {meth : Method} {c : Code} (C : zz_C A D cI q p s m args meth c cX1_addStation 6 wsX1_addStation yX1_addStation.cls) (hr : meth.sig.returnType = some .int) : ∀ (v5 : Int32) (k1 : Int32) (k3 : Bool) (st : zz_T) (H : Heap) (locs : List Loc) (ls : Array Slot) (r : (Int32 × zz_T)), zX1_addStation_56 v5 k1 k3 st = some r → va_P D vwCl (zz_c q cI st) H → va_S A s.heap H locs → lv_has ls 6 [(0, .ref (q 1)), (5, .int v5)] → W p l e zr_X1_addStation s m args below meth c H locs 0 0 (zz_Qi A D cI q r.1 r.2 below args s) (F0 m 56 ls [.int (zz_b k3), .int 3, .int k1, .ref (q (9 + 0))]) := by
  obtain ⟨hx, hb, hml, hown, hts⟩ := id C.1
  intro v5 k1 k3 st H locs ls r hf hP hS hl
  rw [zX1_addStation_56] at hf
  obtain ⟨st8, e9, hf⟩ := zz_vo hf
  refine zz_callVv C (As := [.int k1, .int 3, .int (zz_b k3)]) (rest := []) (zz_Mv_e e9 (zc_X5_set 0 (by decide) _ _ _ _)) (cwV 3 hts gX1_addStation_X5_set rfl rfl rfl zd_X5_set ⟨Nat.le_of_ble_eq_true rfl, Nat.le_of_ble_eq_true rfl⟩) hP hS (9 + 0) (zz_c_tab (by decide)) rfl rfl hl rfl (Nat.le_of_ble_eq_true rfl) dX1_addStation_56 ⟨Nat.zero_le _, Nat.zero_le _⟩ (fun H locs hP hS => ?_)
  refine lv_aload_n hx hb dX1_addStation_59 rfl (lv_at hl 0 rfl) ?_
  refine lv_dup hx hb dX1_addStation_60 rfl ?_
  refine zz_getf C zi_X1_addStation_X1 hP 1 rfl rfl 4 (nm := "stationCount") (ds := "I") (fin := false) rfl (by decide) zk_X1_addStation_29 rfl dX1_addStation_61 ?_
  refine lv_iconst (v := 1) hx hb dX1_addStation_64 (by decide) ?_
  refine lv_iadd hx hb dX1_addStation_65 ?_
  obtain ⟨st10, e11, hf⟩ := zz_vo hf
  refine zz_putf (st' := st10) C zi_X1_addStation_X1 tyX1 tyX1_ok nmX1 hP hS 1 rfl rfl 4 (nm := "stationCount") rfl (by decide) zk_X1_addStation_29 (Nat.le_of_ble_eq_true rfl) (by rw [← e11]; rfl) dX1_addStation_66 (fun H locs hP hS => ?_)
  refine lv_aload_n hx hb dX1_addStation_69 rfl (lv_at hl 0 rfl) ?_
  obtain ⟨st12, e13, hf⟩ := zz_bo hf
  refine zz_callVv C (As := []) (rest := []) (zc_X1_findWays _ _ e13) (cwV 0 hts gX1_addStation_X1_findWays rfl rfl rfl zd_X1_findWays ⟨Nat.le_of_ble_eq_true rfl, Nat.le_of_ble_eq_true rfl⟩) hP hS 1 rfl rfl rfl hl rfl (Nat.le_of_ble_eq_true rfl) dX1_addStation_70 ⟨Nat.zero_le _, Nat.zero_le _⟩ (fun H locs hP hS => ?_)
  refine lv_iload hx hb dX1_addStation_73 (lv_at hl 1 rfl) ?_
  rw [← (Option.some.inj hf)]
  exact zz_reti C hr hP hS dX1_addStation_75
def zX1_addStation (v1 : Int32) (v2 : Int32) (v3 : Int32) (v4 : Bool) (st : zz_T) : Option (Int32 × zz_T) :=
  zz_v (st.2 2) fun w1 =>
  zz_v (zz_set 0 w1 0 v1 st) fun st2 =>
  zz_v (zz_set 0 w1 1 v2 st2) fun st4 =>
  zz_v (zz_set 0 w1 2 v3 st4) fun st6 =>
  if v4 = true then
    zX1_addStation_56 w1 w1 true st6
  else
    zX1_addStation_56 w1 w1 false st6
set_option maxHeartbeats 4000000 in
set_option maxRecDepth 100000 in
theorem zc_X1_addStation {l : Launch} {A : Nat → Prop} {D : va_G} {cI : ClassId} {q : Nat → Nat} (v1 : Int32) (v2 : Int32) (v3 : Int32) (v4 : Bool) (st : zz_T) (r : (Int32 × zz_T)) (hf : zX1_addStation v1 v2 v3 v4 st = some r) : zz_Mi l A D cI q yX1_addStation wsX1_addStation zr_X1_addStation [.ref (q 1), .int v1, .int v2, .int v3, .int (zz_b v4)] st r.1 r.2 := by
  refine zz_of (cc := cX1_addStation) (nL := 6) (ret := some .int) (by decide) rfl (Nat.le_of_ble_eq_true rfl) ?_
  intro p e s m args below meth c ls C hr hP hS hl
  obtain ⟨hx, hb, hml, hown, hts⟩ := id C.1
  have hl : lv_has ls 6 [(0, .ref (q 1)), (1, .int v1), (2, .int v2), (3, .int v3), (4, .int (zz_b v4))] := hl
  rw [zX1_addStation] at hf
  skip
  refine lv_aload_n hx hb dX1_addStation_0 rfl (lv_at hl 0 rfl) ?_
  refine zz_getf C zi_X1_addStation_X1 hP 1 rfl rfl 4 (nm := "stationCount") (ds := "I") (fin := false) rfl (by decide) zk_X1_addStation_29 rfl dX1_addStation_1 ?_
  refine lv_topi (fun w1 e1 => ?_)
  replace hf := zz_vi hf e1
  refine lv_istore (lv' := [(5, .int w1), (0, .ref (q 1)), (1, .int v1), (2, .int v2), (3, .int v3), (4, .int (zz_b v4))]) hx hb dX1_addStation_4 hl (by decide) rfl (fun ls hl => ?_)
  refine lv_aload_n hx hb dX1_addStation_6 rfl (lv_at hl 1 rfl) ?_
  refine zz_getf C zi_X1_addStation_X1 hP 1 rfl rfl 0 (nm := "stations") (ds := "LThirteenthDay$Table;") (fin := true) rfl (by decide) zk_X1_addStation_16 rfl dX1_addStation_7 ?_
  refine lv_iload hx hb dX1_addStation_10 (lv_at hl 0 rfl) ?_
  refine lv_iconst (v := 0) hx hb dX1_addStation_12 (by decide) ?_
  refine lv_iload_n hx hb dX1_addStation_13 rfl (lv_at hl 2 rfl) ?_
  obtain ⟨st2, e3, hf⟩ := zz_vo hf
  refine zz_callVv C (As := [.int w1, .int 0, .int v1]) (rest := []) (zz_Mv_e e3 (zc_X5_set 0 (by decide) _ _ _ _)) (cwV 3 hts gX1_addStation_X5_set rfl rfl rfl zd_X5_set ⟨Nat.le_of_ble_eq_true rfl, Nat.le_of_ble_eq_true rfl⟩) hP hS (9 + 0) (zz_c_tab (by decide)) rfl rfl hl rfl (Nat.le_of_ble_eq_true rfl) dX1_addStation_14 ⟨Nat.zero_le _, Nat.zero_le _⟩ (fun H locs hP hS => ?_)
  refine lv_aload_n hx hb dX1_addStation_17 rfl (lv_at hl 1 rfl) ?_
  refine zz_getf C zi_X1_addStation_X1 hP 1 rfl rfl 0 (nm := "stations") (ds := "LThirteenthDay$Table;") (fin := true) rfl (by decide) zk_X1_addStation_16 rfl dX1_addStation_18 ?_
  refine lv_iload hx hb dX1_addStation_21 (lv_at hl 0 rfl) ?_
  refine lv_iconst (v := 1) hx hb dX1_addStation_23 (by decide) ?_
  refine lv_iload_n hx hb dX1_addStation_24 rfl (lv_at hl 3 rfl) ?_
  obtain ⟨st4, e5, hf⟩ := zz_vo hf
  refine zz_callVv C (As := [.int w1, .int 1, .int v2]) (rest := []) (zz_Mv_e e5 (zc_X5_set 0 (by decide) _ _ _ _)) (cwV 3 hts gX1_addStation_X5_set rfl rfl rfl zd_X5_set ⟨Nat.le_of_ble_eq_true rfl, Nat.le_of_ble_eq_true rfl⟩) hP hS (9 + 0) (zz_c_tab (by decide)) rfl rfl hl rfl (Nat.le_of_ble_eq_true rfl) dX1_addStation_25 ⟨Nat.zero_le _, Nat.zero_le _⟩ (fun H locs hP hS => ?_)
  refine lv_aload_n hx hb dX1_addStation_28 rfl (lv_at hl 1 rfl) ?_
  refine zz_getf C zi_X1_addStation_X1 hP 1 rfl rfl 0 (nm := "stations") (ds := "LThirteenthDay$Table;") (fin := true) rfl (by decide) zk_X1_addStation_16 rfl dX1_addStation_29 ?_
  refine lv_iload hx hb dX1_addStation_32 (lv_at hl 0 rfl) ?_
  refine lv_iconst (v := 2) hx hb dX1_addStation_34 (by decide) ?_
  refine lv_iload_n hx hb dX1_addStation_35 rfl (lv_at hl 4 rfl) ?_
  obtain ⟨st6, e7, hf⟩ := zz_vo hf
  refine zz_callVv C (As := [.int w1, .int 2, .int v3]) (rest := []) (zz_Mv_e e7 (zc_X5_set 0 (by decide) _ _ _ _)) (cwV 3 hts gX1_addStation_X5_set rfl rfl rfl zd_X5_set ⟨Nat.le_of_ble_eq_true rfl, Nat.le_of_ble_eq_true rfl⟩) hP hS (9 + 0) (zz_c_tab (by decide)) rfl rfl hl rfl (Nat.le_of_ble_eq_true rfl) dX1_addStation_36 ⟨Nat.zero_le _, Nat.zero_le _⟩ (fun H locs hP hS => ?_)
  refine lv_aload_n hx hb dX1_addStation_39 rfl (lv_at hl 1 rfl) ?_
  refine zz_getf C zi_X1_addStation_X1 hP 1 rfl rfl 0 (nm := "stations") (ds := "LThirteenthDay$Table;") (fin := true) rfl (by decide) zk_X1_addStation_16 rfl dX1_addStation_40 ?_
  refine lv_iload hx hb dX1_addStation_43 (lv_at hl 0 rfl) ?_
  refine lv_iconst (v := 3) hx hb dX1_addStation_45 (by decide) ?_
  refine lv_iload hx hb dX1_addStation_46 (lv_at hl 5 rfl) ?_
  refine lv_if_eq (tgt := 55) hx hb dX1_addStation_48 (by decide) (fun h => ?_) (fun h => ?_)
  · rw [zz_if0 (zz_b0 h)] at hf
    refine lv_iconst (v := 0) hx hb dX1_addStation_55 (by decide) ?_
    exact zt_X1_addStation_56 C hr _ _ _ _ _ _ _ _ hf hP hS (lv_sub hl [1, 0] rfl)
  · rw [zz_if1 (zz_b1 h)] at hf
    refine lv_iconst (v := 1) hx hb dX1_addStation_51 (by decide) ?_
    refine lv_goto (tgt := 56) hx hb dX1_addStation_52 (by decide) ?_
    exact zt_X1_addStation_56 C hr _ _ _ _ _ _ _ _ hf hP hS (lv_sub hl [1, 0] rfl)
/-! X1_addThrough TW -/
theorem zd_X1_addThrough : yX1_addThrough.cls = RX1 ∧ yX1_addThrough.cls ≠ "java/lang/invoke/MethodHandle" ∧ yX1_addThrough.cls ≠ "java/lang/invoke/VarHandle" ∧ (parseMethodDescriptor yX1_addThrough.desc).map (fun d => d.parameters.length) = some 1 := by decide +kernel
abbrev zr_X1_addThrough : Room := { frames := 1, cells := 0, slots := 0, locals := 24 }
theorem zk_X1_addThrough_20 : Cond.fieldLink yX1_addThrough.cls 20 RX1 "lines" "LThirteenthDay$Table;" ∈ wsX1_addThrough := by decide +kernel
theorem zi_X1_addThrough_X1 : ∀ w ∈ u_ws RX1 TX1 6, w ∈ wsX1_addThrough := by decide +kernel
def zX1_addThrough (v1 : Int32) (st : zz_T) : zz_T :=
  zz_v (zz_add 1 v1 6 1 st) fun st1 =>
  st1
set_option maxHeartbeats 4000000 in
set_option maxRecDepth 100000 in
theorem zc_X1_addThrough {l : Launch} {A : Nat → Prop} {D : va_G} {cI : ClassId} {q : Nat → Nat} (v1 : Int32) (st : zz_T) : zz_Mv l A D cI q yX1_addThrough wsX1_addThrough zr_X1_addThrough [.ref (q 1), .int v1] st (zX1_addThrough v1 st) := by
  refine zz_of (cc := cX1_addThrough) (nL := 2) (ret := none) (by decide) rfl (Nat.le_of_ble_eq_true rfl) ?_
  intro p e s m args below meth c ls C hr hP hS hl
  obtain ⟨hx, hb, hml, hown, hts⟩ := id C.1
  have hl : lv_has ls 2 [(0, .ref (q 1)), (1, .int v1)] := hl
  obtain ⟨r, hf⟩ : ∃ r, zX1_addThrough v1 st = r := ⟨_, rfl⟩
  rw [hf]
  rw [zX1_addThrough] at hf
  skip
  refine lv_aload_n hx hb dX1_addThrough_0 rfl (lv_at hl 0 rfl) ?_
  refine zz_getf C zi_X1_addThrough_X1 hP 1 rfl rfl 1 (nm := "lines") (ds := "LThirteenthDay$Table;") (fin := true) rfl (by decide) zk_X1_addThrough_20 rfl dX1_addThrough_1 ?_
  refine lv_iload_n hx hb dX1_addThrough_4 rfl (lv_at hl 1 rfl) ?_
  refine lv_bipush (v := 6) hx hb dX1_addThrough_5 (by decide) ?_
  refine lv_iconst (v := 1) hx hb dX1_addThrough_7 (by decide) ?_
  obtain ⟨st1, e2, hf⟩ := zz_vo hf
  refine zz_callVv C (As := [.int v1, .int 6, .int 1]) (rest := []) (zz_Mv_e e2 (zc_X5_add 1 (by decide) _ _ _ _)) (cwV 3 hts gX1_addThrough_X5_add rfl rfl rfl zd_X5_add ⟨Nat.le_of_ble_eq_true rfl, Nat.le_of_ble_eq_true rfl⟩) hP hS (9 + 1) (zz_c_tab (by decide)) rfl rfl hl rfl (Nat.le_of_ble_eq_true rfl) dX1_addThrough_8 ⟨Nat.zero_le _, Nat.zero_le _⟩ (fun H locs hP hS => ?_)
  rw [← hf]
  exact zz_retv C hr hP hS dX1_addThrough_11
