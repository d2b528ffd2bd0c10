/-! X1_addWhole PW -/
theorem zd_X1_addWhole : yX1_addWhole.cls = RX1 ∧ yX1_addWhole.cls ≠ "java/lang/invoke/MethodHandle" ∧ yX1_addWhole.cls ≠ "java/lang/invoke/VarHandle" ∧ (parseMethodDescriptor yX1_addWhole.desc).map (fun d => d.parameters.length) = some 2 := by decide +kernel
abbrev zr_X1_addWhole : Room := { frames := 5, cells := 0, slots := 0, locals := 122 }
def zX1_addWhole_60 : Nat → Int32 → Int32 → Int32 → zz_T → Option zz_T
  | 0, _, _, _, _ => none
  | n + 1, v1, v2, v3, st =>
    if 3 ≤ v3 then
      some st
    else
      (zX1_addLine v3 (v3 + 3) v1 false v2 st).bind fun x1 =>
      zX1_addWhole_60 n v1 v2 (v3 + 1) x1.2
set_option maxHeartbeats 4000000 in
set_option maxRecDepth 100000 in
theorem zt_X1_addWhole_60 {l : Launch} {A : Nat → Prop} {D : va_G} {cI : ClassId} {q : Nat → Nat} {p : Program} {e : Env} {s : State} {m : MethodId} {args : Array Value} {below : List Frame} {meth : Method} {c : Code} (C : zz_C A D cI q p s m args meth c cX1_addWhole 4 wsX1_addWhole yX1_addWhole.cls) (hr : meth.sig.returnType = none) : ∀ (n : Nat) (v1 : Int32) (v2 : Int32) (v3 : Int32) (st : zz_T) (H : Heap) (locs : List Loc) (ls : Array Slot) (r : zz_T), zX1_addWhole_60 n v1 v2 v3 st = some r → va_P D vwCl (zz_c q cI st) H → va_S A s.heap H locs → lv_has ls 4 [(0, .ref (q 1)), (1, .int v1), (2, .int v2), (3, .int v3)] → W p l e zr_X1_addWhole s m args below meth c H locs 0 0 (zz_Qv A D cI q r below args s) (F0 m 60 ls []) := by
  obtain ⟨hx, hb, hml, hown, hts⟩ := id C.1
  intro n
  induction n with
  | zero => intro v1 v2 v3 st H locs ls r hf; cases hf
  | succ n ih =>
    intro v1 v2 v3 st H locs ls r hf hP hS hl
    rw [zX1_addWhole_60] at hf
    refine lv_iload_n hx hb dX1_addWhole_60 rfl (lv_at hl 3 rfl) ?_
    refine lv_iconst (v := 3) hx hb dX1_addWhole_61 (by decide) ?_
    refine lv_icmp_ge (tgt := 83) hx hb dX1_addWhole_62 (by decide) (fun h => ?_) (fun h => ?_)
    · rw [if_pos h] at hf
      rw [← (Option.some.inj hf)]
      exact zz_retv C hr hP hS dX1_addWhole_83
    · rw [if_neg h] at hf
      refine lv_aload_n hx hb dX1_addWhole_65 rfl (lv_at hl 0 rfl) ?_
      refine lv_iload_n hx hb dX1_addWhole_66 rfl (lv_at hl 3 rfl) ?_
      refine lv_iload_n hx hb dX1_addWhole_67 rfl (lv_at hl 3 rfl) ?_
      refine lv_iconst (v := 3) hx hb dX1_addWhole_68 (by decide) ?_
      refine lv_iadd hx hb dX1_addWhole_69 ?_
      refine lv_iload_n hx hb dX1_addWhole_70 rfl (lv_at hl 1 rfl) ?_
      refine lv_iconst (v := 0) hx hb dX1_addWhole_71 (by decide) ?_
      refine lv_iload_n hx hb dX1_addWhole_72 rfl (lv_at hl 2 rfl) ?_
      obtain ⟨x1, e2, hf⟩ := zz_bo hf
      refine zz_callVi C (As := [.int v3, .int (v3 + 3), .int v1, .int 0, .int v2]) (rest := []) (zc_X1_addLine _ _ _ false _ _ _ e2) (cwV 5 hts gX1_addWhole_X1_addLine rfl rfl rfl zd_X1_addLine ⟨Nat.le_of_ble_eq_true rfl, Nat.le_of_ble_eq_true rfl⟩) hP hS 1 rfl rfl rfl hl rfl (Nat.le_of_ble_eq_true rfl) dX1_addWhole_73 ⟨Nat.zero_le _, Nat.zero_le _⟩ (fun H locs hP hS => ?_)
      refine lv_pop hx hb dX1_addWhole_76 rfl ?_
      refine lv_iinc (v := (v3 + 1)) (lv' := [(3, .int (v3 + 1)), (0, .ref (q 1)), (1, .int v1), (2, .int v2)]) hx hb dX1_addWhole_77 hl (k := 3) rfl (congrArg (fun z => v3 + z) (by decide)) (by decide) rfl (fun ls hl => ?_)
      refine lv_goto (tgt := 60) hx hb dX1_addWhole_80 (by decide) ?_
      exact ih _ _ _ _ _ _ _ _ hf hP hS (lv_sub hl [1, 2, 3, 0] rfl)
def zX1_addWhole_35 : Nat → Int32 → Int32 → Int32 → zz_T → Option zz_T
  | 0, _, _, _, _ => none
  | n + 1, v1, v2, v3, st =>
    if 5 ≤ v3 then
      zX1_addWhole_60 zz_N v1 v2 0 st
    else
      (zX1_addLine v3 (v3 + 1) 2 true 0 st).bind fun x3 =>
      zX1_addWhole_35 n v1 v2 (v3 + 1) x3.2
set_option maxHeartbeats 4000000 in
set_option maxRecDepth 100000 in
theorem zt_X1_addWhole_35 {l : Launch} {A : Nat → Prop} {D : va_G} {cI : ClassId} {q : Nat → Nat} {p : Program} {e : Env} {s : State} {m : MethodId} {args : Array Value} {below : List Frame} {meth : Method} {c : Code} (C : zz_C A D cI q p s m args meth c cX1_addWhole 4 wsX1_addWhole yX1_addWhole.cls) (hr : meth.sig.returnType = none) : ∀ (n : Nat) (v1 : Int32) (v2 : Int32) (v3 : Int32) (st : zz_T) (H : Heap) (locs : List Loc) (ls : Array Slot) (r : zz_T), zX1_addWhole_35 n v1 v2 v3 st = some r → va_P D vwCl (zz_c q cI st) H → va_S A s.heap H locs → lv_has ls 4 [(0, .ref (q 1)), (1, .int v1), (2, .int v2), (3, .int v3)] → W p l e zr_X1_addWhole s m args below meth c H locs 0 0 (zz_Qv A D cI q r below args s) (F0 m 35 ls []) := by
  obtain ⟨hx, hb, hml, hown, hts⟩ := id C.1
  intro n
  induction n with
  | zero => intro v1 v2 v3 st H locs ls r hf; cases hf
  | succ n ih =>
    intro v1 v2 v3 st H locs ls r hf hP hS hl
    rw [zX1_addWhole_35] at hf
    refine lv_iload_n hx hb dX1_addWhole_35 rfl (lv_at hl 3 rfl) ?_
    refine lv_iconst (v := 5) hx hb dX1_addWhole_36 (by decide) ?_
    refine lv_icmp_ge (tgt := 58) hx hb dX1_addWhole_37 (by decide) (fun h => ?_) (fun h => ?_)
    · rw [if_pos h] at hf
      refine lv_iconst (v := 0) hx hb dX1_addWhole_58 (by decide) ?_
      refine lv_istore_n (lv' := [(3, .int 0), (0, .ref (q 1)), (1, .int v1), (2, .int v2)]) hx hb dX1_addWhole_59 rfl hl (by decide) rfl (fun ls hl => ?_)
      exact zt_X1_addWhole_60 C hr zz_N _ _ _ _ _ _ _ _ hf hP hS (lv_sub hl [1, 2, 3, 0] rfl)
    · rw [if_neg h] at hf
      refine lv_aload_n hx hb dX1_addWhole_40 rfl (lv_at hl 0 rfl) ?_
      refine lv_iload_n hx hb dX1_addWhole_41 rfl (lv_at hl 3 rfl) ?_
      refine lv_iload_n hx hb dX1_addWhole_42 rfl (lv_at hl 3 rfl) ?_
      refine lv_iconst (v := 1) hx hb dX1_addWhole_43 (by decide) ?_
      refine lv_iadd hx hb dX1_addWhole_44 ?_
      refine lv_iconst (v := 2) hx hb dX1_addWhole_45 (by decide) ?_
      refine lv_iconst (v := 1) hx hb dX1_addWhole_46 (by decide) ?_
      refine lv_iconst (v := 0) hx hb dX1_addWhole_47 (by decide) ?_
      obtain ⟨x3, e4, hf⟩ := zz_bo hf
      refine zz_callVi C (As := [.int v3, .int (v3 + 1), .int 2, .int 1, .int 0]) (rest := []) (zc_X1_addLine _ _ _ true _ _ _ e4) (cwV 5 hts gX1_addWhole_X1_addLine rfl rfl rfl zd_X1_addLine ⟨Nat.le_of_ble_eq_true rfl, Nat.le_of_ble_eq_true rfl⟩) hP hS 1 rfl rfl rfl hl rfl (Nat.le_of_ble_eq_true rfl) dX1_addWhole_48 ⟨Nat.zero_le _, Nat.zero_le _⟩ (fun H locs hP hS => ?_)
      refine lv_pop hx hb dX1_addWhole_51 rfl ?_
      refine lv_iinc (v := (v3 + 1)) (lv' := [(3, .int (v3 + 1)), (0, .ref (q 1)), (1, .int v1), (2, .int v2)]) hx hb dX1_addWhole_52 hl (k := 3) rfl (congrArg (fun z => v3 + z) (by decide)) (by decide) rfl (fun ls hl => ?_)
      refine lv_goto (tgt := 35) hx hb dX1_addWhole_55 (by decide) ?_
      exact ih _ _ _ _ _ _ _ _ hf hP hS (lv_sub hl [1, 2, 3, 0] rfl)
def zX1_addWhole_2 : Nat → Int32 → Int32 → Int32 → zz_T → Option zz_T
  | 0, _, _, _, _ => none
  | n + 1, v1, v2, v3, st =>
    if 6 ≤ v3 then
      zX1_addWhole_35 zz_N v1 v2 0 st
    else
      if (v3 - v3 / 2 * 2) = 0 then
        (zX1_addStation 2 3 4 true st).bind fun x7 =>
        zX1_addWhole_2 n v1 v2 (v3 + 1) x7.2
      else
        (zX1_addStation 2 3 4 false st).bind fun x5 =>
        zX1_addWhole_2 n v1 v2 (v3 + 1) x5.2
set_option maxHeartbeats 4000000 in
set_option maxRecDepth 100000 in
theorem zt_X1_addWhole_2 {l : Launch} {A : Nat → Prop} {D : va_G} {cI : ClassId} {q : Nat → Nat} {p : Program} {e : Env} {s : State} {m : MethodId} {args : Array Value} {below : List Frame} {meth : Method} {c : Code} (C : zz_C A D cI q p s m args meth c cX1_addWhole 4 wsX1_addWhole yX1_addWhole.cls) (hr : meth.sig.returnType = none) : ∀ (n : Nat) (v1 : Int32) (v2 : Int32) (v3 : Int32) (st : zz_T) (H : Heap) (locs : List Loc) (ls : Array Slot) (r : zz_T), zX1_addWhole_2 n v1 v2 v3 st = some r → va_P D vwCl (zz_c q cI st) H → va_S A s.heap H locs → lv_has ls 4 [(0, .ref (q 1)), (1, .int v1), (2, .int v2), (3, .int v3)] → W p l e zr_X1_addWhole s m args below meth c H locs 0 0 (zz_Qv A D cI q r below args s) (F0 m 2 ls []) := by
  obtain ⟨hx, hb, hml, hown, hts⟩ := id C.1
  intro n
  induction n with
  | zero => intro v1 v2 v3 st H locs ls r hf; cases hf
  | succ n ih =>
    intro v1 v2 v3 st H locs ls r hf hP hS hl
    rw [zX1_addWhole_2] at hf
    refine lv_iload_n hx hb dX1_addWhole_2 rfl (lv_at hl 3 rfl) ?_
    refine lv_bipush (v := 6) hx hb dX1_addWhole_3 (by decide) ?_
    refine lv_icmp_ge (tgt := 33) hx hb dX1_addWhole_5 (by decide) (fun h => ?_) (fun h => ?_)
    · rw [if_pos h] at hf
      refine lv_iconst (v := 0) hx hb dX1_addWhole_33 (by decide) ?_
      refine lv_istore_n (lv' := [(3, .int 0), (0, .ref (q 1)), (1, .int v1), (2, .int v2)]) hx hb dX1_addWhole_34 rfl hl (by decide) rfl (fun ls hl => ?_)
      exact zt_X1_addWhole_35 C hr zz_N _ _ _ _ _ _ _ _ hf hP hS (lv_sub hl [1, 2, 3, 0] rfl)
    · rw [if_neg h] at hf
      refine lv_aload_n hx hb dX1_addWhole_8 rfl (lv_at hl 0 rfl) ?_
      refine lv_iconst (v := 2) hx hb dX1_addWhole_9 (by decide) ?_
      refine lv_iconst (v := 3) hx hb dX1_addWhole_10 (by decide) ?_
      refine lv_iconst (v := 4) hx hb dX1_addWhole_11 (by decide) ?_
      refine lv_iload_n hx hb dX1_addWhole_12 rfl (lv_at hl 3 rfl) ?_
      refine lv_iconst (v := 2) hx hb dX1_addWhole_13 (by decide) ?_
      refine lv_irem hx hb dX1_addWhole_14 (by decide) ?_
      refine lv_if_ne (tgt := 22) hx hb dX1_addWhole_15 (by decide) (fun h => ?_) (fun h => ?_)
      · rw [if_neg h] at hf
        refine lv_iconst (v := 0) hx hb dX1_addWhole_22 (by decide) ?_
        obtain ⟨x5, e6, hf⟩ := zz_bo hf
        refine zz_callVi C (As := [.int 2, .int 3, .int 4, .int 0]) (rest := []) (zc_X1_addStation _ _ _ false _ _ e6) (cwV 4 hts gX1_addWhole_X1_addStation rfl rfl rfl zd_X1_addStation ⟨Nat.le_of_ble_eq_true rfl, Nat.le_of_ble_eq_true rfl⟩) hP hS 1 rfl rfl rfl hl rfl (Nat.le_of_ble_eq_true rfl) dX1_addWhole_23 ⟨Nat.zero_le _, Nat.zero_le _⟩ (fun H locs hP hS => ?_)
        refine lv_pop hx hb dX1_addWhole_26 rfl ?_
        refine lv_iinc (v := (v3 + 1)) (lv' := [(3, .int (v3 + 1)), (0, .ref (q 1)), (1, .int v1), (2, .int v2)]) hx hb dX1_addWhole_27 hl (k := 3) rfl (congrArg (fun z => v3 + z) (by decide)) (by decide) rfl (fun ls hl => ?_)
        refine lv_goto (tgt := 2) hx hb dX1_addWhole_30 (by decide) ?_
        exact ih _ _ _ _ _ _ _ _ hf hP hS (lv_sub hl [1, 2, 3, 0] rfl)
      · rw [if_pos h] at hf
        refine lv_iconst (v := 1) hx hb dX1_addWhole_18 (by decide) ?_
        refine lv_goto (tgt := 23) hx hb dX1_addWhole_19 (by decide) ?_
        obtain ⟨x7, e8, hf⟩ := zz_bo hf
        refine zz_callVi C (As := [.int 2, .int 3, .int 4, .int 1]) (rest := []) (zc_X1_addStation _ _ _ true _ _ e8) (cwV 4 hts gX1_addWhole_X1_addStation rfl rfl rfl zd_X1_addStation ⟨Nat.le_of_ble_eq_true rfl, Nat.le_of_ble_eq_true rfl⟩) hP hS 1 rfl rfl rfl hl rfl (Nat.le_of_ble_eq_true rfl) dX1_addWhole_23 ⟨Nat.zero_le _, Nat.zero_le _⟩ (fun H locs hP hS => ?_)
        refine lv_pop hx hb dX1_addWhole_26 rfl ?_
        refine lv_iinc (v := (v3 + 1)) (lv' := [(3, .int (v3 + 1)), (0, .ref (q 1)), (1, .int v1), (2, .int v2)]) hx hb dX1_addWhole_27 hl (k := 3) rfl (congrArg (fun z => v3 + z) (by decide)) (by decide) rfl (fun ls hl => ?_)
        refine lv_goto (tgt := 2) hx hb dX1_addWhole_30 (by decide) ?_
        exact ih _ _ _ _ _ _ _ _ hf hP hS (lv_sub hl [1, 2, 3, 0] rfl)
def zX1_addWhole (v1 : Int32) (v2 : Int32) (st : zz_T) : Option zz_T :=
  zX1_addWhole_2 zz_N v1 v2 0 st
set_option maxHeartbeats 4000000 in
set_option maxRecDepth 100000 in
theorem zc_X1_addWhole {l : Launch} {A : Nat → Prop} {D : va_G} {cI : ClassId} {q : Nat → Nat} (v1 : Int32) (v2 : Int32) (st : zz_T) (r : zz_T) (hf : zX1_addWhole v1 v2 st = some r) : zz_Mv l A D cI q yX1_addWhole wsX1_addWhole zr_X1_addWhole [.ref (q 1), .int v1, .int v2] st r := by
  refine zz_of (cc := cX1_addWhole) (nL := 4) (ret := none) (by decide) rfl (Nat.le_of_ble_eq_true rfl) ?_
  intro p e s m args below meth c ls C hr hP hS hl
  obtain ⟨hx, hb, hml, hown, hts⟩ := id C.1
  have hl : lv_has ls 4 [(0, .ref (q 1)), (1, .int v1), (2, .int v2)] := hl
  rw [zX1_addWhole] at hf
  skip
  refine lv_iconst (v := 0) hx hb dX1_addWhole_0 (by decide) ?_
  refine lv_istore_n (lv' := [(3, .int 0), (0, .ref (q 1)), (1, .int v1), (2, .int v2)]) hx hb dX1_addWhole_1 rfl hl (by decide) rfl (fun ls hl => ?_)
  exact zt_X1_addWhole_2 C hr zz_N _ _ _ _ _ _ _ _ hf hP hS (lv_sub hl [1, 2, 3, 0] rfl)
/-! X1_clearFoul PW -/
theorem zd_X1_clearFoul : yX1_clearFoul.cls = RX1 ∧ yX1_clearFoul.cls ≠ "java/lang/invoke/MethodHandle" ∧ yX1_clearFoul.cls ≠ "java/lang/invoke/VarHandle" ∧ (parseMethodDescriptor yX1_clearFoul.desc).map (fun d => d.parameters.length) = some 0 := by decide +kernel
abbrev zr_X1_clearFoul : Room := { frames := 1, cells := 0, slots := 0, locals := 24 }
theorem zk_X1_clearFoul_29 : Cond.fieldLink yX1_clearFoul.cls 29 RX1 "stationCount" "I" ∈ wsX1_clearFoul := by decide +kernel
theorem zk_X1_clearFoul_16 : Cond.fieldLink yX1_clearFoul.cls 16 RX1 "stations" "LThirteenthDay$Table;" ∈ wsX1_clearFoul := by decide +kernel
theorem zi_X1_clearFoul_X1 : ∀ w ∈ u_ws RX1 TX1 6, w ∈ wsX1_clearFoul := by decide +kernel
def zX1_clearFoul_2 : Nat → Int32 → zz_T → Option zz_T
  | 0, _, _ => none
  | n + 1, v1, st =>
    if (st.2 2) ≤ v1 then
      some st
    else
      if (zz_g 0 v1 4 st) ≤ 0 then
        zX1_clearFoul_2 n (v1 + 1) st
      else
        zz_v (zz_add 0 v1 4 (-1) st) fun st1 =>
        zX1_clearFoul_2 n (v1 + 1) st1
set_option maxHeartbeats 4000000 in
set_option maxRecDepth 100000 in
theorem zt_X1_clearFoul_2 {l : Launch} {A : Nat → Prop} {D : va_G} {cI : ClassId} {q : Nat → Nat} {p : Program} {e : Env} {s : State} {m : MethodId} {args : Array Value} {below : List Frame} {meth : Method} {c : Code} (C : zz_C A D cI q p s m args meth c cX1_clearFoul 2 wsX1_clearFoul yX1_clearFoul.cls) (hr : meth.sig.returnType = none) : ∀ (n : Nat) (v1 : Int32) (st : zz_T) (H : Heap) (locs : List Loc) (ls : Array Slot) (r : zz_T), zX1_clearFoul_2 n v1 st = some r → va_P D vwCl (zz_c q cI st) H → va_S A s.heap H locs → lv_has ls 2 [(0, .ref (q 1)), (1, .int v1)] → W p l e zr_X1_clearFoul s m args below meth c H locs 0 0 (zz_Qv A D cI q r below args s) (F0 m 2 ls []) := by
  obtain ⟨hx, hb, hml, hown, hts⟩ := id C.1
  intro n
  induction n with
  | zero => intro v1 st H locs ls r hf; cases hf
  | succ n ih =>
    intro v1 st H locs ls r hf hP hS hl
    rw [zX1_clearFoul_2] at hf
    refine lv_iload_n hx hb dX1_clearFoul_2 rfl (lv_at hl 1 rfl) ?_
    refine lv_aload_n hx hb dX1_clearFoul_3 rfl (lv_at hl 0 rfl) ?_
    refine zz_getf C zi_X1_clearFoul_X1 hP 1 rfl rfl 4 (nm := "stationCount") (ds := "I") (fin := false) rfl (by decide) zk_X1_clearFoul_29 rfl dX1_clearFoul_4 ?_
    refine lv_icmp_ge (tgt := 38) hx hb dX1_clearFoul_7 (by decide) (fun h => ?_) (fun h => ?_)
    · rw [if_pos h] at hf
      rw [← (Option.some.inj hf)]
      exact zz_retv C hr hP hS dX1_clearFoul_38
    · rw [if_neg h] at hf
      refine lv_aload_n hx hb dX1_clearFoul_10 rfl (lv_at hl 0 rfl) ?_
      refine zz_getf C zi_X1_clearFoul_X1 hP 1 rfl rfl 0 (nm := "stations") (ds := "LThirteenthDay$Table;") (fin := true) rfl (by decide) zk_X1_clearFoul_16 rfl dX1_clearFoul_11 ?_
      refine lv_iload_n hx hb dX1_clearFoul_14 rfl (lv_at hl 1 rfl) ?_
      refine lv_iconst (v := 4) hx hb dX1_clearFoul_15 (by decide) ?_
      refine zz_callVi C (As := [.int v1, .int 4]) (rest := []) (zc_X5_get 0 (by decide) _ _ _) (cwV 2 hts gX1_clearFoul_X5_get rfl rfl rfl zd_X5_get ⟨Nat.le_of_ble_eq_true rfl, Nat.le_of_ble_eq_true rfl⟩) hP hS (9 + 0) (zz_c_tab (by decide)) rfl rfl hl rfl (Nat.le_of_ble_eq_true rfl) dX1_clearFoul_16 ⟨Nat.zero_le _, Nat.zero_le _⟩ (fun H locs hP hS => ?_)
      refine lv_if_le (tgt := 32) hx hb dX1_clearFoul_19 (by decide) (fun h => ?_) (fun h => ?_)
      · rw [if_pos h] at hf
        refine lv_iinc (v := (v1 + 1)) (lv' := [(1, .int (v1 + 1)), (0, .ref (q 1))]) hx hb dX1_clearFoul_32 hl (k := 1) rfl (congrArg (fun z => v1 + z) (by decide)) (by decide) rfl (fun ls hl => ?_)
        refine lv_goto (tgt := 2) hx hb dX1_clearFoul_35 (by decide) ?_
        exact ih _ _ _ _ _ _ hf hP hS (lv_sub hl [1, 0] rfl)
      · rw [if_neg h] at hf
        refine lv_aload_n hx hb dX1_clearFoul_22 rfl (lv_at hl 0 rfl) ?_
        refine zz_getf C zi_X1_clearFoul_X1 hP 1 rfl rfl 0 (nm := "stations") (ds := "LThirteenthDay$Table;") (fin := true) rfl (by decide) zk_X1_clearFoul_16 rfl dX1_clearFoul_23 ?_
        refine lv_iload_n hx hb dX1_clearFoul_26 rfl (lv_at hl 1 rfl) ?_
        refine lv_iconst (v := 4) hx hb dX1_clearFoul_27 (by decide) ?_
        refine lv_iconst (v := (-1)) hx hb dX1_clearFoul_28 (by decide) ?_
        obtain ⟨st1, e2, hf⟩ := zz_vo hf
        refine zz_callVv C (As := [.int v1, .int 4, .int (-1)]) (rest := []) (zz_Mv_e e2 (zc_X5_add 0 (by decide) _ _ _ _)) (cwV 3 hts gX1_clearFoul_X5_add rfl rfl rfl zd_X5_add ⟨Nat.le_of_ble_eq_true rfl, Nat.le_of_ble_eq_true rfl⟩) hP hS (9 + 0) (zz_c_tab (by decide)) rfl rfl hl rfl (Nat.le_of_ble_eq_true rfl) dX1_clearFoul_29 ⟨Nat.zero_le _, Nat.zero_le _⟩ (fun H locs hP hS => ?_)
        refine lv_iinc (v := (v1 + 1)) (lv' := [(1, .int (v1 + 1)), (0, .ref (q 1))]) hx hb dX1_clearFoul_32 hl (k := 1) rfl (congrArg (fun z => v1 + z) (by decide)) (by decide) rfl (fun ls hl => ?_)
        refine lv_goto (tgt := 2) hx hb dX1_clearFoul_35 (by decide) ?_
        exact ih _ _ _ _ _ _ hf hP hS (lv_sub hl [1, 0] rfl)
def zX1_clearFoul (st : zz_T) : Option zz_T :=
  zX1_clearFoul_2 zz_N 0 st
set_option maxHeartbeats 4000000 in
set_option maxRecDepth 100000 in
theorem zc_X1_clearFoul {l : Launch} {A : Nat → Prop} {D : va_G} {cI : ClassId} {q : Nat → Nat} (st : zz_T) (r : zz_T) (hf : zX1_clearFoul st = some r) : zz_Mv l A D cI q yX1_clearFoul wsX1_clearFoul zr_X1_clearFoul [.ref (q 1)] st r := by
  refine zz_of (cc := cX1_clearFoul) (nL := 2) (ret := none) (by decide) rfl (Nat.le_of_ble_eq_true rfl) ?_
  intro p e s m args below meth c ls C hr hP hS hl
  obtain ⟨hx, hb, hml, hown, hts⟩ := id C.1
  have hl : lv_has ls 2 [(0, .ref (q 1))] := hl
  rw [zX1_clearFoul] at hf
  skip
  refine lv_iconst (v := 0) hx hb dX1_clearFoul_0 (by decide) ?_
  refine lv_istore_n (lv' := [(1, .int 0), (0, .ref (q 1))]) hx hb dX1_clearFoul_1 rfl hl (by decide) rfl (fun ls hl => ?_)
  exact zt_X1_clearFoul_2 C hr zz_N _ _ _ _ _ _ hf hP hS (lv_sub hl [1, 0] rfl)
/-! X1_setStation TW -/
theorem zd_X1_setStation : yX1_setStation.cls = RX1 ∧ yX1_setStation.cls ≠ "java/lang/invoke/MethodHandle" ∧ yX1_setStation.cls ≠ "java/lang/invoke/VarHandle" ∧ (parseMethodDescriptor yX1_setStation.desc).map (fun d => d.parameters.length) = some 3 := by decide +kernel
abbrev zr_X1_setStation : Room := { frames := 1, cells := 0, slots := 0, locals := 24 }
theorem zk_X1_setStation_16 : Cond.fieldLink yX1_setStation.cls 16 RX1 "stations" "LThirteenthDay$Table;" ∈ wsX1_setStation := by decide +kernel
theorem zi_X1_setStation_X1 : ∀ w ∈ u_ws RX1 TX1 6, w ∈ wsX1_setStation := by decide +kernel
def zX1_setStation (v1 : Int32) (v2 : Int32) (v3 : Int32) (st : zz_T) : zz_T :=
  zz_v (zz_set 0 v1 v2 v3 st) fun st1 =>
  st1
set_option maxHeartbeats 4000000 in
set_option maxRecDepth 100000 in
theorem zc_X1_setStation {l : Launch} {A : Nat → Prop} {D : va_G} {cI : ClassId} {q : Nat → Nat} (v1 : Int32) (v2 : Int32) (v3 : Int32) (st : zz_T) : zz_Mv l A D cI q yX1_setStation wsX1_setStation zr_X1_setStation [.ref (q 1), .int v1, .int v2, .int v3] st (zX1_setStation v1 v2 v3 st) := by
  refine zz_of (cc := cX1_setStation) (nL := 4) (ret := none) (by decide) rfl (Nat.le_of_ble_eq_true rfl) ?_
  intro p e s m args below meth c ls C hr hP hS hl
  obtain ⟨hx, hb, hml, hown, hts⟩ := id C.1
  have hl : lv_has ls 4 [(0, .ref (q 1)), (1, .int v1), (2, .int v2), (3, .int v3)] := hl
  obtain ⟨r, hf⟩ : ∃ r, zX1_setStation v1 v2 v3 st = r := ⟨_, rfl⟩
  rw [hf]
  rw [zX1_setStation] at hf
  skip
  refine lv_aload_n hx hb dX1_setStation_0 rfl (lv_at hl 0 rfl) ?_
  refine zz_getf C zi_X1_setStation_X1 hP 1 rfl rfl 0 (nm := "stations") (ds := "LThirteenthDay$Table;") (fin := true) rfl (by decide) zk_X1_setStation_16 rfl dX1_setStation_1 ?_
  refine lv_iload_n hx hb dX1_setStation_4 rfl (lv_at hl 1 rfl) ?_
  refine lv_iload_n hx hb dX1_setStation_5 rfl (lv_at hl 2 rfl) ?_
  refine lv_iload_n hx hb dX1_setStation_6 rfl (lv_at hl 3 rfl) ?_
  obtain ⟨st1, e2, hf⟩ := zz_vo hf
  refine zz_callVv C (As := [.int v1, .int v2, .int v3]) (rest := []) (zz_Mv_e e2 (zc_X5_set 0 (by decide) _ _ _ _)) (cwV 3 hts gX1_setStation_X5_set rfl rfl rfl zd_X5_set ⟨Nat.le_of_ble_eq_true rfl, Nat.le_of_ble_eq_true rfl⟩) hP hS (9 + 0) (zz_c_tab (by decide)) rfl rfl hl rfl (Nat.le_of_ble_eq_true rfl) dX1_setStation_7 ⟨Nat.zero_le _, Nat.zero_le _⟩ (fun H locs hP hS => ?_)
  rw [← hf]
  exact zz_retv C hr hP hS dX1_setStation_10
/-! X1_turnBridge PW -/
theorem zd_X1_turnBridge : yX1_turnBridge.cls = RX1 ∧ yX1_turnBridge.cls ≠ "java/lang/invoke/MethodHandle" ∧ yX1_turnBridge.cls ≠ "java/lang/invoke/VarHandle" ∧ (parseMethodDescriptor yX1_turnBridge.desc).map (fun d => d.parameters.length) = some 1 := by decide +kernel
abbrev zr_X1_turnBridge : Room := { frames := 4, cells := 0, slots := 0, locals := 96 }
theorem zk_X1_turnBridge_20 : Cond.fieldLink yX1_turnBridge.cls 20 RX1 "lines" "LThirteenthDay$Table;" ∈ wsX1_turnBridge := by decide +kernel
theorem zi_X1_turnBridge_X1 : ∀ w ∈ u_ws RX1 TX1 6, w ∈ wsX1_turnBridge := by decide +kernel
def zX1_turnBridge_17 (v1 : Int32) (k0 : Bool) (st : zz_T) : Option (Bool × zz_T) :=
  if k0 = true then
    zz_v (zz_set 1 v1 4 1 st) fun st5 =>
    (zX1_findWays st5).bind fun st7 =>
    some (k0, st7)
  else
    zz_v (zz_set 1 v1 4 0 st) fun st1 =>
    (zX1_findWays st1).bind fun st3 =>
    some (k0, st3)
set_option maxHeartbeats 4000000 in
set_option maxRecDepth 100000 in
theorem zt_X1_turnBridge_17 {l : Launch} {A : Nat → Prop} {D : va_G} {cI : ClassId} {q : Nat → Nat} {p : Program} {e : Env} {s : State} {m : MethodId} {args : Array Value} {below : List Frame} {meth : Method} {c : Code} (C : zz_C A D cI q p s m args meth c cX1_turnBridge 3 wsX1_turnBridge yX1_turnBridge.cls) (hr : meth.sig.returnType = some .boolean) : ∀ (v1 : Int32) (k0 : Bool) (st : zz_T) (H : Heap) (locs : List Loc) (ls : Array Slot) (r : (Bool × zz_T)), zX1_turnBridge_17 v1 k0 st = some r → va_P D vwCl (zz_c q cI st) H → va_S A s.heap H locs → lv_has ls 3 [(0, .ref (q 1)), (1, .int v1)] → W p l e zr_X1_turnBridge s m args below meth c H locs 0 0 (zz_Qi A D cI q (zz_b r.1) r.2 below args s) (F0 m 17 ls [.int (zz_b k0)]) := by
  obtain ⟨hx, hb, hml, hown, hts⟩ := id C.1
  intro v1 k0 st H locs ls r hf hP hS hl
  rw [zX1_turnBridge_17] at hf
  refine lv_istore_n (lv' := [(2, .int (zz_b k0)), (0, .ref (q 1)), (1, .int v1)]) hx hb dX1_turnBridge_17 rfl hl (by decide) rfl (fun ls hl => ?_)
  refine lv_aload_n hx hb dX1_turnBridge_18 rfl (lv_at hl 1 rfl) ?_
  refine zz_getf C zi_X1_turnBridge_X1 hP 1 rfl rfl 1 (nm := "lines") (ds := "LThirteenthDay$Table;") (fin := true) rfl (by decide) zk_X1_turnBridge_20 rfl dX1_turnBridge_19 ?_
  refine lv_iload_n hx hb dX1_turnBridge_22 rfl (lv_at hl 2 rfl) ?_
  refine lv_iconst (v := 4) hx hb dX1_turnBridge_23 (by decide) ?_
  refine lv_iload_n hx hb dX1_turnBridge_24 rfl (lv_at hl 0 rfl) ?_
  refine lv_if_eq (tgt := 32) hx hb dX1_turnBridge_25 (by decide) (fun h => ?_) (fun h => ?_)
  · rw [zz_if0 (zz_b0 h)] at hf
    refine lv_iconst (v := 0) hx hb dX1_turnBridge_32 (by decide) ?_
    obtain ⟨st1, e2, hf⟩ := zz_vo hf
    refine zz_callVv C (As := [.int v1, .int 4, .int 0]) (rest := []) (zz_Mv_e e2 (zc_X5_set 1 (by decide) _ _ _ _)) (cwV 3 hts gX1_turnBridge_X5_set rfl rfl rfl zd_X5_set ⟨Nat.le_of_ble_eq_true rfl, Nat.le_of_ble_eq_true rfl⟩) hP hS (9 + 1) (zz_c_tab (by decide)) rfl rfl hl rfl (Nat.le_of_ble_eq_true rfl) dX1_turnBridge_33 ⟨Nat.zero_le _, Nat.zero_le _⟩ (fun H locs hP hS => ?_)
    refine lv_aload_n hx hb dX1_turnBridge_36 rfl (lv_at hl 1 rfl) ?_
    obtain ⟨st3, e4, hf⟩ := zz_bo hf
    refine zz_callVv C (As := []) (rest := []) (zc_X1_findWays _ _ e4) (cwV 0 hts gX1_turnBridge_X1_findWays rfl rfl rfl zd_X1_findWays ⟨Nat.le_of_ble_eq_true rfl, Nat.le_of_ble_eq_true rfl⟩) hP hS 1 rfl rfl rfl hl rfl (Nat.le_of_ble_eq_true rfl) dX1_turnBridge_37 ⟨Nat.zero_le _, Nat.zero_le _⟩ (fun H locs hP hS => ?_)
    refine lv_iload_n hx hb dX1_turnBridge_40 rfl (lv_at hl 0 rfl) ?_
    rw [← (Option.some.inj hf)]
    exact zz_retz (v := k0) C hr hP hS dX1_turnBridge_41
  · rw [zz_if1 (zz_b1 h)] at hf
    refine lv_iconst (v := 1) hx hb dX1_turnBridge_28 (by decide) ?_
    refine lv_goto (tgt := 33) hx hb dX1_turnBridge_29 (by decide) ?_
    obtain ⟨st5, e6, hf⟩ := zz_vo hf
    refine zz_callVv C (As := [.int v1, .int 4, .int 1]) (rest := []) (zz_Mv_e e6 (zc_X5_set 1 (by decide) _ _ _ _)) (cwV 3 hts gX1_turnBridge_X5_set rfl rfl rfl zd_X5_set ⟨Nat.le_of_ble_eq_true rfl, Nat.le_of_ble_eq_true rfl⟩) hP hS (9 + 1) (zz_c_tab (by decide)) rfl rfl hl rfl (Nat.le_of_ble_eq_true rfl) dX1_turnBridge_33 ⟨Nat.zero_le _, Nat.zero_le _⟩ (fun H locs hP hS => ?_)
    refine lv_aload_n hx hb dX1_turnBridge_36 rfl (lv_at hl 1 rfl) ?_
    obtain ⟨st7, e8, hf⟩ := zz_bo hf
    refine zz_callVv C (As := []) (rest := []) (zc_X1_findWays _ _ e8) (cwV 0 hts gX1_turnBridge_X1_findWays rfl rfl rfl zd_X1_findWays ⟨Nat.le_of_ble_eq_true rfl, Nat.le_of_ble_eq_true rfl⟩) hP hS 1 rfl rfl rfl hl rfl (Nat.le_of_ble_eq_true rfl) dX1_turnBridge_37 ⟨Nat.zero_le _, Nat.zero_le _⟩ (fun H locs hP hS => ?_)
    refine lv_iload_n hx hb dX1_turnBridge_40 rfl (lv_at hl 0 rfl) ?_
    rw [← (Option.some.inj hf)]
    exact zz_retz (v := k0) C hr hP hS dX1_turnBridge_41
def zX1_turnBridge (v1 : Int32) (st : zz_T) : Option (Bool × zz_T) :=
  if (zz_g 1 v1 4 st) = 0 then
    zX1_turnBridge_17 v1 true st
  else
    zX1_turnBridge_17 v1 false st
set_option maxHeartbeats 4000000 in
set_option maxRecDepth 100000 in
theorem zc_X1_turnBridge {l : Launch} {A : Nat → Prop} {D : va_G} {cI : ClassId} {q : Nat → Nat} (v1 : Int32) (st : zz_T) (r : (Bool × zz_T)) (hf : zX1_turnBridge v1 st = some r) : zz_Mi l A D cI q yX1_turnBridge wsX1_turnBridge zr_X1_turnBridge [.ref (q 1), .int v1] st (zz_b r.1) r.2 := by
  refine zz_of (cc := cX1_turnBridge) (nL := 3) (ret := some .boolean) (by decide) rfl (Nat.le_of_ble_eq_true rfl) ?_
  intro p e s m args below meth c ls C hr hP hS hl
  obtain ⟨hx, hb, hml, hown, hts⟩ := id C.1
  have hl : lv_has ls 3 [(0, .ref (q 1)), (1, .int v1)] := hl
  rw [zX1_turnBridge] at hf
  skip
  refine lv_aload_n hx hb dX1_turnBridge_0 rfl (lv_at hl 0 rfl) ?_
  refine zz_getf C zi_X1_turnBridge_X1 hP 1 rfl rfl 1 (nm := "lines") (ds := "LThirteenthDay$Table;") (fin := true) rfl (by decide) zk_X1_turnBridge_20 rfl dX1_turnBridge_1 ?_
  refine lv_iload_n hx hb dX1_turnBridge_4 rfl (lv_at hl 1 rfl) ?_
  refine lv_iconst (v := 4) hx hb dX1_turnBridge_5 (by decide) ?_
  refine zz_callVi C (As := [.int v1, .int 4]) (rest := []) (zc_X5_get 1 (by decide) _ _ _) (cwV 2 hts gX1_turnBridge_X5_get rfl rfl rfl zd_X5_get ⟨Nat.le_of_ble_eq_true rfl, Nat.le_of_ble_eq_true rfl⟩) hP hS (9 + 1) (zz_c_tab (by decide)) rfl rfl hl rfl (Nat.le_of_ble_eq_true rfl) dX1_turnBridge_6 ⟨Nat.zero_le _, Nat.zero_le _⟩ (fun H locs hP hS => ?_)
  refine lv_if_ne (tgt := 16) hx hb dX1_turnBridge_9 (by decide) (fun h => ?_) (fun h => ?_)
  · rw [if_neg h] at hf
    refine lv_iconst (v := 0) hx hb dX1_turnBridge_16 (by decide) ?_
    exact zt_X1_turnBridge_17 C hr _ _ _ _ _ _ _ hf hP hS (lv_sub hl [0, 1] rfl)
  · rw [if_pos h] at hf
    refine lv_iconst (v := 1) hx hb dX1_turnBridge_12 (by decide) ?_
    refine lv_goto (tgt := 17) hx hb dX1_turnBridge_13 (by decide) ?_
    exact zt_X1_turnBridge_17 C hr _ _ _ _ _ _ _ hf hP hS (lv_sub hl [0, 1] rfl)
/-! X2_hasFor PR -/
theorem zd_X2_hasFor : yX2_hasFor.cls = RX2 ∧ yX2_hasFor.cls ≠ "java/lang/invoke/MethodHandle" ∧ yX2_hasFor.cls ≠ "java/lang/invoke/VarHandle" ∧ (parseMethodDescriptor yX2_hasFor.desc).map (fun d => d.parameters.length) = some 1 := by decide +kernel
abbrev zr_X2_hasFor : Room := { frames := 2, cells := 0, slots := 0, locals := 45 }
theorem zk_X2_hasFor_20 : Cond.fieldLink yX2_hasFor.cls 20 RX2 "facts" "LThirteenthDay$Table;" ∈ wsX2_hasFor := by decide +kernel
theorem zi_X2_hasFor_X2 : ∀ w ∈ u_ws RX2 TX2 5, w ∈ wsX2_hasFor := by decide +kernel
def zX2_hasFor_2 (b : Nat) : Nat → Int32 → Int32 → zz_T → Option Bool
  | 0, _, _, _ => none
  | n + 1, v1, v2, st =>
    if 54 ≤ v2 then
      some false
    else
      if (zX2_isKept b v2 st) = true then
        if (zz_g (b + 0) v2 2 st) = v1 then
          some true
        else
          zX2_hasFor_2 b n v1 (v2 + 1) st
      else
        zX2_hasFor_2 b n v1 (v2 + 1) st
set_option maxHeartbeats 4000000 in
set_option maxRecDepth 100000 in
theorem zt_X2_hasFor_2 {l : Launch} {A : Nat → Prop} {D : va_G} {cI : ClassId} {q : Nat → Nat} {p : Program} {e : Env} {s : State} {m : MethodId} {args : Array Value} {below : List Frame} {meth : Method} {c : Code} (C : zz_C A D cI q p s m args meth c cX2_hasFor 3 wsX2_hasFor yX2_hasFor.cls) (hr : meth.sig.returnType = some .boolean) (o b : Nat) (hz : zz_P o b) : ∀ (n : Nat) (v1 : Int32) (v2 : Int32) (st : zz_T) (H : Heap) (locs : List Loc) (ls : Array Slot) (r : Bool), zX2_hasFor_2 b n v1 v2 st = some r → va_P D vwCl (zz_c q cI st) H → va_S A s.heap H locs → lv_has ls 3 [(0, .ref (q o)), (1, .int v1), (2, .int v2)] → W p l e zr_X2_hasFor s m args below meth c H locs 0 0 (zz_Qi A D cI q (zz_b r) st below args s) (F0 m 2 ls []) := by
  obtain ⟨hx, hb, hml, hown, hts⟩ := id C.1
  intro n
  induction n with
  | zero => intro v1 v2 st H locs ls r hf; cases hf
  | succ n ih =>
    intro v1 v2 st H locs ls r hf hP hS hl
    rw [zX2_hasFor_2] at hf
    refine lv_iload_n hx hb dX2_hasFor_2 rfl (lv_at hl 2 rfl) ?_
    refine lv_bipush (v := 54) hx hb dX2_hasFor_3 (by decide) ?_
    refine lv_icmp_ge (tgt := 37) hx hb dX2_hasFor_5 (by decide) (fun h => ?_) (fun h => ?_)
    · rw [if_pos h] at hf
      refine lv_iconst (v := 0) hx hb dX2_hasFor_37 (by decide) ?_
      rw [← (Option.some.inj hf)]
      exact zz_retz (v := false) C hr hP hS dX2_hasFor_38
    · rw [if_neg h] at hf
      refine lv_aload_n hx hb dX2_hasFor_8 rfl (lv_at hl 0 rfl) ?_
      refine lv_iload_n hx hb dX2_hasFor_9 rfl (lv_at hl 2 rfl) ?_
      refine zz_callVi C (As := [.int v2]) (rest := []) (zc_X2_isKept o b hz _ _) (cwV 1 hts gX2_hasFor_X2_isKept rfl rfl rfl zd_X2_isKept ⟨Nat.le_of_ble_eq_true rfl, Nat.le_of_ble_eq_true rfl⟩) hP hS o (zz_c_pa hz) rfl rfl hl rfl (Nat.le_of_ble_eq_true rfl) dX2_hasFor_10 ⟨Nat.zero_le _, Nat.zero_le _⟩ (fun H locs hP hS => ?_)
      refine lv_if_eq (tgt := 31) hx hb dX2_hasFor_13 (by decide) (fun h => ?_) (fun h => ?_)
      · rw [zz_if0 (zz_b0 h)] at hf
        refine lv_iinc (v := (v2 + 1)) (lv' := [(2, .int (v2 + 1)), (0, .ref (q o)), (1, .int v1)]) hx hb dX2_hasFor_31 hl (k := 2) rfl (congrArg (fun z => v2 + z) (by decide)) (by decide) rfl (fun ls hl => ?_)
        refine lv_goto (tgt := 2) hx hb dX2_hasFor_34 (by decide) ?_
        exact ih _ _ _ _ _ _ _ hf hP hS (lv_sub hl [1, 2, 0] rfl)
      · rw [zz_if1 (zz_b1 h)] at hf
        refine lv_aload_n hx hb dX2_hasFor_16 rfl (lv_at hl 0 rfl) ?_
        refine zz_getf C zi_X2_hasFor_X2 hP o (zz_c_pa hz) rfl 0 (nm := "facts") (ds := "LThirteenthDay$Table;") (fin := true) rfl (by decide) zk_X2_hasFor_20 rfl dX2_hasFor_17 ?_
        refine lv_iload_n hx hb dX2_hasFor_20 rfl (lv_at hl 2 rfl) ?_
        refine lv_iconst (v := 2) hx hb dX2_hasFor_21 (by decide) ?_
        refine zz_callVi C (As := [.int v2, .int 2]) (rest := []) (zc_X5_get (b + 0) (zz_Plt hz (by decide)) _ _ _) (cwV 2 hts gX2_hasFor_X5_get rfl rfl rfl zd_X5_get ⟨Nat.le_of_ble_eq_true rfl, Nat.le_of_ble_eq_true rfl⟩) hP hS (9 + (b + 0)) (zz_c_tab (zz_Plt hz (by decide))) rfl rfl hl rfl (Nat.le_of_ble_eq_true rfl) dX2_hasFor_22 ⟨Nat.zero_le _, Nat.zero_le _⟩ (fun H locs hP hS => ?_)
        refine lv_iload_n hx hb dX2_hasFor_25 rfl (lv_at hl 1 rfl) ?_
        refine lv_icmp_ne (tgt := 31) hx hb dX2_hasFor_26 (by decide) (fun h => ?_) (fun h => ?_)
        · rw [if_neg h] at hf
          refine lv_iinc (v := (v2 + 1)) (lv' := [(2, .int (v2 + 1)), (0, .ref (q o)), (1, .int v1)]) hx hb dX2_hasFor_31 hl (k := 2) rfl (congrArg (fun z => v2 + z) (by decide)) (by decide) rfl (fun ls hl => ?_)
          refine lv_goto (tgt := 2) hx hb dX2_hasFor_34 (by decide) ?_
          exact ih _ _ _ _ _ _ _ hf hP hS (lv_sub hl [1, 2, 0] rfl)
        · rw [if_pos h] at hf
          refine lv_iconst (v := 1) hx hb dX2_hasFor_29 (by decide) ?_
          rw [← (Option.some.inj hf)]
          exact zz_retz (v := true) C hr hP hS dX2_hasFor_30
def zX2_hasFor (b : Nat) (v1 : Int32) (st : zz_T) : Option Bool :=
  zX2_hasFor_2 b zz_N v1 0 st
set_option maxHeartbeats 4000000 in
set_option maxRecDepth 100000 in
theorem zc_X2_hasFor {l : Launch} {A : Nat → Prop} {D : va_G} {cI : ClassId} {q : Nat → Nat} (o b : Nat) (hz : zz_P o b) (v1 : Int32) (st : zz_T) (r : Bool) (hf : zX2_hasFor b v1 st = some r) : zz_Mi l A D cI q yX2_hasFor wsX2_hasFor zr_X2_hasFor [.ref (q o), .int v1] st (zz_b r) st := by
  refine zz_of (cc := cX2_hasFor) (nL := 3) (ret := some .boolean) (by decide) rfl (Nat.le_of_ble_eq_true rfl) ?_
  intro p e s m args below meth c ls C hr hP hS hl
  obtain ⟨hx, hb, hml, hown, hts⟩ := id C.1
  have hl : lv_has ls 3 [(0, .ref (q o)), (1, .int v1)] := hl
  rw [zX2_hasFor] at hf
  skip
  refine lv_iconst (v := 0) hx hb dX2_hasFor_0 (by decide) ?_
  refine lv_istore_n (lv' := [(2, .int 0), (0, .ref (q o)), (1, .int v1)]) hx hb dX2_hasFor_1 rfl hl (by decide) rfl (fun ls hl => ?_)
  exact zt_X2_hasFor_2 C hr o b hz zz_N _ _ _ _ _ _ _ hf hP hS (lv_sub hl [1, 2, 0] rfl)
/-! X2_slotOfSupply TR -/
theorem zd_X2_slotOfSupply : yX2_slotOfSupply.cls = RX2 ∧ yX2_slotOfSupply.cls ≠ "java/lang/invoke/MethodHandle" ∧ yX2_slotOfSupply.cls ≠ "java/lang/invoke/VarHandle" ∧ (parseMethodDescriptor yX2_slotOfSupply.desc).map (fun d => d.parameters.length) = some 1 := by decide +kernel
abbrev zr_X2_slotOfSupply : Room := { frames := 0, cells := 0, slots := 0, locals := 0 }
def zX2_slotOfSupply (v0 : Int32) (st : zz_T) : Int32 :=
  (48 + v0)
set_option maxHeartbeats 4000000 in
set_option maxRecDepth 100000 in
theorem zc_X2_slotOfSupply {l : Launch} {A : Nat → Prop} {D : va_G} {cI : ClassId} {q : Nat → Nat} (v0 : Int32) (st : zz_T) : zz_Mi l A D cI q yX2_slotOfSupply wsX2_slotOfSupply zr_X2_slotOfSupply [.int v0] st (zX2_slotOfSupply v0 st) st := by
  refine zz_of (cc := cX2_slotOfSupply) (nL := 1) (ret := some .int) (by decide) rfl (Nat.le_of_ble_eq_true rfl) ?_
  intro p e s m args below meth c ls C hr hP hS hl
  obtain ⟨hx, hb, hml, hown, hts⟩ := id C.1
  have hl : lv_has ls 1 [(0, .int v0)] := hl
  obtain ⟨r, hf⟩ : ∃ r, zX2_slotOfSupply v0 st = r := ⟨_, rfl⟩
  rw [hf]
  rw [zX2_slotOfSupply] at hf
  skip
  refine lv_bipush (v := 48) hx hb dX2_slotOfSupply_0 (by decide) ?_
  refine lv_iload_n hx hb dX2_slotOfSupply_2 rfl (lv_at hl 0 rfl) ?_
  refine lv_iadd hx hb dX2_slotOfSupply_3 ?_
  rw [← hf]
  exact zz_reti C hr hP hS dX2_slotOfSupply_4
/-! X2_supplyOf TR -/
theorem zd_X2_supplyOf : yX2_supplyOf.cls = RX2 ∧ yX2_supplyOf.cls ≠ "java/lang/invoke/MethodHandle" ∧ yX2_supplyOf.cls ≠ "java/lang/invoke/VarHandle" ∧ (parseMethodDescriptor yX2_supplyOf.desc).map (fun d => d.parameters.length) = some 1 := by decide +kernel
abbrev zr_X2_supplyOf : Room := { frames := 0, cells := 0, slots := 0, locals := 0 }
def zX2_supplyOf (v0 : Int32) (st : zz_T) : Int32 :=
  (v0 - 48)
set_option maxHeartbeats 4000000 in
set_option maxRecDepth 100000 in
theorem zc_X2_supplyOf {l : Launch} {A : Nat → Prop} {D : va_G} {cI : ClassId} {q : Nat → Nat} (v0 : Int32) (st : zz_T) : zz_Mi l A D cI q yX2_supplyOf wsX2_supplyOf zr_X2_supplyOf [.int v0] st (zX2_supplyOf v0 st) st := by
  refine zz_of (cc := cX2_supplyOf) (nL := 1) (ret := some .int) (by decide) rfl (Nat.le_of_ble_eq_true rfl) ?_
  intro p e s m args below meth c ls C hr hP hS hl
  obtain ⟨hx, hb, hml, hown, hts⟩ := id C.1
  have hl : lv_has ls 1 [(0, .int v0)] := hl
  obtain ⟨r, hf⟩ : ∃ r, zX2_supplyOf v0 st = r := ⟨_, rfl⟩
  rw [hf]
  rw [zX2_supplyOf] at hf
  skip
  refine lv_iload_n hx hb dX2_supplyOf_0 rfl (lv_at hl 0 rfl) ?_
  refine lv_bipush (v := 48) hx hb dX2_supplyOf_1 (by decide) ?_
  refine lv_isub hx hb dX2_supplyOf_3 ?_
  rw [← hf]
  exact zz_reti C hr hP hS dX2_supplyOf_4
/-! X3_add TW -/
theorem zd_X3_add : yX3_add.cls = RX3 ∧ yX3_add.cls ≠ "java/lang/invoke/MethodHandle" ∧ yX3_add.cls ≠ "java/lang/invoke/VarHandle" ∧ (parseMethodDescriptor yX3_add.desc).map (fun d => d.parameters.length) = some 3 := by decide +kernel
abbrev zr_X3_add : Room := { frames := 1, cells := 0, slots := 0, locals := 24 }
theorem zk_X3_add_14 : Cond.fieldLink yX3_add.cls 14 RX3 "sectors" "LThirteenthDay$Table;" ∈ wsX3_add := by decide +kernel
theorem zi_X3_add_X3 : ∀ w ∈ u_ws RX3 TX3 1, w ∈ wsX3_add := by decide +kernel
def zX3_add (v1 : Int32) (v2 : Int32) (v3 : Int32) (st : zz_T) : zz_T :=
  zz_v (zz_add 19 v1 v2 v3 st) fun st1 =>
  st1
set_option maxHeartbeats 4000000 in
set_option maxRecDepth 100000 in
theorem zc_X3_add {l : Launch} {A : Nat → Prop} {D : va_G} {cI : ClassId} {q : Nat → Nat} (v1 : Int32) (v2 : Int32) (v3 : Int32) (st : zz_T) : zz_Mv l A D cI q yX3_add wsX3_add zr_X3_add [.ref (q 7), .int v1, .int v2, .int v3] st (zX3_add v1 v2 v3 st) := by
  refine zz_of (cc := cX3_add) (nL := 4) (ret := none) (by decide) rfl (Nat.le_of_ble_eq_true rfl) ?_
  intro p e s m args below meth c ls C hr hP hS hl
  obtain ⟨hx, hb, hml, hown, hts⟩ := id C.1
  have hl : lv_has ls 4 [(0, .ref (q 7)), (1, .int v1), (2, .int v2), (3, .int v3)] := hl
  obtain ⟨r, hf⟩ : ∃ r, zX3_add v1 v2 v3 st = r := ⟨_, rfl⟩
  rw [hf]
  rw [zX3_add] at hf
  skip
  refine lv_aload_n hx hb dX3_add_0 rfl (lv_at hl 0 rfl) ?_
  refine zz_getf C zi_X3_add_X3 hP 7 rfl rfl 0 (nm := "sectors") (ds := "LThirteenthDay$Table;") (fin := true) rfl (by decide) zk_X3_add_14 rfl dX3_add_1 ?_
  refine lv_iload_n hx hb dX3_add_4 rfl (lv_at hl 1 rfl) ?_
  refine lv_iload_n hx hb dX3_add_5 rfl (lv_at hl 2 rfl) ?_
  refine lv_iload_n hx hb dX3_add_6 rfl (lv_at hl 3 rfl) ?_
  obtain ⟨st1, e2, hf⟩ := zz_vo hf
  refine zz_callVv C (As := [.int v1, .int v2, .int v3]) (rest := []) (zz_Mv_e e2 (zc_X5_add 19 (by decide) _ _ _ _)) (cwV 3 hts gX3_add_X5_add rfl rfl rfl zd_X5_add ⟨Nat.le_of_ble_eq_true rfl, Nat.le_of_ble_eq_true rfl⟩) hP hS (9 + 19) (zz_c_tab (by decide)) rfl rfl hl rfl (Nat.le_of_ble_eq_true rfl) dX3_add_7 ⟨Nat.zero_le _, Nat.zero_le _⟩ (fun H locs hP hS => ?_)
  rw [← hf]
  exact zz_retv C hr hP hS dX3_add_10
/-! X3_store TW -/
theorem zd_X3_store : yX3_store.cls = RX3 ∧ yX3_store.cls ≠ "java/lang/invoke/MethodHandle" ∧ yX3_store.cls ≠ "java/lang/invoke/VarHandle" ∧ (parseMethodDescriptor yX3_store.desc).map (fun d => d.parameters.length) = some 2 := by decide +kernel
abbrev zr_X3_store : Room := { frames := 1, cells := 0, slots := 0, locals := 24 }
theorem zq_X3_store_min : Cond.methodLink yX3_store.cls 31 Lib.Math.min.name ∈ wsX3_store ∧ Cond.static Lib.Math.min.name ∈ wsX3_store ∧ Cond.initialized "java/lang/Math" ∈ wsX3_store ∧ Cond.code Lib.Math.min.name Lib.Math.min.code 2 (some .int) ∈ wsX3_store := by decide +kernel
theorem zk_X3_store_14 : Cond.fieldLink yX3_store.cls 14 RX3 "sectors" "LThirteenthDay$Table;" ∈ wsX3_store := by decide +kernel
theorem zi_X3_store_X3 : ∀ w ∈ u_ws RX3 TX3 1, w ∈ wsX3_store := by decide +kernel
def zX3_store (v1 : Int32) (v2 : Int32) (st : zz_T) : zz_T :=
  zz_v (zz_set 19 v1 7 (zz_min 999 ((zz_g 19 v1 7 st) + v2)) st) fun st1 =>
  st1
set_option maxHeartbeats 4000000 in
set_option maxRecDepth 100000 in
theorem zc_X3_store {l : Launch} {A : Nat → Prop} {D : va_G} {cI : ClassId} {q : Nat → Nat} (v1 : Int32) (v2 : Int32) (st : zz_T) : zz_Mv l A D cI q yX3_store wsX3_store zr_X3_store [.ref (q 7), .int v1, .int v2] st (zX3_store v1 v2 st) := by
  refine zz_of (cc := cX3_store) (nL := 3) (ret := none) (by decide) rfl (Nat.le_of_ble_eq_true rfl) ?_
  intro p e s m args below meth c ls C hr hP hS hl
  obtain ⟨hx, hb, hml, hown, hts⟩ := id C.1
  have hl : lv_has ls 3 [(0, .ref (q 7)), (1, .int v1), (2, .int v2)] := hl
  obtain ⟨r, hf⟩ : ∃ r, zX3_store v1 v2 st = r := ⟨_, rfl⟩
  rw [hf]
  rw [zX3_store] at hf
  skip
  refine lv_aload_n hx hb dX3_store_0 rfl (lv_at hl 0 rfl) ?_
  refine zz_getf C zi_X3_store_X3 hP 7 rfl rfl 0 (nm := "sectors") (ds := "LThirteenthDay$Table;") (fin := true) rfl (by decide) zk_X3_store_14 rfl dX3_store_1 ?_
  refine lv_iload_n hx hb dX3_store_4 rfl (lv_at hl 1 rfl) ?_
  refine lv_bipush (v := 7) hx hb dX3_store_5 (by decide) ?_
  refine lv_sipush (v := 999) hx hb dX3_store_7 (by decide) ?_
  refine lv_aload_n hx hb dX3_store_10 rfl (lv_at hl 0 rfl) ?_
  refine zz_getf C zi_X3_store_X3 hP 7 rfl rfl 0 (nm := "sectors") (ds := "LThirteenthDay$Table;") (fin := true) rfl (by decide) zk_X3_store_14 rfl dX3_store_11 ?_
  refine lv_iload_n hx hb dX3_store_14 rfl (lv_at hl 1 rfl) ?_
  refine lv_bipush (v := 7) hx hb dX3_store_15 (by decide) ?_
  refine zz_callVi C (As := [.int v1, .int 7]) (rest := [.int 999, .int 7, .int v1, .ref (q (9 + 19))]) (zc_X5_get 19 (by decide) _ _ _) (cwV 2 hts gX3_store_X5_get rfl rfl rfl zd_X5_get ⟨Nat.le_of_ble_eq_true rfl, Nat.le_of_ble_eq_true rfl⟩) hP hS (9 + 19) (zz_c_tab (by decide)) rfl rfl hl rfl (Nat.le_of_ble_eq_true rfl) dX3_store_17 ⟨Nat.zero_le _, Nat.zero_le _⟩ (fun H locs hP hS => ?_)
  refine lv_iload_n hx hb dX3_store_20 rfl (lv_at hl 2 rfl) ?_
  refine lv_iadd hx hb dX3_store_21 ?_
  refine zz_mmin C zq_X3_store_min hl (by decide) (Nat.le_of_ble_eq_true rfl) ⟨Nat.zero_le _, Nat.zero_le _⟩ dX3_store_22 ?_
  obtain ⟨st1, e2, hf⟩ := zz_vo hf
  refine zz_callVv C (As := [.int v1, .int 7, .int (zz_min 999 ((zz_g 19 v1 7 st) + v2))]) (rest := []) (zz_Mv_e e2 (zc_X5_set 19 (by decide) _ _ _ _)) (cwV 3 hts gX3_store_X5_set rfl rfl rfl zd_X5_set ⟨Nat.le_of_ble_eq_true rfl, Nat.le_of_ble_eq_true rfl⟩) hP hS (9 + 19) (zz_c_tab (by decide)) rfl rfl hl rfl (Nat.le_of_ble_eq_true rfl) dX3_store_25 ⟨Nat.zero_le _, Nat.zero_le _⟩ (fun H locs hP hS => ?_)
  rw [← hf]
  exact zz_retv C hr hP hS dX3_store_28
/-! X3_feed TW -/
theorem zd_X3_feed : yX3_feed.cls = RX3 ∧ yX3_feed.cls ≠ "java/lang/invoke/MethodHandle" ∧ yX3_feed.cls ≠ "java/lang/invoke/VarHandle" ∧ (parseMethodDescriptor yX3_feed.desc).map (fun d => d.parameters.length) = some 3 := by decide +kernel
abbrev zr_X3_feed : Room := { frames := 2, cells := 0, slots := 0, locals := 46 }
theorem zq_X3_feed_max : Cond.methodLink yX3_feed.cls 39 Lib.Math.max.name ∈ wsX3_feed ∧ Cond.static Lib.Math.max.name ∈ wsX3_feed ∧ Cond.initialized "java/lang/Math" ∈ wsX3_feed ∧ Cond.code Lib.Math.max.name Lib.Math.max.code 2 (some .int) ∈ wsX3_feed := by decide +kernel
theorem zk_X3_feed_14 : Cond.fieldLink yX3_feed.cls 14 RX3 "sectors" "LThirteenthDay$Table;" ∈ wsX3_feed := by decide +kernel
theorem zi_X3_feed_X3 : ∀ w ∈ u_ws RX3 TX3 1, w ∈ wsX3_feed := by decide +kernel
def zX3_feed (v1 : Int32) (v2 : Int32) (v3 : Int32) (st : zz_T) : zz_T :=
  zz_v (zX3_store v1 (3 * v2) st) fun st1 =>
  zz_v ((zz_g 19 v1 7 st1) - v3) fun w3 =>
  zz_v (zz_set 19 v1 7 (zz_max 0 w3) st1) fun st4 =>
  if 0 ≤ w3 then
    zz_v (zz_set 19 v1 8 0 st4) fun st6 =>
    st6
  else
    zz_v (zz_set 19 v1 8 1 st4) fun st8 =>
    st8
set_option maxHeartbeats 4000000 in
set_option maxRecDepth 100000 in
theorem zc_X3_feed {l : Launch} {A : Nat → Prop} {D : va_G} {cI : ClassId} {q : Nat → Nat} (v1 : Int32) (v2 : Int32) (v3 : Int32) (st : zz_T) : zz_Mv l A D cI q yX3_feed wsX3_feed zr_X3_feed [.ref (q 7), .int v1, .int v2, .int v3] st (zX3_feed v1 v2 v3 st) := by
  refine zz_of (cc := cX3_feed) (nL := 5) (ret := none) (by decide) rfl (Nat.le_of_ble_eq_true rfl) ?_
  intro p e s m args below meth c ls C hr hP hS hl
  obtain ⟨hx, hb, hml, hown, hts⟩ := id C.1
  have hl : lv_has ls 5 [(0, .ref (q 7)), (1, .int v1), (2, .int v2), (3, .int v3)] := hl
  obtain ⟨r, hf⟩ : ∃ r, zX3_feed v1 v2 v3 st = r := ⟨_, rfl⟩
  rw [hf]
  rw [zX3_feed] at hf
  skip
  refine lv_aload_n hx hb dX3_feed_0 rfl (lv_at hl 0 rfl) ?_
  refine lv_iload_n hx hb dX3_feed_1 rfl (lv_at hl 1 rfl) ?_
  refine lv_iconst (v := 3) hx hb dX3_feed_2 (by decide) ?_
  refine lv_iload_n hx hb dX3_feed_3 rfl (lv_at hl 2 rfl) ?_
  refine lv_imul hx hb dX3_feed_4 ?_
  obtain ⟨st1, e2, hf⟩ := zz_vo hf
  refine zz_callVv C (As := [.int v1, .int (3 * v2)]) (rest := []) (zz_Mv_e e2 (zc_X3_store _ _ _)) (cwV 2 hts gX3_feed_X3_store rfl rfl rfl zd_X3_store ⟨Nat.le_of_ble_eq_true rfl, Nat.le_of_ble_eq_true rfl⟩) hP hS 7 rfl rfl rfl hl rfl (Nat.le_of_ble_eq_true rfl) dX3_feed_5 ⟨Nat.zero_le _, Nat.zero_le _⟩ (fun H locs hP hS => ?_)
  refine lv_aload_n hx hb dX3_feed_8 rfl (lv_at hl 0 rfl) ?_
  refine zz_getf C zi_X3_feed_X3 hP 7 rfl rfl 0 (nm := "sectors") (ds := "LThirteenthDay$Table;") (fin := true) rfl (by decide) zk_X3_feed_14 rfl dX3_feed_9 ?_
  refine lv_iload_n hx hb dX3_feed_12 rfl (lv_at hl 1 rfl) ?_
  refine lv_bipush (v := 7) hx hb dX3_feed_13 (by decide) ?_
  refine zz_callVi C (As := [.int v1, .int 7]) (rest := []) (zc_X5_get 19 (by decide) _ _ _) (cwV 2 hts gX3_feed_X5_get rfl rfl rfl zd_X5_get ⟨Nat.le_of_ble_eq_true rfl, Nat.le_of_ble_eq_true rfl⟩) hP hS (9 + 19) (zz_c_tab (by decide)) rfl rfl hl rfl (Nat.le_of_ble_eq_true rfl) dX3_feed_15 ⟨Nat.zero_le _, Nat.zero_le _⟩ (fun H locs hP hS => ?_)
  refine lv_iload_n hx hb dX3_feed_18 rfl (lv_at hl 3 rfl) ?_
  refine lv_isub hx hb dX3_feed_19 ?_
  refine lv_topi (fun w3 e3 => ?_)
  replace hf := zz_vi hf e3
  refine lv_istore (lv' := [(4, .int w3), (0, .ref (q 7)), (1, .int v1), (2, .int v2), (3, .int v3)]) hx hb dX3_feed_20 hl (by decide) rfl (fun ls hl => ?_)
  refine lv_aload_n hx hb dX3_feed_22 rfl (lv_at hl 1 rfl) ?_
  refine zz_getf C zi_X3_feed_X3 hP 7 rfl rfl 0 (nm := "sectors") (ds := "LThirteenthDay$Table;") (fin := true) rfl (by decide) zk_X3_feed_14 rfl dX3_feed_23 ?_
  refine lv_iload_n hx hb dX3_feed_26 rfl (lv_at hl 2 rfl) ?_
  refine lv_bipush (v := 7) hx hb dX3_feed_27 (by decide) ?_
  refine lv_iconst (v := 0) hx hb dX3_feed_29 (by decide) ?_
  refine lv_iload hx hb dX3_feed_30 (lv_at hl 0 rfl) ?_
  refine zz_mmax C zq_X3_feed_max hl (by decide) (Nat.le_of_ble_eq_true rfl) ⟨Nat.zero_le _, Nat.zero_le _⟩ dX3_feed_32 ?_
  obtain ⟨st4, e5, hf⟩ := zz_vo hf
  refine zz_callVv C (As := [.int v1, .int 7, .int (zz_max 0 w3)]) (rest := []) (zz_Mv_e e5 (zc_X5_set 19 (by decide) _ _ _ _)) (cwV 3 hts gX3_feed_X5_set rfl rfl rfl zd_X5_set ⟨Nat.le_of_ble_eq_true rfl, Nat.le_of_ble_eq_true rfl⟩) hP hS (9 + 19) (zz_c_tab (by decide)) rfl rfl hl rfl (Nat.le_of_ble_eq_true rfl) dX3_feed_35 ⟨Nat.zero_le _, Nat.zero_le _⟩ (fun H locs hP hS => ?_)
  refine lv_aload_n hx hb dX3_feed_38 rfl (lv_at hl 1 rfl) ?_
  refine zz_getf C zi_X3_feed_X3 hP 7 rfl rfl 0 (nm := "sectors") (ds := "LThirteenthDay$Table;") (fin := true) rfl (by decide) zk_X3_feed_14 rfl dX3_feed_39 ?_
  refine lv_iload_n hx hb dX3_feed_42 rfl (lv_at hl 2 rfl) ?_
  refine lv_bipush (v := 8) hx hb dX3_feed_43 (by decide) ?_
  refine lv_iload hx hb dX3_feed_45 (lv_at hl 0 rfl) ?_
  refine lv_if_ge (tgt := 54) hx hb dX3_feed_47 (by decide) (fun h => ?_) (fun h => ?_)
  · rw [if_pos h] at hf
    refine lv_iconst (v := 0) hx hb dX3_feed_54 (by decide) ?_
    obtain ⟨st6, e7, hf⟩ := zz_vo hf
    refine zz_callVv C (As := [.int v1, .int 8, .int 0]) (rest := []) (zz_Mv_e e7 (zc_X5_set 19 (by decide) _ _ _ _)) (cwV 3 hts gX3_feed_X5_set rfl rfl rfl zd_X5_set ⟨Nat.le_of_ble_eq_true rfl, Nat.le_of_ble_eq_true rfl⟩) hP hS (9 + 19) (zz_c_tab (by decide)) rfl rfl hl rfl (Nat.le_of_ble_eq_true rfl) dX3_feed_55 ⟨Nat.zero_le _, Nat.zero_le _⟩ (fun H locs hP hS => ?_)
    rw [← hf]
    exact zz_retv C hr hP hS dX3_feed_58
  · rw [if_neg h] at hf
    refine lv_iconst (v := 1) hx hb dX3_feed_50 (by decide) ?_
    refine lv_goto (tgt := 55) hx hb dX3_feed_51 (by decide) ?_
    obtain ⟨st8, e9, hf⟩ := zz_vo hf
    refine zz_callVv C (As := [.int v1, .int 8, .int 1]) (rest := []) (zz_Mv_e e9 (zc_X5_set 19 (by decide) _ _ _ _)) (cwV 3 hts gX3_feed_X5_set rfl rfl rfl zd_X5_set ⟨Nat.le_of_ble_eq_true rfl, Nat.le_of_ble_eq_true rfl⟩) hP hS (9 + 19) (zz_c_tab (by decide)) rfl rfl hl rfl (Nat.le_of_ble_eq_true rfl) dX3_feed_55 ⟨Nat.zero_le _, Nat.zero_le _⟩ (fun H locs hP hS => ?_)
    rw [← hf]
    exact zz_retv C hr hP hS dX3_feed_58
/-! X3_fight TW -/
theorem zd_X3_fight : yX3_fight.cls = RX3 ∧ yX3_fight.cls ≠ "java/lang/invoke/MethodHandle" ∧ yX3_fight.cls ≠ "java/lang/invoke/VarHandle" ∧ (parseMethodDescriptor yX3_fight.desc).map (fun d => d.parameters.length) = some 2 := by decide +kernel
abbrev zr_X3_fight : Room := { frames := 1, cells := 0, slots := 0, locals := 24 }
theorem zq_X3_fight_min : Cond.methodLink yX3_fight.cls 31 Lib.Math.min.name ∈ wsX3_fight ∧ Cond.static Lib.Math.min.name ∈ wsX3_fight ∧ Cond.initialized "java/lang/Math" ∈ wsX3_fight ∧ Cond.code Lib.Math.min.name Lib.Math.min.code 2 (some .int) ∈ wsX3_fight := by decide +kernel
theorem zq_X3_fight_max : Cond.methodLink yX3_fight.cls 39 Lib.Math.max.name ∈ wsX3_fight ∧ Cond.static Lib.Math.max.name ∈ wsX3_fight ∧ Cond.initialized "java/lang/Math" ∈ wsX3_fight ∧ Cond.code Lib.Math.max.name Lib.Math.max.code 2 (some .int) ∈ wsX3_fight := by decide +kernel
theorem zk_X3_fight_14 : Cond.fieldLink yX3_fight.cls 14 RX3 "sectors" "LThirteenthDay$Table;" ∈ wsX3_fight := by decide +kernel
theorem zi_X3_fight_X3 : ∀ w ∈ u_ws RX3 TX3 1, w ∈ wsX3_fight := by decide +kernel
def zX3_fight_21 (v1 : Int32) (k0 : Int32) (st : zz_T) : zz_T :=
  zz_v (zz_g 19 v1 4 st) fun w1 =>
  zz_v ((zz_g 19 v1 6 st) + (zJ6_compare_7cf53 k0 w1 st)) fun w2 =>
  zz_v (zz_max (-5) (zz_min 5 w2)) fun w3 =>
  zz_v (zz_set 19 v1 6 w3 st) fun st4 =>
  zz_v (zz_add 19 v1 4 (-(zz_min w1 (k0 / 8))) st4) fun st6 =>
  zz_v (zz_add 19 v1 9 (zz_min k0 (w1 / 8)) st6) fun st8 =>
  if w3 = (-5) then
    zz_v (zz_set 19 v1 11 1 st8) fun st10 =>
    st10
  else
    st8
set_option maxHeartbeats 4000000 in
set_option maxRecDepth 100000 in
theorem zt_X3_fight_21 {l : Launch} {A : Nat → Prop} {D : va_G} {cI : ClassId} {q : Nat → Nat} {p : Program} {e : Env} {s : State} {m : MethodId} {args : Array Value} {below : List Frame} {meth : Method} {c : Code} (C : zz_C A D cI q p s m args meth c cX3_fight 6 wsX3_fight yX3_fight.cls) (hr : meth.sig.returnType = none) : ∀ (v1 : Int32) (k0 : Int32) (st : zz_T) (H : Heap) (locs : List Loc) (ls : Array Slot) (r : zz_T), zX3_fight_21 v1 k0 st = r → va_P D vwCl (zz_c q cI st) H → va_S A s.heap H locs → lv_has ls 6 [(0, .ref (q 7)), (1, .int v1)] → W p l e zr_X3_fight s m args below meth c H locs 0 0 (zz_Qv A D cI q r below args s) (F0 m 21 ls [.int k0]) := by
  obtain ⟨hx, hb, hml, hown, hts⟩ := id C.1
  intro v1 k0 st H locs ls r hf hP hS hl
  rw [zX3_fight_21] at hf
  refine lv_istore_n (lv' := [(3, .int k0), (0, .ref (q 7)), (1, .int v1)]) hx hb dX3_fight_21 rfl hl (by decide) rfl (fun ls hl => ?_)
  refine lv_aload_n hx hb dX3_fight_22 rfl (lv_at hl 1 rfl) ?_
  refine zz_getf C zi_X3_fight_X3 hP 7 rfl rfl 0 (nm := "sectors") (ds := "LThirteenthDay$Table;") (fin := true) rfl (by decide) zk_X3_fight_14 rfl dX3_fight_23 ?_
  refine lv_iload_n hx hb dX3_fight_26 rfl (lv_at hl 2 rfl) ?_
  refine lv_iconst (v := 4) hx hb dX3_fight_27 (by decide) ?_
  refine zz_callVi C (As := [.int v1, .int 4]) (rest := []) (zc_X5_get 19 (by decide) _ _ _) (cwV 2 hts gX3_fight_X5_get rfl rfl rfl zd_X5_get ⟨Nat.le_of_ble_eq_true rfl, Nat.le_of_ble_eq_true rfl⟩) hP hS (9 + 19) (zz_c_tab (by decide)) rfl rfl hl rfl (Nat.le_of_ble_eq_true rfl) dX3_fight_28 ⟨Nat.zero_le _, Nat.zero_le _⟩ (fun H locs hP hS => ?_)
  refine lv_topi (fun w1 e1 => ?_)
  replace hf := zz_vi hf e1
  refine lv_istore (lv' := [(4, .int w1), (3, .int k0), (0, .ref (q 7)), (1, .int v1)]) hx hb dX3_fight_31 hl (by decide) rfl (fun ls hl => ?_)
  refine lv_aload_n hx hb dX3_fight_33 rfl (lv_at hl 2 rfl) ?_
  refine zz_getf C zi_X3_fight_X3 hP 7 rfl rfl 0 (nm := "sectors") (ds := "LThirteenthDay$Table;") (fin := true) rfl (by decide) zk_X3_fight_14 rfl dX3_fight_34 ?_
  refine lv_iload_n hx hb dX3_fight_37 rfl (lv_at hl 3 rfl) ?_
  refine lv_bipush (v := 6) hx hb dX3_fight_38 (by decide) ?_
  refine zz_callVi C (As := [.int v1, .int 6]) (rest := []) (zc_X5_get 19 (by decide) _ _ _) (cwV 2 hts gX3_fight_X5_get rfl rfl rfl zd_X5_get ⟨Nat.le_of_ble_eq_true rfl, Nat.le_of_ble_eq_true rfl⟩) hP hS (9 + 19) (zz_c_tab (by decide)) rfl rfl hl rfl (Nat.le_of_ble_eq_true rfl) dX3_fight_40 ⟨Nat.zero_le _, Nat.zero_le _⟩ (fun H locs hP hS => ?_)
  refine lv_iload_n hx hb dX3_fight_43 rfl (lv_at hl 1 rfl) ?_
  refine lv_iload hx hb dX3_fight_44 (lv_at hl 0 rfl) ?_
  refine zz_callSi C (As := [.int k0, .int w1]) (rest := [.int (zz_g 19 v1 6 st)]) (zc_J6_compare_7cf53 _ _ _) (va_cwS 2 hts gX3_fight_J6_compare_7cf53 rfl rfl rfl zd_J6_compare_7cf53.2 ⟨Nat.le_of_ble_eq_true rfl, Nat.le_of_ble_eq_true rfl⟩) hP hS rfl hl rfl (Nat.le_of_ble_eq_true rfl) dX3_fight_46 ⟨Nat.zero_le _, Nat.zero_le _⟩ (fun H locs hP hS => ?_)
  refine lv_iadd hx hb dX3_fight_49 ?_
  refine lv_topi (fun w2 e2 => ?_)
  replace hf := zz_vi hf e2
  refine lv_istore (lv' := [(5, .int w2), (4, .int w1), (3, .int k0), (0, .ref (q 7)), (1, .int v1)]) hx hb dX3_fight_50 hl (by decide) rfl (fun ls hl => ?_)
  refine lv_bipush (v := (-5)) hx hb dX3_fight_52 (by decide) ?_
  refine lv_iconst (v := 5) hx hb dX3_fight_54 (by decide) ?_
  refine lv_iload hx hb dX3_fight_55 (lv_at hl 0 rfl) ?_
  refine zz_mmin C zq_X3_fight_min hl (by decide) (Nat.le_of_ble_eq_true rfl) ⟨Nat.zero_le _, Nat.zero_le _⟩ dX3_fight_57 ?_
  refine zz_mmax C zq_X3_fight_max hl (by decide) (Nat.le_of_ble_eq_true rfl) ⟨Nat.zero_le _, Nat.zero_le _⟩ dX3_fight_60 ?_
  refine lv_topi (fun w3 e3 => ?_)
  replace hf := zz_vi hf e3
  refine lv_istore (lv' := [(5, .int w3), (4, .int w1), (3, .int k0), (0, .ref (q 7)), (1, .int v1)]) hx hb dX3_fight_63 hl (by decide) rfl (fun ls hl => ?_)
  refine lv_aload_n hx hb dX3_fight_65 rfl (lv_at hl 3 rfl) ?_
  refine zz_getf C zi_X3_fight_X3 hP 7 rfl rfl 0 (nm := "sectors") (ds := "LThirteenthDay$Table;") (fin := true) rfl (by decide) zk_X3_fight_14 rfl dX3_fight_66 ?_
  refine lv_iload_n hx hb dX3_fight_69 rfl (lv_at hl 4 rfl) ?_
  refine lv_bipush (v := 6) hx hb dX3_fight_70 (by decide) ?_
  refine lv_iload hx hb dX3_fight_72 (lv_at hl 0 rfl) ?_
  obtain ⟨st4, e5, hf⟩ := zz_vo hf
  refine zz_callVv C (As := [.int v1, .int 6, .int w3]) (rest := []) (zz_Mv_e e5 (zc_X5_set 19 (by decide) _ _ _ _)) (cwV 3 hts gX3_fight_X5_set rfl rfl rfl zd_X5_set ⟨Nat.le_of_ble_eq_true rfl, Nat.le_of_ble_eq_true rfl⟩) hP hS (9 + 19) (zz_c_tab (by decide)) rfl rfl hl rfl (Nat.le_of_ble_eq_true rfl) dX3_fight_74 ⟨Nat.zero_le _, Nat.zero_le _⟩ (fun H locs hP hS => ?_)
  refine lv_aload_n hx hb dX3_fight_77 rfl (lv_at hl 3 rfl) ?_
  refine zz_getf C zi_X3_fight_X3 hP 7 rfl rfl 0 (nm := "sectors") (ds := "LThirteenthDay$Table;") (fin := true) rfl (by decide) zk_X3_fight_14 rfl dX3_fight_78 ?_
  refine lv_iload_n hx hb dX3_fight_81 rfl (lv_at hl 4 rfl) ?_
  refine lv_iconst (v := 4) hx hb dX3_fight_82 (by decide) ?_
  refine lv_iload hx hb dX3_fight_83 (lv_at hl 1 rfl) ?_
  refine lv_iload_n hx hb dX3_fight_85 rfl (lv_at hl 2 rfl) ?_
  refine lv_bipush (v := 8) hx hb dX3_fight_86 (by decide) ?_
  refine lv_idiv hx hb dX3_fight_88 (by decide) ?_
  refine zz_mmin C zq_X3_fight_min hl (by decide) (Nat.le_of_ble_eq_true rfl) ⟨Nat.zero_le _, Nat.zero_le _⟩ dX3_fight_89 ?_
  refine lv_ineg hx hb dX3_fight_92 ?_
  obtain ⟨st6, e7, hf⟩ := zz_vo hf
  refine zz_callVv C (As := [.int v1, .int 4, .int (-(zz_min w1 (k0 / 8)))]) (rest := []) (zz_Mv_e e7 (zc_X5_add 19 (by decide) _ _ _ _)) (cwV 3 hts gX3_fight_X5_add rfl rfl rfl zd_X5_add ⟨Nat.le_of_ble_eq_true rfl, Nat.le_of_ble_eq_true rfl⟩) hP hS (9 + 19) (zz_c_tab (by decide)) rfl rfl hl rfl (Nat.le_of_ble_eq_true rfl) dX3_fight_93 ⟨Nat.zero_le _, Nat.zero_le _⟩ (fun H locs hP hS => ?_)
  refine lv_aload_n hx hb dX3_fight_96 rfl (lv_at hl 3 rfl) ?_
  refine zz_getf C zi_X3_fight_X3 hP 7 rfl rfl 0 (nm := "sectors") (ds := "LThirteenthDay$Table;") (fin := true) rfl (by decide) zk_X3_fight_14 rfl dX3_fight_97 ?_
  refine lv_iload_n hx hb dX3_fight_100 rfl (lv_at hl 4 rfl) ?_
  refine lv_bipush (v := 9) hx hb dX3_fight_101 (by decide) ?_
  refine lv_iload_n hx hb dX3_fight_103 rfl (lv_at hl 2 rfl) ?_
  refine lv_iload hx hb dX3_fight_104 (lv_at hl 1 rfl) ?_
  refine lv_bipush (v := 8) hx hb dX3_fight_106 (by decide) ?_
  refine lv_idiv hx hb dX3_fight_108 (by decide) ?_
  refine zz_mmin C zq_X3_fight_min hl (by decide) (Nat.le_of_ble_eq_true rfl) ⟨Nat.zero_le _, Nat.zero_le _⟩ dX3_fight_109 ?_
  obtain ⟨st8, e9, hf⟩ := zz_vo hf
  refine zz_callVv C (As := [.int v1, .int 9, .int (zz_min k0 (w1 / 8))]) (rest := []) (zz_Mv_e e9 (zc_X5_add 19 (by decide) _ _ _ _)) (cwV 3 hts gX3_fight_X5_add rfl rfl rfl zd_X5_add ⟨Nat.le_of_ble_eq_true rfl, Nat.le_of_ble_eq_true rfl⟩) hP hS (9 + 19) (zz_c_tab (by decide)) rfl rfl hl rfl (Nat.le_of_ble_eq_true rfl) dX3_fight_112 ⟨Nat.zero_le _, Nat.zero_le _⟩ (fun H locs hP hS => ?_)
  refine lv_iload hx hb dX3_fight_115 (lv_at hl 0 rfl) ?_
  refine lv_bipush (v := (-5)) hx hb dX3_fight_117 (by decide) ?_
  refine lv_icmp_ne (tgt := 133) hx hb dX3_fight_119 (by decide) (fun h => ?_) (fun h => ?_)
  · rw [if_neg h] at hf
    rw [← hf]
    exact zz_retv C hr hP hS dX3_fight_133
  · rw [if_pos h] at hf
    refine lv_aload_n hx hb dX3_fight_122 rfl (lv_at hl 3 rfl) ?_
    refine zz_getf C zi_X3_fight_X3 hP 7 rfl rfl 0 (nm := "sectors") (ds := "LThirteenthDay$Table;") (fin := true) rfl (by decide) zk_X3_fight_14 rfl dX3_fight_123 ?_
    refine lv_iload_n hx hb dX3_fight_126 rfl (lv_at hl 4 rfl) ?_
    refine lv_bipush (v := 11) hx hb dX3_fight_127 (by decide) ?_
    refine lv_iconst (v := 1) hx hb dX3_fight_129 (by decide) ?_
    obtain ⟨st10, e11, hf⟩ := zz_vo hf
    refine zz_callVv C (As := [.int v1, .int 11, .int 1]) (rest := []) (zz_Mv_e e11 (zc_X5_set 19 (by decide) _ _ _ _)) (cwV 3 hts gX3_fight_X5_set rfl rfl rfl zd_X5_set ⟨Nat.le_of_ble_eq_true rfl, Nat.le_of_ble_eq_true rfl⟩) hP hS (9 + 19) (zz_c_tab (by decide)) rfl rfl hl rfl (Nat.le_of_ble_eq_true rfl) dX3_fight_130 ⟨Nat.zero_le _, Nat.zero_le _⟩ (fun H locs hP hS => ?_)
    rw [← hf]
    exact zz_retv C hr hP hS dX3_fight_133
def zX3_fight (v1 : Int32) (v2 : Int32) (st : zz_T) : zz_T :=
  if (zz_g 19 v1 8 st) = 1 then
    zX3_fight_21 v1 (v2 / 2) st
  else
    zX3_fight_21 v1 v2 st
set_option maxHeartbeats 4000000 in
set_option maxRecDepth 100000 in
theorem zc_X3_fight {l : Launch} {A : Nat → Prop} {D : va_G} {cI : ClassId} {q : Nat → Nat} (v1 : Int32) (v2 : Int32) (st : zz_T) : zz_Mv l A D cI q yX3_fight wsX3_fight zr_X3_fight [.ref (q 7), .int v1, .int v2] st (zX3_fight v1 v2 st) := by
  refine zz_of (cc := cX3_fight) (nL := 6) (ret := none) (by decide) rfl (Nat.le_of_ble_eq_true rfl) ?_
  intro p e s m args below meth c ls C hr hP hS hl
  obtain ⟨hx, hb, hml, hown, hts⟩ := id C.1
  have hl : lv_has ls 6 [(0, .ref (q 7)), (1, .int v1), (2, .int v2)] := hl
  obtain ⟨r, hf⟩ : ∃ r, zX3_fight v1 v2 st = r := ⟨_, rfl⟩
  rw [hf]
  rw [zX3_fight] at hf
  skip
  refine lv_aload_n hx hb dX3_fight_0 rfl (lv_at hl 0 rfl) ?_
  refine zz_getf C zi_X3_fight_X3 hP 7 rfl rfl 0 (nm := "sectors") (ds := "LThirteenthDay$Table;") (fin := true) rfl (by decide) zk_X3_fight_14 rfl dX3_fight_1 ?_
  refine lv_iload_n hx hb dX3_fight_4 rfl (lv_at hl 1 rfl) ?_
  refine lv_bipush (v := 8) hx hb dX3_fight_5 (by decide) ?_
  refine zz_callVi C (As := [.int v1, .int 8]) (rest := []) (zc_X5_get 19 (by decide) _ _ _) (cwV 2 hts gX3_fight_X5_get rfl rfl rfl zd_X5_get ⟨Nat.le_of_ble_eq_true rfl, Nat.le_of_ble_eq_true rfl⟩) hP hS (9 + 19) (zz_c_tab (by decide)) rfl rfl hl rfl (Nat.le_of_ble_eq_true rfl) dX3_fight_7 ⟨Nat.zero_le _, Nat.zero_le _⟩ (fun H locs hP hS => ?_)
  refine lv_iconst (v := 1) hx hb dX3_fight_10 (by decide) ?_
  refine lv_icmp_ne (tgt := 20) hx hb dX3_fight_11 (by decide) (fun h => ?_) (fun h => ?_)
  · rw [if_neg h] at hf
    refine lv_iload_n hx hb dX3_fight_20 rfl (lv_at hl 2 rfl) ?_
    exact zt_X3_fight_21 C hr _ _ _ _ _ _ _ hf hP hS (lv_sub hl [0, 1] rfl)
  · rw [if_pos h] at hf
    refine lv_iload_n hx hb dX3_fight_14 rfl (lv_at hl 2 rfl) ?_
    refine lv_iconst (v := 2) hx hb dX3_fight_15 (by decide) ?_
    refine lv_idiv hx hb dX3_fight_16 (by decide) ?_
    refine lv_goto (tgt := 21) hx hb dX3_fight_17 (by decide) ?_
    exact zt_X3_fight_21 C hr _ _ _ _ _ _ _ hf hP hS (lv_sub hl [0, 1] rfl)
/-! X3_set TW -/
theorem zd_X3_set : yX3_set.cls = RX3 ∧ yX3_set.cls ≠ "java/lang/invoke/MethodHandle" ∧ yX3_set.cls ≠ "java/lang/invoke/VarHandle" ∧ (parseMethodDescriptor yX3_set.desc).map (fun d => d.parameters.length) = some 3 := by decide +kernel
abbrev zr_X3_set : Room := { frames := 1, cells := 0, slots := 0, locals := 24 }
theorem zk_X3_set_14 : Cond.fieldLink yX3_set.cls 14 RX3 "sectors" "LThirteenthDay$Table;" ∈ wsX3_set := by decide +kernel
theorem zi_X3_set_X3 : ∀ w ∈ u_ws RX3 TX3 1, w ∈ wsX3_set := by decide +kernel
def zX3_set (v1 : Int32) (v2 : Int32) (v3 : Int32) (st : zz_T) : zz_T :=
  zz_v (zz_set 19 v1 v2 v3 st) fun st1 =>
  st1
set_option maxHeartbeats 4000000 in
set_option maxRecDepth 100000 in
theorem zc_X3_set {l : Launch} {A : Nat → Prop} {D : va_G} {cI : ClassId} {q : Nat → Nat} (v1 : Int32) (v2 : Int32) (v3 : Int32) (st : zz_T) : zz_Mv l A D cI q yX3_set wsX3_set zr_X3_set [.ref (q 7), .int v1, .int v2, .int v3] st (zX3_set v1 v2 v3 st) := by
  refine zz_of (cc := cX3_set) (nL := 4) (ret := none) (by decide) rfl (Nat.le_of_ble_eq_true rfl) ?_
  intro p e s m args below meth c ls C hr hP hS hl
  obtain ⟨hx, hb, hml, hown, hts⟩ := id C.1
  have hl : lv_has ls 4 [(0, .ref (q 7)), (1, .int v1), (2, .int v2), (3, .int v3)] := hl
  obtain ⟨r, hf⟩ : ∃ r, zX3_set v1 v2 v3 st = r := ⟨_, rfl⟩
  rw [hf]
  rw [zX3_set] at hf
  skip
  refine lv_aload_n hx hb dX3_set_0 rfl (lv_at hl 0 rfl) ?_
  refine zz_getf C zi_X3_set_X3 hP 7 rfl rfl 0 (nm := "sectors") (ds := "LThirteenthDay$Table;") (fin := true) rfl (by decide) zk_X3_set_14 rfl dX3_set_1 ?_
  refine lv_iload_n hx hb dX3_set_4 rfl (lv_at hl 1 rfl) ?_
  refine lv_iload_n hx hb dX3_set_5 rfl (lv_at hl 2 rfl) ?_
  refine lv_iload_n hx hb dX3_set_6 rfl (lv_at hl 3 rfl) ?_
  obtain ⟨st1, e2, hf⟩ := zz_vo hf
  refine zz_callVv C (As := [.int v1, .int v2, .int v3]) (rest := []) (zz_Mv_e e2 (zc_X5_set 19 (by decide) _ _ _ _)) (cwV 3 hts gX3_set_X5_set rfl rfl rfl zd_X5_set ⟨Nat.le_of_ble_eq_true rfl, Nat.le_of_ble_eq_true rfl⟩) hP hS (9 + 19) (zz_c_tab (by decide)) rfl rfl hl rfl (Nat.le_of_ble_eq_true rfl) dX3_set_7 ⟨Nat.zero_le _, Nat.zero_le _⟩ (fun H locs hP hS => ?_)
  rw [← hf]
  exact zz_retv C hr hP hS dX3_set_10
/-! X3_takeHome TW -/
theorem zd_X3_takeHome : yX3_takeHome.cls = RX3 ∧ yX3_takeHome.cls ≠ "java/lang/invoke/MethodHandle" ∧ yX3_takeHome.cls ≠ "java/lang/invoke/VarHandle" ∧ (parseMethodDescriptor yX3_takeHome.desc).map (fun d => d.parameters.length) = some 1 := by decide +kernel
abbrev zr_X3_takeHome : Room := { frames := 1, cells := 0, slots := 0, locals := 24 }
theorem zq_X3_takeHome_min : Cond.methodLink yX3_takeHome.cls 31 Lib.Math.min.name ∈ wsX3_takeHome ∧ Cond.static Lib.Math.min.name ∈ wsX3_takeHome ∧ Cond.initialized "java/lang/Math" ∈ wsX3_takeHome ∧ Cond.code Lib.Math.min.name Lib.Math.min.code 2 (some .int) ∈ wsX3_takeHome := by decide +kernel
theorem zk_X3_takeHome_14 : Cond.fieldLink yX3_takeHome.cls 14 RX3 "sectors" "LThirteenthDay$Table;" ∈ wsX3_takeHome := by decide +kernel
theorem zi_X3_takeHome_X3 : ∀ w ∈ u_ws RX3 TX3 1, w ∈ wsX3_takeHome := by decide +kernel
def zX3_takeHome (v1 : Int32) (st : zz_T) : zz_T :=
  zz_v (zz_min 6 (zz_g 19 v1 9 st)) fun w1 =>
  zz_v (zz_add 19 v1 9 (-w1) st) fun st2 =>
  zz_v (zz_add 19 v1 10 w1 st2) fun st4 =>
  st4
set_option maxHeartbeats 4000000 in
set_option maxRecDepth 100000 in
theorem zc_X3_takeHome {l : Launch} {A : Nat → Prop} {D : va_G} {cI : ClassId} {q : Nat → Nat} (v1 : Int32) (st : zz_T) : zz_Mv l A D cI q yX3_takeHome wsX3_takeHome zr_X3_takeHome [.ref (q 7), .int v1] st (zX3_takeHome v1 st) := by
  refine zz_of (cc := cX3_takeHome) (nL := 3) (ret := none) (by decide) rfl (Nat.le_of_ble_eq_true rfl) ?_
  intro p e s m args below meth c ls C hr hP hS hl
  obtain ⟨hx, hb, hml, hown, hts⟩ := id C.1
  have hl : lv_has ls 3 [(0, .ref (q 7)), (1, .int v1)] := hl
  obtain ⟨r, hf⟩ : ∃ r, zX3_takeHome v1 st = r := ⟨_, rfl⟩
  rw [hf]
  rw [zX3_takeHome] at hf
  skip
  refine lv_bipush (v := 6) hx hb dX3_takeHome_0 (by decide) ?_
  refine lv_aload_n hx hb dX3_takeHome_2 rfl (lv_at hl 0 rfl) ?_
  refine zz_getf C zi_X3_takeHome_X3 hP 7 rfl rfl 0 (nm := "sectors") (ds := "LThirteenthDay$Table;") (fin := true) rfl (by decide) zk_X3_takeHome_14 rfl dX3_takeHome_3 ?_
  refine lv_iload_n hx hb dX3_takeHome_6 rfl (lv_at hl 1 rfl) ?_
  refine lv_bipush (v := 9) hx hb dX3_takeHome_7 (by decide) ?_
  refine zz_callVi C (As := [.int v1, .int 9]) (rest := [.int 6]) (zc_X5_get 19 (by decide) _ _ _) (cwV 2 hts gX3_takeHome_X5_get rfl rfl rfl zd_X5_get ⟨Nat.le_of_ble_eq_true rfl, Nat.le_of_ble_eq_true rfl⟩) hP hS (9 + 19) (zz_c_tab (by decide)) rfl rfl hl rfl (Nat.le_of_ble_eq_true rfl) dX3_takeHome_9 ⟨Nat.zero_le _, Nat.zero_le _⟩ (fun H locs hP hS => ?_)
  refine zz_mmin C zq_X3_takeHome_min hl (by decide) (Nat.le_of_ble_eq_true rfl) ⟨Nat.zero_le _, Nat.zero_le _⟩ dX3_takeHome_12 ?_
  refine lv_topi (fun w1 e1 => ?_)
  replace hf := zz_vi hf e1
  refine lv_istore_n (lv' := [(2, .int w1), (0, .ref (q 7)), (1, .int v1)]) hx hb dX3_takeHome_15 rfl hl (by decide) rfl (fun ls hl => ?_)
  refine lv_aload_n hx hb dX3_takeHome_16 rfl (lv_at hl 1 rfl) ?_
  refine zz_getf C zi_X3_takeHome_X3 hP 7 rfl rfl 0 (nm := "sectors") (ds := "LThirteenthDay$Table;") (fin := true) rfl (by decide) zk_X3_takeHome_14 rfl dX3_takeHome_17 ?_
  refine lv_iload_n hx hb dX3_takeHome_20 rfl (lv_at hl 2 rfl) ?_
  refine lv_bipush (v := 9) hx hb dX3_takeHome_21 (by decide) ?_
  refine lv_iload_n hx hb dX3_takeHome_23 rfl (lv_at hl 0 rfl) ?_
  refine lv_ineg hx hb dX3_takeHome_24 ?_
  obtain ⟨st2, e3, hf⟩ := zz_vo hf
  refine zz_callVv C (As := [.int v1, .int 9, .int (-w1)]) (rest := []) (zz_Mv_e e3 (zc_X5_add 19 (by decide) _ _ _ _)) (cwV 3 hts gX3_takeHome_X5_add rfl rfl rfl zd_X5_add ⟨Nat.le_of_ble_eq_true rfl, Nat.le_of_ble_eq_true rfl⟩) hP hS (9 + 19) (zz_c_tab (by decide)) rfl rfl hl rfl (Nat.le_of_ble_eq_true rfl) dX3_takeHome_25 ⟨Nat.zero_le _, Nat.zero_le _⟩ (fun H locs hP hS => ?_)
  refine lv_aload_n hx hb dX3_takeHome_28 rfl (lv_at hl 1 rfl) ?_
  refine zz_getf C zi_X3_takeHome_X3 hP 7 rfl rfl 0 (nm := "sectors") (ds := "LThirteenthDay$Table;") (fin := true) rfl (by decide) zk_X3_takeHome_14 rfl dX3_takeHome_29 ?_
  refine lv_iload_n hx hb dX3_takeHome_32 rfl (lv_at hl 2 rfl) ?_
  refine lv_bipush (v := 10) hx hb dX3_takeHome_33 (by decide) ?_
  refine lv_iload_n hx hb dX3_takeHome_35 rfl (lv_at hl 0 rfl) ?_
  obtain ⟨st4, e5, hf⟩ := zz_vo hf
  refine zz_callVv C (As := [.int v1, .int 10, .int w1]) (rest := []) (zz_Mv_e e5 (zc_X5_add 19 (by decide) _ _ _ _)) (cwV 3 hts gX3_takeHome_X5_add rfl rfl rfl zd_X5_add ⟨Nat.le_of_ble_eq_true rfl, Nat.le_of_ble_eq_true rfl⟩) hP hS (9 + 19) (zz_c_tab (by decide)) rfl rfl hl rfl (Nat.le_of_ble_eq_true rfl) dX3_takeHome_36 ⟨Nat.zero_le _, Nat.zero_le _⟩ (fun H locs hP hS => ?_)
  rw [← hf]
  exact zz_retv C hr hP hS dX3_takeHome_39
/-! X3_takeRoad TW -/
theorem zd_X3_takeRoad : yX3_takeRoad.cls = RX3 ∧ yX3_takeRoad.cls ≠ "java/lang/invoke/MethodHandle" ∧ yX3_takeRoad.cls ≠ "java/lang/invoke/VarHandle" ∧ (parseMethodDescriptor yX3_takeRoad.desc).map (fun d => d.parameters.length) = some 2 := by decide +kernel
abbrev zr_X3_takeRoad : Room := { frames := 1, cells := 0, slots := 0, locals := 24 }
theorem zq_X3_takeRoad_max : Cond.methodLink yX3_takeRoad.cls 39 Lib.Math.max.name ∈ wsX3_takeRoad ∧ Cond.static Lib.Math.max.name ∈ wsX3_takeRoad ∧ Cond.initialized "java/lang/Math" ∈ wsX3_takeRoad ∧ Cond.code Lib.Math.max.name Lib.Math.max.code 2 (some .int) ∈ wsX3_takeRoad := by decide +kernel
theorem zk_X3_takeRoad_14 : Cond.fieldLink yX3_takeRoad.cls 14 RX3 "sectors" "LThirteenthDay$Table;" ∈ wsX3_takeRoad := by decide +kernel
theorem zi_X3_takeRoad_X3 : ∀ w ∈ u_ws RX3 TX3 1, w ∈ wsX3_takeRoad := by decide +kernel
def zX3_takeRoad (v1 : Int32) (v2 : Int32) (st : zz_T) : (Int32 × zz_T) :=
  zz_v (zz_max v2 (zz_g 19 v1 12 st)) fun w1 =>
  zz_v (zz_set 19 v1 12 (w1 + 4) st) fun st2 =>
  ((w1 + (zz_g 19 v1 1 st2)), st2)
set_option maxHeartbeats 4000000 in
set_option maxRecDepth 100000 in
theorem zc_X3_takeRoad {l : Launch} {A : Nat → Prop} {D : va_G} {cI : ClassId} {q : Nat → Nat} (v1 : Int32) (v2 : Int32) (st : zz_T) : zz_Mi l A D cI q yX3_takeRoad wsX3_takeRoad zr_X3_takeRoad [.ref (q 7), .int v1, .int v2] st (zX3_takeRoad v1 v2 st).1 (zX3_takeRoad v1 v2 st).2 := by
  refine zz_of (cc := cX3_takeRoad) (nL := 4) (ret := some .int) (by decide) rfl (Nat.le_of_ble_eq_true rfl) ?_
  intro p e s m args below meth c ls C hr hP hS hl
  obtain ⟨hx, hb, hml, hown, hts⟩ := id C.1
  have hl : lv_has ls 4 [(0, .ref (q 7)), (1, .int v1), (2, .int v2)] := hl
  obtain ⟨r, hf⟩ : ∃ r, zX3_takeRoad v1 v2 st = r := ⟨_, rfl⟩
  rw [hf]
  rw [zX3_takeRoad] at hf
  skip
  refine lv_iload_n hx hb dX3_takeRoad_0 rfl (lv_at hl 2 rfl) ?_
  refine lv_aload_n hx hb dX3_takeRoad_1 rfl (lv_at hl 0 rfl) ?_
  refine zz_getf C zi_X3_takeRoad_X3 hP 7 rfl rfl 0 (nm := "sectors") (ds := "LThirteenthDay$Table;") (fin := true) rfl (by decide) zk_X3_takeRoad_14 rfl dX3_takeRoad_2 ?_
  refine lv_iload_n hx hb dX3_takeRoad_5 rfl (lv_at hl 1 rfl) ?_
  refine lv_bipush (v := 12) hx hb dX3_takeRoad_6 (by decide) ?_
  refine zz_callVi C (As := [.int v1, .int 12]) (rest := [.int v2]) (zc_X5_get 19 (by decide) _ _ _) (cwV 2 hts gX3_takeRoad_X5_get rfl rfl rfl zd_X5_get ⟨Nat.le_of_ble_eq_true rfl, Nat.le_of_ble_eq_true rfl⟩) hP hS (9 + 19) (zz_c_tab (by decide)) rfl rfl hl rfl (Nat.le_of_ble_eq_true rfl) dX3_takeRoad_8 ⟨Nat.zero_le _, Nat.zero_le _⟩ (fun H locs hP hS => ?_)
  refine zz_mmax C zq_X3_takeRoad_max hl (by decide) (Nat.le_of_ble_eq_true rfl) ⟨Nat.zero_le _, Nat.zero_le _⟩ dX3_takeRoad_11 ?_
  refine lv_topi (fun w1 e1 => ?_)
  replace hf := zz_vi hf e1
  refine lv_istore_n (lv' := [(3, .int w1), (0, .ref (q 7)), (1, .int v1), (2, .int v2)]) hx hb dX3_takeRoad_14 rfl hl (by decide) rfl (fun ls hl => ?_)
  refine lv_aload_n hx hb dX3_takeRoad_15 rfl (lv_at hl 1 rfl) ?_
  refine zz_getf C zi_X3_takeRoad_X3 hP 7 rfl rfl 0 (nm := "sectors") (ds := "LThirteenthDay$Table;") (fin := true) rfl (by decide) zk_X3_takeRoad_14 rfl dX3_takeRoad_16 ?_
  refine lv_iload_n hx hb dX3_takeRoad_19 rfl (lv_at hl 2 rfl) ?_
  refine lv_bipush (v := 12) hx hb dX3_takeRoad_20 (by decide) ?_
  refine lv_iload_n hx hb dX3_takeRoad_22 rfl (lv_at hl 0 rfl) ?_
  refine lv_iconst (v := 4) hx hb dX3_takeRoad_23 (by decide) ?_
  refine lv_iadd hx hb dX3_takeRoad_24 ?_
  obtain ⟨st2, e3, hf⟩ := zz_vo hf
  refine zz_callVv C (As := [.int v1, .int 12, .int (w1 + 4)]) (rest := []) (zz_Mv_e e3 (zc_X5_set 19 (by decide) _ _ _ _)) (cwV 3 hts gX3_takeRoad_X5_set rfl rfl rfl zd_X5_set ⟨Nat.le_of_ble_eq_true rfl, Nat.le_of_ble_eq_true rfl⟩) hP hS (9 + 19) (zz_c_tab (by decide)) rfl rfl hl rfl (Nat.le_of_ble_eq_true rfl) dX3_takeRoad_25 ⟨Nat.zero_le _, Nat.zero_le _⟩ (fun H locs hP hS => ?_)
  refine lv_iload_n hx hb dX3_takeRoad_28 rfl (lv_at hl 0 rfl) ?_
  refine lv_aload_n hx hb dX3_takeRoad_29 rfl (lv_at hl 1 rfl) ?_
  refine zz_getf C zi_X3_takeRoad_X3 hP 7 rfl rfl 0 (nm := "sectors") (ds := "LThirteenthDay$Table;") (fin := true) rfl (by decide) zk_X3_takeRoad_14 rfl dX3_takeRoad_30 ?_
  refine lv_iload_n hx hb dX3_takeRoad_33 rfl (lv_at hl 2 rfl) ?_
  refine lv_iconst (v := 1) hx hb dX3_takeRoad_34 (by decide) ?_
  refine zz_callVi C (As := [.int v1, .int 1]) (rest := [.int w1]) (zc_X5_get 19 (by decide) _ _ _) (cwV 2 hts gX3_takeRoad_X5_get rfl rfl rfl zd_X5_get ⟨Nat.le_of_ble_eq_true rfl, Nat.le_of_ble_eq_true rfl⟩) hP hS (9 + 19) (zz_c_tab (by decide)) rfl rfl hl rfl (Nat.le_of_ble_eq_true rfl) dX3_takeRoad_35 ⟨Nat.zero_le _, Nat.zero_le _⟩ (fun H locs hP hS => ?_)
  refine lv_iadd hx hb dX3_takeRoad_38 ?_
  rw [← hf]
  exact zz_reti C hr hP hS dX3_takeRoad_39
/-! X4_free TW -/
theorem zd_X4_free : yX4_free.cls = RX4 ∧ yX4_free.cls ≠ "java/lang/invoke/MethodHandle" ∧ yX4_free.cls ≠ "java/lang/invoke/VarHandle" ∧ (parseMethodDescriptor yX4_free.desc).map (fun d => d.parameters.length) = some 1 := by decide +kernel
abbrev zr_X4_free : Room := { frames := 1, cells := 0, slots := 0, locals := 24 }
theorem zk_X4_free_16 : Cond.fieldLink yX4_free.cls 16 RX4 "rows" "LThirteenthDay$Table;" ∈ wsX4_free := by decide +kernel
theorem zi_X4_free_X4 : ∀ w ∈ u_ws RX4 TX4 2, w ∈ wsX4_free := by decide +kernel
def zX4_free (v1 : Int32) (st : zz_T) : zz_T :=
  zz_v (zz_set 18 v1 0 0 st) fun st1 =>
  st1
set_option maxHeartbeats 4000000 in
set_option maxRecDepth 100000 in
theorem zc_X4_free {l : Launch} {A : Nat → Prop} {D : va_G} {cI : ClassId} {q : Nat → Nat} (v1 : Int32) (st : zz_T) : zz_Mv l A D cI q yX4_free wsX4_free zr_X4_free [.ref (q 6), .int v1] st (zX4_free v1 st) := by
  refine zz_of (cc := cX4_free) (nL := 2) (ret := none) (by decide) rfl (Nat.le_of_ble_eq_true rfl) ?_
  intro p e s m args below meth c ls C hr hP hS hl
  obtain ⟨hx, hb, hml, hown, hts⟩ := id C.1
  have hl : lv_has ls 2 [(0, .ref (q 6)), (1, .int v1)] := hl
  obtain ⟨r, hf⟩ : ∃ r, zX4_free v1 st = r := ⟨_, rfl⟩
  rw [hf]
  rw [zX4_free] at hf
  skip
  refine lv_aload_n hx hb dX4_free_0 rfl (lv_at hl 0 rfl) ?_
  refine zz_getf C zi_X4_free_X4 hP 6 rfl rfl 0 (nm := "rows") (ds := "LThirteenthDay$Table;") (fin := true) rfl (by decide) zk_X4_free_16 rfl dX4_free_1 ?_
  refine lv_iload_n hx hb dX4_free_4 rfl (lv_at hl 1 rfl) ?_
  refine lv_iconst (v := 0) hx hb dX4_free_5 (by decide) ?_
  refine lv_iconst (v := 0) hx hb dX4_free_6 (by decide) ?_
  obtain ⟨st1, e2, hf⟩ := zz_vo hf
  refine zz_callVv C (As := [.int v1, .int 0, .int 0]) (rest := []) (zz_Mv_e e2 (zc_X5_set 18 (by decide) _ _ _ _)) (cwV 3 hts gX4_free_X5_set rfl rfl rfl zd_X5_set ⟨Nat.le_of_ble_eq_true rfl, Nat.le_of_ble_eq_true rfl⟩) hP hS (9 + 18) (zz_c_tab (by decide)) rfl rfl hl rfl (Nat.le_of_ble_eq_true rfl) dX4_free_7 ⟨Nat.zero_le _, Nat.zero_le _⟩ (fun H locs hP hS => ?_)
  rw [← hf]
  exact zz_retv C hr hP hS dX4_free_10
/-! X4_freeRow PR -/
theorem zd_X4_freeRow : yX4_freeRow.cls = RX4 ∧ yX4_freeRow.cls ≠ "java/lang/invoke/MethodHandle" ∧ yX4_freeRow.cls ≠ "java/lang/invoke/VarHandle" ∧ (parseMethodDescriptor yX4_freeRow.desc).map (fun d => d.parameters.length) = some 0 := by decide +kernel
abbrev zr_X4_freeRow : Room := { frames := 1, cells := 0, slots := 0, locals := 24 }
theorem zk_X4_freeRow_16 : Cond.fieldLink yX4_freeRow.cls 16 RX4 "rows" "LThirteenthDay$Table;" ∈ wsX4_freeRow := by decide +kernel
theorem zi_X4_freeRow_X4 : ∀ w ∈ u_ws RX4 TX4 2, w ∈ wsX4_freeRow := by decide +kernel
def zX4_freeRow_2 : Nat → Int32 → zz_T → Option Int32
  | 0, _, _ => none
  | n + 1, v1, st =>
    if 6 ≤ v1 then
      some (-1)
    else
      if (zz_g 18 v1 0 st) = 0 then
        some v1
      else
        zX4_freeRow_2 n (v1 + 1) st
set_option maxHeartbeats 4000000 in
set_option maxRecDepth 100000 in
theorem zt_X4_freeRow_2 {l : Launch} {A : Nat → Prop} {D : va_G} {cI : ClassId} {q : Nat → Nat} {p : Program} {e : Env} {s : State} {m : MethodId} {args : Array Value} {below : List Frame} {meth : Method} {c : Code} (C : zz_C A D cI q p s m args meth c cX4_freeRow 2 wsX4_freeRow yX4_freeRow.cls) (hr : meth.sig.returnType = some .int) : ∀ (n : Nat) (v1 : Int32) (st : zz_T) (H : Heap) (locs : List Loc) (ls : Array Slot) (r : Int32), zX4_freeRow_2 n v1 st = some r → va_P D vwCl (zz_c q cI st) H → va_S A s.heap H locs → lv_has ls 2 [(0, .ref (q 6)), (1, .int v1)] → W p l e zr_X4_freeRow s m args below meth c H locs 0 0 (zz_Qi A D cI q r st below args s) (F0 m 2 ls []) := by
  obtain ⟨hx, hb, hml, hown, hts⟩ := id C.1
  intro n
  induction n with
  | zero => intro v1 st H locs ls r hf; cases hf
  | succ n ih =>
    intro v1 st H locs ls r hf hP hS hl
    rw [zX4_freeRow_2] at hf
    refine lv_iload_n hx hb dX4_freeRow_2 rfl (lv_at hl 1 rfl) ?_
    refine lv_bipush (v := 6) hx hb dX4_freeRow_3 (by decide) ?_
    refine lv_icmp_ge (tgt := 28) hx hb dX4_freeRow_5 (by decide) (fun h => ?_) (fun h => ?_)
    · rw [if_pos h] at hf
      refine lv_iconst (v := (-1)) hx hb dX4_freeRow_28 (by decide) ?_
      rw [← (Option.some.inj hf)]
      exact zz_reti C hr hP hS dX4_freeRow_29
    · rw [if_neg h] at hf
      refine lv_aload_n hx hb dX4_freeRow_8 rfl (lv_at hl 0 rfl) ?_
      refine zz_getf C zi_X4_freeRow_X4 hP 6 rfl rfl 0 (nm := "rows") (ds := "LThirteenthDay$Table;") (fin := true) rfl (by decide) zk_X4_freeRow_16 rfl dX4_freeRow_9 ?_
      refine lv_iload_n hx hb dX4_freeRow_12 rfl (lv_at hl 1 rfl) ?_
      refine lv_iconst (v := 0) hx hb dX4_freeRow_13 (by decide) ?_
      refine zz_callVi C (As := [.int v1, .int 0]) (rest := []) (zc_X5_get 18 (by decide) _ _ _) (cwV 2 hts gX4_freeRow_X5_get rfl rfl rfl zd_X5_get ⟨Nat.le_of_ble_eq_true rfl, Nat.le_of_ble_eq_true rfl⟩) hP hS (9 + 18) (zz_c_tab (by decide)) rfl rfl hl rfl (Nat.le_of_ble_eq_true rfl) dX4_freeRow_14 ⟨Nat.zero_le _, Nat.zero_le _⟩ (fun H locs hP hS => ?_)
      refine lv_if_ne (tgt := 22) hx hb dX4_freeRow_17 (by decide) (fun h => ?_) (fun h => ?_)
      · rw [if_neg h] at hf
        refine lv_iinc (v := (v1 + 1)) (lv' := [(1, .int (v1 + 1)), (0, .ref (q 6))]) hx hb dX4_freeRow_22 hl (k := 1) rfl (congrArg (fun z => v1 + z) (by decide)) (by decide) rfl (fun ls hl => ?_)
        refine lv_goto (tgt := 2) hx hb dX4_freeRow_25 (by decide) ?_
        exact ih _ _ _ _ _ _ hf hP hS (lv_sub hl [1, 0] rfl)
      · rw [if_pos h] at hf
        refine lv_iload_n hx hb dX4_freeRow_20 rfl (lv_at hl 1 rfl) ?_
        rw [← (Option.some.inj hf)]
        exact zz_reti C hr hP hS dX4_freeRow_21
def zX4_freeRow (st : zz_T) : Option Int32 :=
  zX4_freeRow_2 zz_N 0 st
set_option maxHeartbeats 4000000 in
set_option maxRecDepth 100000 in
theorem zc_X4_freeRow {l : Launch} {A : Nat → Prop} {D : va_G} {cI : ClassId} {q : Nat → Nat} (st : zz_T) (r : Int32) (hf : zX4_freeRow st = some r) : zz_Mi l A D cI q yX4_freeRow wsX4_freeRow zr_X4_freeRow [.ref (q 6)] st r st := by
  refine zz_of (cc := cX4_freeRow) (nL := 2) (ret := some .int) (by decide) rfl (Nat.le_of_ble_eq_true rfl) ?_
  intro p e s m args below meth c ls C hr hP hS hl
  obtain ⟨hx, hb, hml, hown, hts⟩ := id C.1
  have hl : lv_has ls 2 [(0, .ref (q 6))] := hl
  rw [zX4_freeRow] at hf
  skip
  refine lv_iconst (v := 0) hx hb dX4_freeRow_0 (by decide) ?_
  refine lv_istore_n (lv' := [(1, .int 0), (0, .ref (q 6))]) hx hb dX4_freeRow_1 rfl hl (by decide) rfl (fun ls hl => ?_)
  exact zt_X4_freeRow_2 C hr zz_N _ _ _ _ _ _ hf hP hS (lv_sub hl [1, 0] rfl)
/-! X4_get TR -/
theorem zd_X4_get : yX4_get.cls = RX4 ∧ yX4_get.cls ≠ "java/lang/invoke/MethodHandle" ∧ yX4_get.cls ≠ "java/lang/invoke/VarHandle" ∧ (parseMethodDescriptor yX4_get.desc).map (fun d => d.parameters.length) = some 2 := by decide +kernel
abbrev zr_X4_get : Room := { frames := 1, cells := 0, slots := 0, locals := 24 }
theorem zk_X4_get_16 : Cond.fieldLink yX4_get.cls 16 RX4 "rows" "LThirteenthDay$Table;" ∈ wsX4_get := by decide +kernel
theorem zi_X4_get_X4 : ∀ w ∈ u_ws RX4 TX4 2, w ∈ wsX4_get := by decide +kernel
def zX4_get (v1 : Int32) (v2 : Int32) (st : zz_T) : Int32 :=
  (zz_g 18 v1 v2 st)
set_option maxHeartbeats 4000000 in
set_option maxRecDepth 100000 in
theorem zc_X4_get {l : Launch} {A : Nat → Prop} {D : va_G} {cI : ClassId} {q : Nat → Nat} (v1 : Int32) (v2 : Int32) (st : zz_T) : zz_Mi l A D cI q yX4_get wsX4_get zr_X4_get [.ref (q 6), .int v1, .int v2] st (zX4_get v1 v2 st) st := by
  refine zz_of (cc := cX4_get) (nL := 3) (ret := some .int) (by decide) rfl (Nat.le_of_ble_eq_true rfl) ?_
  intro p e s m args below meth c ls C hr hP hS hl
  obtain ⟨hx, hb, hml, hown, hts⟩ := id C.1
  have hl : lv_has ls 3 [(0, .ref (q 6)), (1, .int v1), (2, .int v2)] := hl
  obtain ⟨r, hf⟩ : ∃ r, zX4_get v1 v2 st = r := ⟨_, rfl⟩
  rw [hf]
  rw [zX4_get] at hf
  skip
  refine lv_aload_n hx hb dX4_get_0 rfl (lv_at hl 0 rfl) ?_
  refine zz_getf C zi_X4_get_X4 hP 6 rfl rfl 0 (nm := "rows") (ds := "LThirteenthDay$Table;") (fin := true) rfl (by decide) zk_X4_get_16 rfl dX4_get_1 ?_
  refine lv_iload_n hx hb dX4_get_4 rfl (lv_at hl 1 rfl) ?_
  refine lv_iload_n hx hb dX4_get_5 rfl (lv_at hl 2 rfl) ?_
  refine zz_callVi C (As := [.int v1, .int v2]) (rest := []) (zc_X5_get 18 (by decide) _ _ _) (cwV 2 hts gX4_get_X5_get rfl rfl rfl zd_X5_get ⟨Nat.le_of_ble_eq_true rfl, Nat.le_of_ble_eq_true rfl⟩) hP hS (9 + 18) (zz_c_tab (by decide)) rfl rfl hl rfl (Nat.le_of_ble_eq_true rfl) dX4_get_6 ⟨Nat.zero_le _, Nat.zero_le _⟩ (fun H locs hP hS => ?_)
  rw [← hf]
  exact zz_reti C hr hP hS dX4_get_9
/-! X4_leave TW -/
theorem zd_X4_leave : yX4_leave.cls = RX4 ∧ yX4_leave.cls ≠ "java/lang/invoke/MethodHandle" ∧ yX4_leave.cls ≠ "java/lang/invoke/VarHandle" ∧ (parseMethodDescriptor yX4_leave.desc).map (fun d => d.parameters.length) = some 1 := by decide +kernel
abbrev zr_X4_leave : Room := { frames := 1, cells := 0, slots := 0, locals := 24 }
theorem zk_X4_leave_16 : Cond.fieldLink yX4_leave.cls 16 RX4 "rows" "LThirteenthDay$Table;" ∈ wsX4_leave := by decide +kernel
theorem zi_X4_leave_X4 : ∀ w ∈ u_ws RX4 TX4 2, w ∈ wsX4_leave := by decide +kernel
def zX4_leave (v1 : Int32) (st : zz_T) : zz_T :=
  zz_v (zz_set 18 v1 2 1 st) fun st1 =>
  st1
set_option maxHeartbeats 4000000 in
set_option maxRecDepth 100000 in
theorem zc_X4_leave {l : Launch} {A : Nat → Prop} {D : va_G} {cI : ClassId} {q : Nat → Nat} (v1 : Int32) (st : zz_T) : zz_Mv l A D cI q yX4_leave wsX4_leave zr_X4_leave [.ref (q 6), .int v1] st (zX4_leave v1 st) := by
  refine zz_of (cc := cX4_leave) (nL := 2) (ret := none) (by decide) rfl (Nat.le_of_ble_eq_true rfl) ?_
  intro p e s m args below meth c ls C hr hP hS hl
  obtain ⟨hx, hb, hml, hown, hts⟩ := id C.1
  have hl : lv_has ls 2 [(0, .ref (q 6)), (1, .int v1)] := hl
  obtain ⟨r, hf⟩ : ∃ r, zX4_leave v1 st = r := ⟨_, rfl⟩
  rw [hf]
  rw [zX4_leave] at hf
  skip
  refine lv_aload_n hx hb dX4_leave_0 rfl (lv_at hl 0 rfl) ?_
  refine zz_getf C zi_X4_leave_X4 hP 6 rfl rfl 0 (nm := "rows") (ds := "LThirteenthDay$Table;") (fin := true) rfl (by decide) zk_X4_leave_16 rfl dX4_leave_1 ?_
  refine lv_iload_n hx hb dX4_leave_4 rfl (lv_at hl 1 rfl) ?_
  refine lv_iconst (v := 2) hx hb dX4_leave_5 (by decide) ?_
  refine lv_iconst (v := 1) hx hb dX4_leave_6 (by decide) ?_
  obtain ⟨st1, e2, hf⟩ := zz_vo hf
  refine zz_callVv C (As := [.int v1, .int 2, .int 1]) (rest := []) (zz_Mv_e e2 (zc_X5_set 18 (by decide) _ _ _ _)) (cwV 3 hts gX4_leave_X5_set rfl rfl rfl zd_X5_set ⟨Nat.le_of_ble_eq_true rfl, Nat.le_of_ble_eq_true rfl⟩) hP hS (9 + 18) (zz_c_tab (by decide)) rfl rfl hl rfl (Nat.le_of_ble_eq_true rfl) dX4_leave_7 ⟨Nat.zero_le _, Nat.zero_le _⟩ (fun H locs hP hS => ?_)
  rw [← hf]
  exact zz_retv C hr hP hS dX4_leave_10
/-! X4_nextBehind PR -/
theorem zd_X4_nextBehind : yX4_nextBehind.cls = RX4 ∧ yX4_nextBehind.cls ≠ "java/lang/invoke/MethodHandle" ∧ yX4_nextBehind.cls ≠ "java/lang/invoke/VarHandle" ∧ (parseMethodDescriptor yX4_nextBehind.desc).map (fun d => d.parameters.length) = some 1 := by decide +kernel
abbrev zr_X4_nextBehind : Room := { frames := 1, cells := 0, slots := 0, locals := 24 }
theorem zk_X4_nextBehind_16 : Cond.fieldLink yX4_nextBehind.cls 16 RX4 "rows" "LThirteenthDay$Table;" ∈ wsX4_nextBehind := by decide +kernel
theorem zi_X4_nextBehind_X4 : ∀ w ∈ u_ws RX4 TX4 2, w ∈ wsX4_nextBehind := by decide +kernel
def zX4_nextBehind_40 (k4 : Int32 → Int32 → Int32 → zz_T → Option Int32) (v1 : Int32) (v2 : Int32) (v3 : Int32) (k0 : Bool) (st : zz_T) : Option Int32 :=
  if k0 = true then
    if v2 = (-1) then
      k4 v1 v3 (v3 + 1) st
    else
      if (zz_g 18 v2 0 st) ≤ (zz_g 18 v3 0 st) then
        k4 v1 v2 (v3 + 1) st
      else
        k4 v1 v3 (v3 + 1) st
  else
    k4 v1 v2 (v3 + 1) st
set_option maxHeartbeats 4000000 in
set_option maxRecDepth 100000 in
theorem zt_X4_nextBehind_40 {l : Launch} {A : Nat → Prop} {D : va_G} {cI : ClassId} {q : Nat → Nat} {p : Program} {e : Env} {s : State} {m : MethodId} {args : Array Value} {below : List Frame} {meth : Method} {c : Code} (C : zz_C A D cI q p s m args meth c cX4_nextBehind 5 wsX4_nextBehind yX4_nextBehind.cls) (hr : meth.sig.returnType = some .int) (k4 : Int32 → Int32 → Int32 → zz_T → Option Int32) (hk4 : ∀ (v1 : Int32) (v2 : Int32) (v3 : Int32) (st : zz_T) (H : Heap) (locs : List Loc) (ls : Array Slot) (r : Int32), k4 v1 v2 v3 st = some r → va_P D vwCl (zz_c q cI st) H → va_S A s.heap H locs → lv_has ls 5 [(0, .ref (q 6)), (1, .int v1), (2, .int v2), (3, .int v3)] → W p l e zr_X4_nextBehind s m args below meth c H locs 0 0 (zz_Qi A D cI q r st below args s) (F0 m 4 ls [])) : ∀ (v1 : Int32) (v2 : Int32) (v3 : Int32) (k0 : Bool) (st : zz_T) (H : Heap) (locs : List Loc) (ls : Array Slot) (r : Int32), zX4_nextBehind_40 k4 v1 v2 v3 k0 st = some r → va_P D vwCl (zz_c q cI st) H → va_S A s.heap H locs → lv_has ls 5 [(0, .ref (q 6)), (1, .int v1), (2, .int v2), (3, .int v3)] → W p l e zr_X4_nextBehind s m args below meth c H locs 0 0 (zz_Qi A D cI q r st below args s) (F0 m 40 ls [.int (zz_b k0)]) := by
  obtain ⟨hx, hb, hml, hown, hts⟩ := id C.1
  intro v1 v2 v3 k0 st H locs ls r hf hP hS hl
  rw [zX4_nextBehind_40] at hf
  refine lv_istore (lv' := [(4, .int (zz_b k0)), (0, .ref (q 6)), (1, .int v1), (2, .int v2), (3, .int v3)]) hx hb dX4_nextBehind_40 hl (by decide) rfl (fun ls hl => ?_)
  refine lv_iload hx hb dX4_nextBehind_42 (lv_at hl 0 rfl) ?_
  refine lv_if_eq (tgt := 75) hx hb dX4_nextBehind_44 (by decide) (fun h => ?_) (fun h => ?_)
  · rw [zz_if0 (zz_b0 h)] at hf
    refine lv_iinc (v := (v3 + 1)) (lv' := [(3, .int (v3 + 1)), (4, .int (zz_b k0)), (0, .ref (q 6)), (1, .int v1), (2, .int v2)]) hx hb dX4_nextBehind_75 hl (k := 4) rfl (congrArg (fun z => v3 + z) (by decide)) (by decide) rfl (fun ls hl => ?_)
    refine lv_goto (tgt := 4) hx hb dX4_nextBehind_78 (by decide) ?_
    exact hk4 _ _ _ _ _ _ _ _ hf hP hS (lv_sub hl [2, 3, 4, 0] rfl)
  · rw [zz_if1 (zz_b1 h)] at hf
    refine lv_iload_n hx hb dX4_nextBehind_47 rfl (lv_at hl 3 rfl) ?_
    refine lv_iconst (v := (-1)) hx hb dX4_nextBehind_48 (by decide) ?_
    refine lv_icmp_eq (tgt := 73) hx hb dX4_nextBehind_49 (by decide) (fun h => ?_) (fun h => ?_)
    · rw [if_pos h] at hf
      refine lv_iload_n hx hb dX4_nextBehind_73 rfl (lv_at hl 4 rfl) ?_
      refine lv_istore_n (lv' := [(2, .int v3), (4, .int (zz_b k0)), (0, .ref (q 6)), (1, .int v1), (3, .int v3)]) hx hb dX4_nextBehind_74 rfl hl (by decide) rfl (fun ls hl => ?_)
      refine lv_iinc (v := (v3 + 1)) (lv' := [(3, .int (v3 + 1)), (2, .int v3), (4, .int (zz_b k0)), (0, .ref (q 6)), (1, .int v1)]) hx hb dX4_nextBehind_75 hl (k := 4) rfl (congrArg (fun z => v3 + z) (by decide)) (by decide) rfl (fun ls hl => ?_)
      refine lv_goto (tgt := 4) hx hb dX4_nextBehind_78 (by decide) ?_
      exact hk4 _ _ _ _ _ _ _ _ hf hP hS (lv_sub hl [3, 4, 1, 0] rfl)
    · rw [if_neg h] at hf
      refine lv_aload_n hx hb dX4_nextBehind_52 rfl (lv_at hl 1 rfl) ?_
      refine zz_getf C zi_X4_nextBehind_X4 hP 6 rfl rfl 0 (nm := "rows") (ds := "LThirteenthDay$Table;") (fin := true) rfl (by decide) zk_X4_nextBehind_16 rfl dX4_nextBehind_53 ?_
      refine lv_iload_n hx hb dX4_nextBehind_56 rfl (lv_at hl 4 rfl) ?_
      refine lv_iconst (v := 0) hx hb dX4_nextBehind_57 (by decide) ?_
      refine zz_callVi C (As := [.int v3, .int 0]) (rest := []) (zc_X5_get 18 (by decide) _ _ _) (cwV 2 hts gX4_nextBehind_X5_get rfl rfl rfl zd_X5_get ⟨Nat.le_of_ble_eq_true rfl, Nat.le_of_ble_eq_true rfl⟩) hP hS (9 + 18) (zz_c_tab (by decide)) rfl rfl hl rfl (Nat.le_of_ble_eq_true rfl) dX4_nextBehind_58 ⟨Nat.zero_le _, Nat.zero_le _⟩ (fun H locs hP hS => ?_)
      refine lv_aload_n hx hb dX4_nextBehind_61 rfl (lv_at hl 1 rfl) ?_
      refine zz_getf C zi_X4_nextBehind_X4 hP 6 rfl rfl 0 (nm := "rows") (ds := "LThirteenthDay$Table;") (fin := true) rfl (by decide) zk_X4_nextBehind_16 rfl dX4_nextBehind_62 ?_
      refine lv_iload_n hx hb dX4_nextBehind_65 rfl (lv_at hl 3 rfl) ?_
      refine lv_iconst (v := 0) hx hb dX4_nextBehind_66 (by decide) ?_
      refine zz_callVi C (As := [.int v2, .int 0]) (rest := [.int (zz_g 18 v3 0 st)]) (zc_X5_get 18 (by decide) _ _ _) (cwV 2 hts gX4_nextBehind_X5_get rfl rfl rfl zd_X5_get ⟨Nat.le_of_ble_eq_true rfl, Nat.le_of_ble_eq_true rfl⟩) hP hS (9 + 18) (zz_c_tab (by decide)) rfl rfl hl rfl (Nat.le_of_ble_eq_true rfl) dX4_nextBehind_67 ⟨Nat.zero_le _, Nat.zero_le _⟩ (fun H locs hP hS => ?_)
      refine lv_icmp_ge (tgt := 75) hx hb dX4_nextBehind_70 (by decide) (fun h => ?_) (fun h => ?_)
      · rw [if_pos h] at hf
        refine lv_iinc (v := (v3 + 1)) (lv' := [(3, .int (v3 + 1)), (4, .int (zz_b k0)), (0, .ref (q 6)), (1, .int v1), (2, .int v2)]) hx hb dX4_nextBehind_75 hl (k := 4) rfl (congrArg (fun z => v3 + z) (by decide)) (by decide) rfl (fun ls hl => ?_)
        refine lv_goto (tgt := 4) hx hb dX4_nextBehind_78 (by decide) ?_
        exact hk4 _ _ _ _ _ _ _ _ hf hP hS (lv_sub hl [2, 3, 4, 0] rfl)
      · rw [if_neg h] at hf
        refine lv_iload_n hx hb dX4_nextBehind_73 rfl (lv_at hl 4 rfl) ?_
        refine lv_istore_n (lv' := [(2, .int v3), (4, .int (zz_b k0)), (0, .ref (q 6)), (1, .int v1), (3, .int v3)]) hx hb dX4_nextBehind_74 rfl hl (by decide) rfl (fun ls hl => ?_)
        refine lv_iinc (v := (v3 + 1)) (lv' := [(3, .int (v3 + 1)), (2, .int v3), (4, .int (zz_b k0)), (0, .ref (q 6)), (1, .int v1)]) hx hb dX4_nextBehind_75 hl (k := 4) rfl (congrArg (fun z => v3 + z) (by decide)) (by decide) rfl (fun ls hl => ?_)
        refine lv_goto (tgt := 4) hx hb dX4_nextBehind_78 (by decide) ?_
        exact hk4 _ _ _ _ _ _ _ _ hf hP hS (lv_sub hl [3, 4, 1, 0] rfl)
def zX4_nextBehind_4 : Nat → Int32 → Int32 → Int32 → zz_T → Option Int32
  | 0, _, _, _, _ => none
  | n + 1, v1, v2, v3, st =>
    if 6 ≤ v3 then
      some v2
    else
      if (zz_g 18 v3 0 st) ≤ v1 then
        zX4_nextBehind_40 (fun v1' v2' v3' st' => zX4_nextBehind_4 n v1' v2' v3' st') v1 v2 v3 false st
      else
        if (zz_g 18 v3 2 st) = 0 then
          zX4_nextBehind_40 (fun v1' v2' v3' st' => zX4_nextBehind_4 n v1' v2' v3' st') v1 v2 v3 true st
        else
          zX4_nextBehind_40 (fun v1' v2' v3' st' => zX4_nextBehind_4 n v1' v2' v3' st') v1 v2 v3 false st
set_option maxHeartbeats 4000000 in
set_option maxRecDepth 100000 in
theorem zt_X4_nextBehind_4 {l : Launch} {A : Nat → Prop} {D : va_G} {cI : ClassId} {q : Nat → Nat} {p : Program} {e : Env} {s : State} {m : MethodId} {args : Array Value} {below : List Frame} {meth : Method} {c : Code} (C : zz_C A D cI q p s m args meth c cX4_nextBehind 5 wsX4_nextBehind yX4_nextBehind.cls) (hr : meth.sig.returnType = some .int) : ∀ (n : Nat) (v1 : Int32) (v2 : Int32) (v3 : Int32) (st : zz_T) (H : Heap) (locs : List Loc) (ls : Array Slot) (r : Int32), zX4_nextBehind_4 n v1 v2 v3 st = some r → va_P D vwCl (zz_c q cI st) H → va_S A s.heap H locs → lv_has ls 5 [(0, .ref (q 6)), (1, .int v1), (2, .int v2), (3, .int v3)] → W p l e zr_X4_nextBehind s m args below meth c H locs 0 0 (zz_Qi A D cI q r st below args s) (F0 m 4 ls []) := by
  obtain ⟨hx, hb, hml, hown, hts⟩ := id C.1
  intro n
  induction n with
  | zero => intro v1 v2 v3 st H locs ls r hf; cases hf
  | succ n ih =>
    intro v1 v2 v3 st H locs ls r hf hP hS hl
    rw [zX4_nextBehind_4] at hf
    refine lv_iload_n hx hb dX4_nextBehind_4 rfl (lv_at hl 3 rfl) ?_
    refine lv_bipush (v := 6) hx hb dX4_nextBehind_5 (by decide) ?_
    refine lv_icmp_ge (tgt := 81) hx hb dX4_nextBehind_7 (by decide) (fun h => ?_) (fun h => ?_)
    · rw [if_pos h] at hf
      refine lv_iload_n hx hb dX4_nextBehind_81 rfl (lv_at hl 2 rfl) ?_
      rw [← (Option.some.inj hf)]
      exact zz_reti C hr hP hS dX4_nextBehind_82
    · rw [if_neg h] at hf
      refine lv_aload_n hx hb dX4_nextBehind_10 rfl (lv_at hl 0 rfl) ?_
      refine zz_getf C zi_X4_nextBehind_X4 hP 6 rfl rfl 0 (nm := "rows") (ds := "LThirteenthDay$Table;") (fin := true) rfl (by decide) zk_X4_nextBehind_16 rfl dX4_nextBehind_11 ?_
      refine lv_iload_n hx hb dX4_nextBehind_14 rfl (lv_at hl 3 rfl) ?_
      refine lv_iconst (v := 0) hx hb dX4_nextBehind_15 (by decide) ?_
      refine zz_callVi C (As := [.int v3, .int 0]) (rest := []) (zc_X5_get 18 (by decide) _ _ _) (cwV 2 hts gX4_nextBehind_X5_get rfl rfl rfl zd_X5_get ⟨Nat.le_of_ble_eq_true rfl, Nat.le_of_ble_eq_true rfl⟩) hP hS (9 + 18) (zz_c_tab (by decide)) rfl rfl hl rfl (Nat.le_of_ble_eq_true rfl) dX4_nextBehind_16 ⟨Nat.zero_le _, Nat.zero_le _⟩ (fun H locs hP hS => ?_)
      refine lv_iload_n hx hb dX4_nextBehind_19 rfl (lv_at hl 1 rfl) ?_
      refine lv_icmp_le (tgt := 39) hx hb dX4_nextBehind_20 (by decide) (fun h => ?_) (fun h => ?_)
      · rw [if_pos h] at hf
        refine lv_iconst (v := 0) hx hb dX4_nextBehind_39 (by decide) ?_
        exact zt_X4_nextBehind_40 C hr _ ih _ _ _ _ _ _ _ _ _ hf hP hS (lv_sub hl [0, 1, 2, 3] rfl)
      · rw [if_neg h] at hf
        refine lv_aload_n hx hb dX4_nextBehind_23 rfl (lv_at hl 0 rfl) ?_
        refine zz_getf C zi_X4_nextBehind_X4 hP 6 rfl rfl 0 (nm := "rows") (ds := "LThirteenthDay$Table;") (fin := true) rfl (by decide) zk_X4_nextBehind_16 rfl dX4_nextBehind_24 ?_
        refine lv_iload_n hx hb dX4_nextBehind_27 rfl (lv_at hl 3 rfl) ?_
        refine lv_iconst (v := 2) hx hb dX4_nextBehind_28 (by decide) ?_
        refine zz_callVi C (As := [.int v3, .int 2]) (rest := []) (zc_X5_get 18 (by decide) _ _ _) (cwV 2 hts gX4_nextBehind_X5_get rfl rfl rfl zd_X5_get ⟨Nat.le_of_ble_eq_true rfl, Nat.le_of_ble_eq_true rfl⟩) hP hS (9 + 18) (zz_c_tab (by decide)) rfl rfl hl rfl (Nat.le_of_ble_eq_true rfl) dX4_nextBehind_29 ⟨Nat.zero_le _, Nat.zero_le _⟩ (fun H locs hP hS => ?_)
        refine lv_if_ne (tgt := 39) hx hb dX4_nextBehind_32 (by decide) (fun h => ?_) (fun h => ?_)
        · rw [if_neg h] at hf
          refine lv_iconst (v := 0) hx hb dX4_nextBehind_39 (by decide) ?_
          exact zt_X4_nextBehind_40 C hr _ ih _ _ _ _ _ _ _ _ _ hf hP hS (lv_sub hl [0, 1, 2, 3] rfl)
        · rw [if_pos h] at hf
          refine lv_iconst (v := 1) hx hb dX4_nextBehind_35 (by decide) ?_
          refine lv_goto (tgt := 40) hx hb dX4_nextBehind_36 (by decide) ?_
          exact zt_X4_nextBehind_40 C hr _ ih _ _ _ _ _ _ _ _ _ hf hP hS (lv_sub hl [0, 1, 2, 3] rfl)
def zX4_nextBehind (v1 : Int32) (st : zz_T) : Option Int32 :=
  zX4_nextBehind_4 zz_N v1 (-1) 0 st
set_option maxHeartbeats 4000000 in
set_option maxRecDepth 100000 in
theorem zc_X4_nextBehind {l : Launch} {A : Nat → Prop} {D : va_G} {cI : ClassId} {q : Nat → Nat} (v1 : Int32) (st : zz_T) (r : Int32) (hf : zX4_nextBehind v1 st = some r) : zz_Mi l A D cI q yX4_nextBehind wsX4_nextBehind zr_X4_nextBehind [.ref (q 6), .int v1] st r st := by
  refine zz_of (cc := cX4_nextBehind) (nL := 5) (ret := some .int) (by decide) rfl (Nat.le_of_ble_eq_true rfl) ?_
  intro p e s m args below meth c ls C hr hP hS hl
  obtain ⟨hx, hb, hml, hown, hts⟩ := id C.1
  have hl : lv_has ls 5 [(0, .ref (q 6)), (1, .int v1)] := hl
  rw [zX4_nextBehind] at hf
  skip
  refine lv_iconst (v := (-1)) hx hb dX4_nextBehind_0 (by decide) ?_
  refine lv_istore_n (lv' := [(2, .int (-1)), (0, .ref (q 6)), (1, .int v1)]) hx hb dX4_nextBehind_1 rfl hl (by decide) rfl (fun ls hl => ?_)
  refine lv_iconst (v := 0) hx hb dX4_nextBehind_2 (by decide) ?_
  refine lv_istore_n (lv' := [(3, .int 0), (2, .int (-1)), (0, .ref (q 6)), (1, .int v1)]) hx hb dX4_nextBehind_3 rfl hl (by decide) rfl (fun ls hl => ?_)
  exact zt_X4_nextBehind_4 C hr zz_N _ _ _ _ _ _ _ _ hf hP hS (lv_sub hl [2, 3, 1, 0] rfl)
/-! X4_send TW -/
theorem zd_X4_send : yX4_send.cls = RX4 ∧ yX4_send.cls ≠ "java/lang/invoke/MethodHandle" ∧ yX4_send.cls ≠ "java/lang/invoke/VarHandle" ∧ (parseMethodDescriptor yX4_send.desc).map (fun d => d.parameters.length) = some 2 := by decide +kernel
abbrev zr_X4_send : Room := { frames := 1, cells := 0, slots := 0, locals := 24 }
theorem zk_X4_send_20 : Cond.fieldLink yX4_send.cls 20 RX4 "sentEver" "I" ∈ wsX4_send := by decide +kernel
theorem zk_X4_send_16 : Cond.fieldLink yX4_send.cls 16 RX4 "rows" "LThirteenthDay$Table;" ∈ wsX4_send := by decide +kernel
theorem zi_X4_send_X4 : ∀ w ∈ u_ws RX4 TX4 2, w ∈ wsX4_send := by decide +kernel
def zX4_send (v1 : Int32) (v2 : Int32) (st : zz_T) : zz_T :=
  zz_v (zz_S 6 ((st.2 6) + 1) st) fun st1 =>
  zz_v (zz_set 18 v1 0 (st1.2 6) st1) fun st3 =>
  zz_v (zz_set 18 v1 1 v2 st3) fun st5 =>
  zz_v (zz_set 18 v1 2 0 st5) fun st7 =>
  st7
set_option maxHeartbeats 4000000 in
set_option maxRecDepth 100000 in
theorem zc_X4_send {l : Launch} {A : Nat → Prop} {D : va_G} {cI : ClassId} {q : Nat → Nat} (v1 : Int32) (v2 : Int32) (st : zz_T) : zz_Mv l A D cI q yX4_send wsX4_send zr_X4_send [.ref (q 6), .int v1, .int v2] st (zX4_send v1 v2 st) := by
  refine zz_of (cc := cX4_send) (nL := 3) (ret := none) (by decide) rfl (Nat.le_of_ble_eq_true rfl) ?_
  intro p e s m args below meth c ls C hr hP hS hl
  obtain ⟨hx, hb, hml, hown, hts⟩ := id C.1
  have hl : lv_has ls 3 [(0, .ref (q 6)), (1, .int v1), (2, .int v2)] := hl
  obtain ⟨r, hf⟩ : ∃ r, zX4_send v1 v2 st = r := ⟨_, rfl⟩
  rw [hf]
  rw [zX4_send] at hf
  skip
  refine lv_aload_n hx hb dX4_send_0 rfl (lv_at hl 0 rfl) ?_
  refine lv_dup hx hb dX4_send_1 rfl ?_
  refine zz_getf C zi_X4_send_X4 hP 6 rfl rfl 1 (nm := "sentEver") (ds := "I") (fin := false) rfl (by decide) zk_X4_send_20 rfl dX4_send_2 ?_
  refine lv_iconst (v := 1) hx hb dX4_send_5 (by decide) ?_
  refine lv_iadd hx hb dX4_send_6 ?_
  obtain ⟨st1, e2, hf⟩ := zz_vo hf
  refine zz_putf (st' := st1) C zi_X4_send_X4 tyX4 tyX4_ok nmX4 hP hS 6 rfl rfl 1 (nm := "sentEver") rfl (by decide) zk_X4_send_20 (Nat.le_of_ble_eq_true rfl) (by rw [← e2]; rfl) dX4_send_7 (fun H locs hP hS => ?_)
  refine lv_aload_n hx hb dX4_send_10 rfl (lv_at hl 0 rfl) ?_
  refine zz_getf C zi_X4_send_X4 hP 6 rfl rfl 0 (nm := "rows") (ds := "LThirteenthDay$Table;") (fin := true) rfl (by decide) zk_X4_send_16 rfl dX4_send_11 ?_
  refine lv_iload_n hx hb dX4_send_14 rfl (lv_at hl 1 rfl) ?_
  refine lv_iconst (v := 0) hx hb dX4_send_15 (by decide) ?_
  refine lv_aload_n hx hb dX4_send_16 rfl (lv_at hl 0 rfl) ?_
  refine zz_getf C zi_X4_send_X4 hP 6 rfl rfl 1 (nm := "sentEver") (ds := "I") (fin := false) rfl (by decide) zk_X4_send_20 rfl dX4_send_17 ?_
  obtain ⟨st3, e4, hf⟩ := zz_vo hf
  refine zz_callVv C (As := [.int v1, .int 0, .int (st1.2 6)]) (rest := []) (zz_Mv_e e4 (zc_X5_set 18 (by decide) _ _ _ _)) (cwV 3 hts gX4_send_X5_set rfl rfl rfl zd_X5_set ⟨Nat.le_of_ble_eq_true rfl, Nat.le_of_ble_eq_true rfl⟩) hP hS (9 + 18) (zz_c_tab (by decide)) rfl rfl hl rfl (Nat.le_of_ble_eq_true rfl) dX4_send_20 ⟨Nat.zero_le _, Nat.zero_le _⟩ (fun H locs hP hS => ?_)
  refine lv_aload_n hx hb dX4_send_23 rfl (lv_at hl 0 rfl) ?_
  refine zz_getf C zi_X4_send_X4 hP 6 rfl rfl 0 (nm := "rows") (ds := "LThirteenthDay$Table;") (fin := true) rfl (by decide) zk_X4_send_16 rfl dX4_send_24 ?_
  refine lv_iload_n hx hb dX4_send_27 rfl (lv_at hl 1 rfl) ?_
  refine lv_iconst (v := 1) hx hb dX4_send_28 (by decide) ?_
  refine lv_iload_n hx hb dX4_send_29 rfl (lv_at hl 2 rfl) ?_
  obtain ⟨st5, e6, hf⟩ := zz_vo hf
  refine zz_callVv C (As := [.int v1, .int 1, .int v2]) (rest := []) (zz_Mv_e e6 (zc_X5_set 18 (by decide) _ _ _ _)) (cwV 3 hts gX4_send_X5_set rfl rfl rfl zd_X5_set ⟨Nat.le_of_ble_eq_true rfl, Nat.le_of_ble_eq_true rfl⟩) hP hS (9 + 18) (zz_c_tab (by decide)) rfl rfl hl rfl (Nat.le_of_ble_eq_true rfl) dX4_send_30 ⟨Nat.zero_le _, Nat.zero_le _⟩ (fun H locs hP hS => ?_)
  refine lv_aload_n hx hb dX4_send_33 rfl (lv_at hl 0 rfl) ?_
  refine zz_getf C zi_X4_send_X4 hP 6 rfl rfl 0 (nm := "rows") (ds := "LThirteenthDay$Table;") (fin := true) rfl (by decide) zk_X4_send_16 rfl dX4_send_34 ?_
  refine lv_iload_n hx hb dX4_send_37 rfl (lv_at hl 1 rfl) ?_
  refine lv_iconst (v := 2) hx hb dX4_send_38 (by decide) ?_
  refine lv_iconst (v := 0) hx hb dX4_send_39 (by decide) ?_
  obtain ⟨st7, e8, hf⟩ := zz_vo hf
  refine zz_callVv C (As := [.int v1, .int 2, .int 0]) (rest := []) (zz_Mv_e e8 (zc_X5_set 18 (by decide) _ _ _ _)) (cwV 3 hts gX4_send_X5_set rfl rfl rfl zd_X5_set ⟨Nat.le_of_ble_eq_true rfl, Nat.le_of_ble_eq_true rfl⟩) hP hS (9 + 18) (zz_c_tab (by decide)) rfl rfl hl rfl (Nat.le_of_ble_eq_true rfl) dX4_send_40 ⟨Nat.zero_le _, Nat.zero_le _⟩ (fun H locs hP hS => ?_)
  rw [← hf]
  exact zz_retv C hr hP hS dX4_send_43
/-! X6_add TW -/
theorem zd_X6_add : yX6_add.cls = RX6 ∧ yX6_add.cls ≠ "java/lang/invoke/MethodHandle" ∧ yX6_add.cls ≠ "java/lang/invoke/VarHandle" ∧ (parseMethodDescriptor yX6_add.desc).map (fun d => d.parameters.length) = some 3 := by decide +kernel
abbrev zr_X6_add : Room := { frames := 1, cells := 0, slots := 0, locals := 24 }
theorem zk_X6_add_16 : Cond.fieldLink yX6_add.cls 16 RX6 "trains" "LThirteenthDay$Table;" ∈ wsX6_add := by decide +kernel
theorem zi_X6_add_X6 : ∀ w ∈ u_ws RX6 TX6 3, w ∈ wsX6_add := by decide +kernel
def zX6_add (v1 : Int32) (v2 : Int32) (v3 : Int32) (st : zz_T) : zz_T :=
  zz_v (zz_add 16 v1 v2 v3 st) fun st1 =>
  st1
set_option maxHeartbeats 4000000 in
set_option maxRecDepth 100000 in
theorem zc_X6_add {l : Launch} {A : Nat → Prop} {D : va_G} {cI : ClassId} {q : Nat → Nat} (v1 : Int32) (v2 : Int32) (v3 : Int32) (st : zz_T) : zz_Mv l A D cI q yX6_add wsX6_add zr_X6_add [.ref (q 5), .int v1, .int v2, .int v3] st (zX6_add v1 v2 v3 st) := by
  refine zz_of (cc := cX6_add) (nL := 4) (ret := none) (by decide) rfl (Nat.le_of_ble_eq_true rfl) ?_
  intro p e s m args below meth c ls C hr hP hS hl
  obtain ⟨hx, hb, hml, hown, hts⟩ := id C.1
  have hl : lv_has ls 4 [(0, .ref (q 5)), (1, .int v1), (2, .int v2), (3, .int v3)] := hl
  obtain ⟨r, hf⟩ : ∃ r, zX6_add v1 v2 v3 st = r := ⟨_, rfl⟩
  rw [hf]
  rw [zX6_add] at hf
  skip
  refine lv_aload_n hx hb dX6_add_0 rfl (lv_at hl 0 rfl) ?_
  refine zz_getf C zi_X6_add_X6 hP 5 rfl rfl 0 (nm := "trains") (ds := "LThirteenthDay$Table;") (fin := true) rfl (by decide) zk_X6_add_16 rfl dX6_add_1 ?_
  refine lv_iload_n hx hb dX6_add_4 rfl (lv_at hl 1 rfl) ?_
  refine lv_iload_n hx hb dX6_add_5 rfl (lv_at hl 2 rfl) ?_
  refine lv_iload_n hx hb dX6_add_6 rfl (lv_at hl 3 rfl) ?_
  obtain ⟨st1, e2, hf⟩ := zz_vo hf
  refine zz_callVv C (As := [.int v1, .int v2, .int v3]) (rest := []) (zz_Mv_e e2 (zc_X5_add 16 (by decide) _ _ _ _)) (cwV 3 hts gX6_add_X5_add rfl rfl rfl zd_X5_add ⟨Nat.le_of_ble_eq_true rfl, Nat.le_of_ble_eq_true rfl⟩) hP hS (9 + 16) (zz_c_tab (by decide)) rfl rfl hl rfl (Nat.le_of_ble_eq_true rfl) dX6_add_7 ⟨Nat.zero_le _, Nat.zero_le _⟩ (fun H locs hP hS => ?_)
  rw [← hf]
  exact zz_retv C hr hP hS dX6_add_10
/-! X6_arrive TW -/
theorem zd_X6_arrive : yX6_arrive.cls = RX6 ∧ yX6_arrive.cls ≠ "java/lang/invoke/MethodHandle" ∧ yX6_arrive.cls ≠ "java/lang/invoke/VarHandle" ∧ (parseMethodDescriptor yX6_arrive.desc).map (fun d => d.parameters.length) = some 3 := by decide +kernel
abbrev zr_X6_arrive : Room := { frames := 2, cells := 0, slots := 0, locals := 46 }
theorem zk_X6_arrive_16 : Cond.fieldLink yX6_arrive.cls 16 RX6 "trains" "LThirteenthDay$Table;" ∈ wsX6_arrive := by decide +kernel
theorem zi_X6_arrive_X6 : ∀ w ∈ u_ws RX6 TX6 3, w ∈ wsX6_arrive := by decide +kernel
def zX6_arrive_21 (v1 : Int32) (v2 : Int32) (k1 : Int32) (k2 : Bool) (st : zz_T) : zz_T :=
  zz_v (zX1_endOf k1 k2 st) fun w1 =>
  zz_v (zX1_addThrough v2 st) fun st2 =>
  zz_v (zz_set 16 v1 2 0 st2) fun st4 =>
  zz_v (zz_set 16 v1 3 w1 st4) fun st6 =>
  zz_v (zz_set 16 v1 4 (-1) st6) fun st8 =>
  if (zX1_getStation w1 3 st8) = 1 then
    if (zz_g 16 v1 8 st8) < 4 then
      st8
    else
      zz_v (zz_set 16 v1 6 2 st8) fun st10 =>
      zz_v (zz_set 16 v1 8 0 st10) fun st12 =>
      st12
  else
    st8
set_option maxHeartbeats 4000000 in
set_option maxRecDepth 100000 in
theorem zt_X6_arrive_21 {l : Launch} {A : Nat → Prop} {D : va_G} {cI : ClassId} {q : Nat → Nat} {p : Program} {e : Env} {s : State} {m : MethodId} {args : Array Value} {below : List Frame} {meth : Method} {c : Code} (C : zz_C A D cI q p s m args meth c cX6_arrive 5 wsX6_arrive yX6_arrive.cls) (hr : meth.sig.returnType = none) : ∀ (v1 : Int32) (v2 : Int32) (k1 : Int32) (k2 : Bool) (st : zz_T) (H : Heap) (locs : List Loc) (ls : Array Slot) (r : zz_T), zX6_arrive_21 v1 v2 k1 k2 st = r → va_P D vwCl (zz_c q cI st) H → va_S A s.heap H locs → lv_has ls 5 [(0, .ref (q 5)), (1, .int v1), (2, .int v2), (3, .ref (q 1))] → W p l e zr_X6_arrive s m args below meth c H locs 0 0 (zz_Qv A D cI q r below args s) (F0 m 21 ls [.int (zz_b k2), .int k1, .ref (q 1)]) := by
  obtain ⟨hx, hb, hml, hown, hts⟩ := id C.1
  intro v1 v2 k1 k2 st H locs ls r hf hP hS hl
  rw [zX6_arrive_21] at hf
  refine zz_callVi C (As := [.int k1, .int (zz_b k2)]) (rest := []) (zc_X1_endOf _ k2 _) (cwV 2 hts gX6_arrive_X1_endOf rfl rfl rfl zd_X1_endOf ⟨Nat.le_of_ble_eq_true rfl, Nat.le_of_ble_eq_true rfl⟩) hP hS 1 rfl rfl rfl hl rfl (Nat.le_of_ble_eq_true rfl) dX6_arrive_21 ⟨Nat.zero_le _, Nat.zero_le _⟩ (fun H locs hP hS => ?_)
  refine lv_topi (fun w1 e1 => ?_)
  replace hf := zz_vi hf e1
  refine lv_istore (lv' := [(4, .int w1), (0, .ref (q 5)), (1, .int v1), (2, .int v2), (3, .ref (q 1))]) hx hb dX6_arrive_24 hl (by decide) rfl (fun ls hl => ?_)
  refine lv_aload_n hx hb dX6_arrive_26 rfl (lv_at hl 4 rfl) ?_
  refine lv_iload_n hx hb dX6_arrive_27 rfl (lv_at hl 3 rfl) ?_
  obtain ⟨st2, e3, hf⟩ := zz_vo hf
  refine zz_callVv C (As := [.int v2]) (rest := []) (zz_Mv_e e3 (zc_X1_addThrough _ _)) (cwV 1 hts gX6_arrive_X1_addThrough rfl rfl rfl zd_X1_addThrough ⟨Nat.le_of_ble_eq_true rfl, Nat.le_of_ble_eq_true rfl⟩) hP hS 1 rfl rfl rfl hl rfl (Nat.le_of_ble_eq_true rfl) dX6_arrive_28 ⟨Nat.zero_le _, Nat.zero_le _⟩ (fun H locs hP hS => ?_)
  refine lv_aload_n hx hb dX6_arrive_31 rfl (lv_at hl 1 rfl) ?_
  refine zz_getf C zi_X6_arrive_X6 hP 5 rfl rfl 0 (nm := "trains") (ds := "LThirteenthDay$Table;") (fin := true) rfl (by decide) zk_X6_arrive_16 rfl dX6_arrive_32 ?_
  refine lv_iload_n hx hb dX6_arrive_35 rfl (lv_at hl 2 rfl) ?_
  refine lv_iconst (v := 2) hx hb dX6_arrive_36 (by decide) ?_
  refine lv_iconst (v := 0) hx hb dX6_arrive_37 (by decide) ?_
  obtain ⟨st4, e5, hf⟩ := zz_vo hf
  refine zz_callVv C (As := [.int v1, .int 2, .int 0]) (rest := []) (zz_Mv_e e5 (zc_X5_set 16 (by decide) _ _ _ _)) (cwV 3 hts gX6_arrive_X5_set rfl rfl rfl zd_X5_set ⟨Nat.le_of_ble_eq_true rfl, Nat.le_of_ble_eq_true rfl⟩) hP hS (9 + 16) (zz_c_tab (by decide)) rfl rfl hl rfl (Nat.le_of_ble_eq_true rfl) dX6_arrive_38 ⟨Nat.zero_le _, Nat.zero_le _⟩ (fun H locs hP hS => ?_)
  refine lv_aload_n hx hb dX6_arrive_41 rfl (lv_at hl 1 rfl) ?_
  refine zz_getf C zi_X6_arrive_X6 hP 5 rfl rfl 0 (nm := "trains") (ds := "LThirteenthDay$Table;") (fin := true) rfl (by decide) zk_X6_arrive_16 rfl dX6_arrive_42 ?_
  refine lv_iload_n hx hb dX6_arrive_45 rfl (lv_at hl 2 rfl) ?_
  refine lv_iconst (v := 3) hx hb dX6_arrive_46 (by decide) ?_
  refine lv_iload hx hb dX6_arrive_47 (lv_at hl 0 rfl) ?_
  obtain ⟨st6, e7, hf⟩ := zz_vo hf
  refine zz_callVv C (As := [.int v1, .int 3, .int w1]) (rest := []) (zz_Mv_e e7 (zc_X5_set 16 (by decide) _ _ _ _)) (cwV 3 hts gX6_arrive_X5_set rfl rfl rfl zd_X5_set ⟨Nat.le_of_ble_eq_true rfl, Nat.le_of_ble_eq_true rfl⟩) hP hS (9 + 16) (zz_c_tab (by decide)) rfl rfl hl rfl (Nat.le_of_ble_eq_true rfl) dX6_arrive_49 ⟨Nat.zero_le _, Nat.zero_le _⟩ (fun H locs hP hS => ?_)
  refine lv_aload_n hx hb dX6_arrive_52 rfl (lv_at hl 1 rfl) ?_
  refine zz_getf C zi_X6_arrive_X6 hP 5 rfl rfl 0 (nm := "trains") (ds := "LThirteenthDay$Table;") (fin := true) rfl (by decide) zk_X6_arrive_16 rfl dX6_arrive_53 ?_
  refine lv_iload_n hx hb dX6_arrive_56 rfl (lv_at hl 2 rfl) ?_
  refine lv_iconst (v := 4) hx hb dX6_arrive_57 (by decide) ?_
  refine lv_iconst (v := (-1)) hx hb dX6_arrive_58 (by decide) ?_
  obtain ⟨st8, e9, hf⟩ := zz_vo hf
  refine zz_callVv C (As := [.int v1, .int 4, .int (-1)]) (rest := []) (zz_Mv_e e9 (zc_X5_set 16 (by decide) _ _ _ _)) (cwV 3 hts gX6_arrive_X5_set rfl rfl rfl zd_X5_set ⟨Nat.le_of_ble_eq_true rfl, Nat.le_of_ble_eq_true rfl⟩) hP hS (9 + 16) (zz_c_tab (by decide)) rfl rfl hl rfl (Nat.le_of_ble_eq_true rfl) dX6_arrive_59 ⟨Nat.zero_le _, Nat.zero_le _⟩ (fun H locs hP hS => ?_)
  refine lv_aload_n hx hb dX6_arrive_62 rfl (lv_at hl 4 rfl) ?_
  refine lv_iload hx hb dX6_arrive_63 (lv_at hl 0 rfl) ?_
  refine lv_iconst (v := 3) hx hb dX6_arrive_65 (by decide) ?_
  refine zz_callVi C (As := [.int w1, .int 3]) (rest := []) (zc_X1_getStation _ _ _) (cwV 2 hts gX6_arrive_X1_getStation rfl rfl rfl zd_X1_getStation ⟨Nat.le_of_ble_eq_true rfl, Nat.le_of_ble_eq_true rfl⟩) hP hS 1 rfl rfl rfl hl rfl (Nat.le_of_ble_eq_true rfl) dX6_arrive_66 ⟨Nat.zero_le _, Nat.zero_le _⟩ (fun H locs hP hS => ?_)
  refine lv_iconst (v := 1) hx hb dX6_arrive_69 (by decide) ?_
  refine lv_icmp_ne (tgt := 109) hx hb dX6_arrive_70 (by decide) (fun h => ?_) (fun h => ?_)
  · rw [if_neg h] at hf
    rw [← hf]
    exact zz_retv C hr hP hS dX6_arrive_109
  · rw [if_pos h] at hf
    refine lv_aload_n hx hb dX6_arrive_73 rfl (lv_at hl 1 rfl) ?_
    refine zz_getf C zi_X6_arrive_X6 hP 5 rfl rfl 0 (nm := "trains") (ds := "LThirteenthDay$Table;") (fin := true) rfl (by decide) zk_X6_arrive_16 rfl dX6_arrive_74 ?_
    refine lv_iload_n hx hb dX6_arrive_77 rfl (lv_at hl 2 rfl) ?_
    refine lv_bipush (v := 8) hx hb dX6_arrive_78 (by decide) ?_
    refine zz_callVi C (As := [.int v1, .int 8]) (rest := []) (zc_X5_get 16 (by decide) _ _ _) (cwV 2 hts gX6_arrive_X5_get rfl rfl rfl zd_X5_get ⟨Nat.le_of_ble_eq_true rfl, Nat.le_of_ble_eq_true rfl⟩) hP hS (9 + 16) (zz_c_tab (by decide)) rfl rfl hl rfl (Nat.le_of_ble_eq_true rfl) dX6_arrive_80 ⟨Nat.zero_le _, Nat.zero_le _⟩ (fun H locs hP hS => ?_)
    refine lv_iconst (v := 4) hx hb dX6_arrive_83 (by decide) ?_
    refine lv_icmp_lt (tgt := 109) hx hb dX6_arrive_84 (by decide) (fun h => ?_) (fun h => ?_)
    · rw [if_pos h] at hf
      rw [← hf]
      exact zz_retv C hr hP hS dX6_arrive_109
    · rw [if_neg h] at hf
      refine lv_aload_n hx hb dX6_arrive_87 rfl (lv_at hl 1 rfl) ?_
      refine zz_getf C zi_X6_arrive_X6 hP 5 rfl rfl 0 (nm := "trains") (ds := "LThirteenthDay$Table;") (fin := true) rfl (by decide) zk_X6_arrive_16 rfl dX6_arrive_88 ?_
      refine lv_iload_n hx hb dX6_arrive_91 rfl (lv_at hl 2 rfl) ?_
      refine lv_bipush (v := 6) hx hb dX6_arrive_92 (by decide) ?_
      refine lv_iconst (v := 2) hx hb dX6_arrive_94 (by decide) ?_
      obtain ⟨st10, e11, hf⟩ := zz_vo hf
      refine zz_callVv C (As := [.int v1, .int 6, .int 2]) (rest := []) (zz_Mv_e e11 (zc_X5_set 16 (by decide) _ _ _ _)) (cwV 3 hts gX6_arrive_X5_set rfl rfl rfl zd_X5_set ⟨Nat.le_of_ble_eq_true rfl, Nat.le_of_ble_eq_true rfl⟩) hP hS (9 + 16) (zz_c_tab (by decide)) rfl rfl hl rfl (Nat.le_of_ble_eq_true rfl) dX6_arrive_95 ⟨Nat.zero_le _, Nat.zero_le _⟩ (fun H locs hP hS => ?_)
      refine lv_aload_n hx hb dX6_arrive_98 rfl (lv_at hl 1 rfl) ?_
      refine zz_getf C zi_X6_arrive_X6 hP 5 rfl rfl 0 (nm := "trains") (ds := "LThirteenthDay$Table;") (fin := true) rfl (by decide) zk_X6_arrive_16 rfl dX6_arrive_99 ?_
      refine lv_iload_n hx hb dX6_arrive_102 rfl (lv_at hl 2 rfl) ?_
      refine lv_bipush (v := 8) hx hb dX6_arrive_103 (by decide) ?_
      refine lv_iconst (v := 0) hx hb dX6_arrive_105 (by decide) ?_
      obtain ⟨st12, e13, hf⟩ := zz_vo hf
      refine zz_callVv C (As := [.int v1, .int 8, .int 0]) (rest := []) (zz_Mv_e e13 (zc_X5_set 16 (by decide) _ _ _ _)) (cwV 3 hts gX6_arrive_X5_set rfl rfl rfl zd_X5_set ⟨Nat.le_of_ble_eq_true rfl, Nat.le_of_ble_eq_true rfl⟩) hP hS (9 + 16) (zz_c_tab (by decide)) rfl rfl hl rfl (Nat.le_of_ble_eq_true rfl) dX6_arrive_106 ⟨Nat.zero_le _, Nat.zero_le _⟩ (fun H locs hP hS => ?_)
      rw [← hf]
      exact zz_retv C hr hP hS dX6_arrive_109
def zX6_arrive (v1 : Int32) (v2 : Int32) (st : zz_T) : zz_T :=
  if (zz_g 16 v1 11 st) = 1 then
    zX6_arrive_21 v1 v2 v2 true st
  else
    zX6_arrive_21 v1 v2 v2 false st
set_option maxHeartbeats 4000000 in
set_option maxRecDepth 100000 in
theorem zc_X6_arrive {l : Launch} {A : Nat → Prop} {D : va_G} {cI : ClassId} {q : Nat → Nat} (v1 : Int32) (v2 : Int32) (st : zz_T) : zz_Mv l A D cI q yX6_arrive wsX6_arrive zr_X6_arrive [.ref (q 5), .int v1, .int v2, .ref (q 1)] st (zX6_arrive v1 v2 st) := by
  refine zz_of (cc := cX6_arrive) (nL := 5) (ret := none) (by decide) rfl (Nat.le_of_ble_eq_true rfl) ?_
  intro p e s m args below meth c ls C hr hP hS hl
  obtain ⟨hx, hb, hml, hown, hts⟩ := id C.1
  have hl : lv_has ls 5 [(0, .ref (q 5)), (1, .int v1), (2, .int v2), (3, .ref (q 1))] := hl
  obtain ⟨r, hf⟩ : ∃ r, zX6_arrive v1 v2 st = r := ⟨_, rfl⟩
  rw [hf]
  rw [zX6_arrive] at hf
  skip
  refine lv_aload_n hx hb dX6_arrive_0 rfl (lv_at hl 3 rfl) ?_
  refine lv_iload_n hx hb dX6_arrive_1 rfl (lv_at hl 2 rfl) ?_
  refine lv_aload_n hx hb dX6_arrive_2 rfl (lv_at hl 0 rfl) ?_
  refine zz_getf C zi_X6_arrive_X6 hP 5 rfl rfl 0 (nm := "trains") (ds := "LThirteenthDay$Table;") (fin := true) rfl (by decide) zk_X6_arrive_16 rfl dX6_arrive_3 ?_
  refine lv_iload_n hx hb dX6_arrive_6 rfl (lv_at hl 1 rfl) ?_
  refine lv_bipush (v := 11) hx hb dX6_arrive_7 (by decide) ?_
  refine zz_callVi C (As := [.int v1, .int 11]) (rest := [.int v2, .ref (q 1)]) (zc_X5_get 16 (by decide) _ _ _) (cwV 2 hts gX6_arrive_X5_get rfl rfl rfl zd_X5_get ⟨Nat.le_of_ble_eq_true rfl, Nat.le_of_ble_eq_true rfl⟩) hP hS (9 + 16) (zz_c_tab (by decide)) rfl rfl hl rfl (Nat.le_of_ble_eq_true rfl) dX6_arrive_9 ⟨Nat.zero_le _, Nat.zero_le _⟩ (fun H locs hP hS => ?_)
  refine lv_iconst (v := 1) hx hb dX6_arrive_12 (by decide) ?_
  refine lv_icmp_ne (tgt := 20) hx hb dX6_arrive_13 (by decide) (fun h => ?_) (fun h => ?_)
  · rw [if_neg h] at hf
    refine lv_iconst (v := 0) hx hb dX6_arrive_20 (by decide) ?_
    exact zt_X6_arrive_21 C hr _ _ _ _ _ _ _ _ _ hf hP hS (lv_sub hl [0, 1, 2, 3] rfl)
  · rw [if_pos h] at hf
    refine lv_iconst (v := 1) hx hb dX6_arrive_16 (by decide) ?_
    refine lv_goto (tgt := 21) hx hb dX6_arrive_17 (by decide) ?_
    exact zt_X6_arrive_21 C hr _ _ _ _ _ _ _ _ _ hf hP hS (lv_sub hl [0, 1, 2, 3] rfl)
/-! X6_enter TW -/
theorem zd_X6_enter : yX6_enter.cls = RX6 ∧ yX6_enter.cls ≠ "java/lang/invoke/MethodHandle" ∧ yX6_enter.cls ≠ "java/lang/invoke/VarHandle" ∧ (parseMethodDescriptor yX6_enter.desc).map (fun d => d.parameters.length) = some 4 := by decide +kernel
abbrev zr_X6_enter : Room := { frames := 2, cells := 0, slots := 0, locals := 46 }
theorem zk_X6_enter_16 : Cond.fieldLink yX6_enter.cls 16 RX6 "trains" "LThirteenthDay$Table;" ∈ wsX6_enter := by decide +kernel
theorem zi_X6_enter_X6 : ∀ w ∈ u_ws RX6 TX6 3, w ∈ wsX6_enter := by decide +kernel
def zX6_enter_29 (v1 : Int32) (v3 : Int32) (v5 : Int32) (k0 : Bool) (st : zz_T) : zz_T :=
  zz_v (zz_set 16 v1 4 v3 st) fun st2 =>
  if k0 = true then
    zz_v (zz_set 16 v1 5 (2 * v5) st2) fun st8 =>
    zz_v (zz_add 16 v1 8 1 st8) fun st10 =>
    st10
  else
    zz_v (zz_set 16 v1 5 v5 st2) fun st4 =>
    zz_v (zz_add 16 v1 8 1 st4) fun st6 =>
    st6
set_option maxHeartbeats 4000000 in
set_option maxRecDepth 100000 in
theorem zt_X6_enter_29 {l : Launch} {A : Nat → Prop} {D : va_G} {cI : ClassId} {q : Nat → Nat} {p : Program} {e : Env} {s : State} {m : MethodId} {args : Array Value} {below : List Frame} {meth : Method} {c : Code} (C : zz_C A D cI q p s m args meth c cX6_enter 7 wsX6_enter yX6_enter.cls) (hr : meth.sig.returnType = none) : ∀ (v1 : Int32) (v3 : Int32) (v5 : Int32) (k0 : Bool) (st : zz_T) (H : Heap) (locs : List Loc) (ls : Array Slot) (r : zz_T), zX6_enter_29 v1 v3 v5 k0 st = r → va_P D vwCl (zz_c q cI st) H → va_S A s.heap H locs → lv_has ls 7 [(0, .ref (q 5)), (1, .int v1), (3, .int v3), (5, .int v5)] → W p l e zr_X6_enter s m args below meth c H locs 0 0 (zz_Qv A D cI q r below args s) (F0 m 29 ls [.int (zz_b k0)]) := by
  obtain ⟨hx, hb, hml, hown, hts⟩ := id C.1
  intro v1 v3 v5 k0 st H locs ls r hf hP hS hl
  rw [zX6_enter_29] at hf
  refine lv_istore (lv' := [(6, .int (zz_b k0)), (0, .ref (q 5)), (1, .int v1), (3, .int v3), (5, .int v5)]) hx hb dX6_enter_29 hl (by decide) rfl (fun ls hl => ?_)
  refine lv_aload_n hx hb dX6_enter_31 rfl (lv_at hl 1 rfl) ?_
  refine zz_getf C zi_X6_enter_X6 hP 5 rfl rfl 0 (nm := "trains") (ds := "LThirteenthDay$Table;") (fin := true) rfl (by decide) zk_X6_enter_16 rfl dX6_enter_32 ?_
  refine lv_iload_n hx hb dX6_enter_35 rfl (lv_at hl 2 rfl) ?_
  refine lv_iconst (v := 4) hx hb dX6_enter_36 (by decide) ?_
  refine lv_iload_n hx hb dX6_enter_37 rfl (lv_at hl 3 rfl) ?_
  obtain ⟨st2, e3, hf⟩ := zz_vo hf
  refine zz_callVv C (As := [.int v1, .int 4, .int v3]) (rest := []) (zz_Mv_e e3 (zc_X5_set 16 (by decide) _ _ _ _)) (cwV 3 hts gX6_enter_X5_set rfl rfl rfl zd_X5_set ⟨Nat.le_of_ble_eq_true rfl, Nat.le_of_ble_eq_true rfl⟩) hP hS (9 + 16) (zz_c_tab (by decide)) rfl rfl hl rfl (Nat.le_of_ble_eq_true rfl) dX6_enter_38 ⟨Nat.zero_le _, Nat.zero_le _⟩ (fun H locs hP hS => ?_)
  refine lv_aload_n hx hb dX6_enter_41 rfl (lv_at hl 1 rfl) ?_
  refine zz_getf C zi_X6_enter_X6 hP 5 rfl rfl 0 (nm := "trains") (ds := "LThirteenthDay$Table;") (fin := true) rfl (by decide) zk_X6_enter_16 rfl dX6_enter_42 ?_
  refine lv_iload_n hx hb dX6_enter_45 rfl (lv_at hl 2 rfl) ?_
  refine lv_iconst (v := 5) hx hb dX6_enter_46 (by decide) ?_
  refine lv_iload hx hb dX6_enter_47 (lv_at hl 0 rfl) ?_
  refine lv_if_eq (tgt := 59) hx hb dX6_enter_49 (by decide) (fun h => ?_) (fun h => ?_)
  · rw [zz_if0 (zz_b0 h)] at hf
    refine lv_iload hx hb dX6_enter_59 (lv_at hl 4 rfl) ?_
    obtain ⟨st4, e5, hf⟩ := zz_vo hf
    refine zz_callVv C (As := [.int v1, .int 5, .int v5]) (rest := []) (zz_Mv_e e5 (zc_X5_set 16 (by decide) _ _ _ _)) (cwV 3 hts gX6_enter_X5_set rfl rfl rfl zd_X5_set ⟨Nat.le_of_ble_eq_true rfl, Nat.le_of_ble_eq_true rfl⟩) hP hS (9 + 16) (zz_c_tab (by decide)) rfl rfl hl rfl (Nat.le_of_ble_eq_true rfl) dX6_enter_61 ⟨Nat.zero_le _, Nat.zero_le _⟩ (fun H locs hP hS => ?_)
    refine lv_aload_n hx hb dX6_enter_64 rfl (lv_at hl 1 rfl) ?_
    refine zz_getf C zi_X6_enter_X6 hP 5 rfl rfl 0 (nm := "trains") (ds := "LThirteenthDay$Table;") (fin := true) rfl (by decide) zk_X6_enter_16 rfl dX6_enter_65 ?_
    refine lv_iload_n hx hb dX6_enter_68 rfl (lv_at hl 2 rfl) ?_
    refine lv_bipush (v := 8) hx hb dX6_enter_69 (by decide) ?_
    refine lv_iconst (v := 1) hx hb dX6_enter_71 (by decide) ?_
    obtain ⟨st6, e7, hf⟩ := zz_vo hf
    refine zz_callVv C (As := [.int v1, .int 8, .int 1]) (rest := []) (zz_Mv_e e7 (zc_X5_add 16 (by decide) _ _ _ _)) (cwV 3 hts gX6_enter_X5_add rfl rfl rfl zd_X5_add ⟨Nat.le_of_ble_eq_true rfl, Nat.le_of_ble_eq_true rfl⟩) hP hS (9 + 16) (zz_c_tab (by decide)) rfl rfl hl rfl (Nat.le_of_ble_eq_true rfl) dX6_enter_72 ⟨Nat.zero_le _, Nat.zero_le _⟩ (fun H locs hP hS => ?_)
    rw [← hf]
    exact zz_retv C hr hP hS dX6_enter_75
  · rw [zz_if1 (zz_b1 h)] at hf
    refine lv_iconst (v := 2) hx hb dX6_enter_52 (by decide) ?_
    refine lv_iload hx hb dX6_enter_53 (lv_at hl 4 rfl) ?_
    refine lv_imul hx hb dX6_enter_55 ?_
    refine lv_goto (tgt := 61) hx hb dX6_enter_56 (by decide) ?_
    obtain ⟨st8, e9, hf⟩ := zz_vo hf
    refine zz_callVv C (As := [.int v1, .int 5, .int (2 * v5)]) (rest := []) (zz_Mv_e e9 (zc_X5_set 16 (by decide) _ _ _ _)) (cwV 3 hts gX6_enter_X5_set rfl rfl rfl zd_X5_set ⟨Nat.le_of_ble_eq_true rfl, Nat.le_of_ble_eq_true rfl⟩) hP hS (9 + 16) (zz_c_tab (by decide)) rfl rfl hl rfl (Nat.le_of_ble_eq_true rfl) dX6_enter_61 ⟨Nat.zero_le _, Nat.zero_le _⟩ (fun H locs hP hS => ?_)
    refine lv_aload_n hx hb dX6_enter_64 rfl (lv_at hl 1 rfl) ?_
    refine zz_getf C zi_X6_enter_X6 hP 5 rfl rfl 0 (nm := "trains") (ds := "LThirteenthDay$Table;") (fin := true) rfl (by decide) zk_X6_enter_16 rfl dX6_enter_65 ?_
    refine lv_iload_n hx hb dX6_enter_68 rfl (lv_at hl 2 rfl) ?_
    refine lv_bipush (v := 8) hx hb dX6_enter_69 (by decide) ?_
    refine lv_iconst (v := 1) hx hb dX6_enter_71 (by decide) ?_
    obtain ⟨st10, e11, hf⟩ := zz_vo hf
    refine zz_callVv C (As := [.int v1, .int 8, .int 1]) (rest := []) (zz_Mv_e e11 (zc_X5_add 16 (by decide) _ _ _ _)) (cwV 3 hts gX6_enter_X5_add rfl rfl rfl zd_X5_add ⟨Nat.le_of_ble_eq_true rfl, Nat.le_of_ble_eq_true rfl⟩) hP hS (9 + 16) (zz_c_tab (by decide)) rfl rfl hl rfl (Nat.le_of_ble_eq_true rfl) dX6_enter_72 ⟨Nat.zero_le _, Nat.zero_le _⟩ (fun H locs hP hS => ?_)
    rw [← hf]
    exact zz_retv C hr hP hS dX6_enter_75
def zX6_enter (v1 : Int32) (v2 : Int32) (v3 : Int32) (st : zz_T) : zz_T :=
  zz_v (zX1_getLine v2 3 st) fun w1 =>
  if (zz_g 16 v1 8 st) < 12 then
    zX6_enter_29 v1 v3 w1 false st
  else
    zX6_enter_29 v1 v3 w1 true st
set_option maxHeartbeats 4000000 in
set_option maxRecDepth 100000 in
theorem zc_X6_enter {l : Launch} {A : Nat → Prop} {D : va_G} {cI : ClassId} {q : Nat → Nat} (v1 : Int32) (v2 : Int32) (v3 : Int32) (st : zz_T) : zz_Mv l A D cI q yX6_enter wsX6_enter zr_X6_enter [.ref (q 5), .int v1, .int v2, .int v3, .ref (q 1)] st (zX6_enter v1 v2 v3 st) := by
  refine zz_of (cc := cX6_enter) (nL := 7) (ret := none) (by decide) rfl (Nat.le_of_ble_eq_true rfl) ?_
  intro p e s m args below meth c ls C hr hP hS hl
  obtain ⟨hx, hb, hml, hown, hts⟩ := id C.1
  have hl : lv_has ls 7 [(0, .ref (q 5)), (1, .int v1), (2, .int v2), (3, .int v3), (4, .ref (q 1))] := hl
  obtain ⟨r, hf⟩ : ∃ r, zX6_enter v1 v2 v3 st = r := ⟨_, rfl⟩
  rw [hf]
  rw [zX6_enter] at hf
  skip
  refine lv_aload hx hb dX6_enter_0 (lv_at hl 4 rfl) ?_
  refine lv_iload_n hx hb dX6_enter_2 rfl (lv_at hl 2 rfl) ?_
  refine lv_iconst (v := 3) hx hb dX6_enter_3 (by decide) ?_
  refine zz_callVi C (As := [.int v2, .int 3]) (rest := []) (zc_X1_getLine _ _ _) (cwV 2 hts gX6_enter_X1_getLine rfl rfl rfl zd_X1_getLine ⟨Nat.le_of_ble_eq_true rfl, Nat.le_of_ble_eq_true rfl⟩) hP hS 1 rfl rfl rfl hl rfl (Nat.le_of_ble_eq_true rfl) dX6_enter_4 ⟨Nat.zero_le _, Nat.zero_le _⟩ (fun H locs hP hS => ?_)
  refine lv_topi (fun w1 e1 => ?_)
  replace hf := zz_vi hf e1
  refine lv_istore (lv' := [(5, .int w1), (0, .ref (q 5)), (1, .int v1), (2, .int v2), (3, .int v3), (4, .ref (q 1))]) hx hb dX6_enter_7 hl (by decide) rfl (fun ls hl => ?_)
  refine lv_aload_n hx hb dX6_enter_9 rfl (lv_at hl 1 rfl) ?_
  refine zz_getf C zi_X6_enter_X6 hP 5 rfl rfl 0 (nm := "trains") (ds := "LThirteenthDay$Table;") (fin := true) rfl (by decide) zk_X6_enter_16 rfl dX6_enter_10 ?_
  refine lv_iload_n hx hb dX6_enter_13 rfl (lv_at hl 2 rfl) ?_
  refine lv_bipush (v := 8) hx hb dX6_enter_14 (by decide) ?_
  refine zz_callVi C (As := [.int v1, .int 8]) (rest := []) (zc_X5_get 16 (by decide) _ _ _) (cwV 2 hts gX6_enter_X5_get rfl rfl rfl zd_X5_get ⟨Nat.le_of_ble_eq_true rfl, Nat.le_of_ble_eq_true rfl⟩) hP hS (9 + 16) (zz_c_tab (by decide)) rfl rfl hl rfl (Nat.le_of_ble_eq_true rfl) dX6_enter_16 ⟨Nat.zero_le _, Nat.zero_le _⟩ (fun H locs hP hS => ?_)
  refine lv_bipush (v := 12) hx hb dX6_enter_19 (by decide) ?_
  refine lv_icmp_lt (tgt := 28) hx hb dX6_enter_21 (by decide) (fun h => ?_) (fun h => ?_)
  · rw [if_pos h] at hf
    refine lv_iconst (v := 0) hx hb dX6_enter_28 (by decide) ?_
    exact zt_X6_enter_29 C hr _ _ _ _ _ _ _ _ _ hf hP hS (lv_sub hl [1, 2, 4, 0] rfl)
  · rw [if_neg h] at hf
    refine lv_iconst (v := 1) hx hb dX6_enter_24 (by decide) ?_
    refine lv_goto (tgt := 29) hx hb dX6_enter_25 (by decide) ?_
    exact zt_X6_enter_29 C hr _ _ _ _ _ _ _ _ _ hf hP hS (lv_sub hl [1, 2, 4, 0] rfl)
/-! X6_hasFor PR -/
theorem zd_X6_hasFor : yX6_hasFor.cls = RX6 ∧ yX6_hasFor.cls ≠ "java/lang/invoke/MethodHandle" ∧ yX6_hasFor.cls ≠ "java/lang/invoke/VarHandle" ∧ (parseMethodDescriptor yX6_hasFor.desc).map (fun d => d.parameters.length) = some 1 := by decide +kernel
abbrev zr_X6_hasFor : Room := { frames := 1, cells := 0, slots := 0, locals := 24 }
theorem zk_X6_hasFor_23 : Cond.fieldLink yX6_hasFor.cls 23 RX6 "trainCount" "I" ∈ wsX6_hasFor := by decide +kernel
theorem zk_X6_hasFor_16 : Cond.fieldLink yX6_hasFor.cls 16 RX6 "trains" "LThirteenthDay$Table;" ∈ wsX6_hasFor := by decide +kernel
theorem zi_X6_hasFor_X6 : ∀ w ∈ u_ws RX6 TX6 3, w ∈ wsX6_hasFor := by decide +kernel
def zX6_hasFor_2 : Nat → Int32 → Int32 → zz_T → Option Bool
  | 0, _, _, _ => none
  | n + 1, v1, v2, st =>
    if (st.2 5) ≤ v2 then
      some false
    else
      if (zz_g 16 v2 10 st) = v1 then
        if (zz_g 16 v2 2 st) = 3 then
          zX6_hasFor_2 n v1 (v2 + 1) st
        else
          some true
      else
        zX6_hasFor_2 n v1 (v2 + 1) st
set_option maxHeartbeats 4000000 in
set_option maxRecDepth 100000 in
theorem zt_X6_hasFor_2 {l : Launch} {A : Nat → Prop} {D : va_G} {cI : ClassId} {q : Nat → Nat} {p : Program} {e : Env} {s : State} {m : MethodId} {args : Array Value} {below : List Frame} {meth : Method} {c : Code} (C : zz_C A D cI q p s m args meth c cX6_hasFor 3 wsX6_hasFor yX6_hasFor.cls) (hr : meth.sig.returnType = some .boolean) : ∀ (n : Nat) (v1 : Int32) (v2 : Int32) (st : zz_T) (H : Heap) (locs : List Loc) (ls : Array Slot) (r : Bool), zX6_hasFor_2 n v1 v2 st = some r → va_P D vwCl (zz_c q cI st) H → va_S A s.heap H locs → lv_has ls 3 [(0, .ref (q 5)), (1, .int v1), (2, .int v2)] → W p l e zr_X6_hasFor s m args below meth c H locs 0 0 (zz_Qi A D cI q (zz_b r) st below args s) (F0 m 2 ls []) := by
  obtain ⟨hx, hb, hml, hown, hts⟩ := id C.1
  intro n
  induction n with
  | zero => intro v1 v2 st H locs ls r hf; cases hf
  | succ n ih =>
    intro v1 v2 st H locs ls r hf hP hS hl
    rw [zX6_hasFor_2] at hf
    refine lv_iload_n hx hb dX6_hasFor_2 rfl (lv_at hl 2 rfl) ?_
    refine lv_aload_n hx hb dX6_hasFor_3 rfl (lv_at hl 0 rfl) ?_
    refine zz_getf C zi_X6_hasFor_X6 hP 5 rfl rfl 2 (nm := "trainCount") (ds := "I") (fin := false) rfl (by decide) zk_X6_hasFor_23 rfl dX6_hasFor_4 ?_
    refine lv_icmp_ge (tgt := 45) hx hb dX6_hasFor_7 (by decide) (fun h => ?_) (fun h => ?_)
    · rw [if_pos h] at hf
      refine lv_iconst (v := 0) hx hb dX6_hasFor_45 (by decide) ?_
      rw [← (Option.some.inj hf)]
      exact zz_retz (v := false) C hr hP hS dX6_hasFor_46
    · rw [if_neg h] at hf
      refine lv_aload_n hx hb dX6_hasFor_10 rfl (lv_at hl 0 rfl) ?_
      refine zz_getf C zi_X6_hasFor_X6 hP 5 rfl rfl 0 (nm := "trains") (ds := "LThirteenthDay$Table;") (fin := true) rfl (by decide) zk_X6_hasFor_16 rfl dX6_hasFor_11 ?_
      refine lv_iload_n hx hb dX6_hasFor_14 rfl (lv_at hl 2 rfl) ?_
      refine lv_bipush (v := 10) hx hb dX6_hasFor_15 (by decide) ?_
      refine zz_callVi C (As := [.int v2, .int 10]) (rest := []) (zc_X5_get 16 (by decide) _ _ _) (cwV 2 hts gX6_hasFor_X5_get rfl rfl rfl zd_X5_get ⟨Nat.le_of_ble_eq_true rfl, Nat.le_of_ble_eq_true rfl⟩) hP hS (9 + 16) (zz_c_tab (by decide)) rfl rfl hl rfl (Nat.le_of_ble_eq_true rfl) dX6_hasFor_17 ⟨Nat.zero_le _, Nat.zero_le _⟩ (fun H locs hP hS => ?_)
      refine lv_iload_n hx hb dX6_hasFor_20 rfl (lv_at hl 1 rfl) ?_
      refine lv_icmp_ne (tgt := 39) hx hb dX6_hasFor_21 (by decide) (fun h => ?_) (fun h => ?_)
      · rw [if_neg h] at hf
        refine lv_iinc (v := (v2 + 1)) (lv' := [(2, .int (v2 + 1)), (0, .ref (q 5)), (1, .int v1)]) hx hb dX6_hasFor_39 hl (k := 2) rfl (congrArg (fun z => v2 + z) (by decide)) (by decide) rfl (fun ls hl => ?_)
        refine lv_goto (tgt := 2) hx hb dX6_hasFor_42 (by decide) ?_
        exact ih _ _ _ _ _ _ _ hf hP hS (lv_sub hl [1, 2, 0] rfl)
      · rw [if_pos h] at hf
        refine lv_aload_n hx hb dX6_hasFor_24 rfl (lv_at hl 0 rfl) ?_
        refine zz_getf C zi_X6_hasFor_X6 hP 5 rfl rfl 0 (nm := "trains") (ds := "LThirteenthDay$Table;") (fin := true) rfl (by decide) zk_X6_hasFor_16 rfl dX6_hasFor_25 ?_
        refine lv_iload_n hx hb dX6_hasFor_28 rfl (lv_at hl 2 rfl) ?_
        refine lv_iconst (v := 2) hx hb dX6_hasFor_29 (by decide) ?_
        refine zz_callVi C (As := [.int v2, .int 2]) (rest := []) (zc_X5_get 16 (by decide) _ _ _) (cwV 2 hts gX6_hasFor_X5_get rfl rfl rfl zd_X5_get ⟨Nat.le_of_ble_eq_true rfl, Nat.le_of_ble_eq_true rfl⟩) hP hS (9 + 16) (zz_c_tab (by decide)) rfl rfl hl rfl (Nat.le_of_ble_eq_true rfl) dX6_hasFor_30 ⟨Nat.zero_le _, Nat.zero_le _⟩ (fun H locs hP hS => ?_)
        refine lv_iconst (v := 3) hx hb dX6_hasFor_33 (by decide) ?_
        refine lv_icmp_eq (tgt := 39) hx hb dX6_hasFor_34 (by decide) (fun h => ?_) (fun h => ?_)
        · rw [if_pos h] at hf
          refine lv_iinc (v := (v2 + 1)) (lv' := [(2, .int (v2 + 1)), (0, .ref (q 5)), (1, .int v1)]) hx hb dX6_hasFor_39 hl (k := 2) rfl (congrArg (fun z => v2 + z) (by decide)) (by decide) rfl (fun ls hl => ?_)
          refine lv_goto (tgt := 2) hx hb dX6_hasFor_42 (by decide) ?_
          exact ih _ _ _ _ _ _ _ hf hP hS (lv_sub hl [1, 2, 0] rfl)
        · rw [if_neg h] at hf
          refine lv_iconst (v := 1) hx hb dX6_hasFor_37 (by decide) ?_
          rw [← (Option.some.inj hf)]
          exact zz_retz (v := true) C hr hP hS dX6_hasFor_38
def zX6_hasFor (v1 : Int32) (st : zz_T) : Option Bool :=
  zX6_hasFor_2 zz_N v1 0 st
set_option maxHeartbeats 4000000 in
set_option maxRecDepth 100000 in
theorem zc_X6_hasFor {l : Launch} {A : Nat → Prop} {D : va_G} {cI : ClassId} {q : Nat → Nat} (v1 : Int32) (st : zz_T) (r : Bool) (hf : zX6_hasFor v1 st = some r) : zz_Mi l A D cI q yX6_hasFor wsX6_hasFor zr_X6_hasFor [.ref (q 5), .int v1] st (zz_b r) st := by
  refine zz_of (cc := cX6_hasFor) (nL := 3) (ret := some .boolean) (by decide) rfl (Nat.le_of_ble_eq_true rfl) ?_
  intro p e s m args below meth c ls C hr hP hS hl
  obtain ⟨hx, hb, hml, hown, hts⟩ := id C.1
  have hl : lv_has ls 3 [(0, .ref (q 5)), (1, .int v1)] := hl
  rw [zX6_hasFor] at hf
  skip
  refine lv_iconst (v := 0) hx hb dX6_hasFor_0 (by decide) ?_
  refine lv_istore_n (lv' := [(2, .int 0), (0, .ref (q 5)), (1, .int v1)]) hx hb dX6_hasFor_1 rfl hl (by decide) rfl (fun ls hl => ?_)
  exact zt_X6_hasFor_2 C hr zz_N _ _ _ _ _ _ _ hf hP hS (lv_sub hl [1, 2, 0] rfl)
/-! X6_inPlace TR -/
theorem zd_X6_inPlace : yX6_inPlace.cls = RX6 ∧ yX6_inPlace.cls ≠ "java/lang/invoke/MethodHandle" ∧ yX6_inPlace.cls ≠ "java/lang/invoke/VarHandle" ∧ (parseMethodDescriptor yX6_inPlace.desc).map (fun d => d.parameters.length) = some 1 := by decide +kernel
abbrev zr_X6_inPlace : Room := { frames := 1, cells := 0, slots := 0, locals := 24 }
theorem zk_X6_inPlace_20 : Cond.fieldLink yX6_inPlace.cls 20 RX6 "places" "LThirteenthDay$Table;" ∈ wsX6_inPlace := by decide +kernel
theorem zi_X6_inPlace_X6 : ∀ w ∈ u_ws RX6 TX6 3, w ∈ wsX6_inPlace := by decide +kernel
def zX6_inPlace (v1 : Int32) (st : zz_T) : Int32 :=
  (zz_g 17 v1 0 st)
set_option maxHeartbeats 4000000 in
set_option maxRecDepth 100000 in
theorem zc_X6_inPlace {l : Launch} {A : Nat → Prop} {D : va_G} {cI : ClassId} {q : Nat → Nat} (v1 : Int32) (st : zz_T) : zz_Mi l A D cI q yX6_inPlace wsX6_inPlace zr_X6_inPlace [.ref (q 5), .int v1] st (zX6_inPlace v1 st) st := by
  refine zz_of (cc := cX6_inPlace) (nL := 2) (ret := some .int) (by decide) rfl (Nat.le_of_ble_eq_true rfl) ?_
  intro p e s m args below meth c ls C hr hP hS hl
  obtain ⟨hx, hb, hml, hown, hts⟩ := id C.1
  have hl : lv_has ls 2 [(0, .ref (q 5)), (1, .int v1)] := hl
  obtain ⟨r, hf⟩ : ∃ r, zX6_inPlace v1 st = r := ⟨_, rfl⟩
  rw [hf]
  rw [zX6_inPlace] at hf
  skip
  refine lv_aload_n hx hb dX6_inPlace_0 rfl (lv_at hl 0 rfl) ?_
  refine zz_getf C zi_X6_inPlace_X6 hP 5 rfl rfl 1 (nm := "places") (ds := "LThirteenthDay$Table;") (fin := true) rfl (by decide) zk_X6_inPlace_20 rfl dX6_inPlace_1 ?_
  refine lv_iload_n hx hb dX6_inPlace_4 rfl (lv_at hl 1 rfl) ?_
  refine lv_iconst (v := 0) hx hb dX6_inPlace_5 (by decide) ?_
  refine zz_callVi C (As := [.int v1, .int 0]) (rest := []) (zc_X5_get 17 (by decide) _ _ _) (cwV 2 hts gX6_inPlace_X5_get rfl rfl rfl zd_X5_get ⟨Nat.le_of_ble_eq_true rfl, Nat.le_of_ble_eq_true rfl⟩) hP hS (9 + 17) (zz_c_tab (by decide)) rfl rfl hl rfl (Nat.le_of_ble_eq_true rfl) dX6_inPlace_6 ⟨Nat.zero_le _, Nat.zero_le _⟩ (fun H locs hP hS => ?_)
  rw [← hf]
  exact zz_reti C hr hP hS dX6_inPlace_9
/-! X6_placeIn PW -/
theorem zd_X6_placeIn : yX6_placeIn.cls = RX6 ∧ yX6_placeIn.cls ≠ "java/lang/invoke/MethodHandle" ∧ yX6_placeIn.cls ≠ "java/lang/invoke/VarHandle" ∧ (parseMethodDescriptor yX6_placeIn.desc).map (fun d => d.parameters.length) = some 3 := by decide +kernel
abbrev zr_X6_placeIn : Room := { frames := 2, cells := 0, slots := 0, locals := 46 }
theorem zk_X6_placeIn_20 : Cond.fieldLink yX6_placeIn.cls 20 RX6 "places" "LThirteenthDay$Table;" ∈ wsX6_placeIn := by decide +kernel
theorem zi_X6_placeIn_X6 : ∀ w ∈ u_ws RX6 TX6 3, w ∈ wsX6_placeIn := by decide +kernel
def zX6_placeIn_11 : Nat → Int32 → Int32 → Int32 → Int32 → zz_T → Option zz_T
  | 0, _, _, _, _, _ => none
  | n + 1, v1, v3, v4, v5, st =>
    if v5 ≤ 0 then
      zz_v (zz_set 17 v5 0 v1 st) fun st2 =>
      some st2
    else
      if v4 ≤ (zX6_lateOf (zz_g 17 (v5 - 1) 0 st) v3 st) then
        zz_v (zz_set 17 v5 0 v1 st) fun st4 =>
        some st4
      else
        zz_v (zz_set 17 v5 0 (zz_g 17 (v5 - 1) 0 st) st) fun st6 =>
        zX6_placeIn_11 n v1 v3 v4 (v5 + (-1)) st6
set_option maxHeartbeats 4000000 in
set_option maxRecDepth 100000 in
theorem zt_X6_placeIn_11 {l : Launch} {A : Nat → Prop} {D : va_G} {cI : ClassId} {q : Nat → Nat} {p : Program} {e : Env} {s : State} {m : MethodId} {args : Array Value} {below : List Frame} {meth : Method} {c : Code} (C : zz_C A D cI q p s m args meth c cX6_placeIn 6 wsX6_placeIn yX6_placeIn.cls) (hr : meth.sig.returnType = none) : ∀ (n : Nat) (v1 : Int32) (v3 : Int32) (v4 : Int32) (v5 : Int32) (st : zz_T) (H : Heap) (locs : List Loc) (ls : Array Slot) (r : zz_T), zX6_placeIn_11 n v1 v3 v4 v5 st = some r → va_P D vwCl (zz_c q cI st) H → va_S A s.heap H locs → lv_has ls 6 [(0, .ref (q 5)), (1, .int v1), (3, .int v3), (4, .int v4), (5, .int v5)] → W p l e zr_X6_placeIn s m args below meth c H locs 0 0 (zz_Qv A D cI q r below args s) (F0 m 11 ls []) := by
  obtain ⟨hx, hb, hml, hown, hts⟩ := id C.1
  intro n
  induction n with
  | zero => intro v1 v3 v4 v5 st H locs ls r hf; cases hf
  | succ n ih =>
    intro v1 v3 v4 v5 st H locs ls r hf hP hS hl
    rw [zX6_placeIn_11] at hf
    refine lv_iload hx hb dX6_placeIn_11 (lv_at hl 4 rfl) ?_
    refine lv_if_le (tgt := 66) hx hb dX6_placeIn_13 (by decide) (fun h => ?_) (fun h => ?_)
    · rw [if_pos h] at hf
      refine lv_aload_n hx hb dX6_placeIn_66 rfl (lv_at hl 0 rfl) ?_
      refine zz_getf C zi_X6_placeIn_X6 hP 5 rfl rfl 1 (nm := "places") (ds := "LThirteenthDay$Table;") (fin := true) rfl (by decide) zk_X6_placeIn_20 rfl dX6_placeIn_67 ?_
      refine lv_iload hx hb dX6_placeIn_70 (lv_at hl 4 rfl) ?_
      refine lv_iconst (v := 0) hx hb dX6_placeIn_72 (by decide) ?_
      refine lv_iload_n hx hb dX6_placeIn_73 rfl (lv_at hl 1 rfl) ?_
      obtain ⟨st2, e3, hf⟩ := zz_vo hf
      refine zz_callVv C (As := [.int v5, .int 0, .int v1]) (rest := []) (zz_Mv_e e3 (zc_X5_set 17 (by decide) _ _ _ _)) (cwV 3 hts gX6_placeIn_X5_set rfl rfl rfl zd_X5_set ⟨Nat.le_of_ble_eq_true rfl, Nat.le_of_ble_eq_true rfl⟩) hP hS (9 + 17) (zz_c_tab (by decide)) rfl rfl hl rfl (Nat.le_of_ble_eq_true rfl) dX6_placeIn_74 ⟨Nat.zero_le _, Nat.zero_le _⟩ (fun H locs hP hS => ?_)
      rw [← (Option.some.inj hf)]
      exact zz_retv C hr hP hS dX6_placeIn_77
    · rw [if_neg h] at hf
      refine lv_aload_n hx hb dX6_placeIn_16 rfl (lv_at hl 0 rfl) ?_
      refine lv_aload_n hx hb dX6_placeIn_17 rfl (lv_at hl 0 rfl) ?_
      refine zz_getf C zi_X6_placeIn_X6 hP 5 rfl rfl 1 (nm := "places") (ds := "LThirteenthDay$Table;") (fin := true) rfl (by decide) zk_X6_placeIn_20 rfl dX6_placeIn_18 ?_
      refine lv_iload hx hb dX6_placeIn_21 (lv_at hl 4 rfl) ?_
      refine lv_iconst (v := 1) hx hb dX6_placeIn_23 (by decide) ?_
      refine lv_isub hx hb dX6_placeIn_24 ?_
      refine lv_iconst (v := 0) hx hb dX6_placeIn_25 (by decide) ?_
      refine zz_callVi C (As := [.int (v5 - 1), .int 0]) (rest := [.ref (q 5)]) (zc_X5_get 17 (by decide) _ _ _) (cwV 2 hts gX6_placeIn_X5_get rfl rfl rfl zd_X5_get ⟨Nat.le_of_ble_eq_true rfl, Nat.le_of_ble_eq_true rfl⟩) hP hS (9 + 17) (zz_c_tab (by decide)) rfl rfl hl rfl (Nat.le_of_ble_eq_true rfl) dX6_placeIn_26 ⟨Nat.zero_le _, Nat.zero_le _⟩ (fun H locs hP hS => ?_)
      refine lv_iload_n hx hb dX6_placeIn_29 rfl (lv_at hl 2 rfl) ?_
      refine zz_callVi C (As := [.int (zz_g 17 (v5 - 1) 0 st), .int v3]) (rest := []) (zc_X6_lateOf _ _ _) (cwV 2 hts gX6_placeIn_X6_lateOf rfl rfl rfl zd_X6_lateOf ⟨Nat.le_of_ble_eq_true rfl, Nat.le_of_ble_eq_true rfl⟩) hP hS 5 rfl rfl rfl hl rfl (Nat.le_of_ble_eq_true rfl) dX6_placeIn_30 ⟨Nat.zero_le _, Nat.zero_le _⟩ (fun H locs hP hS => ?_)
      refine lv_iload hx hb dX6_placeIn_33 (lv_at hl 3 rfl) ?_
      refine lv_icmp_ge (tgt := 66) hx hb dX6_placeIn_35 (by decide) (fun h => ?_) (fun h => ?_)
      · rw [if_pos h] at hf
        refine lv_aload_n hx hb dX6_placeIn_66 rfl (lv_at hl 0 rfl) ?_
        refine zz_getf C zi_X6_placeIn_X6 hP 5 rfl rfl 1 (nm := "places") (ds := "LThirteenthDay$Table;") (fin := true) rfl (by decide) zk_X6_placeIn_20 rfl dX6_placeIn_67 ?_
        refine lv_iload hx hb dX6_placeIn_70 (lv_at hl 4 rfl) ?_
        refine lv_iconst (v := 0) hx hb dX6_placeIn_72 (by decide) ?_
        refine lv_iload_n hx hb dX6_placeIn_73 rfl (lv_at hl 1 rfl) ?_
        obtain ⟨st4, e5, hf⟩ := zz_vo hf
        refine zz_callVv C (As := [.int v5, .int 0, .int v1]) (rest := []) (zz_Mv_e e5 (zc_X5_set 17 (by decide) _ _ _ _)) (cwV 3 hts gX6_placeIn_X5_set rfl rfl rfl zd_X5_set ⟨Nat.le_of_ble_eq_true rfl, Nat.le_of_ble_eq_true rfl⟩) hP hS (9 + 17) (zz_c_tab (by decide)) rfl rfl hl rfl (Nat.le_of_ble_eq_true rfl) dX6_placeIn_74 ⟨Nat.zero_le _, Nat.zero_le _⟩ (fun H locs hP hS => ?_)
        rw [← (Option.some.inj hf)]
        exact zz_retv C hr hP hS dX6_placeIn_77
      · rw [if_neg h] at hf
        refine lv_aload_n hx hb dX6_placeIn_38 rfl (lv_at hl 0 rfl) ?_
        refine zz_getf C zi_X6_placeIn_X6 hP 5 rfl rfl 1 (nm := "places") (ds := "LThirteenthDay$Table;") (fin := true) rfl (by decide) zk_X6_placeIn_20 rfl dX6_placeIn_39 ?_
        refine lv_iload hx hb dX6_placeIn_42 (lv_at hl 4 rfl) ?_
        refine lv_iconst (v := 0) hx hb dX6_placeIn_44 (by decide) ?_
        refine lv_aload_n hx hb dX6_placeIn_45 rfl (lv_at hl 0 rfl) ?_
        refine zz_getf C zi_X6_placeIn_X6 hP 5 rfl rfl 1 (nm := "places") (ds := "LThirteenthDay$Table;") (fin := true) rfl (by decide) zk_X6_placeIn_20 rfl dX6_placeIn_46 ?_
        refine lv_iload hx hb dX6_placeIn_49 (lv_at hl 4 rfl) ?_
        refine lv_iconst (v := 1) hx hb dX6_placeIn_51 (by decide) ?_
        refine lv_isub hx hb dX6_placeIn_52 ?_
        refine lv_iconst (v := 0) hx hb dX6_placeIn_53 (by decide) ?_
        refine zz_callVi C (As := [.int (v5 - 1), .int 0]) (rest := [.int 0, .int v5, .ref (q (9 + 17))]) (zc_X5_get 17 (by decide) _ _ _) (cwV 2 hts gX6_placeIn_X5_get rfl rfl rfl zd_X5_get ⟨Nat.le_of_ble_eq_true rfl, Nat.le_of_ble_eq_true rfl⟩) hP hS (9 + 17) (zz_c_tab (by decide)) rfl rfl hl rfl (Nat.le_of_ble_eq_true rfl) dX6_placeIn_54 ⟨Nat.zero_le _, Nat.zero_le _⟩ (fun H locs hP hS => ?_)
        obtain ⟨st6, e7, hf⟩ := zz_vo hf
        refine zz_callVv C (As := [.int v5, .int 0, .int (zz_g 17 (v5 - 1) 0 st)]) (rest := []) (zz_Mv_e e7 (zc_X5_set 17 (by decide) _ _ _ _)) (cwV 3 hts gX6_placeIn_X5_set rfl rfl rfl zd_X5_set ⟨Nat.le_of_ble_eq_true rfl, Nat.le_of_ble_eq_true rfl⟩) hP hS (9 + 17) (zz_c_tab (by decide)) rfl rfl hl rfl (Nat.le_of_ble_eq_true rfl) dX6_placeIn_57 ⟨Nat.zero_le _, Nat.zero_le _⟩ (fun H locs hP hS => ?_)
        refine lv_iinc (v := (v5 + (-1))) (lv' := [(5, .int (v5 + (-1))), (0, .ref (q 5)), (1, .int v1), (3, .int v3), (4, .int v4)]) hx hb dX6_placeIn_60 hl (k := 4) rfl (congrArg (fun z => v5 + z) (by decide)) (by decide) rfl (fun ls hl => ?_)
        refine lv_goto (tgt := 11) hx hb dX6_placeIn_63 (by decide) ?_
        exact ih _ _ _ _ _ _ _ _ _ hf hP hS (lv_sub hl [1, 2, 3, 4, 0] rfl)
def zX6_placeIn (v1 : Int32) (v2 : Int32) (v3 : Int32) (st : zz_T) : Option zz_T :=
  zz_v (zX6_lateOf v1 v3 st) fun w1 =>
  zX6_placeIn_11 zz_N v1 v3 w1 v2 st
set_option maxHeartbeats 4000000 in
set_option maxRecDepth 100000 in
theorem zc_X6_placeIn {l : Launch} {A : Nat → Prop} {D : va_G} {cI : ClassId} {q : Nat → Nat} (v1 : Int32) (v2 : Int32) (v3 : Int32) (st : zz_T) (r : zz_T) (hf : zX6_placeIn v1 v2 v3 st = some r) : zz_Mv l A D cI q yX6_placeIn wsX6_placeIn zr_X6_placeIn [.ref (q 5), .int v1, .int v2, .int v3] st r := by
  refine zz_of (cc := cX6_placeIn) (nL := 6) (ret := none) (by decide) rfl (Nat.le_of_ble_eq_true rfl) ?_
  intro p e s m args below meth c ls C hr hP hS hl
  obtain ⟨hx, hb, hml, hown, hts⟩ := id C.1
  have hl : lv_has ls 6 [(0, .ref (q 5)), (1, .int v1), (2, .int v2), (3, .int v3)] := hl
  rw [zX6_placeIn] at hf
  skip
  refine lv_aload_n hx hb dX6_placeIn_0 rfl (lv_at hl 0 rfl) ?_
  refine lv_iload_n hx hb dX6_placeIn_1 rfl (lv_at hl 1 rfl) ?_
  refine lv_iload_n hx hb dX6_placeIn_2 rfl (lv_at hl 3 rfl) ?_
  refine zz_callVi C (As := [.int v1, .int v3]) (rest := []) (zc_X6_lateOf _ _ _) (cwV 2 hts gX6_placeIn_X6_lateOf rfl rfl rfl zd_X6_lateOf ⟨Nat.le_of_ble_eq_true rfl, Nat.le_of_ble_eq_true rfl⟩) hP hS 5 rfl rfl rfl hl rfl (Nat.le_of_ble_eq_true rfl) dX6_placeIn_3 ⟨Nat.zero_le _, Nat.zero_le _⟩ (fun H locs hP hS => ?_)
  refine lv_topi (fun w1 e1 => ?_)
  replace hf := zz_vi hf e1
  refine lv_istore (lv' := [(4, .int w1), (0, .ref (q 5)), (1, .int v1), (2, .int v2), (3, .int v3)]) hx hb dX6_placeIn_6 hl (by decide) rfl (fun ls hl => ?_)
  refine lv_iload_n hx hb dX6_placeIn_8 rfl (lv_at hl 3 rfl) ?_
  refine lv_istore (lv' := [(5, .int v2), (4, .int w1), (0, .ref (q 5)), (1, .int v1), (2, .int v2), (3, .int v3)]) hx hb dX6_placeIn_9 hl (by decide) rfl (fun ls hl => ?_)
  exact zt_X6_placeIn_11 C hr zz_N _ _ _ _ _ _ _ _ _ hf hP hS (lv_sub hl [2, 3, 5, 1, 0] rfl)
/-! X6_lineUp PW -/
theorem zd_X6_lineUp : yX6_lineUp.cls = RX6 ∧ yX6_lineUp.cls ≠ "java/lang/invoke/MethodHandle" ∧ yX6_lineUp.cls ≠ "java/lang/invoke/VarHandle" ∧ (parseMethodDescriptor yX6_lineUp.desc).map (fun d => d.parameters.length) = some 1 := by decide +kernel
abbrev zr_X6_lineUp : Room := { frames := 3, cells := 0, slots := 0, locals := 71 }
theorem zk_X6_lineUp_23 : Cond.fieldLink yX6_lineUp.cls 23 RX6 "trainCount" "I" ∈ wsX6_lineUp := by decide +kernel
theorem zk_X6_lineUp_16 : Cond.fieldLink yX6_lineUp.cls 16 RX6 "trains" "LThirteenthDay$Table;" ∈ wsX6_lineUp := by decide +kernel
theorem zi_X6_lineUp_X6 : ∀ w ∈ u_ws RX6 TX6 3, w ∈ wsX6_lineUp := by decide +kernel
def zX6_lineUp_4 : Nat → Int32 → Int32 → Int32 → zz_T → Option (Int32 × zz_T)
  | 0, _, _, _, _ => none
  | n + 1, v1, v2, v3, st =>
    if (st.2 5) ≤ v3 then
      some (v2, st)
    else
      if (zz_g 16 v3 2 st) = 3 then
        zX6_lineUp_4 n v1 v2 (v3 + 1) st
      else
        (zX6_placeIn v3 v2 v1 st).bind fun st1 =>
        zX6_lineUp_4 n v1 (v2 + 1) (v3 + 1) st1
set_option maxHeartbeats 4000000 in
set_option maxRecDepth 100000 in
theorem zt_X6_lineUp_4 {l : Launch} {A : Nat → Prop} {D : va_G} {cI : ClassId} {q : Nat → Nat} {p : Program} {e : Env} {s : State} {m : MethodId} {args : Array Value} {below : List Frame} {meth : Method} {c : Code} (C : zz_C A D cI q p s m args meth c cX6_lineUp 4 wsX6_lineUp yX6_lineUp.cls) (hr : meth.sig.returnType = some .int) : ∀ (n : Nat) (v1 : Int32) (v2 : Int32) (v3 : Int32) (st : zz_T) (H : Heap) (locs : List Loc) (ls : Array Slot) (r : (Int32 × zz_T)), zX6_lineUp_4 n v1 v2 v3 st = some r → va_P D vwCl (zz_c q cI st) H → va_S A s.heap H locs → lv_has ls 4 [(0, .ref (q 5)), (1, .int v1), (2, .int v2), (3, .int v3)] → W p l e zr_X6_lineUp s m args below meth c H locs 0 0 (zz_Qi A D cI q r.1 r.2 below args s) (F0 m 4 ls []) := by
  obtain ⟨hx, hb, hml, hown, hts⟩ := id C.1
  intro n
  induction n with
  | zero => intro v1 v2 v3 st H locs ls r hf; cases hf
  | succ n ih =>
    intro v1 v2 v3 st H locs ls r hf hP hS hl
    rw [zX6_lineUp_4] at hf
    refine lv_iload_n hx hb dX6_lineUp_4 rfl (lv_at hl 3 rfl) ?_
    refine lv_aload_n hx hb dX6_lineUp_5 rfl (lv_at hl 0 rfl) ?_
    refine zz_getf C zi_X6_lineUp_X6 hP 5 rfl rfl 2 (nm := "trainCount") (ds := "I") (fin := false) rfl (by decide) zk_X6_lineUp_23 rfl dX6_lineUp_6 ?_
    refine lv_icmp_ge (tgt := 41) hx hb dX6_lineUp_9 (by decide) (fun h => ?_) (fun h => ?_)
    · rw [if_pos h] at hf
      refine lv_iload_n hx hb dX6_lineUp_41 rfl (lv_at hl 2 rfl) ?_
      rw [← (Option.some.inj hf)]
      exact zz_reti C hr hP hS dX6_lineUp_42
    · rw [if_neg h] at hf
      refine lv_aload_n hx hb dX6_lineUp_12 rfl (lv_at hl 0 rfl) ?_
      refine zz_getf C zi_X6_lineUp_X6 hP 5 rfl rfl 0 (nm := "trains") (ds := "LThirteenthDay$Table;") (fin := true) rfl (by decide) zk_X6_lineUp_16 rfl dX6_lineUp_13 ?_
      refine lv_iload_n hx hb dX6_lineUp_16 rfl (lv_at hl 3 rfl) ?_
      refine lv_iconst (v := 2) hx hb dX6_lineUp_17 (by decide) ?_
      refine zz_callVi C (As := [.int v3, .int 2]) (rest := []) (zc_X5_get 16 (by decide) _ _ _) (cwV 2 hts gX6_lineUp_X5_get rfl rfl rfl zd_X5_get ⟨Nat.le_of_ble_eq_true rfl, Nat.le_of_ble_eq_true rfl⟩) hP hS (9 + 16) (zz_c_tab (by decide)) rfl rfl hl rfl (Nat.le_of_ble_eq_true rfl) dX6_lineUp_18 ⟨Nat.zero_le _, Nat.zero_le _⟩ (fun H locs hP hS => ?_)
      refine lv_iconst (v := 3) hx hb dX6_lineUp_21 (by decide) ?_
      refine lv_icmp_eq (tgt := 35) hx hb dX6_lineUp_22 (by decide) (fun h => ?_) (fun h => ?_)
      · rw [if_pos h] at hf
        refine lv_iinc (v := (v3 + 1)) (lv' := [(3, .int (v3 + 1)), (0, .ref (q 5)), (1, .int v1), (2, .int v2)]) hx hb dX6_lineUp_35 hl (k := 3) rfl (congrArg (fun z => v3 + z) (by decide)) (by decide) rfl (fun ls hl => ?_)
        refine lv_goto (tgt := 4) hx hb dX6_lineUp_38 (by decide) ?_
        exact ih _ _ _ _ _ _ _ _ hf hP hS (lv_sub hl [1, 2, 3, 0] rfl)
      · rw [if_neg h] at hf
        refine lv_aload_n hx hb dX6_lineUp_25 rfl (lv_at hl 0 rfl) ?_
        refine lv_iload_n hx hb dX6_lineUp_26 rfl (lv_at hl 3 rfl) ?_
        refine lv_iload_n hx hb dX6_lineUp_27 rfl (lv_at hl 2 rfl) ?_
        refine lv_iload_n hx hb dX6_lineUp_28 rfl (lv_at hl 1 rfl) ?_
        obtain ⟨st1, e2, hf⟩ := zz_bo hf
        refine zz_callVv C (As := [.int v3, .int v2, .int v1]) (rest := []) (zc_X6_placeIn _ _ _ _ _ e2) (cwV 3 hts gX6_lineUp_X6_placeIn rfl rfl rfl zd_X6_placeIn ⟨Nat.le_of_ble_eq_true rfl, Nat.le_of_ble_eq_true rfl⟩) hP hS 5 rfl rfl rfl hl rfl (Nat.le_of_ble_eq_true rfl) dX6_lineUp_29 ⟨Nat.zero_le _, Nat.zero_le _⟩ (fun H locs hP hS => ?_)
        refine lv_iinc (v := (v2 + 1)) (lv' := [(2, .int (v2 + 1)), (0, .ref (q 5)), (1, .int v1), (3, .int v3)]) hx hb dX6_lineUp_32 hl (k := 2) rfl (congrArg (fun z => v2 + z) (by decide)) (by decide) rfl (fun ls hl => ?_)
        refine lv_iinc (v := (v3 + 1)) (lv' := [(3, .int (v3 + 1)), (2, .int (v2 + 1)), (0, .ref (q 5)), (1, .int v1)]) hx hb dX6_lineUp_35 hl (k := 3) rfl (congrArg (fun z => v3 + z) (by decide)) (by decide) rfl (fun ls hl => ?_)
        refine lv_goto (tgt := 4) hx hb dX6_lineUp_38 (by decide) ?_
        exact ih _ _ _ _ _ _ _ _ hf hP hS (lv_sub hl [2, 3, 1, 0] rfl)
def zX6_lineUp (v1 : Int32) (st : zz_T) : Option (Int32 × zz_T) :=
  zX6_lineUp_4 zz_N v1 0 0 st
set_option maxHeartbeats 4000000 in
set_option maxRecDepth 100000 in
theorem zc_X6_lineUp {l : Launch} {A : Nat → Prop} {D : va_G} {cI : ClassId} {q : Nat → Nat} (v1 : Int32) (st : zz_T) (r : (Int32 × zz_T)) (hf : zX6_lineUp v1 st = some r) : zz_Mi l A D cI q yX6_lineUp wsX6_lineUp zr_X6_lineUp [.ref (q 5), .int v1] st r.1 r.2 := by
  refine zz_of (cc := cX6_lineUp) (nL := 4) (ret := some .int) (by decide) rfl (Nat.le_of_ble_eq_true rfl) ?_
  intro p e s m args below meth c ls C hr hP hS hl
  obtain ⟨hx, hb, hml, hown, hts⟩ := id C.1
  have hl : lv_has ls 4 [(0, .ref (q 5)), (1, .int v1)] := hl
  rw [zX6_lineUp] at hf
  skip
  refine lv_iconst (v := 0) hx hb dX6_lineUp_0 (by decide) ?_
  refine lv_istore_n (lv' := [(2, .int 0), (0, .ref (q 5)), (1, .int v1)]) hx hb dX6_lineUp_1 rfl hl (by decide) rfl (fun ls hl => ?_)
  refine lv_iconst (v := 0) hx hb dX6_lineUp_2 (by decide) ?_
  refine lv_istore_n (lv' := [(3, .int 0), (2, .int 0), (0, .ref (q 5)), (1, .int v1)]) hx hb dX6_lineUp_3 rfl hl (by decide) rfl (fun ls hl => ?_)
  exact zt_X6_lineUp_4 C hr zz_N _ _ _ _ _ _ _ _ hf hP hS (lv_sub hl [2, 3, 1, 0] rfl)
