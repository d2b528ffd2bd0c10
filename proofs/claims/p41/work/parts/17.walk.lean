/-! X8_bridge PW -/
theorem zd_X8_bridge : yX8_bridge.cls = RX8 ∧ yX8_bridge.cls ≠ "java/lang/invoke/MethodHandle" ∧ yX8_bridge.cls ≠ "java/lang/invoke/VarHandle" ∧ (parseMethodDescriptor yX8_bridge.desc).map (fun d => d.parameters.length) = some 1 := by decide +kernel
abbrev zr_X8_bridge : Room := { frames := 5, cells := 0, slots := 0, locals := 118 }
theorem zk_X8_bridge_10 : Cond.fieldLink yX8_bridge.cls 10 RX8 "land" "LThirteenthDay$Land;" ∈ wsX8_bridge := by decide +kernel
theorem zi_X8_bridge_X8 : ∀ w ∈ u_ws RX8 TX8 11, w ∈ wsX8_bridge := by decide +kernel
def zX8_bridge (v1 : Int32) (st : zz_T) : Option (Bool × zz_T) :=
  if (zX1_hasLine v1 st) = true then
    (zX1_turnBridge v1 st).bind fun x1 =>
    some (x1.1, x1.2)
  else
    none
set_option maxHeartbeats 4000000 in
set_option maxRecDepth 100000 in
theorem zc_X8_bridge {l : Launch} {A : Nat → Prop} {D : va_G} {cI : ClassId} {q : Nat → Nat} (v1 : Int32) (st : zz_T) (r : (Bool × zz_T)) (hf : zX8_bridge v1 st = some r) : zz_Mi l A D cI q yX8_bridge wsX8_bridge zr_X8_bridge [.ref (q 0), .int v1] st (zz_b r.1) r.2 := by
  refine zz_of (cc := cX8_bridge) (nL := 2) (ret := some .boolean) (by decide) rfl (Nat.le_of_ble_eq_true rfl) ?_
  intro p e s m args below meth c ls C hr hP hS hl
  obtain ⟨hx, hb, hml, hown, hts⟩ := id C.1
  have hl : lv_has ls 2 [(0, .ref (q 0)), (1, .int v1)] := hl
  rw [zX8_bridge] at hf
  skip
  refine lv_aload_n hx hb dX8_bridge_0 rfl (lv_at hl 0 rfl) ?_
  refine zz_getf C zi_X8_bridge_X8 hP 0 rfl rfl 0 (nm := "land") (ds := "LThirteenthDay$Land;") (fin := true) rfl (by decide) zk_X8_bridge_10 rfl dX8_bridge_1 ?_
  refine lv_iload_n hx hb dX8_bridge_4 rfl (lv_at hl 1 rfl) ?_
  refine zz_callVi C (As := [.int v1]) (rest := []) (zc_X1_hasLine _ _) (cwV 1 hts gX8_bridge_X1_hasLine rfl rfl rfl zd_X1_hasLine ⟨Nat.le_of_ble_eq_true rfl, Nat.le_of_ble_eq_true rfl⟩) hP hS 1 rfl rfl rfl hl rfl (Nat.le_of_ble_eq_true rfl) dX8_bridge_5 ⟨Nat.zero_le _, Nat.zero_le _⟩ (fun H locs hP hS => ?_)
  refine lv_if_ne (tgt := 21) hx hb dX8_bridge_8 (by decide) (fun h => ?_) (fun h => ?_)
  · rw [zz_if1 (zz_b1 h)] at hf
    refine lv_aload_n hx hb dX8_bridge_21 rfl (lv_at hl 0 rfl) ?_
    refine zz_getf C zi_X8_bridge_X8 hP 0 rfl rfl 0 (nm := "land") (ds := "LThirteenthDay$Land;") (fin := true) rfl (by decide) zk_X8_bridge_10 rfl dX8_bridge_22 ?_
    refine lv_iload_n hx hb dX8_bridge_25 rfl (lv_at hl 1 rfl) ?_
    obtain ⟨x1, e2, hf⟩ := zz_bo hf
    refine zz_callVi C (As := [.int v1]) (rest := []) (zc_X1_turnBridge _ _ _ e2) (cwV 1 hts gX8_bridge_X1_turnBridge rfl rfl rfl zd_X1_turnBridge ⟨Nat.le_of_ble_eq_true rfl, Nat.le_of_ble_eq_true rfl⟩) hP hS 1 rfl rfl rfl hl rfl (Nat.le_of_ble_eq_true rfl) dX8_bridge_26 ⟨Nat.zero_le _, Nat.zero_le _⟩ (fun H locs hP hS => ?_)
    rw [← (Option.some.inj hf)]
    exact zz_retz (v := x1.1) C hr hP hS dX8_bridge_29
  · rw [zz_if0 (zz_b0 h)] at hf
    cases hf
/-! X8_bringEngines PW -/
theorem zd_X8_bringEngines : yX8_bringEngines.cls = RX8 ∧ yX8_bringEngines.cls ≠ "java/lang/invoke/MethodHandle" ∧ yX8_bringEngines.cls ≠ "java/lang/invoke/VarHandle" ∧ (parseMethodDescriptor yX8_bringEngines.desc).map (fun d => d.parameters.length) = some 0 := by decide +kernel
abbrev zr_X8_bringEngines : Room := { frames := 2, cells := 0, slots := 0, locals := 47 }
theorem zk_X8_bringEngines_36 : Cond.fieldLink yX8_bringEngines.cls 36 RX8 "trains" "LThirteenthDay$Trains;" ∈ wsX8_bringEngines := by decide +kernel
theorem zk_X8_bringEngines_70 : Cond.fieldLink yX8_bringEngines.cls 70 RX8 "tick" "I" ∈ wsX8_bringEngines := by decide +kernel
theorem zk_X8_bringEngines_10 : Cond.fieldLink yX8_bringEngines.cls 10 RX8 "land" "LThirteenthDay$Land;" ∈ wsX8_bringEngines := by decide +kernel
theorem zi_X8_bringEngines_X8 : ∀ w ∈ u_ws RX8 TX8 11, w ∈ wsX8_bringEngines := by decide +kernel
def zX8_bringEngines_2 : Nat → Int32 → zz_T → Option zz_T
  | 0, _, _ => none
  | n + 1, v1, st =>
    if (zX6_count st) ≤ v1 then
      some st
    else
      if (zX6_get v1 15 st) = (st.2 0) then
        zz_v (zX1_addEngines (zX6_get v1 12 st) 1 st) fun st1 =>
        zz_v (zX6_set v1 15 (-1) st1) fun st3 =>
        zX8_bringEngines_2 n (v1 + 1) st3
      else
        zX8_bringEngines_2 n (v1 + 1) st
set_option maxHeartbeats 4000000 in
set_option maxRecDepth 100000 in
theorem zt_X8_bringEngines_2 {l : Launch} {A : Nat → Prop} {D : va_G} {cI : ClassId} {q : Nat → Nat} {p : Program} {e : Env} {s : State} {m : MethodId} {args : Array Value} {below : List Frame} {meth : Method} {c : Code} (C : zz_C A D cI q p s m args meth c cX8_bringEngines 2 wsX8_bringEngines yX8_bringEngines.cls) (hr : meth.sig.returnType = none) : ∀ (n : Nat) (v1 : Int32) (st : zz_T) (H : Heap) (locs : List Loc) (ls : Array Slot) (r : zz_T), zX8_bringEngines_2 n v1 st = some r → va_P D vwCl (zz_c q cI st) H → va_S A s.heap H locs → lv_has ls 2 [(0, .ref (q 0)), (1, .int v1)] → W p l e zr_X8_bringEngines s m args below meth c H locs 0 0 (zz_Qv A D cI q r below args s) (F0 m 2 ls []) := by
  obtain ⟨hx, hb, hml, hown, hts⟩ := id C.1
  intro n
  induction n with
  | zero => intro v1 st H locs ls r hf; cases hf
  | succ n ih =>
    intro v1 st H locs ls r hf hP hS hl
    rw [zX8_bringEngines_2] at hf
    refine lv_iload_n hx hb dX8_bringEngines_2 rfl (lv_at hl 1 rfl) ?_
    refine lv_aload_n hx hb dX8_bringEngines_3 rfl (lv_at hl 0 rfl) ?_
    refine zz_getf C zi_X8_bringEngines_X8 hP 0 rfl rfl 4 (nm := "trains") (ds := "LThirteenthDay$Trains;") (fin := true) rfl (by decide) zk_X8_bringEngines_36 rfl dX8_bringEngines_4 ?_
    refine zz_callVi C (As := []) (rest := [.int v1]) (zc_X6_count _) (cwV 0 hts gX8_bringEngines_X6_count rfl rfl rfl zd_X6_count ⟨Nat.le_of_ble_eq_true rfl, Nat.le_of_ble_eq_true rfl⟩) hP hS 5 rfl rfl rfl hl rfl (Nat.le_of_ble_eq_true rfl) dX8_bringEngines_7 ⟨Nat.zero_le _, Nat.zero_le _⟩ (fun H locs hP hS => ?_)
    refine lv_icmp_ge (tgt := 65) hx hb dX8_bringEngines_10 (by decide) (fun h => ?_) (fun h => ?_)
    · rw [if_pos h] at hf
      rw [← (Option.some.inj hf)]
      exact zz_retv C hr hP hS dX8_bringEngines_65
    · rw [if_neg h] at hf
      refine lv_aload_n hx hb dX8_bringEngines_13 rfl (lv_at hl 0 rfl) ?_
      refine zz_getf C zi_X8_bringEngines_X8 hP 0 rfl rfl 4 (nm := "trains") (ds := "LThirteenthDay$Trains;") (fin := true) rfl (by decide) zk_X8_bringEngines_36 rfl dX8_bringEngines_14 ?_
      refine lv_iload_n hx hb dX8_bringEngines_17 rfl (lv_at hl 1 rfl) ?_
      refine lv_bipush (v := 15) hx hb dX8_bringEngines_18 (by decide) ?_
      refine zz_callVi C (As := [.int v1, .int 15]) (rest := []) (zc_X6_get _ _ _) (cwV 2 hts gX8_bringEngines_X6_get rfl rfl rfl zd_X6_get ⟨Nat.le_of_ble_eq_true rfl, Nat.le_of_ble_eq_true rfl⟩) hP hS 5 rfl rfl rfl hl rfl (Nat.le_of_ble_eq_true rfl) dX8_bringEngines_20 ⟨Nat.zero_le _, Nat.zero_le _⟩ (fun H locs hP hS => ?_)
      refine lv_aload_n hx hb dX8_bringEngines_23 rfl (lv_at hl 0 rfl) ?_
      refine zz_getf C zi_X8_bringEngines_X8 hP 0 rfl rfl 9 (nm := "tick") (ds := "I") (fin := false) rfl (by decide) zk_X8_bringEngines_70 rfl dX8_bringEngines_24 ?_
      refine lv_icmp_ne (tgt := 59) hx hb dX8_bringEngines_27 (by decide) (fun h => ?_) (fun h => ?_)
      · rw [if_neg h] at hf
        refine lv_iinc (v := (v1 + 1)) (lv' := [(1, .int (v1 + 1)), (0, .ref (q 0))]) hx hb dX8_bringEngines_59 hl (k := 1) rfl (congrArg (fun z => v1 + z) (by decide)) (by decide) rfl (fun ls hl => ?_)
        refine lv_goto (tgt := 2) hx hb dX8_bringEngines_62 (by decide) ?_
        exact ih _ _ _ _ _ _ hf hP hS (lv_sub hl [1, 0] rfl)
      · rw [if_pos h] at hf
        refine lv_aload_n hx hb dX8_bringEngines_30 rfl (lv_at hl 0 rfl) ?_
        refine zz_getf C zi_X8_bringEngines_X8 hP 0 rfl rfl 0 (nm := "land") (ds := "LThirteenthDay$Land;") (fin := true) rfl (by decide) zk_X8_bringEngines_10 rfl dX8_bringEngines_31 ?_
        refine lv_aload_n hx hb dX8_bringEngines_34 rfl (lv_at hl 0 rfl) ?_
        refine zz_getf C zi_X8_bringEngines_X8 hP 0 rfl rfl 4 (nm := "trains") (ds := "LThirteenthDay$Trains;") (fin := true) rfl (by decide) zk_X8_bringEngines_36 rfl dX8_bringEngines_35 ?_
        refine lv_iload_n hx hb dX8_bringEngines_38 rfl (lv_at hl 1 rfl) ?_
        refine lv_bipush (v := 12) hx hb dX8_bringEngines_39 (by decide) ?_
        refine zz_callVi C (As := [.int v1, .int 12]) (rest := [.ref (q 1)]) (zc_X6_get _ _ _) (cwV 2 hts gX8_bringEngines_X6_get rfl rfl rfl zd_X6_get ⟨Nat.le_of_ble_eq_true rfl, Nat.le_of_ble_eq_true rfl⟩) hP hS 5 rfl rfl rfl hl rfl (Nat.le_of_ble_eq_true rfl) dX8_bringEngines_41 ⟨Nat.zero_le _, Nat.zero_le _⟩ (fun H locs hP hS => ?_)
        refine lv_iconst (v := 1) hx hb dX8_bringEngines_44 (by decide) ?_
        obtain ⟨st1, e2, hf⟩ := zz_vo hf
        refine zz_callVv C (As := [.int (zX6_get v1 12 st), .int 1]) (rest := []) (zz_Mv_e e2 (zc_X1_addEngines _ _ _)) (cwV 2 hts gX8_bringEngines_X1_addEngines rfl rfl rfl zd_X1_addEngines ⟨Nat.le_of_ble_eq_true rfl, Nat.le_of_ble_eq_true rfl⟩) hP hS 1 rfl rfl rfl hl rfl (Nat.le_of_ble_eq_true rfl) dX8_bringEngines_45 ⟨Nat.zero_le _, Nat.zero_le _⟩ (fun H locs hP hS => ?_)
        refine lv_aload_n hx hb dX8_bringEngines_48 rfl (lv_at hl 0 rfl) ?_
        refine zz_getf C zi_X8_bringEngines_X8 hP 0 rfl rfl 4 (nm := "trains") (ds := "LThirteenthDay$Trains;") (fin := true) rfl (by decide) zk_X8_bringEngines_36 rfl dX8_bringEngines_49 ?_
        refine lv_iload_n hx hb dX8_bringEngines_52 rfl (lv_at hl 1 rfl) ?_
        refine lv_bipush (v := 15) hx hb dX8_bringEngines_53 (by decide) ?_
        refine lv_iconst (v := (-1)) hx hb dX8_bringEngines_55 (by decide) ?_
        obtain ⟨st3, e4, hf⟩ := zz_vo hf
        refine zz_callVv C (As := [.int v1, .int 15, .int (-1)]) (rest := []) (zz_Mv_e e4 (zc_X6_set _ _ _ _)) (cwV 3 hts gX8_bringEngines_X6_set rfl rfl rfl zd_X6_set ⟨Nat.le_of_ble_eq_true rfl, Nat.le_of_ble_eq_true rfl⟩) hP hS 5 rfl rfl rfl hl rfl (Nat.le_of_ble_eq_true rfl) dX8_bringEngines_56 ⟨Nat.zero_le _, Nat.zero_le _⟩ (fun H locs hP hS => ?_)
        refine lv_iinc (v := (v1 + 1)) (lv' := [(1, .int (v1 + 1)), (0, .ref (q 0))]) hx hb dX8_bringEngines_59 hl (k := 1) rfl (congrArg (fun z => v1 + z) (by decide)) (by decide) rfl (fun ls hl => ?_)
        refine lv_goto (tgt := 2) hx hb dX8_bringEngines_62 (by decide) ?_
        exact ih _ _ _ _ _ _ hf hP hS (lv_sub hl [1, 0] rfl)
def zX8_bringEngines (st : zz_T) : Option zz_T :=
  zX8_bringEngines_2 zz_N 0 st
set_option maxHeartbeats 4000000 in
set_option maxRecDepth 100000 in
theorem zc_X8_bringEngines {l : Launch} {A : Nat → Prop} {D : va_G} {cI : ClassId} {q : Nat → Nat} (st : zz_T) (r : zz_T) (hf : zX8_bringEngines st = some r) : zz_Mv l A D cI q yX8_bringEngines wsX8_bringEngines zr_X8_bringEngines [.ref (q 0)] st r := by
  refine zz_of (cc := cX8_bringEngines) (nL := 2) (ret := none) (by decide) rfl (Nat.le_of_ble_eq_true rfl) ?_
  intro p e s m args below meth c ls C hr hP hS hl
  obtain ⟨hx, hb, hml, hown, hts⟩ := id C.1
  have hl : lv_has ls 2 [(0, .ref (q 0))] := hl
  rw [zX8_bringEngines] at hf
  skip
  refine lv_iconst (v := 0) hx hb dX8_bringEngines_0 (by decide) ?_
  refine lv_istore_n (lv' := [(1, .int 0), (0, .ref (q 0))]) hx hb dX8_bringEngines_1 rfl hl (by decide) rfl (fun ls hl => ?_)
  exact zt_X8_bringEngines_2 C hr zz_N _ _ _ _ _ _ hf hP hS (lv_sub hl [1, 0] rfl)
/-! X8_bringStops PW -/
theorem zd_X8_bringStops : yX8_bringStops.cls = RX8 ∧ yX8_bringStops.cls ≠ "java/lang/invoke/MethodHandle" ∧ yX8_bringStops.cls ≠ "java/lang/invoke/VarHandle" ∧ (parseMethodDescriptor yX8_bringStops.desc).map (fun d => d.parameters.length) = some 0 := by decide +kernel
abbrev zr_X8_bringStops : Room := { frames := 4, cells := 0, slots := 0, locals := 91 }
theorem zk_X8_bringStops_19 : Cond.fieldLink yX8_bringStops.cls 19 RX8 "units" "LThirteenthDay$Units;" ∈ wsX8_bringStops := by decide +kernel
theorem zk_X8_bringStops_70 : Cond.fieldLink yX8_bringStops.cls 70 RX8 "tick" "I" ∈ wsX8_bringStops := by decide +kernel
theorem zk_X8_bringStops_26 : Cond.fieldLink yX8_bringStops.cls 26 RX8 "paths" "LThirteenthDay$Paths;" ∈ wsX8_bringStops := by decide +kernel
theorem zi_X8_bringStops_X8 : ∀ w ∈ u_ws RX8 TX8 11, w ∈ wsX8_bringStops := by decide +kernel
def zX8_bringStops_2 : Nat → Int32 → zz_T → Option zz_T
  | 0, _, _ => none
  | n + 1, v1, st =>
    if (zX7_count st) ≤ v1 then
      some st
    else
      zz_v (zX7_takeStop v1 (st.2 0) st) fun p1 =>
      if p1.1 = true then
        (zX8_dropWaiting 6 v1 p1.2).bind fun x3 =>
        zX8_bringStops_2 n (v1 + 1) x3.2
      else
        zX8_bringStops_2 n (v1 + 1) p1.2
set_option maxHeartbeats 4000000 in
set_option maxRecDepth 100000 in
theorem zt_X8_bringStops_2 {l : Launch} {A : Nat → Prop} {D : va_G} {cI : ClassId} {q : Nat → Nat} {p : Program} {e : Env} {s : State} {m : MethodId} {args : Array Value} {below : List Frame} {meth : Method} {c : Code} (C : zz_C A D cI q p s m args meth c cX8_bringStops 2 wsX8_bringStops yX8_bringStops.cls) (hr : meth.sig.returnType = none) : ∀ (n : Nat) (v1 : Int32) (st : zz_T) (H : Heap) (locs : List Loc) (ls : Array Slot) (r : zz_T), zX8_bringStops_2 n v1 st = some r → va_P D vwCl (zz_c q cI st) H → va_S A s.heap H locs → lv_has ls 2 [(0, .ref (q 0)), (1, .int v1)] → W p l e zr_X8_bringStops s m args below meth c H locs 0 0 (zz_Qv A D cI q r below args s) (F0 m 2 ls []) := by
  obtain ⟨hx, hb, hml, hown, hts⟩ := id C.1
  intro n
  induction n with
  | zero => intro v1 st H locs ls r hf; cases hf
  | succ n ih =>
    intro v1 st H locs ls r hf hP hS hl
    rw [zX8_bringStops_2] at hf
    refine lv_iload_n hx hb dX8_bringStops_2 rfl (lv_at hl 1 rfl) ?_
    refine lv_aload_n hx hb dX8_bringStops_3 rfl (lv_at hl 0 rfl) ?_
    refine zz_getf C zi_X8_bringStops_X8 hP 0 rfl rfl 1 (nm := "units") (ds := "LThirteenthDay$Units;") (fin := true) rfl (by decide) zk_X8_bringStops_19 rfl dX8_bringStops_4 ?_
    refine zz_callVi C (As := []) (rest := [.int v1]) (zc_X7_count _) (cwV 0 hts gX8_bringStops_X7_count rfl rfl rfl zd_X7_count ⟨Nat.le_of_ble_eq_true rfl, Nat.le_of_ble_eq_true rfl⟩) hP hS 2 rfl rfl rfl hl rfl (Nat.le_of_ble_eq_true rfl) dX8_bringStops_7 ⟨Nat.zero_le _, Nat.zero_le _⟩ (fun H locs hP hS => ?_)
    refine lv_icmp_ge (tgt := 44) hx hb dX8_bringStops_10 (by decide) (fun h => ?_) (fun h => ?_)
    · rw [if_pos h] at hf
      rw [← (Option.some.inj hf)]
      exact zz_retv C hr hP hS dX8_bringStops_44
    · rw [if_neg h] at hf
      refine lv_aload_n hx hb dX8_bringStops_13 rfl (lv_at hl 0 rfl) ?_
      refine zz_getf C zi_X8_bringStops_X8 hP 0 rfl rfl 1 (nm := "units") (ds := "LThirteenthDay$Units;") (fin := true) rfl (by decide) zk_X8_bringStops_19 rfl dX8_bringStops_14 ?_
      refine lv_iload_n hx hb dX8_bringStops_17 rfl (lv_at hl 1 rfl) ?_
      refine lv_aload_n hx hb dX8_bringStops_18 rfl (lv_at hl 0 rfl) ?_
      refine zz_getf C zi_X8_bringStops_X8 hP 0 rfl rfl 9 (nm := "tick") (ds := "I") (fin := false) rfl (by decide) zk_X8_bringStops_70 rfl dX8_bringStops_19 ?_
      obtain ⟨p1, e2, hf⟩ := zz_vo hf
      refine zz_callVi C (As := [.int v1, .int (st.2 0)]) (rest := []) (zz_Mz_e e2 (zc_X7_takeStop _ _ _)) (cwV 2 hts gX8_bringStops_X7_takeStop rfl rfl rfl zd_X7_takeStop ⟨Nat.le_of_ble_eq_true rfl, Nat.le_of_ble_eq_true rfl⟩) hP hS 2 rfl rfl rfl hl rfl (Nat.le_of_ble_eq_true rfl) dX8_bringStops_22 ⟨Nat.zero_le _, Nat.zero_le _⟩ (fun H locs hP hS => ?_)
      refine lv_if_eq (tgt := 38) hx hb dX8_bringStops_25 (by decide) (fun h => ?_) (fun h => ?_)
      · rw [zz_if0 (zz_b0 h)] at hf
        refine lv_iinc (v := (v1 + 1)) (lv' := [(1, .int (v1 + 1)), (0, .ref (q 0))]) hx hb dX8_bringStops_38 hl (k := 1) rfl (congrArg (fun z => v1 + z) (by decide)) (by decide) rfl (fun ls hl => ?_)
        refine lv_goto (tgt := 2) hx hb dX8_bringStops_41 (by decide) ?_
        exact ih _ _ _ _ _ _ hf hP hS (lv_sub hl [1, 0] rfl)
      · rw [zz_if1 (zz_b1 h)] at hf
        refine lv_aload_n hx hb dX8_bringStops_28 rfl (lv_at hl 0 rfl) ?_
        refine lv_aload_n hx hb dX8_bringStops_29 rfl (lv_at hl 0 rfl) ?_
        refine zz_getf C zi_X8_bringStops_X8 hP 0 rfl rfl 2 (nm := "paths") (ds := "LThirteenthDay$Paths;") (fin := true) rfl (by decide) zk_X8_bringStops_26 rfl dX8_bringStops_30 ?_
        refine lv_iload_n hx hb dX8_bringStops_33 rfl (lv_at hl 1 rfl) ?_
        obtain ⟨x3, e4, hf⟩ := zz_bo hf
        refine zz_callVi C (As := [.ref (q 3), .int v1]) (rest := []) (zc_X8_dropWaiting 3 6 (by decide) _ _ _ e4) (cwV 2 hts gX8_bringStops_X8_dropWaiting rfl rfl rfl zd_X8_dropWaiting ⟨Nat.le_of_ble_eq_true rfl, Nat.le_of_ble_eq_true rfl⟩) hP hS 0 rfl rfl rfl hl rfl (Nat.le_of_ble_eq_true rfl) dX8_bringStops_34 ⟨Nat.zero_le _, Nat.zero_le _⟩ (fun H locs hP hS => ?_)
        refine lv_pop hx hb dX8_bringStops_37 rfl ?_
        refine lv_iinc (v := (v1 + 1)) (lv' := [(1, .int (v1 + 1)), (0, .ref (q 0))]) hx hb dX8_bringStops_38 hl (k := 1) rfl (congrArg (fun z => v1 + z) (by decide)) (by decide) rfl (fun ls hl => ?_)
        refine lv_goto (tgt := 2) hx hb dX8_bringStops_41 (by decide) ?_
        exact ih _ _ _ _ _ _ hf hP hS (lv_sub hl [1, 0] rfl)
def zX8_bringStops (st : zz_T) : Option zz_T :=
  zX8_bringStops_2 zz_N 0 st
set_option maxHeartbeats 4000000 in
set_option maxRecDepth 100000 in
theorem zc_X8_bringStops {l : Launch} {A : Nat → Prop} {D : va_G} {cI : ClassId} {q : Nat → Nat} (st : zz_T) (r : zz_T) (hf : zX8_bringStops st = some r) : zz_Mv l A D cI q yX8_bringStops wsX8_bringStops zr_X8_bringStops [.ref (q 0)] st r := by
  refine zz_of (cc := cX8_bringStops) (nL := 2) (ret := none) (by decide) rfl (Nat.le_of_ble_eq_true rfl) ?_
  intro p e s m args below meth c ls C hr hP hS hl
  obtain ⟨hx, hb, hml, hown, hts⟩ := id C.1
  have hl : lv_has ls 2 [(0, .ref (q 0))] := hl
  rw [zX8_bringStops] at hf
  skip
  refine lv_iconst (v := 0) hx hb dX8_bringStops_0 (by decide) ?_
  refine lv_istore_n (lv' := [(1, .int 0), (0, .ref (q 0))]) hx hb dX8_bringStops_1 rfl hl (by decide) rfl (fun ls hl => ?_)
  exact zt_X8_bringStops_2 C hr zz_N _ _ _ _ _ _ hf hP hS (lv_sub hl [1, 0] rfl)
/-! X8_canGo TR -/
theorem zd_X8_canGo : yX8_canGo.cls = RX8 ∧ yX8_canGo.cls ≠ "java/lang/invoke/MethodHandle" ∧ yX8_canGo.cls ≠ "java/lang/invoke/VarHandle" ∧ (parseMethodDescriptor yX8_canGo.desc).map (fun d => d.parameters.length) = some 2 := by decide +kernel
abbrev zr_X8_canGo : Room := { frames := 2, cells := 0, slots := 0, locals := 46 }
theorem zk_X8_canGo_26 : Cond.fieldLink yX8_canGo.cls 26 RX8 "paths" "LThirteenthDay$Paths;" ∈ wsX8_canGo := by decide +kernel
theorem zk_X8_canGo_70 : Cond.fieldLink yX8_canGo.cls 70 RX8 "tick" "I" ∈ wsX8_canGo := by decide +kernel
theorem zk_X8_canGo_10 : Cond.fieldLink yX8_canGo.cls 10 RX8 "land" "LThirteenthDay$Land;" ∈ wsX8_canGo := by decide +kernel
theorem zk_X8_canGo_36 : Cond.fieldLink yX8_canGo.cls 36 RX8 "trains" "LThirteenthDay$Trains;" ∈ wsX8_canGo := by decide +kernel
theorem zi_X8_canGo_X8 : ∀ w ∈ u_ws RX8 TX8 11, w ∈ wsX8_canGo := by decide +kernel
def zX8_canGo (v1 : Int32) (v2 : Int32) (st : zz_T) : Bool :=
  if (zX2_isKept 6 v1 st) = true then
    if (st.2 0) < (zX2_get 6 v1 0 st) then
      false
    else
      if (zX1_getStation v2 2 st) ≤ 0 then
        false
      else
        if 60 ≤ (zX6_count st) then
          false
        else
          true
  else
    false
set_option maxHeartbeats 4000000 in
set_option maxRecDepth 100000 in
theorem zc_X8_canGo {l : Launch} {A : Nat → Prop} {D : va_G} {cI : ClassId} {q : Nat → Nat} (v1 : Int32) (v2 : Int32) (st : zz_T) : zz_Mi l A D cI q yX8_canGo wsX8_canGo zr_X8_canGo [.ref (q 0), .int v1, .int v2] st (zz_b (zX8_canGo v1 v2 st)) st := by
  refine zz_of (cc := cX8_canGo) (nL := 3) (ret := some .boolean) (by decide) rfl (Nat.le_of_ble_eq_true rfl) ?_
  intro p e s m args below meth c ls C hr hP hS hl
  obtain ⟨hx, hb, hml, hown, hts⟩ := id C.1
  have hl : lv_has ls 3 [(0, .ref (q 0)), (1, .int v1), (2, .int v2)] := hl
  obtain ⟨r, hf⟩ : ∃ r, zX8_canGo v1 v2 st = r := ⟨_, rfl⟩
  rw [hf]
  rw [zX8_canGo] at hf
  skip
  refine lv_aload_n hx hb dX8_canGo_0 rfl (lv_at hl 0 rfl) ?_
  refine zz_getf C zi_X8_canGo_X8 hP 0 rfl rfl 2 (nm := "paths") (ds := "LThirteenthDay$Paths;") (fin := true) rfl (by decide) zk_X8_canGo_26 rfl dX8_canGo_1 ?_
  refine lv_iload_n hx hb dX8_canGo_4 rfl (lv_at hl 1 rfl) ?_
  refine zz_callVi C (As := [.int v1]) (rest := []) (zc_X2_isKept 3 6 (by decide) _ _) (cwV 1 hts gX8_canGo_X2_isKept rfl rfl rfl zd_X2_isKept ⟨Nat.le_of_ble_eq_true rfl, Nat.le_of_ble_eq_true rfl⟩) hP hS 3 rfl rfl rfl hl rfl (Nat.le_of_ble_eq_true rfl) dX8_canGo_5 ⟨Nat.zero_le _, Nat.zero_le _⟩ (fun H locs hP hS => ?_)
  refine lv_if_eq (tgt := 55) hx hb dX8_canGo_8 (by decide) (fun h => ?_) (fun h => ?_)
  · rw [zz_if0 (zz_b0 h)] at hf
    refine lv_iconst (v := 0) hx hb dX8_canGo_55 (by decide) ?_
    rw [← hf]
    exact zz_retz (v := false) C hr hP hS dX8_canGo_56
  · rw [zz_if1 (zz_b1 h)] at hf
    refine lv_aload_n hx hb dX8_canGo_11 rfl (lv_at hl 0 rfl) ?_
    refine zz_getf C zi_X8_canGo_X8 hP 0 rfl rfl 2 (nm := "paths") (ds := "LThirteenthDay$Paths;") (fin := true) rfl (by decide) zk_X8_canGo_26 rfl dX8_canGo_12 ?_
    refine lv_iload_n hx hb dX8_canGo_15 rfl (lv_at hl 1 rfl) ?_
    refine lv_iconst (v := 0) hx hb dX8_canGo_16 (by decide) ?_
    refine zz_callVi C (As := [.int v1, .int 0]) (rest := []) (zc_X2_get 3 6 (by decide) _ _ _) (cwV 2 hts gX8_canGo_X2_get rfl rfl rfl zd_X2_get ⟨Nat.le_of_ble_eq_true rfl, Nat.le_of_ble_eq_true rfl⟩) hP hS 3 rfl rfl rfl hl rfl (Nat.le_of_ble_eq_true rfl) dX8_canGo_17 ⟨Nat.zero_le _, Nat.zero_le _⟩ (fun H locs hP hS => ?_)
    refine lv_aload_n hx hb dX8_canGo_20 rfl (lv_at hl 0 rfl) ?_
    refine zz_getf C zi_X8_canGo_X8 hP 0 rfl rfl 9 (nm := "tick") (ds := "I") (fin := false) rfl (by decide) zk_X8_canGo_70 rfl dX8_canGo_21 ?_
    refine lv_icmp_gt (tgt := 55) hx hb dX8_canGo_24 (by decide) (fun h => ?_) (fun h => ?_)
    · rw [if_pos h] at hf
      refine lv_iconst (v := 0) hx hb dX8_canGo_55 (by decide) ?_
      rw [← hf]
      exact zz_retz (v := false) C hr hP hS dX8_canGo_56
    · rw [if_neg h] at hf
      refine lv_aload_n hx hb dX8_canGo_27 rfl (lv_at hl 0 rfl) ?_
      refine zz_getf C zi_X8_canGo_X8 hP 0 rfl rfl 0 (nm := "land") (ds := "LThirteenthDay$Land;") (fin := true) rfl (by decide) zk_X8_canGo_10 rfl dX8_canGo_28 ?_
      refine lv_iload_n hx hb dX8_canGo_31 rfl (lv_at hl 2 rfl) ?_
      refine lv_iconst (v := 2) hx hb dX8_canGo_32 (by decide) ?_
      refine zz_callVi C (As := [.int v2, .int 2]) (rest := []) (zc_X1_getStation _ _ _) (cwV 2 hts gX8_canGo_X1_getStation rfl rfl rfl zd_X1_getStation ⟨Nat.le_of_ble_eq_true rfl, Nat.le_of_ble_eq_true rfl⟩) hP hS 1 rfl rfl rfl hl rfl (Nat.le_of_ble_eq_true rfl) dX8_canGo_33 ⟨Nat.zero_le _, Nat.zero_le _⟩ (fun H locs hP hS => ?_)
      refine lv_if_le (tgt := 55) hx hb dX8_canGo_36 (by decide) (fun h => ?_) (fun h => ?_)
      · rw [if_pos h] at hf
        refine lv_iconst (v := 0) hx hb dX8_canGo_55 (by decide) ?_
        rw [← hf]
        exact zz_retz (v := false) C hr hP hS dX8_canGo_56
      · rw [if_neg h] at hf
        refine lv_aload_n hx hb dX8_canGo_39 rfl (lv_at hl 0 rfl) ?_
        refine zz_getf C zi_X8_canGo_X8 hP 0 rfl rfl 4 (nm := "trains") (ds := "LThirteenthDay$Trains;") (fin := true) rfl (by decide) zk_X8_canGo_36 rfl dX8_canGo_40 ?_
        refine zz_callVi C (As := []) (rest := []) (zc_X6_count _) (cwV 0 hts gX8_canGo_X6_count rfl rfl rfl zd_X6_count ⟨Nat.le_of_ble_eq_true rfl, Nat.le_of_ble_eq_true rfl⟩) hP hS 5 rfl rfl rfl hl rfl (Nat.le_of_ble_eq_true rfl) dX8_canGo_43 ⟨Nat.zero_le _, Nat.zero_le _⟩ (fun H locs hP hS => ?_)
        refine lv_bipush (v := 60) hx hb dX8_canGo_46 (by decide) ?_
        refine lv_icmp_ge (tgt := 55) hx hb dX8_canGo_48 (by decide) (fun h => ?_) (fun h => ?_)
        · rw [if_pos h] at hf
          refine lv_iconst (v := 0) hx hb dX8_canGo_55 (by decide) ?_
          rw [← hf]
          exact zz_retz (v := false) C hr hP hS dX8_canGo_56
        · rw [if_neg h] at hf
          refine lv_iconst (v := 1) hx hb dX8_canGo_51 (by decide) ?_
          refine lv_goto (tgt := 56) hx hb dX8_canGo_52 (by decide) ?_
          rw [← hf]
          exact zz_retz (v := true) C hr hP hS dX8_canGo_56
/-! X8_isToChange TR -/
theorem zd_X8_isToChange : yX8_isToChange.cls = RX8 ∧ yX8_isToChange.cls ≠ "java/lang/invoke/MethodHandle" ∧ yX8_isToChange.cls ≠ "java/lang/invoke/VarHandle" ∧ (parseMethodDescriptor yX8_isToChange.desc).map (fun d => d.parameters.length) = some 2 := by decide +kernel
abbrev zr_X8_isToChange : Room := { frames := 2, cells := 0, slots := 0, locals := 46 }
theorem zk_X8_isToChange_19 : Cond.fieldLink yX8_isToChange.cls 19 RX8 "units" "LThirteenthDay$Units;" ∈ wsX8_isToChange := by decide +kernel
theorem zk_X8_isToChange_66 : Cond.fieldLink yX8_isToChange.cls 66 RX8 "aims" "LThirteenthDay$Table;" ∈ wsX8_isToChange := by decide +kernel
theorem zi_X8_isToChange_X8 : ∀ w ∈ u_ws RX8 TX8 11, w ∈ wsX8_isToChange := by decide +kernel
def zX8_isToChange (v1 : Int32) (v2 : Int32) (st : zz_T) : Bool :=
  if (zX7_get v2 4 st) = 3 then
    false
  else
    if (zX7_get v2 1 st) ≤ (zX7_get v2 7 st) then
      false
    else
      if (zX7_get v2 3 st) = (zz_g 23 v1 v2 st) then
        false
      else
        true
set_option maxHeartbeats 4000000 in
set_option maxRecDepth 100000 in
theorem zc_X8_isToChange {l : Launch} {A : Nat → Prop} {D : va_G} {cI : ClassId} {q : Nat → Nat} (v1 : Int32) (v2 : Int32) (st : zz_T) : zz_Mi l A D cI q yX8_isToChange wsX8_isToChange zr_X8_isToChange [.ref (q 0), .int v1, .int v2] st (zz_b (zX8_isToChange v1 v2 st)) st := by
  refine zz_of (cc := cX8_isToChange) (nL := 3) (ret := some .boolean) (by decide) rfl (Nat.le_of_ble_eq_true rfl) ?_
  intro p e s m args below meth c ls C hr hP hS hl
  obtain ⟨hx, hb, hml, hown, hts⟩ := id C.1
  have hl : lv_has ls 3 [(0, .ref (q 0)), (1, .int v1), (2, .int v2)] := hl
  obtain ⟨r, hf⟩ : ∃ r, zX8_isToChange v1 v2 st = r := ⟨_, rfl⟩
  rw [hf]
  rw [zX8_isToChange] at hf
  skip
  refine lv_aload_n hx hb dX8_isToChange_0 rfl (lv_at hl 0 rfl) ?_
  refine zz_getf C zi_X8_isToChange_X8 hP 0 rfl rfl 1 (nm := "units") (ds := "LThirteenthDay$Units;") (fin := true) rfl (by decide) zk_X8_isToChange_19 rfl dX8_isToChange_1 ?_
  refine lv_iload_n hx hb dX8_isToChange_4 rfl (lv_at hl 2 rfl) ?_
  refine lv_iconst (v := 4) hx hb dX8_isToChange_5 (by decide) ?_
  refine zz_callVi C (As := [.int v2, .int 4]) (rest := []) (zc_X7_get _ _ _) (cwV 2 hts gX8_isToChange_X7_get rfl rfl rfl zd_X7_get ⟨Nat.le_of_ble_eq_true rfl, Nat.le_of_ble_eq_true rfl⟩) hP hS 2 rfl rfl rfl hl rfl (Nat.le_of_ble_eq_true rfl) dX8_isToChange_6 ⟨Nat.zero_le _, Nat.zero_le _⟩ (fun H locs hP hS => ?_)
  refine lv_iconst (v := 3) hx hb dX8_isToChange_9 (by decide) ?_
  refine lv_icmp_eq (tgt := 60) hx hb dX8_isToChange_10 (by decide) (fun h => ?_) (fun h => ?_)
  · rw [if_pos h] at hf
    refine lv_iconst (v := 0) hx hb dX8_isToChange_60 (by decide) ?_
    rw [← hf]
    exact zz_retz (v := false) C hr hP hS dX8_isToChange_61
  · rw [if_neg h] at hf
    refine lv_aload_n hx hb dX8_isToChange_13 rfl (lv_at hl 0 rfl) ?_
    refine zz_getf C zi_X8_isToChange_X8 hP 0 rfl rfl 1 (nm := "units") (ds := "LThirteenthDay$Units;") (fin := true) rfl (by decide) zk_X8_isToChange_19 rfl dX8_isToChange_14 ?_
    refine lv_iload_n hx hb dX8_isToChange_17 rfl (lv_at hl 2 rfl) ?_
    refine lv_bipush (v := 7) hx hb dX8_isToChange_18 (by decide) ?_
    refine zz_callVi C (As := [.int v2, .int 7]) (rest := []) (zc_X7_get _ _ _) (cwV 2 hts gX8_isToChange_X7_get rfl rfl rfl zd_X7_get ⟨Nat.le_of_ble_eq_true rfl, Nat.le_of_ble_eq_true rfl⟩) hP hS 2 rfl rfl rfl hl rfl (Nat.le_of_ble_eq_true rfl) dX8_isToChange_20 ⟨Nat.zero_le _, Nat.zero_le _⟩ (fun H locs hP hS => ?_)
    refine lv_aload_n hx hb dX8_isToChange_23 rfl (lv_at hl 0 rfl) ?_
    refine zz_getf C zi_X8_isToChange_X8 hP 0 rfl rfl 1 (nm := "units") (ds := "LThirteenthDay$Units;") (fin := true) rfl (by decide) zk_X8_isToChange_19 rfl dX8_isToChange_24 ?_
    refine lv_iload_n hx hb dX8_isToChange_27 rfl (lv_at hl 2 rfl) ?_
    refine lv_iconst (v := 1) hx hb dX8_isToChange_28 (by decide) ?_
    refine zz_callVi C (As := [.int v2, .int 1]) (rest := [.int (zX7_get v2 7 st)]) (zc_X7_get _ _ _) (cwV 2 hts gX8_isToChange_X7_get rfl rfl rfl zd_X7_get ⟨Nat.le_of_ble_eq_true rfl, Nat.le_of_ble_eq_true rfl⟩) hP hS 2 rfl rfl rfl hl rfl (Nat.le_of_ble_eq_true rfl) dX8_isToChange_29 ⟨Nat.zero_le _, Nat.zero_le _⟩ (fun H locs hP hS => ?_)
    refine lv_icmp_ge (tgt := 60) hx hb dX8_isToChange_32 (by decide) (fun h => ?_) (fun h => ?_)
    · rw [if_pos h] at hf
      refine lv_iconst (v := 0) hx hb dX8_isToChange_60 (by decide) ?_
      rw [← hf]
      exact zz_retz (v := false) C hr hP hS dX8_isToChange_61
    · rw [if_neg h] at hf
      refine lv_aload_n hx hb dX8_isToChange_35 rfl (lv_at hl 0 rfl) ?_
      refine zz_getf C zi_X8_isToChange_X8 hP 0 rfl rfl 1 (nm := "units") (ds := "LThirteenthDay$Units;") (fin := true) rfl (by decide) zk_X8_isToChange_19 rfl dX8_isToChange_36 ?_
      refine lv_iload_n hx hb dX8_isToChange_39 rfl (lv_at hl 2 rfl) ?_
      refine lv_iconst (v := 3) hx hb dX8_isToChange_40 (by decide) ?_
      refine zz_callVi C (As := [.int v2, .int 3]) (rest := []) (zc_X7_get _ _ _) (cwV 2 hts gX8_isToChange_X7_get rfl rfl rfl zd_X7_get ⟨Nat.le_of_ble_eq_true rfl, Nat.le_of_ble_eq_true rfl⟩) hP hS 2 rfl rfl rfl hl rfl (Nat.le_of_ble_eq_true rfl) dX8_isToChange_41 ⟨Nat.zero_le _, Nat.zero_le _⟩ (fun H locs hP hS => ?_)
      refine lv_aload_n hx hb dX8_isToChange_44 rfl (lv_at hl 0 rfl) ?_
      refine zz_getf C zi_X8_isToChange_X8 hP 0 rfl rfl 8 (nm := "aims") (ds := "LThirteenthDay$Table;") (fin := true) rfl (by decide) zk_X8_isToChange_66 rfl dX8_isToChange_45 ?_
      refine lv_iload_n hx hb dX8_isToChange_48 rfl (lv_at hl 1 rfl) ?_
      refine lv_iload_n hx hb dX8_isToChange_49 rfl (lv_at hl 2 rfl) ?_
      refine zz_callVi C (As := [.int v1, .int v2]) (rest := [.int (zX7_get v2 3 st)]) (zc_X5_get 23 (by decide) _ _ _) (cwV 2 hts gX8_isToChange_X5_get rfl rfl rfl zd_X5_get ⟨Nat.le_of_ble_eq_true rfl, Nat.le_of_ble_eq_true rfl⟩) hP hS (9 + 23) (zz_c_tab (by decide)) rfl rfl hl rfl (Nat.le_of_ble_eq_true rfl) dX8_isToChange_50 ⟨Nat.zero_le _, Nat.zero_le _⟩ (fun H locs hP hS => ?_)
      refine lv_icmp_eq (tgt := 60) hx hb dX8_isToChange_53 (by decide) (fun h => ?_) (fun h => ?_)
      · rw [if_pos h] at hf
        refine lv_iconst (v := 0) hx hb dX8_isToChange_60 (by decide) ?_
        rw [← hf]
        exact zz_retz (v := false) C hr hP hS dX8_isToChange_61
      · rw [if_neg h] at hf
        refine lv_iconst (v := 1) hx hb dX8_isToChange_56 (by decide) ?_
        refine lv_goto (tgt := 61) hx hb dX8_isToChange_57 (by decide) ?_
        rw [← hf]
        exact zz_retz (v := true) C hr hP hS dX8_isToChange_61
/-! X8_takeAims PW -/
theorem zd_X8_takeAims : yX8_takeAims.cls = RX8 ∧ yX8_takeAims.cls ≠ "java/lang/invoke/MethodHandle" ∧ yX8_takeAims.cls ≠ "java/lang/invoke/VarHandle" ∧ (parseMethodDescriptor yX8_takeAims.desc).map (fun d => d.parameters.length) = some 1 := by decide +kernel
abbrev zr_X8_takeAims : Room := { frames := 3, cells := 0, slots := 0, locals := 68 }
theorem zk_X8_takeAims_19 : Cond.fieldLink yX8_takeAims.cls 19 RX8 "units" "LThirteenthDay$Units;" ∈ wsX8_takeAims := by decide +kernel
theorem zk_X8_takeAims_66 : Cond.fieldLink yX8_takeAims.cls 66 RX8 "aims" "LThirteenthDay$Table;" ∈ wsX8_takeAims := by decide +kernel
theorem zi_X8_takeAims_X8 : ∀ w ∈ u_ws RX8 TX8 11, w ∈ wsX8_takeAims := by decide +kernel
def zX8_takeAims_2 : Nat → Int32 → Int32 → zz_T → Option zz_T
  | 0, _, _, _ => none
  | n + 1, v1, v2, st =>
    if (zX7_count st) ≤ v2 then
      some st
    else
      if (zX8_isToChange v1 v2 st) = true then
        zz_v (zX7_set v2 3 (zz_g 23 v1 v2 st) st) fun st1 =>
        zX8_takeAims_2 n v1 (v2 + 1) st1
      else
        zX8_takeAims_2 n v1 (v2 + 1) st
set_option maxHeartbeats 4000000 in
set_option maxRecDepth 100000 in
theorem zt_X8_takeAims_2 {l : Launch} {A : Nat → Prop} {D : va_G} {cI : ClassId} {q : Nat → Nat} {p : Program} {e : Env} {s : State} {m : MethodId} {args : Array Value} {below : List Frame} {meth : Method} {c : Code} (C : zz_C A D cI q p s m args meth c cX8_takeAims 3 wsX8_takeAims yX8_takeAims.cls) (hr : meth.sig.returnType = none) : ∀ (n : Nat) (v1 : Int32) (v2 : Int32) (st : zz_T) (H : Heap) (locs : List Loc) (ls : Array Slot) (r : zz_T), zX8_takeAims_2 n v1 v2 st = some r → va_P D vwCl (zz_c q cI st) H → va_S A s.heap H locs → lv_has ls 3 [(0, .ref (q 0)), (1, .int v1), (2, .int v2)] → W p l e zr_X8_takeAims s m args below meth c H locs 0 0 (zz_Qv A D cI q r below args s) (F0 m 2 ls []) := by
  obtain ⟨hx, hb, hml, hown, hts⟩ := id C.1
  intro n
  induction n with
  | zero => intro v1 v2 st H locs ls r hf; cases hf
  | succ n ih =>
    intro v1 v2 st H locs ls r hf hP hS hl
    rw [zX8_takeAims_2] at hf
    refine lv_iload_n hx hb dX8_takeAims_2 rfl (lv_at hl 2 rfl) ?_
    refine lv_aload_n hx hb dX8_takeAims_3 rfl (lv_at hl 0 rfl) ?_
    refine zz_getf C zi_X8_takeAims_X8 hP 0 rfl rfl 1 (nm := "units") (ds := "LThirteenthDay$Units;") (fin := true) rfl (by decide) zk_X8_takeAims_19 rfl dX8_takeAims_4 ?_
    refine zz_callVi C (As := []) (rest := [.int v2]) (zc_X7_count _) (cwV 0 hts gX8_takeAims_X7_count rfl rfl rfl zd_X7_count ⟨Nat.le_of_ble_eq_true rfl, Nat.le_of_ble_eq_true rfl⟩) hP hS 2 rfl rfl rfl hl rfl (Nat.le_of_ble_eq_true rfl) dX8_takeAims_7 ⟨Nat.zero_le _, Nat.zero_le _⟩ (fun H locs hP hS => ?_)
    refine lv_icmp_ge (tgt := 46) hx hb dX8_takeAims_10 (by decide) (fun h => ?_) (fun h => ?_)
    · rw [if_pos h] at hf
      rw [← (Option.some.inj hf)]
      exact zz_retv C hr hP hS dX8_takeAims_46
    · rw [if_neg h] at hf
      refine lv_aload_n hx hb dX8_takeAims_13 rfl (lv_at hl 0 rfl) ?_
      refine lv_iload_n hx hb dX8_takeAims_14 rfl (lv_at hl 1 rfl) ?_
      refine lv_iload_n hx hb dX8_takeAims_15 rfl (lv_at hl 2 rfl) ?_
      refine zz_callVi C (As := [.int v1, .int v2]) (rest := []) (zc_X8_isToChange _ _ _) (cwV 2 hts gX8_takeAims_X8_isToChange rfl rfl rfl zd_X8_isToChange ⟨Nat.le_of_ble_eq_true rfl, Nat.le_of_ble_eq_true rfl⟩) hP hS 0 rfl rfl rfl hl rfl (Nat.le_of_ble_eq_true rfl) dX8_takeAims_16 ⟨Nat.zero_le _, Nat.zero_le _⟩ (fun H locs hP hS => ?_)
      refine lv_if_eq (tgt := 40) hx hb dX8_takeAims_19 (by decide) (fun h => ?_) (fun h => ?_)
      · rw [zz_if0 (zz_b0 h)] at hf
        refine lv_iinc (v := (v2 + 1)) (lv' := [(2, .int (v2 + 1)), (0, .ref (q 0)), (1, .int v1)]) hx hb dX8_takeAims_40 hl (k := 2) rfl (congrArg (fun z => v2 + z) (by decide)) (by decide) rfl (fun ls hl => ?_)
        refine lv_goto (tgt := 2) hx hb dX8_takeAims_43 (by decide) ?_
        exact ih _ _ _ _ _ _ _ hf hP hS (lv_sub hl [1, 2, 0] rfl)
      · rw [zz_if1 (zz_b1 h)] at hf
        refine lv_aload_n hx hb dX8_takeAims_22 rfl (lv_at hl 0 rfl) ?_
        refine zz_getf C zi_X8_takeAims_X8 hP 0 rfl rfl 1 (nm := "units") (ds := "LThirteenthDay$Units;") (fin := true) rfl (by decide) zk_X8_takeAims_19 rfl dX8_takeAims_23 ?_
        refine lv_iload_n hx hb dX8_takeAims_26 rfl (lv_at hl 2 rfl) ?_
        refine lv_iconst (v := 3) hx hb dX8_takeAims_27 (by decide) ?_
        refine lv_aload_n hx hb dX8_takeAims_28 rfl (lv_at hl 0 rfl) ?_
        refine zz_getf C zi_X8_takeAims_X8 hP 0 rfl rfl 8 (nm := "aims") (ds := "LThirteenthDay$Table;") (fin := true) rfl (by decide) zk_X8_takeAims_66 rfl dX8_takeAims_29 ?_
        refine lv_iload_n hx hb dX8_takeAims_32 rfl (lv_at hl 1 rfl) ?_
        refine lv_iload_n hx hb dX8_takeAims_33 rfl (lv_at hl 2 rfl) ?_
        refine zz_callVi C (As := [.int v1, .int v2]) (rest := [.int 3, .int v2, .ref (q 2)]) (zc_X5_get 23 (by decide) _ _ _) (cwV 2 hts gX8_takeAims_X5_get rfl rfl rfl zd_X5_get ⟨Nat.le_of_ble_eq_true rfl, Nat.le_of_ble_eq_true rfl⟩) hP hS (9 + 23) (zz_c_tab (by decide)) rfl rfl hl rfl (Nat.le_of_ble_eq_true rfl) dX8_takeAims_34 ⟨Nat.zero_le _, Nat.zero_le _⟩ (fun H locs hP hS => ?_)
        obtain ⟨st1, e2, hf⟩ := zz_vo hf
        refine zz_callVv C (As := [.int v2, .int 3, .int (zz_g 23 v1 v2 st)]) (rest := []) (zz_Mv_e e2 (zc_X7_set _ _ _ _)) (cwV 3 hts gX8_takeAims_X7_set rfl rfl rfl zd_X7_set ⟨Nat.le_of_ble_eq_true rfl, Nat.le_of_ble_eq_true rfl⟩) hP hS 2 rfl rfl rfl hl rfl (Nat.le_of_ble_eq_true rfl) dX8_takeAims_37 ⟨Nat.zero_le _, Nat.zero_le _⟩ (fun H locs hP hS => ?_)
        refine lv_iinc (v := (v2 + 1)) (lv' := [(2, .int (v2 + 1)), (0, .ref (q 0)), (1, .int v1)]) hx hb dX8_takeAims_40 hl (k := 2) rfl (congrArg (fun z => v2 + z) (by decide)) (by decide) rfl (fun ls hl => ?_)
        refine lv_goto (tgt := 2) hx hb dX8_takeAims_43 (by decide) ?_
        exact ih _ _ _ _ _ _ _ hf hP hS (lv_sub hl [1, 2, 0] rfl)
def zX8_takeAims (v1 : Int32) (st : zz_T) : Option zz_T :=
  zX8_takeAims_2 zz_N v1 0 st
set_option maxHeartbeats 4000000 in
set_option maxRecDepth 100000 in
theorem zc_X8_takeAims {l : Launch} {A : Nat → Prop} {D : va_G} {cI : ClassId} {q : Nat → Nat} (v1 : Int32) (st : zz_T) (r : zz_T) (hf : zX8_takeAims v1 st = some r) : zz_Mv l A D cI q yX8_takeAims wsX8_takeAims zr_X8_takeAims [.ref (q 0), .int v1] st r := by
  refine zz_of (cc := cX8_takeAims) (nL := 3) (ret := none) (by decide) rfl (Nat.le_of_ble_eq_true rfl) ?_
  intro p e s m args below meth c ls C hr hP hS hl
  obtain ⟨hx, hb, hml, hown, hts⟩ := id C.1
  have hl : lv_has ls 3 [(0, .ref (q 0)), (1, .int v1)] := hl
  rw [zX8_takeAims] at hf
  skip
  refine lv_iconst (v := 0) hx hb dX8_takeAims_0 (by decide) ?_
  refine lv_istore_n (lv' := [(2, .int 0), (0, .ref (q 0)), (1, .int v1)]) hx hb dX8_takeAims_1 rfl hl (by decide) rfl (fun ls hl => ?_)
  exact zt_X8_takeAims_2 C hr zz_N _ _ _ _ _ _ _ hf hP hS (lv_sub hl [1, 2, 0] rfl)
/-! X8_tryChange PW -/
theorem zd_X8_tryChange : yX8_tryChange.cls = RX8 ∧ yX8_tryChange.cls ≠ "java/lang/invoke/MethodHandle" ∧ yX8_tryChange.cls ≠ "java/lang/invoke/VarHandle" ∧ (parseMethodDescriptor yX8_tryChange.desc).map (fun d => d.parameters.length) = some 1 := by decide +kernel
abbrev zr_X8_tryChange : Room := { frames := 5, cells := 0, slots := 0, locals := 132 }
theorem zk_X8_tryChange_30 : Cond.fieldLink yX8_tryChange.cls 30 RX8 "trial" "LThirteenthDay$Paths;" ∈ wsX8_tryChange := by decide +kernel
theorem zk_X8_tryChange_26 : Cond.fieldLink yX8_tryChange.cls 26 RX8 "paths" "LThirteenthDay$Paths;" ∈ wsX8_tryChange := by decide +kernel
theorem zk_X8_tryChange_19 : Cond.fieldLink yX8_tryChange.cls 19 RX8 "units" "LThirteenthDay$Units;" ∈ wsX8_tryChange := by decide +kernel
theorem zk_X8_tryChange_66 : Cond.fieldLink yX8_tryChange.cls 66 RX8 "aims" "LThirteenthDay$Table;" ∈ wsX8_tryChange := by decide +kernel
theorem zk_X8_tryChange_70 : Cond.fieldLink yX8_tryChange.cls 70 RX8 "tick" "I" ∈ wsX8_tryChange := by decide +kernel
theorem zi_X8_tryChange_X8 : ∀ w ∈ u_ws RX8 TX8 11, w ∈ wsX8_tryChange := by decide +kernel
def zX8_tryChange_53 : Nat → Int32 → Int32 → Int32 → zz_T → Option (Int32 × zz_T)
  | 0, _, _, _, _ => none
  | n + 1, v1, v2, v3, st =>
    if (zX7_count st) ≤ v3 then
      some (v2, st)
    else
      if (zX8_isToChange v1 v3 st) = true then
        (zX8_planUnit v3 (zz_g 23 v1 v3 st) ((st.2 0) + 36) st).bind fun x3 =>
        if 0 ≤ x3.1 then
          zz_v (v2 + ((zX7_get v3 1 x3.2) - (zX7_get v3 7 x3.2))) fun w5 =>
          zX8_tryChange_53 n v1 w5 (v3 + 1) x3.2
        else
          some (x3.1, x3.2)
      else
        zX8_tryChange_53 n v1 v2 (v3 + 1) st
set_option maxHeartbeats 4000000 in
set_option maxRecDepth 100000 in
theorem zt_X8_tryChange_53 {l : Launch} {A : Nat → Prop} {D : va_G} {cI : ClassId} {q : Nat → Nat} {p : Program} {e : Env} {s : State} {m : MethodId} {args : Array Value} {below : List Frame} {meth : Method} {c : Code} (C : zz_C A D cI q p s m args meth c cX8_tryChange 5 wsX8_tryChange yX8_tryChange.cls) (hr : meth.sig.returnType = some .int) : ∀ (n : Nat) (v1 : Int32) (v2 : Int32) (v3 : Int32) (st : zz_T) (H : Heap) (locs : List Loc) (ls : Array Slot) (r : (Int32 × zz_T)), zX8_tryChange_53 n v1 v2 v3 st = some r → va_P D vwCl (zz_c q cI st) H → va_S A s.heap H locs → lv_has ls 5 [(0, .ref (q 0)), (1, .int v1), (2, .int v2), (3, .int v3)] → W p l e zr_X8_tryChange s m args below meth c H locs 0 0 (zz_Qi A D cI q r.1 r.2 below args s) (F0 m 53 ls []) := by
  obtain ⟨hx, hb, hml, hown, hts⟩ := id C.1
  intro n
  induction n with
  | zero => intro v1 v2 v3 st H locs ls r hf; cases hf
  | succ n ih =>
    intro v1 v2 v3 st H locs ls r hf hP hS hl
    rw [zX8_tryChange_53] at hf
    refine lv_iload_n hx hb dX8_tryChange_53 rfl (lv_at hl 3 rfl) ?_
    refine lv_aload_n hx hb dX8_tryChange_54 rfl (lv_at hl 0 rfl) ?_
    refine zz_getf C zi_X8_tryChange_X8 hP 0 rfl rfl 1 (nm := "units") (ds := "LThirteenthDay$Units;") (fin := true) rfl (by decide) zk_X8_tryChange_19 rfl dX8_tryChange_55 ?_
    refine zz_callVi C (As := []) (rest := [.int v3]) (zc_X7_count _) (cwV 0 hts gX8_tryChange_X7_count rfl rfl rfl zd_X7_count ⟨Nat.le_of_ble_eq_true rfl, Nat.le_of_ble_eq_true rfl⟩) hP hS 2 rfl rfl rfl hl rfl (Nat.le_of_ble_eq_true rfl) dX8_tryChange_58 ⟨Nat.zero_le _, Nat.zero_le _⟩ (fun H locs hP hS => ?_)
    refine lv_icmp_ge (tgt := 133) hx hb dX8_tryChange_61 (by decide) (fun h => ?_) (fun h => ?_)
    · rw [if_pos h] at hf
      refine lv_iload_n hx hb dX8_tryChange_133 rfl (lv_at hl 2 rfl) ?_
      rw [← (Option.some.inj hf)]
      exact zz_reti C hr hP hS dX8_tryChange_134
    · rw [if_neg h] at hf
      refine lv_aload_n hx hb dX8_tryChange_64 rfl (lv_at hl 0 rfl) ?_
      refine lv_iload_n hx hb dX8_tryChange_65 rfl (lv_at hl 1 rfl) ?_
      refine lv_iload_n hx hb dX8_tryChange_66 rfl (lv_at hl 3 rfl) ?_
      refine zz_callVi C (As := [.int v1, .int v3]) (rest := []) (zc_X8_isToChange _ _ _) (cwV 2 hts gX8_tryChange_X8_isToChange rfl rfl rfl zd_X8_isToChange ⟨Nat.le_of_ble_eq_true rfl, Nat.le_of_ble_eq_true rfl⟩) hP hS 0 rfl rfl rfl hl rfl (Nat.le_of_ble_eq_true rfl) dX8_tryChange_67 ⟨Nat.zero_le _, Nat.zero_le _⟩ (fun H locs hP hS => ?_)
      refine lv_if_eq (tgt := 127) hx hb dX8_tryChange_70 (by decide) (fun h => ?_) (fun h => ?_)
      · rw [zz_if0 (zz_b0 h)] at hf
        refine lv_iinc (v := (v3 + 1)) (lv' := [(3, .int (v3 + 1)), (0, .ref (q 0)), (1, .int v1), (2, .int v2)]) hx hb dX8_tryChange_127 hl (k := 3) rfl (congrArg (fun z => v3 + z) (by decide)) (by decide) rfl (fun ls hl => ?_)
        refine lv_goto (tgt := 53) hx hb dX8_tryChange_130 (by decide) ?_
        exact ih _ _ _ _ _ _ _ _ hf hP hS (lv_sub hl [1, 2, 3, 0] rfl)
      · rw [zz_if1 (zz_b1 h)] at hf
        refine lv_aload_n hx hb dX8_tryChange_73 rfl (lv_at hl 0 rfl) ?_
        refine lv_iload_n hx hb dX8_tryChange_74 rfl (lv_at hl 3 rfl) ?_
        refine lv_aload_n hx hb dX8_tryChange_75 rfl (lv_at hl 0 rfl) ?_
        refine zz_getf C zi_X8_tryChange_X8 hP 0 rfl rfl 8 (nm := "aims") (ds := "LThirteenthDay$Table;") (fin := true) rfl (by decide) zk_X8_tryChange_66 rfl dX8_tryChange_76 ?_
        refine lv_iload_n hx hb dX8_tryChange_79 rfl (lv_at hl 1 rfl) ?_
        refine lv_iload_n hx hb dX8_tryChange_80 rfl (lv_at hl 3 rfl) ?_
        refine zz_callVi C (As := [.int v1, .int v3]) (rest := [.int v3, .ref (q 0)]) (zc_X5_get 23 (by decide) _ _ _) (cwV 2 hts gX8_tryChange_X5_get rfl rfl rfl zd_X5_get ⟨Nat.le_of_ble_eq_true rfl, Nat.le_of_ble_eq_true rfl⟩) hP hS (9 + 23) (zz_c_tab (by decide)) rfl rfl hl rfl (Nat.le_of_ble_eq_true rfl) dX8_tryChange_81 ⟨Nat.zero_le _, Nat.zero_le _⟩ (fun H locs hP hS => ?_)
        refine lv_aload_n hx hb dX8_tryChange_84 rfl (lv_at hl 0 rfl) ?_
        refine zz_getf C zi_X8_tryChange_X8 hP 0 rfl rfl 9 (nm := "tick") (ds := "I") (fin := false) rfl (by decide) zk_X8_tryChange_70 rfl dX8_tryChange_85 ?_
        refine lv_bipush (v := 36) hx hb dX8_tryChange_88 (by decide) ?_
        refine lv_iadd hx hb dX8_tryChange_90 ?_
        obtain ⟨x3, e4, hf⟩ := zz_bo hf
        refine zz_callVi C (As := [.int v3, .int (zz_g 23 v1 v3 st), .int ((st.2 0) + 36)]) (rest := []) (zc_X8_planUnit _ _ _ _ _ e4) (cwV 3 hts gX8_tryChange_X8_planUnit rfl rfl rfl zd_X8_planUnit ⟨Nat.le_of_ble_eq_true rfl, Nat.le_of_ble_eq_true rfl⟩) hP hS 0 rfl rfl rfl hl rfl (Nat.le_of_ble_eq_true rfl) dX8_tryChange_91 ⟨Nat.zero_le _, Nat.zero_le _⟩ (fun H locs hP hS => ?_)
        refine lv_istore (lv' := [(4, .int x3.1), (0, .ref (q 0)), (1, .int v1), (2, .int v2), (3, .int v3)]) hx hb dX8_tryChange_94 hl (by decide) rfl (fun ls hl => ?_)
        refine lv_iload hx hb dX8_tryChange_96 (lv_at hl 0 rfl) ?_
        refine lv_if_ge (tgt := 104) hx hb dX8_tryChange_98 (by decide) (fun h => ?_) (fun h => ?_)
        · rw [if_pos h] at hf
          refine lv_iload_n hx hb dX8_tryChange_104 rfl (lv_at hl 3 rfl) ?_
          refine lv_aload_n hx hb dX8_tryChange_105 rfl (lv_at hl 1 rfl) ?_
          refine zz_getf C zi_X8_tryChange_X8 hP 0 rfl rfl 1 (nm := "units") (ds := "LThirteenthDay$Units;") (fin := true) rfl (by decide) zk_X8_tryChange_19 rfl dX8_tryChange_106 ?_
          refine lv_iload_n hx hb dX8_tryChange_109 rfl (lv_at hl 4 rfl) ?_
          refine lv_iconst (v := 1) hx hb dX8_tryChange_110 (by decide) ?_
          refine zz_callVi C (As := [.int v3, .int 1]) (rest := [.int v2]) (zc_X7_get _ _ _) (cwV 2 hts gX8_tryChange_X7_get rfl rfl rfl zd_X7_get ⟨Nat.le_of_ble_eq_true rfl, Nat.le_of_ble_eq_true rfl⟩) hP hS 2 rfl rfl rfl hl rfl (Nat.le_of_ble_eq_true rfl) dX8_tryChange_111 ⟨Nat.zero_le _, Nat.zero_le _⟩ (fun H locs hP hS => ?_)
          refine lv_aload_n hx hb dX8_tryChange_114 rfl (lv_at hl 1 rfl) ?_
          refine zz_getf C zi_X8_tryChange_X8 hP 0 rfl rfl 1 (nm := "units") (ds := "LThirteenthDay$Units;") (fin := true) rfl (by decide) zk_X8_tryChange_19 rfl dX8_tryChange_115 ?_
          refine lv_iload_n hx hb dX8_tryChange_118 rfl (lv_at hl 4 rfl) ?_
          refine lv_bipush (v := 7) hx hb dX8_tryChange_119 (by decide) ?_
          refine zz_callVi C (As := [.int v3, .int 7]) (rest := [.int (zX7_get v3 1 x3.2), .int v2]) (zc_X7_get _ _ _) (cwV 2 hts gX8_tryChange_X7_get rfl rfl rfl zd_X7_get ⟨Nat.le_of_ble_eq_true rfl, Nat.le_of_ble_eq_true rfl⟩) hP hS 2 rfl rfl rfl hl rfl (Nat.le_of_ble_eq_true rfl) dX8_tryChange_121 ⟨Nat.zero_le _, Nat.zero_le _⟩ (fun H locs hP hS => ?_)
          refine lv_isub hx hb dX8_tryChange_124 ?_
          refine lv_iadd hx hb dX8_tryChange_125 ?_
          refine lv_topi (fun w5 e5 => ?_)
          replace hf := zz_vi hf e5
          refine lv_istore_n (lv' := [(2, .int w5), (4, .int x3.1), (0, .ref (q 0)), (1, .int v1), (3, .int v3)]) hx hb dX8_tryChange_126 rfl hl (by decide) rfl (fun ls hl => ?_)
          refine lv_iinc (v := (v3 + 1)) (lv' := [(3, .int (v3 + 1)), (2, .int w5), (4, .int x3.1), (0, .ref (q 0)), (1, .int v1)]) hx hb dX8_tryChange_127 hl (k := 4) rfl (congrArg (fun z => v3 + z) (by decide)) (by decide) rfl (fun ls hl => ?_)
          refine lv_goto (tgt := 53) hx hb dX8_tryChange_130 (by decide) ?_
          exact ih _ _ _ _ _ _ _ _ hf hP hS (lv_sub hl [3, 4, 1, 0] rfl)
        · rw [if_neg h] at hf
          refine lv_iload hx hb dX8_tryChange_101 (lv_at hl 0 rfl) ?_
          rw [← (Option.some.inj hf)]
          exact zz_reti C hr hP hS dX8_tryChange_103
def zX8_tryChange_13 : Nat → Int32 → Int32 → zz_T → Option (Int32 × zz_T)
  | 0, _, _, _ => none
  | n + 1, v1, v2, st =>
    if (zX7_count st) ≤ v2 then
      zX8_tryChange_53 zz_N v1 0 0 st
    else
      if (zX8_isToChange v1 v2 st) = true then
        (zX8_dropWaiting 11 v2 st).bind fun x6 =>
        zX8_tryChange_13 n v1 (v2 + 1) x6.2
      else
        zX8_tryChange_13 n v1 (v2 + 1) st
set_option maxHeartbeats 4000000 in
set_option maxRecDepth 100000 in
theorem zt_X8_tryChange_13 {l : Launch} {A : Nat → Prop} {D : va_G} {cI : ClassId} {q : Nat → Nat} {p : Program} {e : Env} {s : State} {m : MethodId} {args : Array Value} {below : List Frame} {meth : Method} {c : Code} (C : zz_C A D cI q p s m args meth c cX8_tryChange 5 wsX8_tryChange yX8_tryChange.cls) (hr : meth.sig.returnType = some .int) : ∀ (n : Nat) (v1 : Int32) (v2 : Int32) (st : zz_T) (H : Heap) (locs : List Loc) (ls : Array Slot) (r : (Int32 × zz_T)), zX8_tryChange_13 n v1 v2 st = some r → va_P D vwCl (zz_c q cI st) H → va_S A s.heap H locs → lv_has ls 5 [(0, .ref (q 0)), (1, .int v1), (2, .int v2)] → W p l e zr_X8_tryChange s m args below meth c H locs 0 0 (zz_Qi A D cI q r.1 r.2 below args s) (F0 m 13 ls []) := by
  obtain ⟨hx, hb, hml, hown, hts⟩ := id C.1
  intro n
  induction n with
  | zero => intro v1 v2 st H locs ls r hf; cases hf
  | succ n ih =>
    intro v1 v2 st H locs ls r hf hP hS hl
    rw [zX8_tryChange_13] at hf
    refine lv_iload_n hx hb dX8_tryChange_13 rfl (lv_at hl 2 rfl) ?_
    refine lv_aload_n hx hb dX8_tryChange_14 rfl (lv_at hl 0 rfl) ?_
    refine zz_getf C zi_X8_tryChange_X8 hP 0 rfl rfl 1 (nm := "units") (ds := "LThirteenthDay$Units;") (fin := true) rfl (by decide) zk_X8_tryChange_19 rfl dX8_tryChange_15 ?_
    refine zz_callVi C (As := []) (rest := [.int v2]) (zc_X7_count _) (cwV 0 hts gX8_tryChange_X7_count rfl rfl rfl zd_X7_count ⟨Nat.le_of_ble_eq_true rfl, Nat.le_of_ble_eq_true rfl⟩) hP hS 2 rfl rfl rfl hl rfl (Nat.le_of_ble_eq_true rfl) dX8_tryChange_18 ⟨Nat.zero_le _, Nat.zero_le _⟩ (fun H locs hP hS => ?_)
    refine lv_icmp_ge (tgt := 49) hx hb dX8_tryChange_21 (by decide) (fun h => ?_) (fun h => ?_)
    · rw [if_pos h] at hf
      refine lv_iconst (v := 0) hx hb dX8_tryChange_49 (by decide) ?_
      refine lv_istore_n (lv' := [(2, .int 0), (0, .ref (q 0)), (1, .int v1)]) hx hb dX8_tryChange_50 rfl hl (by decide) rfl (fun ls hl => ?_)
      refine lv_iconst (v := 0) hx hb dX8_tryChange_51 (by decide) ?_
      refine lv_istore_n (lv' := [(3, .int 0), (2, .int 0), (0, .ref (q 0)), (1, .int v1)]) hx hb dX8_tryChange_52 rfl hl (by decide) rfl (fun ls hl => ?_)
      exact zt_X8_tryChange_53 C hr zz_N _ _ _ _ _ _ _ _ hf hP hS (lv_sub hl [2, 3, 1, 0] rfl)
    · rw [if_neg h] at hf
      refine lv_aload_n hx hb dX8_tryChange_24 rfl (lv_at hl 0 rfl) ?_
      refine lv_iload_n hx hb dX8_tryChange_25 rfl (lv_at hl 1 rfl) ?_
      refine lv_iload_n hx hb dX8_tryChange_26 rfl (lv_at hl 2 rfl) ?_
      refine zz_callVi C (As := [.int v1, .int v2]) (rest := []) (zc_X8_isToChange _ _ _) (cwV 2 hts gX8_tryChange_X8_isToChange rfl rfl rfl zd_X8_isToChange ⟨Nat.le_of_ble_eq_true rfl, Nat.le_of_ble_eq_true rfl⟩) hP hS 0 rfl rfl rfl hl rfl (Nat.le_of_ble_eq_true rfl) dX8_tryChange_27 ⟨Nat.zero_le _, Nat.zero_le _⟩ (fun H locs hP hS => ?_)
      refine lv_if_eq (tgt := 43) hx hb dX8_tryChange_30 (by decide) (fun h => ?_) (fun h => ?_)
      · rw [zz_if0 (zz_b0 h)] at hf
        refine lv_iinc (v := (v2 + 1)) (lv' := [(2, .int (v2 + 1)), (0, .ref (q 0)), (1, .int v1)]) hx hb dX8_tryChange_43 hl (k := 2) rfl (congrArg (fun z => v2 + z) (by decide)) (by decide) rfl (fun ls hl => ?_)
        refine lv_goto (tgt := 13) hx hb dX8_tryChange_46 (by decide) ?_
        exact ih _ _ _ _ _ _ _ hf hP hS (lv_sub hl [1, 2, 0] rfl)
      · rw [zz_if1 (zz_b1 h)] at hf
        refine lv_aload_n hx hb dX8_tryChange_33 rfl (lv_at hl 0 rfl) ?_
        refine lv_aload_n hx hb dX8_tryChange_34 rfl (lv_at hl 0 rfl) ?_
        refine zz_getf C zi_X8_tryChange_X8 hP 0 rfl rfl 3 (nm := "trial") (ds := "LThirteenthDay$Paths;") (fin := true) rfl (by decide) zk_X8_tryChange_30 rfl dX8_tryChange_35 ?_
        refine lv_iload_n hx hb dX8_tryChange_38 rfl (lv_at hl 2 rfl) ?_
        obtain ⟨x6, e7, hf⟩ := zz_bo hf
        refine zz_callVi C (As := [.ref (q 4), .int v2]) (rest := []) (zc_X8_dropWaiting 4 11 (by decide) _ _ _ e7) (cwV 2 hts gX8_tryChange_X8_dropWaiting rfl rfl rfl zd_X8_dropWaiting ⟨Nat.le_of_ble_eq_true rfl, Nat.le_of_ble_eq_true rfl⟩) hP hS 0 rfl rfl rfl hl rfl (Nat.le_of_ble_eq_true rfl) dX8_tryChange_39 ⟨Nat.zero_le _, Nat.zero_le _⟩ (fun H locs hP hS => ?_)
        refine lv_pop hx hb dX8_tryChange_42 rfl ?_
        refine lv_iinc (v := (v2 + 1)) (lv' := [(2, .int (v2 + 1)), (0, .ref (q 0)), (1, .int v1)]) hx hb dX8_tryChange_43 hl (k := 2) rfl (congrArg (fun z => v2 + z) (by decide)) (by decide) rfl (fun ls hl => ?_)
        refine lv_goto (tgt := 13) hx hb dX8_tryChange_46 (by decide) ?_
        exact ih _ _ _ _ _ _ _ hf hP hS (lv_sub hl [1, 2, 0] rfl)
def zX8_tryChange (v1 : Int32) (st : zz_T) : Option (Int32 × zz_T) :=
  zz_v (zX2_copyFrom 11 6 st) fun st1 =>
  zX8_tryChange_13 zz_N v1 0 st1
set_option maxHeartbeats 4000000 in
set_option maxRecDepth 100000 in
theorem zc_X8_tryChange {l : Launch} {A : Nat → Prop} {D : va_G} {cI : ClassId} {q : Nat → Nat} (v1 : Int32) (st : zz_T) (r : (Int32 × zz_T)) (hf : zX8_tryChange v1 st = some r) : zz_Mi l A D cI q yX8_tryChange wsX8_tryChange zr_X8_tryChange [.ref (q 0), .int v1] st r.1 r.2 := by
  refine zz_of (cc := cX8_tryChange) (nL := 5) (ret := some .int) (by decide) rfl (Nat.le_of_ble_eq_true rfl) ?_
  intro p e s m args below meth c ls C hr hP hS hl
  obtain ⟨hx, hb, hml, hown, hts⟩ := id C.1
  have hl : lv_has ls 5 [(0, .ref (q 0)), (1, .int v1)] := hl
  rw [zX8_tryChange] at hf
  skip
  refine lv_aload_n hx hb dX8_tryChange_0 rfl (lv_at hl 0 rfl) ?_
  refine zz_getf C zi_X8_tryChange_X8 hP 0 rfl rfl 3 (nm := "trial") (ds := "LThirteenthDay$Paths;") (fin := true) rfl (by decide) zk_X8_tryChange_30 rfl dX8_tryChange_1 ?_
  refine lv_aload_n hx hb dX8_tryChange_4 rfl (lv_at hl 0 rfl) ?_
  refine zz_getf C zi_X8_tryChange_X8 hP 0 rfl rfl 2 (nm := "paths") (ds := "LThirteenthDay$Paths;") (fin := true) rfl (by decide) zk_X8_tryChange_26 rfl dX8_tryChange_5 ?_
  obtain ⟨st1, e2, hf⟩ := zz_vo hf
  refine zz_callVv C (As := [.ref (q 3)]) (rest := []) (zz_Mv_e e2 (zc_X2_copyFrom 4 11 (by decide) 3 6 (by decide) (by decide) _)) (cwV 1 hts gX8_tryChange_X2_copyFrom rfl rfl rfl zd_X2_copyFrom ⟨Nat.le_of_ble_eq_true rfl, Nat.le_of_ble_eq_true rfl⟩) hP hS 4 rfl rfl rfl hl rfl (Nat.le_of_ble_eq_true rfl) dX8_tryChange_8 ⟨Nat.zero_le _, Nat.zero_le _⟩ (fun H locs hP hS => ?_)
  refine lv_iconst (v := 0) hx hb dX8_tryChange_11 (by decide) ?_
  refine lv_istore_n (lv' := [(2, .int 0), (0, .ref (q 0)), (1, .int v1)]) hx hb dX8_tryChange_12 rfl hl (by decide) rfl (fun ls hl => ?_)
  exact zt_X8_tryChange_13 C hr zz_N _ _ _ _ _ _ _ hf hP hS (lv_sub hl [1, 2, 0] rfl)
/-! X8_change PW -/
theorem zd_X8_change : yX8_change.cls = RX8 ∧ yX8_change.cls ≠ "java/lang/invoke/MethodHandle" ∧ yX8_change.cls ≠ "java/lang/invoke/VarHandle" ∧ (parseMethodDescriptor yX8_change.desc).map (fun d => d.parameters.length) = some 1 := by decide +kernel
abbrev zr_X8_change : Room := { frames := 6, cells := 0, slots := 0, locals := 156 }
theorem zk_X8_change_70 : Cond.fieldLink yX8_change.cls 70 RX8 "tick" "I" ∈ wsX8_change := by decide +kernel
theorem zk_X8_change_26 : Cond.fieldLink yX8_change.cls 26 RX8 "paths" "LThirteenthDay$Paths;" ∈ wsX8_change := by decide +kernel
theorem zk_X8_change_30 : Cond.fieldLink yX8_change.cls 30 RX8 "trial" "LThirteenthDay$Paths;" ∈ wsX8_change := by decide +kernel
theorem zi_X8_change_X8 : ∀ w ∈ u_ws RX8 TX8 11, w ∈ wsX8_change := by decide +kernel
def zX8_change (v1 : Int32) (st : zz_T) : Option (Int32 × zz_T) :=
  if v1 < 0 then
    none
  else
    if v1 < 4 then
      if (st.2 0) ≤ 2808 then
        (zX8_tryChange v1 st).bind fun x1 =>
        if x1.1 < 0 then
          some (x1.1, x1.2)
        else
          zz_v (zX2_copyFrom 6 11 x1.2) fun st3 =>
          (zX8_takeAims v1 st3).bind fun st5 =>
          some (x1.1, st5)
      else
        none
    else
      none
set_option maxHeartbeats 4000000 in
set_option maxRecDepth 100000 in
theorem zc_X8_change {l : Launch} {A : Nat → Prop} {D : va_G} {cI : ClassId} {q : Nat → Nat} (v1 : Int32) (st : zz_T) (r : (Int32 × zz_T)) (hf : zX8_change v1 st = some r) : zz_Mi l A D cI q yX8_change wsX8_change zr_X8_change [.ref (q 0), .int v1] st r.1 r.2 := by
  refine zz_of (cc := cX8_change) (nL := 3) (ret := some .int) (by decide) rfl (Nat.le_of_ble_eq_true rfl) ?_
  intro p e s m args below meth c ls C hr hP hS hl
  obtain ⟨hx, hb, hml, hown, hts⟩ := id C.1
  have hl : lv_has ls 3 [(0, .ref (q 0)), (1, .int v1)] := hl
  rw [zX8_change] at hf
  skip
  refine lv_iload_n hx hb dX8_change_0 rfl (lv_at hl 1 rfl) ?_
  refine lv_if_lt (tgt := 9) hx hb dX8_change_1 (by decide) (fun h => ?_) (fun h => ?_)
  · rw [if_pos h] at hf
    cases hf
  · rw [if_neg h] at hf
    refine lv_iload_n hx hb dX8_change_4 rfl (lv_at hl 1 rfl) ?_
    refine lv_iconst (v := 4) hx hb dX8_change_5 (by decide) ?_
    refine lv_icmp_lt (tgt := 20) hx hb dX8_change_6 (by decide) (fun h => ?_) (fun h => ?_)
    · rw [if_pos h] at hf
      refine lv_aload_n hx hb dX8_change_20 rfl (lv_at hl 0 rfl) ?_
      refine zz_getf C zi_X8_change_X8 hP 0 rfl rfl 9 (nm := "tick") (ds := "I") (fin := false) rfl (by decide) zk_X8_change_70 rfl dX8_change_21 ?_
      refine lv_sipush (v := 2808) hx hb dX8_change_24 (by decide) ?_
      refine lv_icmp_le (tgt := 41) hx hb dX8_change_27 (by decide) (fun h => ?_) (fun h => ?_)
      · rw [if_pos h] at hf
        refine lv_aload_n hx hb dX8_change_41 rfl (lv_at hl 0 rfl) ?_
        refine lv_iload_n hx hb dX8_change_42 rfl (lv_at hl 1 rfl) ?_
        obtain ⟨x1, e2, hf⟩ := zz_bo hf
        refine zz_callVi C (As := [.int v1]) (rest := []) (zc_X8_tryChange _ _ _ e2) (cwV 1 hts gX8_change_X8_tryChange rfl rfl rfl zd_X8_tryChange ⟨Nat.le_of_ble_eq_true rfl, Nat.le_of_ble_eq_true rfl⟩) hP hS 0 rfl rfl rfl hl rfl (Nat.le_of_ble_eq_true rfl) dX8_change_43 ⟨Nat.zero_le _, Nat.zero_le _⟩ (fun H locs hP hS => ?_)
        refine lv_istore_n (lv' := [(2, .int x1.1), (0, .ref (q 0)), (1, .int v1)]) hx hb dX8_change_46 rfl hl (by decide) rfl (fun ls hl => ?_)
        refine lv_iload_n hx hb dX8_change_47 rfl (lv_at hl 0 rfl) ?_
        refine lv_if_lt (tgt := 67) hx hb dX8_change_48 (by decide) (fun h => ?_) (fun h => ?_)
        · rw [if_pos h] at hf
          refine lv_iload_n hx hb dX8_change_67 rfl (lv_at hl 0 rfl) ?_
          rw [← (Option.some.inj hf)]
          exact zz_reti C hr hP hS dX8_change_68
        · rw [if_neg h] at hf
          refine lv_aload_n hx hb dX8_change_51 rfl (lv_at hl 1 rfl) ?_
          refine zz_getf C zi_X8_change_X8 hP 0 rfl rfl 2 (nm := "paths") (ds := "LThirteenthDay$Paths;") (fin := true) rfl (by decide) zk_X8_change_26 rfl dX8_change_52 ?_
          refine lv_aload_n hx hb dX8_change_55 rfl (lv_at hl 1 rfl) ?_
          refine zz_getf C zi_X8_change_X8 hP 0 rfl rfl 3 (nm := "trial") (ds := "LThirteenthDay$Paths;") (fin := true) rfl (by decide) zk_X8_change_30 rfl dX8_change_56 ?_
          obtain ⟨st3, e4, hf⟩ := zz_vo hf
          refine zz_callVv C (As := [.ref (q 4)]) (rest := []) (zz_Mv_e e4 (zc_X2_copyFrom 3 6 (by decide) 4 11 (by decide) (by decide) _)) (cwV 1 hts gX8_change_X2_copyFrom rfl rfl rfl zd_X2_copyFrom ⟨Nat.le_of_ble_eq_true rfl, Nat.le_of_ble_eq_true rfl⟩) hP hS 3 rfl rfl rfl hl rfl (Nat.le_of_ble_eq_true rfl) dX8_change_59 ⟨Nat.zero_le _, Nat.zero_le _⟩ (fun H locs hP hS => ?_)
          refine lv_aload_n hx hb dX8_change_62 rfl (lv_at hl 1 rfl) ?_
          refine lv_iload_n hx hb dX8_change_63 rfl (lv_at hl 2 rfl) ?_
          obtain ⟨st5, e6, hf⟩ := zz_bo hf
          refine zz_callVv C (As := [.int v1]) (rest := []) (zc_X8_takeAims _ _ _ e6) (cwV 1 hts gX8_change_X8_takeAims rfl rfl rfl zd_X8_takeAims ⟨Nat.le_of_ble_eq_true rfl, Nat.le_of_ble_eq_true rfl⟩) hP hS 0 rfl rfl rfl hl rfl (Nat.le_of_ble_eq_true rfl) dX8_change_64 ⟨Nat.zero_le _, Nat.zero_le _⟩ (fun H locs hP hS => ?_)
          refine lv_iload_n hx hb dX8_change_67 rfl (lv_at hl 0 rfl) ?_
          rw [← (Option.some.inj hf)]
          exact zz_reti C hr hP hS dX8_change_68
      · rw [if_neg h] at hf
        cases hf
    · rw [if_neg h] at hf
      cases hf
/-! X8_countWaitingPaths PR -/
theorem zd_X8_countWaitingPaths : yX8_countWaitingPaths.cls = RX8 ∧ yX8_countWaitingPaths.cls ≠ "java/lang/invoke/MethodHandle" ∧ yX8_countWaitingPaths.cls ≠ "java/lang/invoke/VarHandle" ∧ (parseMethodDescriptor yX8_countWaitingPaths.desc).map (fun d => d.parameters.length) = some 1 := by decide +kernel
abbrev zr_X8_countWaitingPaths : Room := { frames := 2, cells := 0, slots := 0, locals := 46 }
theorem zk_X8_countWaitingPaths_19 : Cond.fieldLink yX8_countWaitingPaths.cls 19 RX8 "units" "LThirteenthDay$Units;" ∈ wsX8_countWaitingPaths := by decide +kernel
theorem zk_X8_countWaitingPaths_26 : Cond.fieldLink yX8_countWaitingPaths.cls 26 RX8 "paths" "LThirteenthDay$Paths;" ∈ wsX8_countWaitingPaths := by decide +kernel
theorem zi_X8_countWaitingPaths_X8 : ∀ w ∈ u_ws RX8 TX8 11, w ∈ wsX8_countWaitingPaths := by decide +kernel
def zX8_countWaitingPaths_13 : Nat → Int32 → Int32 → Int32 → zz_T → Option Int32
  | 0, _, _, _, _ => none
  | n + 1, v1, v2, v3, st =>
    if (zX7_get v1 1 st) ≤ v3 then
      some v2
    else
      if (zX2_isKept 6 (zX2_slotOf v1 v3 st) st) = true then
        zz_v (v2 + 1) fun w3 =>
        zX8_countWaitingPaths_13 n v1 w3 (v3 + 1) st
      else
        zz_v (v2 + 0) fun w2 =>
        zX8_countWaitingPaths_13 n v1 w2 (v3 + 1) st
set_option maxHeartbeats 4000000 in
set_option maxRecDepth 100000 in
theorem zt_X8_countWaitingPaths_13 {l : Launch} {A : Nat → Prop} {D : va_G} {cI : ClassId} {q : Nat → Nat} {p : Program} {e : Env} {s : State} {m : MethodId} {args : Array Value} {below : List Frame} {meth : Method} {c : Code} (C : zz_C A D cI q p s m args meth c cX8_countWaitingPaths 4 wsX8_countWaitingPaths yX8_countWaitingPaths.cls) (hr : meth.sig.returnType = some .int) : ∀ (n : Nat) (v1 : Int32) (v2 : Int32) (v3 : Int32) (st : zz_T) (H : Heap) (locs : List Loc) (ls : Array Slot) (r : Int32), zX8_countWaitingPaths_13 n v1 v2 v3 st = some r → va_P D vwCl (zz_c q cI st) H → va_S A s.heap H locs → lv_has ls 4 [(0, .ref (q 0)), (1, .int v1), (2, .int v2), (3, .int v3)] → W p l e zr_X8_countWaitingPaths s m args below meth c H locs 0 0 (zz_Qi A D cI q r st below args s) (F0 m 13 ls []) := by
  obtain ⟨hx, hb, hml, hown, hts⟩ := id C.1
  intro n
  induction n with
  | zero => intro v1 v2 v3 st H locs ls r hf; cases hf
  | succ n ih =>
    intro v1 v2 v3 st H locs ls r hf hP hS hl
    rw [zX8_countWaitingPaths_13] at hf
    refine lv_iload_n hx hb dX8_countWaitingPaths_13 rfl (lv_at hl 3 rfl) ?_
    refine lv_aload_n hx hb dX8_countWaitingPaths_14 rfl (lv_at hl 0 rfl) ?_
    refine zz_getf C zi_X8_countWaitingPaths_X8 hP 0 rfl rfl 1 (nm := "units") (ds := "LThirteenthDay$Units;") (fin := true) rfl (by decide) zk_X8_countWaitingPaths_19 rfl dX8_countWaitingPaths_15 ?_
    refine lv_iload_n hx hb dX8_countWaitingPaths_18 rfl (lv_at hl 1 rfl) ?_
    refine lv_iconst (v := 1) hx hb dX8_countWaitingPaths_19 (by decide) ?_
    refine zz_callVi C (As := [.int v1, .int 1]) (rest := [.int v3]) (zc_X7_get _ _ _) (cwV 2 hts gX8_countWaitingPaths_X7_get rfl rfl rfl zd_X7_get ⟨Nat.le_of_ble_eq_true rfl, Nat.le_of_ble_eq_true rfl⟩) hP hS 2 rfl rfl rfl hl rfl (Nat.le_of_ble_eq_true rfl) dX8_countWaitingPaths_20 ⟨Nat.zero_le _, Nat.zero_le _⟩ (fun H locs hP hS => ?_)
    refine lv_icmp_ge (tgt := 55) hx hb dX8_countWaitingPaths_23 (by decide) (fun h => ?_) (fun h => ?_)
    · rw [if_pos h] at hf
      refine lv_iload_n hx hb dX8_countWaitingPaths_55 rfl (lv_at hl 2 rfl) ?_
      rw [← (Option.some.inj hf)]
      exact zz_reti C hr hP hS dX8_countWaitingPaths_56
    · rw [if_neg h] at hf
      refine lv_iload_n hx hb dX8_countWaitingPaths_26 rfl (lv_at hl 2 rfl) ?_
      refine lv_aload_n hx hb dX8_countWaitingPaths_27 rfl (lv_at hl 0 rfl) ?_
      refine zz_getf C zi_X8_countWaitingPaths_X8 hP 0 rfl rfl 2 (nm := "paths") (ds := "LThirteenthDay$Paths;") (fin := true) rfl (by decide) zk_X8_countWaitingPaths_26 rfl dX8_countWaitingPaths_28 ?_
      refine lv_iload_n hx hb dX8_countWaitingPaths_31 rfl (lv_at hl 1 rfl) ?_
      refine lv_iload_n hx hb dX8_countWaitingPaths_32 rfl (lv_at hl 3 rfl) ?_
      refine zz_callSi C (As := [.int v1, .int v3]) (rest := [.ref (q 3), .int v2]) (zc_X2_slotOf _ _ _) (va_cwS 2 hts gX8_countWaitingPaths_X2_slotOf rfl rfl rfl zd_X2_slotOf.2 ⟨Nat.le_of_ble_eq_true rfl, Nat.le_of_ble_eq_true rfl⟩) hP hS rfl hl rfl (Nat.le_of_ble_eq_true rfl) dX8_countWaitingPaths_33 ⟨Nat.zero_le _, Nat.zero_le _⟩ (fun H locs hP hS => ?_)
      refine zz_callVi C (As := [.int (zX2_slotOf v1 v3 st)]) (rest := [.int v2]) (zc_X2_isKept 3 6 (by decide) _ _) (cwV 1 hts gX8_countWaitingPaths_X2_isKept rfl rfl rfl zd_X2_isKept ⟨Nat.le_of_ble_eq_true rfl, Nat.le_of_ble_eq_true rfl⟩) hP hS 3 rfl rfl rfl hl rfl (Nat.le_of_ble_eq_true rfl) dX8_countWaitingPaths_36 ⟨Nat.zero_le _, Nat.zero_le _⟩ (fun H locs hP hS => ?_)
      refine lv_if_eq (tgt := 46) hx hb dX8_countWaitingPaths_39 (by decide) (fun h => ?_) (fun h => ?_)
      · rw [zz_if0 (zz_b0 h)] at hf
        refine lv_iconst (v := 0) hx hb dX8_countWaitingPaths_46 (by decide) ?_
        refine lv_iadd hx hb dX8_countWaitingPaths_47 ?_
        refine lv_topi (fun w2 e2 => ?_)
        replace hf := zz_vi hf e2
        refine lv_istore_n (lv' := [(2, .int w2), (0, .ref (q 0)), (1, .int v1), (3, .int v3)]) hx hb dX8_countWaitingPaths_48 rfl hl (by decide) rfl (fun ls hl => ?_)
        refine lv_iinc (v := (v3 + 1)) (lv' := [(3, .int (v3 + 1)), (2, .int w2), (0, .ref (q 0)), (1, .int v1)]) hx hb dX8_countWaitingPaths_49 hl (k := 3) rfl (congrArg (fun z => v3 + z) (by decide)) (by decide) rfl (fun ls hl => ?_)
        refine lv_goto (tgt := 13) hx hb dX8_countWaitingPaths_52 (by decide) ?_
        exact ih _ _ _ _ _ _ _ _ hf hP hS (lv_sub hl [2, 3, 1, 0] rfl)
      · rw [zz_if1 (zz_b1 h)] at hf
        refine lv_iconst (v := 1) hx hb dX8_countWaitingPaths_42 (by decide) ?_
        refine lv_goto (tgt := 47) hx hb dX8_countWaitingPaths_43 (by decide) ?_
        refine lv_iadd hx hb dX8_countWaitingPaths_47 ?_
        refine lv_topi (fun w3 e3 => ?_)
        replace hf := zz_vi hf e3
        refine lv_istore_n (lv' := [(2, .int w3), (0, .ref (q 0)), (1, .int v1), (3, .int v3)]) hx hb dX8_countWaitingPaths_48 rfl hl (by decide) rfl (fun ls hl => ?_)
        refine lv_iinc (v := (v3 + 1)) (lv' := [(3, .int (v3 + 1)), (2, .int w3), (0, .ref (q 0)), (1, .int v1)]) hx hb dX8_countWaitingPaths_49 hl (k := 3) rfl (congrArg (fun z => v3 + z) (by decide)) (by decide) rfl (fun ls hl => ?_)
        refine lv_goto (tgt := 13) hx hb dX8_countWaitingPaths_52 (by decide) ?_
        exact ih _ _ _ _ _ _ _ _ hf hP hS (lv_sub hl [2, 3, 1, 0] rfl)
def zX8_countWaitingPaths (v1 : Int32) (st : zz_T) : Option Int32 :=
  zz_v (zX7_get v1 7 st) fun w1 =>
  zX8_countWaitingPaths_13 zz_N v1 0 w1 st
set_option maxHeartbeats 4000000 in
set_option maxRecDepth 100000 in
theorem zc_X8_countWaitingPaths {l : Launch} {A : Nat → Prop} {D : va_G} {cI : ClassId} {q : Nat → Nat} (v1 : Int32) (st : zz_T) (r : Int32) (hf : zX8_countWaitingPaths v1 st = some r) : zz_Mi l A D cI q yX8_countWaitingPaths wsX8_countWaitingPaths zr_X8_countWaitingPaths [.ref (q 0), .int v1] st r st := by
  refine zz_of (cc := cX8_countWaitingPaths) (nL := 4) (ret := some .int) (by decide) rfl (Nat.le_of_ble_eq_true rfl) ?_
  intro p e s m args below meth c ls C hr hP hS hl
  obtain ⟨hx, hb, hml, hown, hts⟩ := id C.1
  have hl : lv_has ls 4 [(0, .ref (q 0)), (1, .int v1)] := hl
  rw [zX8_countWaitingPaths] at hf
  skip
  refine lv_iconst (v := 0) hx hb dX8_countWaitingPaths_0 (by decide) ?_
  refine lv_istore_n (lv' := [(2, .int 0), (0, .ref (q 0)), (1, .int v1)]) hx hb dX8_countWaitingPaths_1 rfl hl (by decide) rfl (fun ls hl => ?_)
  refine lv_aload_n hx hb dX8_countWaitingPaths_2 rfl (lv_at hl 1 rfl) ?_
  refine zz_getf C zi_X8_countWaitingPaths_X8 hP 0 rfl rfl 1 (nm := "units") (ds := "LThirteenthDay$Units;") (fin := true) rfl (by decide) zk_X8_countWaitingPaths_19 rfl dX8_countWaitingPaths_3 ?_
  refine lv_iload_n hx hb dX8_countWaitingPaths_6 rfl (lv_at hl 2 rfl) ?_
  refine lv_bipush (v := 7) hx hb dX8_countWaitingPaths_7 (by decide) ?_
  refine zz_callVi C (As := [.int v1, .int 7]) (rest := []) (zc_X7_get _ _ _) (cwV 2 hts gX8_countWaitingPaths_X7_get rfl rfl rfl zd_X7_get ⟨Nat.le_of_ble_eq_true rfl, Nat.le_of_ble_eq_true rfl⟩) hP hS 2 rfl rfl rfl hl rfl (Nat.le_of_ble_eq_true rfl) dX8_countWaitingPaths_9 ⟨Nat.zero_le _, Nat.zero_le _⟩ (fun H locs hP hS => ?_)
  refine lv_topi (fun w1 e1 => ?_)
  replace hf := zz_vi hf e1
  refine lv_istore_n (lv' := [(3, .int w1), (2, .int 0), (0, .ref (q 0)), (1, .int v1)]) hx hb dX8_countWaitingPaths_12 rfl hl (by decide) rfl (fun ls hl => ?_)
  exact zt_X8_countWaitingPaths_13 C hr zz_N _ _ _ _ _ _ _ _ hf hP hS (lv_sub hl [2, 3, 1, 0] rfl)
/-! X8_depart TW -/
theorem zd_X8_depart : yX8_depart.cls = RX8 ∧ yX8_depart.cls ≠ "java/lang/invoke/MethodHandle" ∧ yX8_depart.cls ≠ "java/lang/invoke/VarHandle" ∧ (parseMethodDescriptor yX8_depart.desc).map (fun d => d.parameters.length) = some 4 := by decide +kernel
abbrev zr_X8_depart : Room := { frames := 2, cells := 0, slots := 0, locals := 48 }
theorem zk_X8_depart_36 : Cond.fieldLink yX8_depart.cls 36 RX8 "trains" "LThirteenthDay$Trains;" ∈ wsX8_depart := by decide +kernel
theorem zk_X8_depart_26 : Cond.fieldLink yX8_depart.cls 26 RX8 "paths" "LThirteenthDay$Paths;" ∈ wsX8_depart := by decide +kernel
theorem zk_X8_depart_10 : Cond.fieldLink yX8_depart.cls 10 RX8 "land" "LThirteenthDay$Land;" ∈ wsX8_depart := by decide +kernel
theorem zi_X8_depart_X8 : ∀ w ∈ u_ws RX8 TX8 11, w ∈ wsX8_depart := by decide +kernel
def zX8_depart (v1 : Int32) (v2 : Int32) (v3 : Int32) (v4 : Int32) (st : zz_T) : zz_T :=
  zz_v (zX6_stand v1 v2 v4 st) fun p1 =>
  zz_v (zX6_set p1.1 14 v3 p1.2) fun st3 =>
  zz_v (zX6_set p1.1 9 (zX2_get 6 v3 3 st3) st3) fun st5 =>
  zz_v (zX6_set p1.1 10 (zX2_get 6 v3 2 st5) st5) fun st7 =>
  zz_v (zX6_set p1.1 13 (zX2_get 6 v3 4 st7) st7) fun st9 =>
  zz_v (zX6_set p1.1 7 (zX2_arrivesOf 6 v3 st9) st9) fun st11 =>
  zz_v (zX1_addEngines v4 (-1) st11) fun st13 =>
  st13
set_option maxHeartbeats 4000000 in
set_option maxRecDepth 100000 in
theorem zc_X8_depart {l : Launch} {A : Nat → Prop} {D : va_G} {cI : ClassId} {q : Nat → Nat} (v1 : Int32) (v2 : Int32) (v3 : Int32) (v4 : Int32) (st : zz_T) : zz_Mv l A D cI q yX8_depart wsX8_depart zr_X8_depart [.ref (q 0), .int v1, .int v2, .int v3, .int v4] st (zX8_depart v1 v2 v3 v4 st) := by
  refine zz_of (cc := cX8_depart) (nL := 6) (ret := none) (by decide) rfl (Nat.le_of_ble_eq_true rfl) ?_
  intro p e s m args below meth c ls C hr hP hS hl
  obtain ⟨hx, hb, hml, hown, hts⟩ := id C.1
  have hl : lv_has ls 6 [(0, .ref (q 0)), (1, .int v1), (2, .int v2), (3, .int v3), (4, .int v4)] := hl
  obtain ⟨r, hf⟩ : ∃ r, zX8_depart v1 v2 v3 v4 st = r := ⟨_, rfl⟩
  rw [hf]
  rw [zX8_depart] at hf
  skip
  refine lv_aload_n hx hb dX8_depart_0 rfl (lv_at hl 0 rfl) ?_
  refine zz_getf C zi_X8_depart_X8 hP 0 rfl rfl 4 (nm := "trains") (ds := "LThirteenthDay$Trains;") (fin := true) rfl (by decide) zk_X8_depart_36 rfl dX8_depart_1 ?_
  refine lv_iload_n hx hb dX8_depart_4 rfl (lv_at hl 1 rfl) ?_
  refine lv_iload_n hx hb dX8_depart_5 rfl (lv_at hl 2 rfl) ?_
  refine lv_iload hx hb dX8_depart_6 (lv_at hl 4 rfl) ?_
  obtain ⟨p1, e2, hf⟩ := zz_vo hf
  refine zz_callVi C (As := [.int v1, .int v2, .int v4]) (rest := []) (zz_Mi_e e2 (zc_X6_stand _ _ _ _)) (cwV 3 hts gX8_depart_X6_stand rfl rfl rfl zd_X6_stand ⟨Nat.le_of_ble_eq_true rfl, Nat.le_of_ble_eq_true rfl⟩) hP hS 5 rfl rfl rfl hl rfl (Nat.le_of_ble_eq_true rfl) dX8_depart_8 ⟨Nat.zero_le _, Nat.zero_le _⟩ (fun H locs hP hS => ?_)
  refine lv_istore (lv' := [(5, .int p1.1), (0, .ref (q 0)), (1, .int v1), (2, .int v2), (3, .int v3), (4, .int v4)]) hx hb dX8_depart_11 hl (by decide) rfl (fun ls hl => ?_)
  refine lv_aload_n hx hb dX8_depart_13 rfl (lv_at hl 1 rfl) ?_
  refine zz_getf C zi_X8_depart_X8 hP 0 rfl rfl 4 (nm := "trains") (ds := "LThirteenthDay$Trains;") (fin := true) rfl (by decide) zk_X8_depart_36 rfl dX8_depart_14 ?_
  refine lv_iload hx hb dX8_depart_17 (lv_at hl 0 rfl) ?_
  refine lv_bipush (v := 14) hx hb dX8_depart_19 (by decide) ?_
  refine lv_iload_n hx hb dX8_depart_21 rfl (lv_at hl 4 rfl) ?_
  obtain ⟨st3, e4, hf⟩ := zz_vo hf
  refine zz_callVv C (As := [.int p1.1, .int 14, .int v3]) (rest := []) (zz_Mv_e e4 (zc_X6_set _ _ _ _)) (cwV 3 hts gX8_depart_X6_set rfl rfl rfl zd_X6_set ⟨Nat.le_of_ble_eq_true rfl, Nat.le_of_ble_eq_true rfl⟩) hP hS 5 rfl rfl rfl hl rfl (Nat.le_of_ble_eq_true rfl) dX8_depart_22 ⟨Nat.zero_le _, Nat.zero_le _⟩ (fun H locs hP hS => ?_)
  refine lv_aload_n hx hb dX8_depart_25 rfl (lv_at hl 1 rfl) ?_
  refine zz_getf C zi_X8_depart_X8 hP 0 rfl rfl 4 (nm := "trains") (ds := "LThirteenthDay$Trains;") (fin := true) rfl (by decide) zk_X8_depart_36 rfl dX8_depart_26 ?_
  refine lv_iload hx hb dX8_depart_29 (lv_at hl 0 rfl) ?_
  refine lv_bipush (v := 9) hx hb dX8_depart_31 (by decide) ?_
  refine lv_aload_n hx hb dX8_depart_33 rfl (lv_at hl 1 rfl) ?_
  refine zz_getf C zi_X8_depart_X8 hP 0 rfl rfl 2 (nm := "paths") (ds := "LThirteenthDay$Paths;") (fin := true) rfl (by decide) zk_X8_depart_26 rfl dX8_depart_34 ?_
  refine lv_iload_n hx hb dX8_depart_37 rfl (lv_at hl 4 rfl) ?_
  refine lv_iconst (v := 3) hx hb dX8_depart_38 (by decide) ?_
  refine zz_callVi C (As := [.int v3, .int 3]) (rest := [.int 9, .int p1.1, .ref (q 5)]) (zc_X2_get 3 6 (by decide) _ _ _) (cwV 2 hts gX8_depart_X2_get rfl rfl rfl zd_X2_get ⟨Nat.le_of_ble_eq_true rfl, Nat.le_of_ble_eq_true rfl⟩) hP hS 3 rfl rfl rfl hl rfl (Nat.le_of_ble_eq_true rfl) dX8_depart_39 ⟨Nat.zero_le _, Nat.zero_le _⟩ (fun H locs hP hS => ?_)
  obtain ⟨st5, e6, hf⟩ := zz_vo hf
  refine zz_callVv C (As := [.int p1.1, .int 9, .int (zX2_get 6 v3 3 st3)]) (rest := []) (zz_Mv_e e6 (zc_X6_set _ _ _ _)) (cwV 3 hts gX8_depart_X6_set rfl rfl rfl zd_X6_set ⟨Nat.le_of_ble_eq_true rfl, Nat.le_of_ble_eq_true rfl⟩) hP hS 5 rfl rfl rfl hl rfl (Nat.le_of_ble_eq_true rfl) dX8_depart_42 ⟨Nat.zero_le _, Nat.zero_le _⟩ (fun H locs hP hS => ?_)
  refine lv_aload_n hx hb dX8_depart_45 rfl (lv_at hl 1 rfl) ?_
  refine zz_getf C zi_X8_depart_X8 hP 0 rfl rfl 4 (nm := "trains") (ds := "LThirteenthDay$Trains;") (fin := true) rfl (by decide) zk_X8_depart_36 rfl dX8_depart_46 ?_
  refine lv_iload hx hb dX8_depart_49 (lv_at hl 0 rfl) ?_
  refine lv_bipush (v := 10) hx hb dX8_depart_51 (by decide) ?_
  refine lv_aload_n hx hb dX8_depart_53 rfl (lv_at hl 1 rfl) ?_
  refine zz_getf C zi_X8_depart_X8 hP 0 rfl rfl 2 (nm := "paths") (ds := "LThirteenthDay$Paths;") (fin := true) rfl (by decide) zk_X8_depart_26 rfl dX8_depart_54 ?_
  refine lv_iload_n hx hb dX8_depart_57 rfl (lv_at hl 4 rfl) ?_
  refine lv_iconst (v := 2) hx hb dX8_depart_58 (by decide) ?_
  refine zz_callVi C (As := [.int v3, .int 2]) (rest := [.int 10, .int p1.1, .ref (q 5)]) (zc_X2_get 3 6 (by decide) _ _ _) (cwV 2 hts gX8_depart_X2_get rfl rfl rfl zd_X2_get ⟨Nat.le_of_ble_eq_true rfl, Nat.le_of_ble_eq_true rfl⟩) hP hS 3 rfl rfl rfl hl rfl (Nat.le_of_ble_eq_true rfl) dX8_depart_59 ⟨Nat.zero_le _, Nat.zero_le _⟩ (fun H locs hP hS => ?_)
  obtain ⟨st7, e8, hf⟩ := zz_vo hf
  refine zz_callVv C (As := [.int p1.1, .int 10, .int (zX2_get 6 v3 2 st5)]) (rest := []) (zz_Mv_e e8 (zc_X6_set _ _ _ _)) (cwV 3 hts gX8_depart_X6_set rfl rfl rfl zd_X6_set ⟨Nat.le_of_ble_eq_true rfl, Nat.le_of_ble_eq_true rfl⟩) hP hS 5 rfl rfl rfl hl rfl (Nat.le_of_ble_eq_true rfl) dX8_depart_62 ⟨Nat.zero_le _, Nat.zero_le _⟩ (fun H locs hP hS => ?_)
  refine lv_aload_n hx hb dX8_depart_65 rfl (lv_at hl 1 rfl) ?_
  refine zz_getf C zi_X8_depart_X8 hP 0 rfl rfl 4 (nm := "trains") (ds := "LThirteenthDay$Trains;") (fin := true) rfl (by decide) zk_X8_depart_36 rfl dX8_depart_66 ?_
  refine lv_iload hx hb dX8_depart_69 (lv_at hl 0 rfl) ?_
  refine lv_bipush (v := 13) hx hb dX8_depart_71 (by decide) ?_
  refine lv_aload_n hx hb dX8_depart_73 rfl (lv_at hl 1 rfl) ?_
  refine zz_getf C zi_X8_depart_X8 hP 0 rfl rfl 2 (nm := "paths") (ds := "LThirteenthDay$Paths;") (fin := true) rfl (by decide) zk_X8_depart_26 rfl dX8_depart_74 ?_
  refine lv_iload_n hx hb dX8_depart_77 rfl (lv_at hl 4 rfl) ?_
  refine lv_iconst (v := 4) hx hb dX8_depart_78 (by decide) ?_
  refine zz_callVi C (As := [.int v3, .int 4]) (rest := [.int 13, .int p1.1, .ref (q 5)]) (zc_X2_get 3 6 (by decide) _ _ _) (cwV 2 hts gX8_depart_X2_get rfl rfl rfl zd_X2_get ⟨Nat.le_of_ble_eq_true rfl, Nat.le_of_ble_eq_true rfl⟩) hP hS 3 rfl rfl rfl hl rfl (Nat.le_of_ble_eq_true rfl) dX8_depart_79 ⟨Nat.zero_le _, Nat.zero_le _⟩ (fun H locs hP hS => ?_)
  obtain ⟨st9, e10, hf⟩ := zz_vo hf
  refine zz_callVv C (As := [.int p1.1, .int 13, .int (zX2_get 6 v3 4 st7)]) (rest := []) (zz_Mv_e e10 (zc_X6_set _ _ _ _)) (cwV 3 hts gX8_depart_X6_set rfl rfl rfl zd_X6_set ⟨Nat.le_of_ble_eq_true rfl, Nat.le_of_ble_eq_true rfl⟩) hP hS 5 rfl rfl rfl hl rfl (Nat.le_of_ble_eq_true rfl) dX8_depart_82 ⟨Nat.zero_le _, Nat.zero_le _⟩ (fun H locs hP hS => ?_)
  refine lv_aload_n hx hb dX8_depart_85 rfl (lv_at hl 1 rfl) ?_
  refine zz_getf C zi_X8_depart_X8 hP 0 rfl rfl 4 (nm := "trains") (ds := "LThirteenthDay$Trains;") (fin := true) rfl (by decide) zk_X8_depart_36 rfl dX8_depart_86 ?_
  refine lv_iload hx hb dX8_depart_89 (lv_at hl 0 rfl) ?_
  refine lv_bipush (v := 7) hx hb dX8_depart_91 (by decide) ?_
  refine lv_aload_n hx hb dX8_depart_93 rfl (lv_at hl 1 rfl) ?_
  refine zz_getf C zi_X8_depart_X8 hP 0 rfl rfl 2 (nm := "paths") (ds := "LThirteenthDay$Paths;") (fin := true) rfl (by decide) zk_X8_depart_26 rfl dX8_depart_94 ?_
  refine lv_iload_n hx hb dX8_depart_97 rfl (lv_at hl 4 rfl) ?_
  refine zz_callVi C (As := [.int v3]) (rest := [.int 7, .int p1.1, .ref (q 5)]) (zc_X2_arrivesOf 3 6 (by decide) _ _) (cwV 1 hts gX8_depart_X2_arrivesOf rfl rfl rfl zd_X2_arrivesOf ⟨Nat.le_of_ble_eq_true rfl, Nat.le_of_ble_eq_true rfl⟩) hP hS 3 rfl rfl rfl hl rfl (Nat.le_of_ble_eq_true rfl) dX8_depart_98 ⟨Nat.zero_le _, Nat.zero_le _⟩ (fun H locs hP hS => ?_)
  obtain ⟨st11, e12, hf⟩ := zz_vo hf
  refine zz_callVv C (As := [.int p1.1, .int 7, .int (zX2_arrivesOf 6 v3 st9)]) (rest := []) (zz_Mv_e e12 (zc_X6_set _ _ _ _)) (cwV 3 hts gX8_depart_X6_set rfl rfl rfl zd_X6_set ⟨Nat.le_of_ble_eq_true rfl, Nat.le_of_ble_eq_true rfl⟩) hP hS 5 rfl rfl rfl hl rfl (Nat.le_of_ble_eq_true rfl) dX8_depart_101 ⟨Nat.zero_le _, Nat.zero_le _⟩ (fun H locs hP hS => ?_)
  refine lv_aload_n hx hb dX8_depart_104 rfl (lv_at hl 1 rfl) ?_
  refine zz_getf C zi_X8_depart_X8 hP 0 rfl rfl 0 (nm := "land") (ds := "LThirteenthDay$Land;") (fin := true) rfl (by decide) zk_X8_depart_10 rfl dX8_depart_105 ?_
  refine lv_iload hx hb dX8_depart_108 (lv_at hl 5 rfl) ?_
  refine lv_iconst (v := (-1)) hx hb dX8_depart_110 (by decide) ?_
  obtain ⟨st13, e14, hf⟩ := zz_vo hf
  refine zz_callVv C (As := [.int v4, .int (-1)]) (rest := []) (zz_Mv_e e14 (zc_X1_addEngines _ _ _)) (cwV 2 hts gX8_depart_X1_addEngines rfl rfl rfl zd_X1_addEngines ⟨Nat.le_of_ble_eq_true rfl, Nat.le_of_ble_eq_true rfl⟩) hP hS 1 rfl rfl rfl hl rfl (Nat.le_of_ble_eq_true rfl) dX8_depart_111 ⟨Nat.zero_le _, Nat.zero_le _⟩ (fun H locs hP hS => ?_)
  rw [← hf]
  exact zz_retv C hr hP hS dX8_depart_114
/-! X8_returnEngine TW -/
theorem zd_X8_returnEngine : yX8_returnEngine.cls = RX8 ∧ yX8_returnEngine.cls ≠ "java/lang/invoke/MethodHandle" ∧ yX8_returnEngine.cls ≠ "java/lang/invoke/VarHandle" ∧ (parseMethodDescriptor yX8_returnEngine.desc).map (fun d => d.parameters.length) = some 1 := by decide +kernel
abbrev zr_X8_returnEngine : Room := { frames := 2, cells := 0, slots := 0, locals := 47 }
theorem zk_X8_returnEngine_36 : Cond.fieldLink yX8_returnEngine.cls 36 RX8 "trains" "LThirteenthDay$Trains;" ∈ wsX8_returnEngine := by decide +kernel
theorem zk_X8_returnEngine_10 : Cond.fieldLink yX8_returnEngine.cls 10 RX8 "land" "LThirteenthDay$Land;" ∈ wsX8_returnEngine := by decide +kernel
theorem zk_X8_returnEngine_70 : Cond.fieldLink yX8_returnEngine.cls 70 RX8 "tick" "I" ∈ wsX8_returnEngine := by decide +kernel
theorem zi_X8_returnEngine_X8 : ∀ w ∈ u_ws RX8 TX8 11, w ∈ wsX8_returnEngine := by decide +kernel
def zX8_returnEngine (v1 : Int32) (st : zz_T) : zz_T :=
  zz_v (zX6_get v1 12 st) fun w1 =>
  zz_v (zX1_timeOf (zX6_get v1 9 st) w1 st) fun w2 =>
  if w2 ≤ 0 then
    zz_v (zX1_addEngines w1 1 st) fun st3 =>
    st3
  else
    zz_v (zX6_set v1 15 ((st.2 0) + (2 * w2)) st) fun st5 =>
    st5
set_option maxHeartbeats 4000000 in
set_option maxRecDepth 100000 in
theorem zc_X8_returnEngine {l : Launch} {A : Nat → Prop} {D : va_G} {cI : ClassId} {q : Nat → Nat} (v1 : Int32) (st : zz_T) : zz_Mv l A D cI q yX8_returnEngine wsX8_returnEngine zr_X8_returnEngine [.ref (q 0), .int v1] st (zX8_returnEngine v1 st) := by
  refine zz_of (cc := cX8_returnEngine) (nL := 4) (ret := none) (by decide) rfl (Nat.le_of_ble_eq_true rfl) ?_
  intro p e s m args below meth c ls C hr hP hS hl
  obtain ⟨hx, hb, hml, hown, hts⟩ := id C.1
  have hl : lv_has ls 4 [(0, .ref (q 0)), (1, .int v1)] := hl
  obtain ⟨r, hf⟩ : ∃ r, zX8_returnEngine v1 st = r := ⟨_, rfl⟩
  rw [hf]
  rw [zX8_returnEngine] at hf
  skip
  refine lv_aload_n hx hb dX8_returnEngine_0 rfl (lv_at hl 0 rfl) ?_
  refine zz_getf C zi_X8_returnEngine_X8 hP 0 rfl rfl 4 (nm := "trains") (ds := "LThirteenthDay$Trains;") (fin := true) rfl (by decide) zk_X8_returnEngine_36 rfl dX8_returnEngine_1 ?_
  refine lv_iload_n hx hb dX8_returnEngine_4 rfl (lv_at hl 1 rfl) ?_
  refine lv_bipush (v := 12) hx hb dX8_returnEngine_5 (by decide) ?_
  refine zz_callVi C (As := [.int v1, .int 12]) (rest := []) (zc_X6_get _ _ _) (cwV 2 hts gX8_returnEngine_X6_get rfl rfl rfl zd_X6_get ⟨Nat.le_of_ble_eq_true rfl, Nat.le_of_ble_eq_true rfl⟩) hP hS 5 rfl rfl rfl hl rfl (Nat.le_of_ble_eq_true rfl) dX8_returnEngine_7 ⟨Nat.zero_le _, Nat.zero_le _⟩ (fun H locs hP hS => ?_)
  refine lv_topi (fun w1 e1 => ?_)
  replace hf := zz_vi hf e1
  refine lv_istore_n (lv' := [(2, .int w1), (0, .ref (q 0)), (1, .int v1)]) hx hb dX8_returnEngine_10 rfl hl (by decide) rfl (fun ls hl => ?_)
  refine lv_aload_n hx hb dX8_returnEngine_11 rfl (lv_at hl 1 rfl) ?_
  refine zz_getf C zi_X8_returnEngine_X8 hP 0 rfl rfl 0 (nm := "land") (ds := "LThirteenthDay$Land;") (fin := true) rfl (by decide) zk_X8_returnEngine_10 rfl dX8_returnEngine_12 ?_
  refine lv_aload_n hx hb dX8_returnEngine_15 rfl (lv_at hl 1 rfl) ?_
  refine zz_getf C zi_X8_returnEngine_X8 hP 0 rfl rfl 4 (nm := "trains") (ds := "LThirteenthDay$Trains;") (fin := true) rfl (by decide) zk_X8_returnEngine_36 rfl dX8_returnEngine_16 ?_
  refine lv_iload_n hx hb dX8_returnEngine_19 rfl (lv_at hl 2 rfl) ?_
  refine lv_bipush (v := 9) hx hb dX8_returnEngine_20 (by decide) ?_
  refine zz_callVi C (As := [.int v1, .int 9]) (rest := [.ref (q 1)]) (zc_X6_get _ _ _) (cwV 2 hts gX8_returnEngine_X6_get rfl rfl rfl zd_X6_get ⟨Nat.le_of_ble_eq_true rfl, Nat.le_of_ble_eq_true rfl⟩) hP hS 5 rfl rfl rfl hl rfl (Nat.le_of_ble_eq_true rfl) dX8_returnEngine_22 ⟨Nat.zero_le _, Nat.zero_le _⟩ (fun H locs hP hS => ?_)
  refine lv_iload_n hx hb dX8_returnEngine_25 rfl (lv_at hl 0 rfl) ?_
  refine zz_callVi C (As := [.int (zX6_get v1 9 st), .int w1]) (rest := []) (zc_X1_timeOf _ _ _) (cwV 2 hts gX8_returnEngine_X1_timeOf rfl rfl rfl zd_X1_timeOf ⟨Nat.le_of_ble_eq_true rfl, Nat.le_of_ble_eq_true rfl⟩) hP hS 1 rfl rfl rfl hl rfl (Nat.le_of_ble_eq_true rfl) dX8_returnEngine_26 ⟨Nat.zero_le _, Nat.zero_le _⟩ (fun H locs hP hS => ?_)
  refine lv_topi (fun w2 e2 => ?_)
  replace hf := zz_vi hf e2
  refine lv_istore_n (lv' := [(3, .int w2), (2, .int w1), (0, .ref (q 0)), (1, .int v1)]) hx hb dX8_returnEngine_29 rfl hl (by decide) rfl (fun ls hl => ?_)
  refine lv_iload_n hx hb dX8_returnEngine_30 rfl (lv_at hl 0 rfl) ?_
  refine lv_if_le (tgt := 55) hx hb dX8_returnEngine_31 (by decide) (fun h => ?_) (fun h => ?_)
  · rw [if_pos h] at hf
    refine lv_aload_n hx hb dX8_returnEngine_55 rfl (lv_at hl 2 rfl) ?_
    refine zz_getf C zi_X8_returnEngine_X8 hP 0 rfl rfl 0 (nm := "land") (ds := "LThirteenthDay$Land;") (fin := true) rfl (by decide) zk_X8_returnEngine_10 rfl dX8_returnEngine_56 ?_
    refine lv_iload_n hx hb dX8_returnEngine_59 rfl (lv_at hl 1 rfl) ?_
    refine lv_iconst (v := 1) hx hb dX8_returnEngine_60 (by decide) ?_
    obtain ⟨st3, e4, hf⟩ := zz_vo hf
    refine zz_callVv C (As := [.int w1, .int 1]) (rest := []) (zz_Mv_e e4 (zc_X1_addEngines _ _ _)) (cwV 2 hts gX8_returnEngine_X1_addEngines rfl rfl rfl zd_X1_addEngines ⟨Nat.le_of_ble_eq_true rfl, Nat.le_of_ble_eq_true rfl⟩) hP hS 1 rfl rfl rfl hl rfl (Nat.le_of_ble_eq_true rfl) dX8_returnEngine_61 ⟨Nat.zero_le _, Nat.zero_le _⟩ (fun H locs hP hS => ?_)
    rw [← hf]
    exact zz_retv C hr hP hS dX8_returnEngine_64
  · rw [if_neg h] at hf
    refine lv_aload_n hx hb dX8_returnEngine_34 rfl (lv_at hl 2 rfl) ?_
    refine zz_getf C zi_X8_returnEngine_X8 hP 0 rfl rfl 4 (nm := "trains") (ds := "LThirteenthDay$Trains;") (fin := true) rfl (by decide) zk_X8_returnEngine_36 rfl dX8_returnEngine_35 ?_
    refine lv_iload_n hx hb dX8_returnEngine_38 rfl (lv_at hl 3 rfl) ?_
    refine lv_bipush (v := 15) hx hb dX8_returnEngine_39 (by decide) ?_
    refine lv_aload_n hx hb dX8_returnEngine_41 rfl (lv_at hl 2 rfl) ?_
    refine zz_getf C zi_X8_returnEngine_X8 hP 0 rfl rfl 9 (nm := "tick") (ds := "I") (fin := false) rfl (by decide) zk_X8_returnEngine_70 rfl dX8_returnEngine_42 ?_
    refine lv_iconst (v := 2) hx hb dX8_returnEngine_45 (by decide) ?_
    refine lv_iload_n hx hb dX8_returnEngine_46 rfl (lv_at hl 0 rfl) ?_
    refine lv_imul hx hb dX8_returnEngine_47 ?_
    refine lv_iadd hx hb dX8_returnEngine_48 ?_
    obtain ⟨st5, e6, hf⟩ := zz_vo hf
    refine zz_callVv C (As := [.int v1, .int 15, .int ((st.2 0) + (2 * w2))]) (rest := []) (zz_Mv_e e6 (zc_X6_set _ _ _ _)) (cwV 3 hts gX8_returnEngine_X6_set rfl rfl rfl zd_X6_set ⟨Nat.le_of_ble_eq_true rfl, Nat.le_of_ble_eq_true rfl⟩) hP hS 5 rfl rfl rfl hl rfl (Nat.le_of_ble_eq_true rfl) dX8_returnEngine_49 ⟨Nat.zero_le _, Nat.zero_le _⟩ (fun H locs hP hS => ?_)
    refine lv_goto (tgt := 64) hx hb dX8_returnEngine_52 (by decide) ?_
    rw [← hf]
    exact zz_retv C hr hP hS dX8_returnEngine_64
/-! X8_finish TW -/
theorem zd_X8_finish : yX8_finish.cls = RX8 ∧ yX8_finish.cls ≠ "java/lang/invoke/MethodHandle" ∧ yX8_finish.cls ≠ "java/lang/invoke/VarHandle" ∧ (parseMethodDescriptor yX8_finish.desc).map (fun d => d.parameters.length) = some 1 := by decide +kernel
abbrev zr_X8_finish : Room := { frames := 3, cells := 0, slots := 0, locals := 70 }
theorem zk_X8_finish_36 : Cond.fieldLink yX8_finish.cls 36 RX8 "trains" "LThirteenthDay$Trains;" ∈ wsX8_finish := by decide +kernel
theorem zk_X8_finish_26 : Cond.fieldLink yX8_finish.cls 26 RX8 "paths" "LThirteenthDay$Paths;" ∈ wsX8_finish := by decide +kernel
theorem zk_X8_finish_50 : Cond.fieldLink yX8_finish.cls 50 RX8 "sectors" "LThirteenthDay$Sectors;" ∈ wsX8_finish := by decide +kernel
theorem zk_X8_finish_19 : Cond.fieldLink yX8_finish.cls 19 RX8 "units" "LThirteenthDay$Units;" ∈ wsX8_finish := by decide +kernel
theorem zk_X8_finish_70 : Cond.fieldLink yX8_finish.cls 70 RX8 "tick" "I" ∈ wsX8_finish := by decide +kernel
theorem zk_X8_finish_43 : Cond.fieldLink yX8_finish.cls 43 RX8 "supplies" "LThirteenthDay$Supplies;" ∈ wsX8_finish := by decide +kernel
theorem zi_X8_finish_X8 : ∀ w ∈ u_ws RX8 TX8 11, w ∈ wsX8_finish := by decide +kernel
def zX8_finish (v1 : Int32) (st : zz_T) : zz_T :=
  zz_v (zX6_get v1 10 st) fun w1 =>
  zz_v (zX6_get v1 14 st) fun w2 =>
  zz_v (zX6_get v1 0 st) fun w3 =>
  zz_v (zX2_takeOut 6 w2 st) fun p4 =>
  zz_v (zX3_takeHome w1 p4.2) fun st6 =>
  if w3 = (-1) then
    zz_v (zX3_store w1 24 st6) fun st14 =>
    zz_v (zX4_free (zX2_supplyOf w2 st14) st14) fun st16 =>
    zz_v (zX8_returnEngine v1 st16) fun st18 =>
    st18
  else
    zz_v (zX3_takeRoad w1 (st6.2 0) st6) fun p8 =>
    zz_v (zX7_march w3 w2 p8.1 p8.2) fun st10 =>
    zz_v (zX8_returnEngine v1 st10) fun st12 =>
    st12
set_option maxHeartbeats 4000000 in
set_option maxRecDepth 100000 in
theorem zc_X8_finish {l : Launch} {A : Nat → Prop} {D : va_G} {cI : ClassId} {q : Nat → Nat} (v1 : Int32) (st : zz_T) : zz_Mv l A D cI q yX8_finish wsX8_finish zr_X8_finish [.ref (q 0), .int v1] st (zX8_finish v1 st) := by
  refine zz_of (cc := cX8_finish) (nL := 5) (ret := none) (by decide) rfl (Nat.le_of_ble_eq_true rfl) ?_
  intro p e s m args below meth c ls C hr hP hS hl
  obtain ⟨hx, hb, hml, hown, hts⟩ := id C.1
  have hl : lv_has ls 5 [(0, .ref (q 0)), (1, .int v1)] := hl
  obtain ⟨r, hf⟩ : ∃ r, zX8_finish v1 st = r := ⟨_, rfl⟩
  rw [hf]
  rw [zX8_finish] at hf
  skip
  refine lv_aload_n hx hb dX8_finish_0 rfl (lv_at hl 0 rfl) ?_
  refine zz_getf C zi_X8_finish_X8 hP 0 rfl rfl 4 (nm := "trains") (ds := "LThirteenthDay$Trains;") (fin := true) rfl (by decide) zk_X8_finish_36 rfl dX8_finish_1 ?_
  refine lv_iload_n hx hb dX8_finish_4 rfl (lv_at hl 1 rfl) ?_
  refine lv_bipush (v := 10) hx hb dX8_finish_5 (by decide) ?_
  refine zz_callVi C (As := [.int v1, .int 10]) (rest := []) (zc_X6_get _ _ _) (cwV 2 hts gX8_finish_X6_get rfl rfl rfl zd_X6_get ⟨Nat.le_of_ble_eq_true rfl, Nat.le_of_ble_eq_true rfl⟩) hP hS 5 rfl rfl rfl hl rfl (Nat.le_of_ble_eq_true rfl) dX8_finish_7 ⟨Nat.zero_le _, Nat.zero_le _⟩ (fun H locs hP hS => ?_)
  refine lv_topi (fun w1 e1 => ?_)
  replace hf := zz_vi hf e1
  refine lv_istore_n (lv' := [(2, .int w1), (0, .ref (q 0)), (1, .int v1)]) hx hb dX8_finish_10 rfl hl (by decide) rfl (fun ls hl => ?_)
  refine lv_aload_n hx hb dX8_finish_11 rfl (lv_at hl 1 rfl) ?_
  refine zz_getf C zi_X8_finish_X8 hP 0 rfl rfl 4 (nm := "trains") (ds := "LThirteenthDay$Trains;") (fin := true) rfl (by decide) zk_X8_finish_36 rfl dX8_finish_12 ?_
  refine lv_iload_n hx hb dX8_finish_15 rfl (lv_at hl 2 rfl) ?_
  refine lv_bipush (v := 14) hx hb dX8_finish_16 (by decide) ?_
  refine zz_callVi C (As := [.int v1, .int 14]) (rest := []) (zc_X6_get _ _ _) (cwV 2 hts gX8_finish_X6_get rfl rfl rfl zd_X6_get ⟨Nat.le_of_ble_eq_true rfl, Nat.le_of_ble_eq_true rfl⟩) hP hS 5 rfl rfl rfl hl rfl (Nat.le_of_ble_eq_true rfl) dX8_finish_18 ⟨Nat.zero_le _, Nat.zero_le _⟩ (fun H locs hP hS => ?_)
  refine lv_topi (fun w2 e2 => ?_)
  replace hf := zz_vi hf e2
  refine lv_istore_n (lv' := [(3, .int w2), (2, .int w1), (0, .ref (q 0)), (1, .int v1)]) hx hb dX8_finish_21 rfl hl (by decide) rfl (fun ls hl => ?_)
  refine lv_aload_n hx hb dX8_finish_22 rfl (lv_at hl 2 rfl) ?_
  refine zz_getf C zi_X8_finish_X8 hP 0 rfl rfl 4 (nm := "trains") (ds := "LThirteenthDay$Trains;") (fin := true) rfl (by decide) zk_X8_finish_36 rfl dX8_finish_23 ?_
  refine lv_iload_n hx hb dX8_finish_26 rfl (lv_at hl 3 rfl) ?_
  refine lv_iconst (v := 0) hx hb dX8_finish_27 (by decide) ?_
  refine zz_callVi C (As := [.int v1, .int 0]) (rest := []) (zc_X6_get _ _ _) (cwV 2 hts gX8_finish_X6_get rfl rfl rfl zd_X6_get ⟨Nat.le_of_ble_eq_true rfl, Nat.le_of_ble_eq_true rfl⟩) hP hS 5 rfl rfl rfl hl rfl (Nat.le_of_ble_eq_true rfl) dX8_finish_28 ⟨Nat.zero_le _, Nat.zero_le _⟩ (fun H locs hP hS => ?_)
  refine lv_topi (fun w3 e3 => ?_)
  replace hf := zz_vi hf e3
  refine lv_istore (lv' := [(4, .int w3), (3, .int w2), (2, .int w1), (0, .ref (q 0)), (1, .int v1)]) hx hb dX8_finish_31 hl (by decide) rfl (fun ls hl => ?_)
  refine lv_aload_n hx hb dX8_finish_33 rfl (lv_at hl 3 rfl) ?_
  refine zz_getf C zi_X8_finish_X8 hP 0 rfl rfl 2 (nm := "paths") (ds := "LThirteenthDay$Paths;") (fin := true) rfl (by decide) zk_X8_finish_26 rfl dX8_finish_34 ?_
  refine lv_iload_n hx hb dX8_finish_37 rfl (lv_at hl 1 rfl) ?_
  obtain ⟨p4, e5, hf⟩ := zz_vo hf
  refine zz_callVi C (As := [.int w2]) (rest := []) (zz_Mz_e e5 (zc_X2_takeOut 3 6 (by decide) _ _)) (cwV 1 hts gX8_finish_X2_takeOut rfl rfl rfl zd_X2_takeOut ⟨Nat.le_of_ble_eq_true rfl, Nat.le_of_ble_eq_true rfl⟩) hP hS 3 rfl rfl rfl hl rfl (Nat.le_of_ble_eq_true rfl) dX8_finish_38 ⟨Nat.zero_le _, Nat.zero_le _⟩ (fun H locs hP hS => ?_)
  refine lv_pop hx hb dX8_finish_41 rfl ?_
  refine lv_aload_n hx hb dX8_finish_42 rfl (lv_at hl 3 rfl) ?_
  refine zz_getf C zi_X8_finish_X8 hP 0 rfl rfl 6 (nm := "sectors") (ds := "LThirteenthDay$Sectors;") (fin := true) rfl (by decide) zk_X8_finish_50 rfl dX8_finish_43 ?_
  refine lv_iload_n hx hb dX8_finish_46 rfl (lv_at hl 2 rfl) ?_
  obtain ⟨st6, e7, hf⟩ := zz_vo hf
  refine zz_callVv C (As := [.int w1]) (rest := []) (zz_Mv_e e7 (zc_X3_takeHome _ _)) (cwV 1 hts gX8_finish_X3_takeHome rfl rfl rfl zd_X3_takeHome ⟨Nat.le_of_ble_eq_true rfl, Nat.le_of_ble_eq_true rfl⟩) hP hS 7 rfl rfl rfl hl rfl (Nat.le_of_ble_eq_true rfl) dX8_finish_47 ⟨Nat.zero_le _, Nat.zero_le _⟩ (fun H locs hP hS => ?_)
  refine lv_iload hx hb dX8_finish_50 (lv_at hl 0 rfl) ?_
  refine lv_iconst (v := (-1)) hx hb dX8_finish_52 (by decide) ?_
  refine lv_icmp_ne (tgt := 80) hx hb dX8_finish_53 (by decide) (fun h => ?_) (fun h => ?_)
  · rw [if_neg h] at hf
    refine lv_aload_n hx hb dX8_finish_80 rfl (lv_at hl 3 rfl) ?_
    refine zz_getf C zi_X8_finish_X8 hP 0 rfl rfl 1 (nm := "units") (ds := "LThirteenthDay$Units;") (fin := true) rfl (by decide) zk_X8_finish_19 rfl dX8_finish_81 ?_
    refine lv_iload hx hb dX8_finish_84 (lv_at hl 0 rfl) ?_
    refine lv_iload_n hx hb dX8_finish_86 rfl (lv_at hl 1 rfl) ?_
    refine lv_aload_n hx hb dX8_finish_87 rfl (lv_at hl 3 rfl) ?_
    refine zz_getf C zi_X8_finish_X8 hP 0 rfl rfl 6 (nm := "sectors") (ds := "LThirteenthDay$Sectors;") (fin := true) rfl (by decide) zk_X8_finish_50 rfl dX8_finish_88 ?_
    refine lv_iload_n hx hb dX8_finish_91 rfl (lv_at hl 2 rfl) ?_
    refine lv_aload_n hx hb dX8_finish_92 rfl (lv_at hl 3 rfl) ?_
    refine zz_getf C zi_X8_finish_X8 hP 0 rfl rfl 9 (nm := "tick") (ds := "I") (fin := false) rfl (by decide) zk_X8_finish_70 rfl dX8_finish_93 ?_
    obtain ⟨p8, e9, hf⟩ := zz_vo hf
    refine zz_callVi C (As := [.int w1, .int (st6.2 0)]) (rest := [.int w2, .int w3, .ref (q 2)]) (zz_Mi_e e9 (zc_X3_takeRoad _ _ _)) (cwV 2 hts gX8_finish_X3_takeRoad rfl rfl rfl zd_X3_takeRoad ⟨Nat.le_of_ble_eq_true rfl, Nat.le_of_ble_eq_true rfl⟩) hP hS 7 rfl rfl rfl hl rfl (Nat.le_of_ble_eq_true rfl) dX8_finish_96 ⟨Nat.zero_le _, Nat.zero_le _⟩ (fun H locs hP hS => ?_)
    obtain ⟨st10, e11, hf⟩ := zz_vo hf
    refine zz_callVv C (As := [.int w3, .int w2, .int p8.1]) (rest := []) (zz_Mv_e e11 (zc_X7_march _ _ _ _)) (cwV 3 hts gX8_finish_X7_march rfl rfl rfl zd_X7_march ⟨Nat.le_of_ble_eq_true rfl, Nat.le_of_ble_eq_true rfl⟩) hP hS 2 rfl rfl rfl hl rfl (Nat.le_of_ble_eq_true rfl) dX8_finish_99 ⟨Nat.zero_le _, Nat.zero_le _⟩ (fun H locs hP hS => ?_)
    refine lv_aload_n hx hb dX8_finish_102 rfl (lv_at hl 3 rfl) ?_
    refine lv_iload_n hx hb dX8_finish_103 rfl (lv_at hl 4 rfl) ?_
    obtain ⟨st12, e13, hf⟩ := zz_vo hf
    refine zz_callVv C (As := [.int v1]) (rest := []) (zz_Mv_e e13 (zc_X8_returnEngine _ _)) (cwV 1 hts gX8_finish_X8_returnEngine rfl rfl rfl zd_X8_returnEngine ⟨Nat.le_of_ble_eq_true rfl, Nat.le_of_ble_eq_true rfl⟩) hP hS 0 rfl rfl rfl hl rfl (Nat.le_of_ble_eq_true rfl) dX8_finish_104 ⟨Nat.zero_le _, Nat.zero_le _⟩ (fun H locs hP hS => ?_)
    rw [← hf]
    exact zz_retv C hr hP hS dX8_finish_107
  · rw [if_pos h] at hf
    refine lv_aload_n hx hb dX8_finish_56 rfl (lv_at hl 3 rfl) ?_
    refine zz_getf C zi_X8_finish_X8 hP 0 rfl rfl 6 (nm := "sectors") (ds := "LThirteenthDay$Sectors;") (fin := true) rfl (by decide) zk_X8_finish_50 rfl dX8_finish_57 ?_
    refine lv_iload_n hx hb dX8_finish_60 rfl (lv_at hl 2 rfl) ?_
    refine lv_bipush (v := 24) hx hb dX8_finish_61 (by decide) ?_
    obtain ⟨st14, e15, hf⟩ := zz_vo hf
    refine zz_callVv C (As := [.int w1, .int 24]) (rest := []) (zz_Mv_e e15 (zc_X3_store _ _ _)) (cwV 2 hts gX8_finish_X3_store rfl rfl rfl zd_X3_store ⟨Nat.le_of_ble_eq_true rfl, Nat.le_of_ble_eq_true rfl⟩) hP hS 7 rfl rfl rfl hl rfl (Nat.le_of_ble_eq_true rfl) dX8_finish_63 ⟨Nat.zero_le _, Nat.zero_le _⟩ (fun H locs hP hS => ?_)
    refine lv_aload_n hx hb dX8_finish_66 rfl (lv_at hl 3 rfl) ?_
    refine zz_getf C zi_X8_finish_X8 hP 0 rfl rfl 5 (nm := "supplies") (ds := "LThirteenthDay$Supplies;") (fin := true) rfl (by decide) zk_X8_finish_43 rfl dX8_finish_67 ?_
    refine lv_iload_n hx hb dX8_finish_70 rfl (lv_at hl 1 rfl) ?_
    refine zz_callSi C (As := [.int w2]) (rest := [.ref (q 6)]) (zc_X2_supplyOf _ _) (va_cwS 1 hts gX8_finish_X2_supplyOf rfl rfl rfl zd_X2_supplyOf.2 ⟨Nat.le_of_ble_eq_true rfl, Nat.le_of_ble_eq_true rfl⟩) hP hS rfl hl rfl (Nat.le_of_ble_eq_true rfl) dX8_finish_71 ⟨Nat.zero_le _, Nat.zero_le _⟩ (fun H locs hP hS => ?_)
    obtain ⟨st16, e17, hf⟩ := zz_vo hf
    refine zz_callVv C (As := [.int (zX2_supplyOf w2 st14)]) (rest := []) (zz_Mv_e e17 (zc_X4_free _ _)) (cwV 1 hts gX8_finish_X4_free rfl rfl rfl zd_X4_free ⟨Nat.le_of_ble_eq_true rfl, Nat.le_of_ble_eq_true rfl⟩) hP hS 6 rfl rfl rfl hl rfl (Nat.le_of_ble_eq_true rfl) dX8_finish_74 ⟨Nat.zero_le _, Nat.zero_le _⟩ (fun H locs hP hS => ?_)
    refine lv_goto (tgt := 102) hx hb dX8_finish_77 (by decide) ?_
    refine lv_aload_n hx hb dX8_finish_102 rfl (lv_at hl 3 rfl) ?_
    refine lv_iload_n hx hb dX8_finish_103 rfl (lv_at hl 4 rfl) ?_
    obtain ⟨st18, e19, hf⟩ := zz_vo hf
    refine zz_callVv C (As := [.int v1]) (rest := []) (zz_Mv_e e19 (zc_X8_returnEngine _ _)) (cwV 1 hts gX8_finish_X8_returnEngine rfl rfl rfl zd_X8_returnEngine ⟨Nat.le_of_ble_eq_true rfl, Nat.le_of_ble_eq_true rfl⟩) hP hS 0 rfl rfl rfl hl rfl (Nat.le_of_ble_eq_true rfl) dX8_finish_104 ⟨Nat.zero_le _, Nat.zero_le _⟩ (fun H locs hP hS => ?_)
    rw [← hf]
    exact zz_retv C hr hP hS dX8_finish_107
/-! X8_isNoFoePlan TR -/
theorem zd_X8_isNoFoePlan : yX8_isNoFoePlan.cls = RX8 ∧ yX8_isNoFoePlan.cls ≠ "java/lang/invoke/MethodHandle" ∧ yX8_isNoFoePlan.cls ≠ "java/lang/invoke/VarHandle" ∧ (parseMethodDescriptor yX8_isNoFoePlan.desc).map (fun d => d.parameters.length) = some 1 := by decide +kernel
abbrev zr_X8_isNoFoePlan : Room := { frames := 0, cells := 0, slots := 0, locals := 0 }
def zX8_isNoFoePlan (v0 : Int32) (st : zz_T) : Bool :=
  if v0 < 0 then
    true
  else
    if v0 < 3 then
      false
    else
      true
set_option maxHeartbeats 4000000 in
set_option maxRecDepth 100000 in
theorem zc_X8_isNoFoePlan {l : Launch} {A : Nat → Prop} {D : va_G} {cI : ClassId} {q : Nat → Nat} (v0 : Int32) (st : zz_T) : zz_Mi l A D cI q yX8_isNoFoePlan wsX8_isNoFoePlan zr_X8_isNoFoePlan [.int v0] st (zz_b (zX8_isNoFoePlan v0 st)) st := by
  refine zz_of (cc := cX8_isNoFoePlan) (nL := 1) (ret := some .boolean) (by decide) rfl (Nat.le_of_ble_eq_true rfl) ?_
  intro p e s m args below meth c ls C hr hP hS hl
  obtain ⟨hx, hb, hml, hown, hts⟩ := id C.1
  have hl : lv_has ls 1 [(0, .int v0)] := hl
  obtain ⟨r, hf⟩ : ∃ r, zX8_isNoFoePlan v0 st = r := ⟨_, rfl⟩
  rw [hf]
  rw [zX8_isNoFoePlan] at hf
  skip
  refine lv_iload_n hx hb dX8_isNoFoePlan_0 rfl (lv_at hl 0 rfl) ?_
  refine lv_if_lt (tgt := 9) hx hb dX8_isNoFoePlan_1 (by decide) (fun h => ?_) (fun h => ?_)
  · rw [if_pos h] at hf
    refine lv_iconst (v := 1) hx hb dX8_isNoFoePlan_9 (by decide) ?_
    refine lv_goto (tgt := 14) hx hb dX8_isNoFoePlan_10 (by decide) ?_
    rw [← hf]
    exact zz_retz (v := true) C hr hP hS dX8_isNoFoePlan_14
  · rw [if_neg h] at hf
    refine lv_iload_n hx hb dX8_isNoFoePlan_4 rfl (lv_at hl 0 rfl) ?_
    refine lv_iconst (v := 3) hx hb dX8_isNoFoePlan_5 (by decide) ?_
    refine lv_icmp_lt (tgt := 13) hx hb dX8_isNoFoePlan_6 (by decide) (fun h => ?_) (fun h => ?_)
    · rw [if_pos h] at hf
      refine lv_iconst (v := 0) hx hb dX8_isNoFoePlan_13 (by decide) ?_
      rw [← hf]
      exact zz_retz (v := false) C hr hP hS dX8_isNoFoePlan_14
    · rw [if_neg h] at hf
      refine lv_iconst (v := 1) hx hb dX8_isNoFoePlan_9 (by decide) ?_
      refine lv_goto (tgt := 14) hx hb dX8_isNoFoePlan_10 (by decide) ?_
      rw [← hf]
      exact zz_retz (v := true) C hr hP hS dX8_isNoFoePlan_14
/-! X8_foe PW -/
theorem zd_X8_foe : yX8_foe.cls = RX8 ∧ yX8_foe.cls ≠ "java/lang/invoke/MethodHandle" ∧ yX8_foe.cls ≠ "java/lang/invoke/VarHandle" ∧ (parseMethodDescriptor yX8_foe.desc).map (fun d => d.parameters.length) = some 4 := by decide +kernel
abbrev zr_X8_foe : Room := { frames := 2, cells := 0, slots := 0, locals := 49 }
theorem zk_X8_foe_57 : Cond.fieldLink yX8_foe.cls 57 RX8 "foes" "LThirteenthDay$Foes;" ∈ wsX8_foe := by decide +kernel
theorem zi_X8_foe_X8 : ∀ w ∈ u_ws RX8 TX8 11, w ∈ wsX8_foe := by decide +kernel
def zX8_foe (v1 : Int32) (v2 : Int32) (v3 : Int32) (v4 : Int32) (st : zz_T) : Option (Int32 × zz_T) :=
  if (zX8_isNoFoePlan v1 st) = true then
    none
  else
    if (zX8_isNoSector v2 st) = true then
      none
    else
      if v3 ≤ (zX8_day st) then
        none
      else
        if v3 ≤ 20 then
          if v4 < 1 then
            none
          else
            if v4 ≤ 60 then
              if (zX0_countOf v1 st) < 6 then
                zz_v (zX0_add v1 v2 v3 v4 st) fun p1 =>
                some (p1.1, p1.2)
              else
                none
            else
              none
        else
          none
set_option maxHeartbeats 4000000 in
set_option maxRecDepth 100000 in
theorem zc_X8_foe {l : Launch} {A : Nat → Prop} {D : va_G} {cI : ClassId} {q : Nat → Nat} (v1 : Int32) (v2 : Int32) (v3 : Int32) (v4 : Int32) (st : zz_T) (r : (Int32 × zz_T)) (hf : zX8_foe v1 v2 v3 v4 st = some r) : zz_Mi l A D cI q yX8_foe wsX8_foe zr_X8_foe [.ref (q 0), .int v1, .int v2, .int v3, .int v4] st r.1 r.2 := by
  refine zz_of (cc := cX8_foe) (nL := 5) (ret := some .int) (by decide) rfl (Nat.le_of_ble_eq_true rfl) ?_
  intro p e s m args below meth c ls C hr hP hS hl
  obtain ⟨hx, hb, hml, hown, hts⟩ := id C.1
  have hl : lv_has ls 5 [(0, .ref (q 0)), (1, .int v1), (2, .int v2), (3, .int v3), (4, .int v4)] := hl
  rw [zX8_foe] at hf
  skip
  refine lv_iload_n hx hb dX8_foe_0 rfl (lv_at hl 1 rfl) ?_
  refine zz_callSi C (As := [.int v1]) (rest := []) (zc_X8_isNoFoePlan _ _) (va_cwS 1 hts gX8_foe_X8_isNoFoePlan rfl rfl rfl zd_X8_isNoFoePlan.2 ⟨Nat.le_of_ble_eq_true rfl, Nat.le_of_ble_eq_true rfl⟩) hP hS rfl hl rfl (Nat.le_of_ble_eq_true rfl) dX8_foe_1 ⟨Nat.zero_le _, Nat.zero_le _⟩ (fun H locs hP hS => ?_)
  refine lv_if_eq (tgt := 18) hx hb dX8_foe_4 (by decide) (fun h => ?_) (fun h => ?_)
  · rw [zz_if0 (zz_b0 h)] at hf
    refine lv_iload_n hx hb dX8_foe_18 rfl (lv_at hl 2 rfl) ?_
    refine zz_callSi C (As := [.int v2]) (rest := []) (zc_X8_isNoSector _ _) (va_cwS 1 hts gX8_foe_X8_isNoSector rfl rfl rfl zd_X8_isNoSector.2 ⟨Nat.le_of_ble_eq_true rfl, Nat.le_of_ble_eq_true rfl⟩) hP hS rfl hl rfl (Nat.le_of_ble_eq_true rfl) dX8_foe_19 ⟨Nat.zero_le _, Nat.zero_le _⟩ (fun H locs hP hS => ?_)
    refine lv_if_eq (tgt := 35) hx hb dX8_foe_22 (by decide) (fun h => ?_) (fun h => ?_)
    · rw [zz_if0 (zz_b0 h)] at hf
      refine lv_iload_n hx hb dX8_foe_35 rfl (lv_at hl 3 rfl) ?_
      refine lv_aload_n hx hb dX8_foe_36 rfl (lv_at hl 0 rfl) ?_
      refine zz_callVi C (As := []) (rest := [.int v3]) (zc_X8_day _) (cwV 0 hts gX8_foe_X8_day rfl rfl rfl zd_X8_day ⟨Nat.le_of_ble_eq_true rfl, Nat.le_of_ble_eq_true rfl⟩) hP hS 0 rfl rfl rfl hl rfl (Nat.le_of_ble_eq_true rfl) dX8_foe_37 ⟨Nat.zero_le _, Nat.zero_le _⟩ (fun H locs hP hS => ?_)
      refine lv_icmp_le (tgt := 49) hx hb dX8_foe_40 (by decide) (fun h => ?_) (fun h => ?_)
      · rw [if_pos h] at hf
        cases hf
      · rw [if_neg h] at hf
        refine lv_iload_n hx hb dX8_foe_43 rfl (lv_at hl 3 rfl) ?_
        refine lv_bipush (v := 20) hx hb dX8_foe_44 (by decide) ?_
        refine lv_icmp_le (tgt := 60) hx hb dX8_foe_46 (by decide) (fun h => ?_) (fun h => ?_)
        · rw [if_pos h] at hf
          refine lv_iload hx hb dX8_foe_60 (lv_at hl 4 rfl) ?_
          refine lv_iconst (v := 1) hx hb dX8_foe_62 (by decide) ?_
          refine lv_icmp_lt (tgt := 73) hx hb dX8_foe_63 (by decide) (fun h => ?_) (fun h => ?_)
          · rw [if_pos h] at hf
            cases hf
          · rw [if_neg h] at hf
            refine lv_iload hx hb dX8_foe_66 (lv_at hl 4 rfl) ?_
            refine lv_bipush (v := 60) hx hb dX8_foe_68 (by decide) ?_
            refine lv_icmp_le (tgt := 84) hx hb dX8_foe_70 (by decide) (fun h => ?_) (fun h => ?_)
            · rw [if_pos h] at hf
              refine lv_aload_n hx hb dX8_foe_84 rfl (lv_at hl 0 rfl) ?_
              refine zz_getf C zi_X8_foe_X8 hP 0 rfl rfl 7 (nm := "foes") (ds := "LThirteenthDay$Foes;") (fin := true) rfl (by decide) zk_X8_foe_57 rfl dX8_foe_85 ?_
              refine lv_iload_n hx hb dX8_foe_88 rfl (lv_at hl 1 rfl) ?_
              refine zz_callVi C (As := [.int v1]) (rest := []) (zc_X0_countOf _ _) (cwV 1 hts gX8_foe_X0_countOf rfl rfl rfl zd_X0_countOf ⟨Nat.le_of_ble_eq_true rfl, Nat.le_of_ble_eq_true rfl⟩) hP hS 8 rfl rfl rfl hl rfl (Nat.le_of_ble_eq_true rfl) dX8_foe_89 ⟨Nat.zero_le _, Nat.zero_le _⟩ (fun H locs hP hS => ?_)
              refine lv_bipush (v := 6) hx hb dX8_foe_92 (by decide) ?_
              refine lv_icmp_lt (tgt := 108) hx hb dX8_foe_94 (by decide) (fun h => ?_) (fun h => ?_)
              · rw [if_pos h] at hf
                refine lv_aload_n hx hb dX8_foe_108 rfl (lv_at hl 0 rfl) ?_
                refine zz_getf C zi_X8_foe_X8 hP 0 rfl rfl 7 (nm := "foes") (ds := "LThirteenthDay$Foes;") (fin := true) rfl (by decide) zk_X8_foe_57 rfl dX8_foe_109 ?_
                refine lv_iload_n hx hb dX8_foe_112 rfl (lv_at hl 1 rfl) ?_
                refine lv_iload_n hx hb dX8_foe_113 rfl (lv_at hl 2 rfl) ?_
                refine lv_iload_n hx hb dX8_foe_114 rfl (lv_at hl 3 rfl) ?_
                refine lv_iload hx hb dX8_foe_115 (lv_at hl 4 rfl) ?_
                obtain ⟨p1, e2, hf⟩ := zz_vo hf
                refine zz_callVi C (As := [.int v1, .int v2, .int v3, .int v4]) (rest := []) (zz_Mi_e e2 (zc_X0_add _ _ _ _ _)) (cwV 4 hts gX8_foe_X0_add rfl rfl rfl zd_X0_add ⟨Nat.le_of_ble_eq_true rfl, Nat.le_of_ble_eq_true rfl⟩) hP hS 8 rfl rfl rfl hl rfl (Nat.le_of_ble_eq_true rfl) dX8_foe_117 ⟨Nat.zero_le _, Nat.zero_le _⟩ (fun H locs hP hS => ?_)
                rw [← (Option.some.inj hf)]
                exact zz_reti C hr hP hS dX8_foe_120
              · rw [if_neg h] at hf
                cases hf
            · rw [if_neg h] at hf
              cases hf
        · rw [if_neg h] at hf
          cases hf
    · rw [zz_if1 (zz_b1 h)] at hf
      cases hf
  · rw [zz_if1 (zz_b1 h)] at hf
    cases hf
/-! X8_foul PW -/
theorem zd_X8_foul : yX8_foul.cls = RX8 ∧ yX8_foul.cls ≠ "java/lang/invoke/MethodHandle" ∧ yX8_foul.cls ≠ "java/lang/invoke/VarHandle" ∧ (parseMethodDescriptor yX8_foul.desc).map (fun d => d.parameters.length) = some 2 := by decide +kernel
abbrev zr_X8_foul : Room := { frames := 2, cells := 0, slots := 0, locals := 47 }
theorem zk_X8_foul_10 : Cond.fieldLink yX8_foul.cls 10 RX8 "land" "LThirteenthDay$Land;" ∈ wsX8_foul := by decide +kernel
theorem zi_X8_foul_X8 : ∀ w ∈ u_ws RX8 TX8 11, w ∈ wsX8_foul := by decide +kernel
def zX8_foul (v1 : Int32) (v2 : Int32) (st : zz_T) : Option (Int32 × zz_T) :=
  if (zX1_hasStation v1 st) = true then
    if v2 < 0 then
      none
    else
      if v2 ≤ 144 then
        zz_v (zX1_getStation v1 4 st) fun w1 =>
        zz_v (zX1_setStation v1 4 v2 st) fun st2 =>
        some (w1, st2)
      else
        none
  else
    none
set_option maxHeartbeats 4000000 in
set_option maxRecDepth 100000 in
theorem zc_X8_foul {l : Launch} {A : Nat → Prop} {D : va_G} {cI : ClassId} {q : Nat → Nat} (v1 : Int32) (v2 : Int32) (st : zz_T) (r : (Int32 × zz_T)) (hf : zX8_foul v1 v2 st = some r) : zz_Mi l A D cI q yX8_foul wsX8_foul zr_X8_foul [.ref (q 0), .int v1, .int v2] st r.1 r.2 := by
  refine zz_of (cc := cX8_foul) (nL := 4) (ret := some .int) (by decide) rfl (Nat.le_of_ble_eq_true rfl) ?_
  intro p e s m args below meth c ls C hr hP hS hl
  obtain ⟨hx, hb, hml, hown, hts⟩ := id C.1
  have hl : lv_has ls 4 [(0, .ref (q 0)), (1, .int v1), (2, .int v2)] := hl
  rw [zX8_foul] at hf
  skip
  refine lv_aload_n hx hb dX8_foul_0 rfl (lv_at hl 0 rfl) ?_
  refine zz_getf C zi_X8_foul_X8 hP 0 rfl rfl 0 (nm := "land") (ds := "LThirteenthDay$Land;") (fin := true) rfl (by decide) zk_X8_foul_10 rfl dX8_foul_1 ?_
  refine lv_iload_n hx hb dX8_foul_4 rfl (lv_at hl 1 rfl) ?_
  refine zz_callVi C (As := [.int v1]) (rest := []) (zc_X1_hasStation _ _) (cwV 1 hts gX8_foul_X1_hasStation rfl rfl rfl zd_X1_hasStation ⟨Nat.le_of_ble_eq_true rfl, Nat.le_of_ble_eq_true rfl⟩) hP hS 1 rfl rfl rfl hl rfl (Nat.le_of_ble_eq_true rfl) dX8_foul_5 ⟨Nat.zero_le _, Nat.zero_le _⟩ (fun H locs hP hS => ?_)
  refine lv_if_ne (tgt := 21) hx hb dX8_foul_8 (by decide) (fun h => ?_) (fun h => ?_)
  · rw [zz_if1 (zz_b1 h)] at hf
    refine lv_iload_n hx hb dX8_foul_21 rfl (lv_at hl 2 rfl) ?_
    refine lv_if_lt (tgt := 32) hx hb dX8_foul_22 (by decide) (fun h => ?_) (fun h => ?_)
    · rw [if_pos h] at hf
      cases hf
    · rw [if_neg h] at hf
      refine lv_iload_n hx hb dX8_foul_25 rfl (lv_at hl 2 rfl) ?_
      refine lv_sipush (v := 144) hx hb dX8_foul_26 (by decide) ?_
      refine lv_icmp_le (tgt := 43) hx hb dX8_foul_29 (by decide) (fun h => ?_) (fun h => ?_)
      · rw [if_pos h] at hf
        refine lv_aload_n hx hb dX8_foul_43 rfl (lv_at hl 0 rfl) ?_
        refine zz_getf C zi_X8_foul_X8 hP 0 rfl rfl 0 (nm := "land") (ds := "LThirteenthDay$Land;") (fin := true) rfl (by decide) zk_X8_foul_10 rfl dX8_foul_44 ?_
        refine lv_iload_n hx hb dX8_foul_47 rfl (lv_at hl 1 rfl) ?_
        refine lv_iconst (v := 4) hx hb dX8_foul_48 (by decide) ?_
        refine zz_callVi C (As := [.int v1, .int 4]) (rest := []) (zc_X1_getStation _ _ _) (cwV 2 hts gX8_foul_X1_getStation rfl rfl rfl zd_X1_getStation ⟨Nat.le_of_ble_eq_true rfl, Nat.le_of_ble_eq_true rfl⟩) hP hS 1 rfl rfl rfl hl rfl (Nat.le_of_ble_eq_true rfl) dX8_foul_49 ⟨Nat.zero_le _, Nat.zero_le _⟩ (fun H locs hP hS => ?_)
        refine lv_topi (fun w1 e1 => ?_)
        replace hf := zz_vi hf e1
        refine lv_istore_n (lv' := [(3, .int w1), (0, .ref (q 0)), (1, .int v1), (2, .int v2)]) hx hb dX8_foul_52 rfl hl (by decide) rfl (fun ls hl => ?_)
        refine lv_aload_n hx hb dX8_foul_53 rfl (lv_at hl 1 rfl) ?_
        refine zz_getf C zi_X8_foul_X8 hP 0 rfl rfl 0 (nm := "land") (ds := "LThirteenthDay$Land;") (fin := true) rfl (by decide) zk_X8_foul_10 rfl dX8_foul_54 ?_
        refine lv_iload_n hx hb dX8_foul_57 rfl (lv_at hl 2 rfl) ?_
        refine lv_iconst (v := 4) hx hb dX8_foul_58 (by decide) ?_
        refine lv_iload_n hx hb dX8_foul_59 rfl (lv_at hl 3 rfl) ?_
        obtain ⟨st2, e3, hf⟩ := zz_vo hf
        refine zz_callVv C (As := [.int v1, .int 4, .int v2]) (rest := []) (zz_Mv_e e3 (zc_X1_setStation _ _ _ _)) (cwV 3 hts gX8_foul_X1_setStation rfl rfl rfl zd_X1_setStation ⟨Nat.le_of_ble_eq_true rfl, Nat.le_of_ble_eq_true rfl⟩) hP hS 1 rfl rfl rfl hl rfl (Nat.le_of_ble_eq_true rfl) dX8_foul_60 ⟨Nat.zero_le _, Nat.zero_le _⟩ (fun H locs hP hS => ?_)
        refine lv_iload_n hx hb dX8_foul_63 rfl (lv_at hl 0 rfl) ?_
        rw [← (Option.some.inj hf)]
        exact zz_reti C hr hP hS dX8_foul_64
      · rw [if_neg h] at hf
        cases hf
  · rw [zz_if0 (zz_b0 h)] at hf
    cases hf
/-! X8_isNoTrack TR -/
theorem zd_X8_isNoTrack : yX8_isNoTrack.cls = RX8 ∧ yX8_isNoTrack.cls ≠ "java/lang/invoke/MethodHandle" ∧ yX8_isNoTrack.cls ≠ "java/lang/invoke/VarHandle" ∧ (parseMethodDescriptor yX8_isNoTrack.desc).map (fun d => d.parameters.length) = some 2 := by decide +kernel
abbrev zr_X8_isNoTrack : Room := { frames := 0, cells := 0, slots := 0, locals := 0 }
def zX8_isNoTrack (v0 : Int32) (v1 : Int32) (st : zz_T) : Bool :=
  if v0 < 1 then
    true
  else
    if 5 < v0 then
      true
    else
      if v1 < 0 then
        true
      else
        if v1 ≤ 2 then
          false
        else
          true
set_option maxHeartbeats 4000000 in
set_option maxRecDepth 100000 in
theorem zc_X8_isNoTrack {l : Launch} {A : Nat → Prop} {D : va_G} {cI : ClassId} {q : Nat → Nat} (v0 : Int32) (v1 : Int32) (st : zz_T) : zz_Mi l A D cI q yX8_isNoTrack wsX8_isNoTrack zr_X8_isNoTrack [.int v0, .int v1] st (zz_b (zX8_isNoTrack v0 v1 st)) st := by
  refine zz_of (cc := cX8_isNoTrack) (nL := 2) (ret := some .boolean) (by decide) rfl (Nat.le_of_ble_eq_true rfl) ?_
  intro p e s m args below meth c ls C hr hP hS hl
  obtain ⟨hx, hb, hml, hown, hts⟩ := id C.1
  have hl : lv_has ls 2 [(0, .int v0), (1, .int v1)] := hl
  obtain ⟨r, hf⟩ : ∃ r, zX8_isNoTrack v0 v1 st = r := ⟨_, rfl⟩
  rw [hf]
  rw [zX8_isNoTrack] at hf
  skip
  refine lv_iload_n hx hb dX8_isNoTrack_0 rfl (lv_at hl 0 rfl) ?_
  refine lv_iconst (v := 1) hx hb dX8_isNoTrack_1 (by decide) ?_
  refine lv_icmp_lt (tgt := 19) hx hb dX8_isNoTrack_2 (by decide) (fun h => ?_) (fun h => ?_)
  · rw [if_pos h] at hf
    refine lv_iconst (v := 1) hx hb dX8_isNoTrack_19 (by decide) ?_
    refine lv_goto (tgt := 24) hx hb dX8_isNoTrack_20 (by decide) ?_
    rw [← hf]
    exact zz_retz (v := true) C hr hP hS dX8_isNoTrack_24
  · rw [if_neg h] at hf
    refine lv_iload_n hx hb dX8_isNoTrack_5 rfl (lv_at hl 0 rfl) ?_
    refine lv_iconst (v := 5) hx hb dX8_isNoTrack_6 (by decide) ?_
    refine lv_icmp_gt (tgt := 19) hx hb dX8_isNoTrack_7 (by decide) (fun h => ?_) (fun h => ?_)
    · rw [if_pos h] at hf
      refine lv_iconst (v := 1) hx hb dX8_isNoTrack_19 (by decide) ?_
      refine lv_goto (tgt := 24) hx hb dX8_isNoTrack_20 (by decide) ?_
      rw [← hf]
      exact zz_retz (v := true) C hr hP hS dX8_isNoTrack_24
    · rw [if_neg h] at hf
      refine lv_iload_n hx hb dX8_isNoTrack_10 rfl (lv_at hl 1 rfl) ?_
      refine lv_if_lt (tgt := 19) hx hb dX8_isNoTrack_11 (by decide) (fun h => ?_) (fun h => ?_)
      · rw [if_pos h] at hf
        refine lv_iconst (v := 1) hx hb dX8_isNoTrack_19 (by decide) ?_
        refine lv_goto (tgt := 24) hx hb dX8_isNoTrack_20 (by decide) ?_
        rw [← hf]
        exact zz_retz (v := true) C hr hP hS dX8_isNoTrack_24
      · rw [if_neg h] at hf
        refine lv_iload_n hx hb dX8_isNoTrack_14 rfl (lv_at hl 1 rfl) ?_
        refine lv_iconst (v := 2) hx hb dX8_isNoTrack_15 (by decide) ?_
        refine lv_icmp_le (tgt := 23) hx hb dX8_isNoTrack_16 (by decide) (fun h => ?_) (fun h => ?_)
        · rw [if_pos h] at hf
          refine lv_iconst (v := 0) hx hb dX8_isNoTrack_23 (by decide) ?_
          rw [← hf]
          exact zz_retz (v := false) C hr hP hS dX8_isNoTrack_24
        · rw [if_neg h] at hf
          refine lv_iconst (v := 1) hx hb dX8_isNoTrack_19 (by decide) ?_
          refine lv_goto (tgt := 24) hx hb dX8_isNoTrack_20 (by decide) ?_
          rw [← hf]
          exact zz_retz (v := true) C hr hP hS dX8_isNoTrack_24
/-! X8_land PW -/
theorem zd_X8_land : yX8_land.cls = RX8 ∧ yX8_land.cls ≠ "java/lang/invoke/MethodHandle" ∧ yX8_land.cls ≠ "java/lang/invoke/VarHandle" ∧ (parseMethodDescriptor yX8_land.desc).map (fun d => d.parameters.length) = some 2 := by decide +kernel
abbrev zr_X8_land : Room := { frames := 6, cells := 0, slots := 0, locals := 145 }
theorem zk_X8_land_10 : Cond.fieldLink yX8_land.cls 10 RX8 "land" "LThirteenthDay$Land;" ∈ wsX8_land := by decide +kernel
theorem zi_X8_land_X8 : ∀ w ∈ u_ws RX8 TX8 11, w ∈ wsX8_land := by decide +kernel
def zX8_land (v1 : Int32) (v2 : Int32) (st : zz_T) : Option (Int32 × zz_T) :=
  if (zX8_isNoTrack v1 v2 st) = true then
    none
  else
    if (zX1_countStations st) ≤ 0 then
      (zX1_addWhole v1 v2 st).bind fun st1 =>
      some ((zX1_countLines st1), st1)
    else
      none
set_option maxHeartbeats 4000000 in
set_option maxRecDepth 100000 in
theorem zc_X8_land {l : Launch} {A : Nat → Prop} {D : va_G} {cI : ClassId} {q : Nat → Nat} (v1 : Int32) (v2 : Int32) (st : zz_T) (r : (Int32 × zz_T)) (hf : zX8_land v1 v2 st = some r) : zz_Mi l A D cI q yX8_land wsX8_land zr_X8_land [.ref (q 0), .int v1, .int v2] st r.1 r.2 := by
  refine zz_of (cc := cX8_land) (nL := 3) (ret := some .int) (by decide) rfl (Nat.le_of_ble_eq_true rfl) ?_
  intro p e s m args below meth c ls C hr hP hS hl
  obtain ⟨hx, hb, hml, hown, hts⟩ := id C.1
  have hl : lv_has ls 3 [(0, .ref (q 0)), (1, .int v1), (2, .int v2)] := hl
  rw [zX8_land] at hf
  skip
  refine lv_iload_n hx hb dX8_land_0 rfl (lv_at hl 1 rfl) ?_
  refine lv_iload_n hx hb dX8_land_1 rfl (lv_at hl 2 rfl) ?_
  refine zz_callSi C (As := [.int v1, .int v2]) (rest := []) (zc_X8_isNoTrack _ _ _) (va_cwS 2 hts gX8_land_X8_isNoTrack rfl rfl rfl zd_X8_isNoTrack.2 ⟨Nat.le_of_ble_eq_true rfl, Nat.le_of_ble_eq_true rfl⟩) hP hS rfl hl rfl (Nat.le_of_ble_eq_true rfl) dX8_land_2 ⟨Nat.zero_le _, Nat.zero_le _⟩ (fun H locs hP hS => ?_)
  refine lv_if_eq (tgt := 18) hx hb dX8_land_5 (by decide) (fun h => ?_) (fun h => ?_)
  · rw [zz_if0 (zz_b0 h)] at hf
    refine lv_aload_n hx hb dX8_land_18 rfl (lv_at hl 0 rfl) ?_
    refine zz_getf C zi_X8_land_X8 hP 0 rfl rfl 0 (nm := "land") (ds := "LThirteenthDay$Land;") (fin := true) rfl (by decide) zk_X8_land_10 rfl dX8_land_19 ?_
    refine zz_callVi C (As := []) (rest := []) (zc_X1_countStations _) (cwV 0 hts gX8_land_X1_countStations rfl rfl rfl zd_X1_countStations ⟨Nat.le_of_ble_eq_true rfl, Nat.le_of_ble_eq_true rfl⟩) hP hS 1 rfl rfl rfl hl rfl (Nat.le_of_ble_eq_true rfl) dX8_land_22 ⟨Nat.zero_le _, Nat.zero_le _⟩ (fun H locs hP hS => ?_)
    refine lv_if_le (tgt := 38) hx hb dX8_land_25 (by decide) (fun h => ?_) (fun h => ?_)
    · rw [if_pos h] at hf
      refine lv_aload_n hx hb dX8_land_38 rfl (lv_at hl 0 rfl) ?_
      refine zz_getf C zi_X8_land_X8 hP 0 rfl rfl 0 (nm := "land") (ds := "LThirteenthDay$Land;") (fin := true) rfl (by decide) zk_X8_land_10 rfl dX8_land_39 ?_
      refine lv_iload_n hx hb dX8_land_42 rfl (lv_at hl 1 rfl) ?_
      refine lv_iload_n hx hb dX8_land_43 rfl (lv_at hl 2 rfl) ?_
      obtain ⟨st1, e2, hf⟩ := zz_bo hf
      refine zz_callVv C (As := [.int v1, .int v2]) (rest := []) (zc_X1_addWhole _ _ _ _ e2) (cwV 2 hts gX8_land_X1_addWhole rfl rfl rfl zd_X1_addWhole ⟨Nat.le_of_ble_eq_true rfl, Nat.le_of_ble_eq_true rfl⟩) hP hS 1 rfl rfl rfl hl rfl (Nat.le_of_ble_eq_true rfl) dX8_land_44 ⟨Nat.zero_le _, Nat.zero_le _⟩ (fun H locs hP hS => ?_)
      refine lv_aload_n hx hb dX8_land_47 rfl (lv_at hl 0 rfl) ?_
      refine zz_getf C zi_X8_land_X8 hP 0 rfl rfl 0 (nm := "land") (ds := "LThirteenthDay$Land;") (fin := true) rfl (by decide) zk_X8_land_10 rfl dX8_land_48 ?_
      refine zz_callVi C (As := []) (rest := []) (zc_X1_countLines _) (cwV 0 hts gX8_land_X1_countLines rfl rfl rfl zd_X1_countLines ⟨Nat.le_of_ble_eq_true rfl, Nat.le_of_ble_eq_true rfl⟩) hP hS 1 rfl rfl rfl hl rfl (Nat.le_of_ble_eq_true rfl) dX8_land_51 ⟨Nat.zero_le _, Nat.zero_le _⟩ (fun H locs hP hS => ?_)
      rw [← (Option.some.inj hf)]
      exact zz_reti C hr hP hS dX8_land_54
    · rw [if_neg h] at hf
      cases hf
  · rw [zz_if1 (zz_b1 h)] at hf
    cases hf
/-! X8_sendLoads PW -/
theorem zd_X8_sendLoads : yX8_sendLoads.cls = RX8 ∧ yX8_sendLoads.cls ≠ "java/lang/invoke/MethodHandle" ∧ yX8_sendLoads.cls ≠ "java/lang/invoke/VarHandle" ∧ (parseMethodDescriptor yX8_sendLoads.desc).map (fun d => d.parameters.length) = some 0 := by decide +kernel
abbrev zr_X8_sendLoads : Room := { frames := 3, cells := 0, slots := 0, locals := 73 }
theorem zk_X8_sendLoads_19 : Cond.fieldLink yX8_sendLoads.cls 19 RX8 "units" "LThirteenthDay$Units;" ∈ wsX8_sendLoads := by decide +kernel
theorem zk_X8_sendLoads_26 : Cond.fieldLink yX8_sendLoads.cls 26 RX8 "paths" "LThirteenthDay$Paths;" ∈ wsX8_sendLoads := by decide +kernel
theorem zi_X8_sendLoads_X8 : ∀ w ∈ u_ws RX8 TX8 11, w ∈ wsX8_sendLoads := by decide +kernel
def zX8_sendLoads_34 (k2 : Int32 → zz_T → Option zz_T) : Nat → Int32 → Int32 → Int32 → zz_T → Option zz_T
  | 0, _, _, _, _ => none
  | n + 1, v1, v2, v3, st =>
    if (zX7_get v1 6 st) ≤ v3 then
      k2 (v1 + 1) st
    else
      zz_v (zX2_slotOf v1 v3 st) fun w3 =>
      if (zX7_get v1 4 st) = 2 then
        if (zX8_canGo w3 v2 st) = true then
          zz_v (zX8_depart v1 v3 w3 v2 st) fun st4 =>
          zz_v (zX7_leave v1 w3 (zX2_get 6 w3 2 st4) st4) fun st6 =>
          zX8_sendLoads_34 k2 n v1 v2 (v3 + 1) st6
        else
          k2 (v1 + 1) st
      else
        k2 (v1 + 1) st
set_option maxHeartbeats 4000000 in
set_option maxRecDepth 100000 in
theorem zt_X8_sendLoads_34 {l : Launch} {A : Nat → Prop} {D : va_G} {cI : ClassId} {q : Nat → Nat} {p : Program} {e : Env} {s : State} {m : MethodId} {args : Array Value} {below : List Frame} {meth : Method} {c : Code} (C : zz_C A D cI q p s m args meth c cX8_sendLoads 5 wsX8_sendLoads yX8_sendLoads.cls) (hr : meth.sig.returnType = none) (k2 : Int32 → zz_T → Option zz_T) (hk2 : ∀ (v1 : Int32) (st : zz_T) (H : Heap) (locs : List Loc) (ls : Array Slot) (r : zz_T), k2 v1 st = some r → va_P D vwCl (zz_c q cI st) H → va_S A s.heap H locs → lv_has ls 5 [(0, .ref (q 0)), (1, .int v1)] → W p l e zr_X8_sendLoads s m args below meth c H locs 0 0 (zz_Qv A D cI q r below args s) (F0 m 2 ls [])) : ∀ (n : Nat) (v1 : Int32) (v2 : Int32) (v3 : Int32) (st : zz_T) (H : Heap) (locs : List Loc) (ls : Array Slot) (r : zz_T), zX8_sendLoads_34 k2 n v1 v2 v3 st = some r → va_P D vwCl (zz_c q cI st) H → va_S A s.heap H locs → lv_has ls 5 [(0, .ref (q 0)), (1, .int v1), (2, .int v2), (3, .int v3)] → W p l e zr_X8_sendLoads s m args below meth c H locs 0 0 (zz_Qv A D cI q r below args s) (F0 m 34 ls []) := by
  obtain ⟨hx, hb, hml, hown, hts⟩ := id C.1
  intro n
  induction n with
  | zero => intro v1 v2 v3 st H locs ls r hf; cases hf
  | succ n ih =>
    intro v1 v2 v3 st H locs ls r hf hP hS hl
    rw [zX8_sendLoads_34] at hf
    refine lv_iload_n hx hb dX8_sendLoads_34 rfl (lv_at hl 3 rfl) ?_
    refine lv_aload_n hx hb dX8_sendLoads_35 rfl (lv_at hl 0 rfl) ?_
    refine zz_getf C zi_X8_sendLoads_X8 hP 0 rfl rfl 1 (nm := "units") (ds := "LThirteenthDay$Units;") (fin := true) rfl (by decide) zk_X8_sendLoads_19 rfl dX8_sendLoads_36 ?_
    refine lv_iload_n hx hb dX8_sendLoads_39 rfl (lv_at hl 1 rfl) ?_
    refine lv_bipush (v := 6) hx hb dX8_sendLoads_40 (by decide) ?_
    refine zz_callVi C (As := [.int v1, .int 6]) (rest := [.int v3]) (zc_X7_get _ _ _) (cwV 2 hts gX8_sendLoads_X7_get rfl rfl rfl zd_X7_get ⟨Nat.le_of_ble_eq_true rfl, Nat.le_of_ble_eq_true rfl⟩) hP hS 2 rfl rfl rfl hl rfl (Nat.le_of_ble_eq_true rfl) dX8_sendLoads_42 ⟨Nat.zero_le _, Nat.zero_le _⟩ (fun H locs hP hS => ?_)
    refine lv_icmp_ge (tgt := 116) hx hb dX8_sendLoads_45 (by decide) (fun h => ?_) (fun h => ?_)
    · rw [if_pos h] at hf
      refine lv_iinc (v := (v1 + 1)) (lv' := [(1, .int (v1 + 1)), (0, .ref (q 0)), (2, .int v2), (3, .int v3)]) hx hb dX8_sendLoads_116 hl (k := 1) rfl (congrArg (fun z => v1 + z) (by decide)) (by decide) rfl (fun ls hl => ?_)
      refine lv_goto (tgt := 2) hx hb dX8_sendLoads_119 (by decide) ?_
      exact hk2 _ _ _ _ _ _ hf hP hS (lv_sub hl [1, 0] rfl)
    · rw [if_neg h] at hf
      refine lv_iload_n hx hb dX8_sendLoads_48 rfl (lv_at hl 1 rfl) ?_
      refine lv_iload_n hx hb dX8_sendLoads_49 rfl (lv_at hl 3 rfl) ?_
      refine zz_callSi C (As := [.int v1, .int v3]) (rest := []) (zc_X2_slotOf _ _ _) (va_cwS 2 hts gX8_sendLoads_X2_slotOf rfl rfl rfl zd_X2_slotOf.2 ⟨Nat.le_of_ble_eq_true rfl, Nat.le_of_ble_eq_true rfl⟩) hP hS rfl hl rfl (Nat.le_of_ble_eq_true rfl) dX8_sendLoads_50 ⟨Nat.zero_le _, Nat.zero_le _⟩ (fun H locs hP hS => ?_)
      refine lv_topi (fun w3 e3 => ?_)
      replace hf := zz_vi hf e3
      refine lv_istore (lv' := [(4, .int w3), (0, .ref (q 0)), (1, .int v1), (2, .int v2), (3, .int v3)]) hx hb dX8_sendLoads_53 hl (by decide) rfl (fun ls hl => ?_)
      refine lv_aload_n hx hb dX8_sendLoads_55 rfl (lv_at hl 1 rfl) ?_
      refine zz_getf C zi_X8_sendLoads_X8 hP 0 rfl rfl 1 (nm := "units") (ds := "LThirteenthDay$Units;") (fin := true) rfl (by decide) zk_X8_sendLoads_19 rfl dX8_sendLoads_56 ?_
      refine lv_iload_n hx hb dX8_sendLoads_59 rfl (lv_at hl 2 rfl) ?_
      refine lv_iconst (v := 4) hx hb dX8_sendLoads_60 (by decide) ?_
      refine zz_callVi C (As := [.int v1, .int 4]) (rest := []) (zc_X7_get _ _ _) (cwV 2 hts gX8_sendLoads_X7_get rfl rfl rfl zd_X7_get ⟨Nat.le_of_ble_eq_true rfl, Nat.le_of_ble_eq_true rfl⟩) hP hS 2 rfl rfl rfl hl rfl (Nat.le_of_ble_eq_true rfl) dX8_sendLoads_61 ⟨Nat.zero_le _, Nat.zero_le _⟩ (fun H locs hP hS => ?_)
      refine lv_iconst (v := 2) hx hb dX8_sendLoads_64 (by decide) ?_
      refine lv_icmp_ne (tgt := 116) hx hb dX8_sendLoads_65 (by decide) (fun h => ?_) (fun h => ?_)
      · rw [if_neg h] at hf
        refine lv_iinc (v := (v1 + 1)) (lv' := [(1, .int (v1 + 1)), (4, .int w3), (0, .ref (q 0)), (2, .int v2), (3, .int v3)]) hx hb dX8_sendLoads_116 hl (k := 2) rfl (congrArg (fun z => v1 + z) (by decide)) (by decide) rfl (fun ls hl => ?_)
        refine lv_goto (tgt := 2) hx hb dX8_sendLoads_119 (by decide) ?_
        exact hk2 _ _ _ _ _ _ hf hP hS (lv_sub hl [2, 0] rfl)
      · rw [if_pos h] at hf
        refine lv_aload_n hx hb dX8_sendLoads_68 rfl (lv_at hl 1 rfl) ?_
        refine lv_iload hx hb dX8_sendLoads_69 (lv_at hl 0 rfl) ?_
        refine lv_iload_n hx hb dX8_sendLoads_71 rfl (lv_at hl 3 rfl) ?_
        refine zz_callVi C (As := [.int w3, .int v2]) (rest := []) (zc_X8_canGo _ _ _) (cwV 2 hts gX8_sendLoads_X8_canGo rfl rfl rfl zd_X8_canGo ⟨Nat.le_of_ble_eq_true rfl, Nat.le_of_ble_eq_true rfl⟩) hP hS 0 rfl rfl rfl hl rfl (Nat.le_of_ble_eq_true rfl) dX8_sendLoads_72 ⟨Nat.zero_le _, Nat.zero_le _⟩ (fun H locs hP hS => ?_)
        refine lv_if_ne (tgt := 81) hx hb dX8_sendLoads_75 (by decide) (fun h => ?_) (fun h => ?_)
        · rw [zz_if1 (zz_b1 h)] at hf
          refine lv_aload_n hx hb dX8_sendLoads_81 rfl (lv_at hl 1 rfl) ?_
          refine lv_iload_n hx hb dX8_sendLoads_82 rfl (lv_at hl 2 rfl) ?_
          refine lv_iload_n hx hb dX8_sendLoads_83 rfl (lv_at hl 4 rfl) ?_
          refine lv_iload hx hb dX8_sendLoads_84 (lv_at hl 0 rfl) ?_
          refine lv_iload_n hx hb dX8_sendLoads_86 rfl (lv_at hl 3 rfl) ?_
          obtain ⟨st4, e5, hf⟩ := zz_vo hf
          refine zz_callVv C (As := [.int v1, .int v3, .int w3, .int v2]) (rest := []) (zz_Mv_e e5 (zc_X8_depart _ _ _ _ _)) (cwV 4 hts gX8_sendLoads_X8_depart rfl rfl rfl zd_X8_depart ⟨Nat.le_of_ble_eq_true rfl, Nat.le_of_ble_eq_true rfl⟩) hP hS 0 rfl rfl rfl hl rfl (Nat.le_of_ble_eq_true rfl) dX8_sendLoads_87 ⟨Nat.zero_le _, Nat.zero_le _⟩ (fun H locs hP hS => ?_)
          refine lv_aload_n hx hb dX8_sendLoads_90 rfl (lv_at hl 1 rfl) ?_
          refine zz_getf C zi_X8_sendLoads_X8 hP 0 rfl rfl 1 (nm := "units") (ds := "LThirteenthDay$Units;") (fin := true) rfl (by decide) zk_X8_sendLoads_19 rfl dX8_sendLoads_91 ?_
          refine lv_iload_n hx hb dX8_sendLoads_94 rfl (lv_at hl 2 rfl) ?_
          refine lv_iload hx hb dX8_sendLoads_95 (lv_at hl 0 rfl) ?_
          refine lv_aload_n hx hb dX8_sendLoads_97 rfl (lv_at hl 1 rfl) ?_
          refine zz_getf C zi_X8_sendLoads_X8 hP 0 rfl rfl 2 (nm := "paths") (ds := "LThirteenthDay$Paths;") (fin := true) rfl (by decide) zk_X8_sendLoads_26 rfl dX8_sendLoads_98 ?_
          refine lv_iload hx hb dX8_sendLoads_101 (lv_at hl 0 rfl) ?_
          refine lv_iconst (v := 2) hx hb dX8_sendLoads_103 (by decide) ?_
          refine zz_callVi C (As := [.int w3, .int 2]) (rest := [.int w3, .int v1, .ref (q 2)]) (zc_X2_get 3 6 (by decide) _ _ _) (cwV 2 hts gX8_sendLoads_X2_get rfl rfl rfl zd_X2_get ⟨Nat.le_of_ble_eq_true rfl, Nat.le_of_ble_eq_true rfl⟩) hP hS 3 rfl rfl rfl hl rfl (Nat.le_of_ble_eq_true rfl) dX8_sendLoads_104 ⟨Nat.zero_le _, Nat.zero_le _⟩ (fun H locs hP hS => ?_)
          obtain ⟨st6, e7, hf⟩ := zz_vo hf
          refine zz_callVv C (As := [.int v1, .int w3, .int (zX2_get 6 w3 2 st4)]) (rest := []) (zz_Mv_e e7 (zc_X7_leave _ _ _ _)) (cwV 3 hts gX8_sendLoads_X7_leave rfl rfl rfl zd_X7_leave ⟨Nat.le_of_ble_eq_true rfl, Nat.le_of_ble_eq_true rfl⟩) hP hS 2 rfl rfl rfl hl rfl (Nat.le_of_ble_eq_true rfl) dX8_sendLoads_107 ⟨Nat.zero_le _, Nat.zero_le _⟩ (fun H locs hP hS => ?_)
          refine lv_iinc (v := (v3 + 1)) (lv' := [(3, .int (v3 + 1)), (4, .int w3), (0, .ref (q 0)), (1, .int v1), (2, .int v2)]) hx hb dX8_sendLoads_110 hl (k := 4) rfl (congrArg (fun z => v3 + z) (by decide)) (by decide) rfl (fun ls hl => ?_)
          refine lv_goto (tgt := 34) hx hb dX8_sendLoads_113 (by decide) ?_
          exact ih _ _ _ _ _ _ _ _ hf hP hS (lv_sub hl [2, 3, 4, 0] rfl)
        · rw [zz_if0 (zz_b0 h)] at hf
          refine lv_goto (tgt := 116) hx hb dX8_sendLoads_78 (by decide) ?_
          refine lv_iinc (v := (v1 + 1)) (lv' := [(1, .int (v1 + 1)), (4, .int w3), (0, .ref (q 0)), (2, .int v2), (3, .int v3)]) hx hb dX8_sendLoads_116 hl (k := 2) rfl (congrArg (fun z => v1 + z) (by decide)) (by decide) rfl (fun ls hl => ?_)
          refine lv_goto (tgt := 2) hx hb dX8_sendLoads_119 (by decide) ?_
          exact hk2 _ _ _ _ _ _ hf hP hS (lv_sub hl [2, 0] rfl)
def zX8_sendLoads_2 : Nat → Int32 → zz_T → Option zz_T
  | 0, _, _ => none
  | n + 1, v1, st =>
    if (zX7_count st) ≤ v1 then
      some st
    else
      zz_v (zX7_get v1 2 st) fun w1 =>
      zz_v (zX7_get v1 7 st) fun w2 =>
      zX8_sendLoads_34 (fun v1' st' => zX8_sendLoads_2 n v1' st') zz_N v1 w1 w2 st
set_option maxHeartbeats 4000000 in
set_option maxRecDepth 100000 in
theorem zt_X8_sendLoads_2 {l : Launch} {A : Nat → Prop} {D : va_G} {cI : ClassId} {q : Nat → Nat} {p : Program} {e : Env} {s : State} {m : MethodId} {args : Array Value} {below : List Frame} {meth : Method} {c : Code} (C : zz_C A D cI q p s m args meth c cX8_sendLoads 5 wsX8_sendLoads yX8_sendLoads.cls) (hr : meth.sig.returnType = none) : ∀ (n : Nat) (v1 : Int32) (st : zz_T) (H : Heap) (locs : List Loc) (ls : Array Slot) (r : zz_T), zX8_sendLoads_2 n v1 st = some r → va_P D vwCl (zz_c q cI st) H → va_S A s.heap H locs → lv_has ls 5 [(0, .ref (q 0)), (1, .int v1)] → W p l e zr_X8_sendLoads s m args below meth c H locs 0 0 (zz_Qv A D cI q r below args s) (F0 m 2 ls []) := by
  obtain ⟨hx, hb, hml, hown, hts⟩ := id C.1
  intro n
  induction n with
  | zero => intro v1 st H locs ls r hf; cases hf
  | succ n ih =>
    intro v1 st H locs ls r hf hP hS hl
    rw [zX8_sendLoads_2] at hf
    refine lv_iload_n hx hb dX8_sendLoads_2 rfl (lv_at hl 1 rfl) ?_
    refine lv_aload_n hx hb dX8_sendLoads_3 rfl (lv_at hl 0 rfl) ?_
    refine zz_getf C zi_X8_sendLoads_X8 hP 0 rfl rfl 1 (nm := "units") (ds := "LThirteenthDay$Units;") (fin := true) rfl (by decide) zk_X8_sendLoads_19 rfl dX8_sendLoads_4 ?_
    refine zz_callVi C (As := []) (rest := [.int v1]) (zc_X7_count _) (cwV 0 hts gX8_sendLoads_X7_count rfl rfl rfl zd_X7_count ⟨Nat.le_of_ble_eq_true rfl, Nat.le_of_ble_eq_true rfl⟩) hP hS 2 rfl rfl rfl hl rfl (Nat.le_of_ble_eq_true rfl) dX8_sendLoads_7 ⟨Nat.zero_le _, Nat.zero_le _⟩ (fun H locs hP hS => ?_)
    refine lv_icmp_ge (tgt := 122) hx hb dX8_sendLoads_10 (by decide) (fun h => ?_) (fun h => ?_)
    · rw [if_pos h] at hf
      rw [← (Option.some.inj hf)]
      exact zz_retv C hr hP hS dX8_sendLoads_122
    · rw [if_neg h] at hf
      refine lv_aload_n hx hb dX8_sendLoads_13 rfl (lv_at hl 0 rfl) ?_
      refine zz_getf C zi_X8_sendLoads_X8 hP 0 rfl rfl 1 (nm := "units") (ds := "LThirteenthDay$Units;") (fin := true) rfl (by decide) zk_X8_sendLoads_19 rfl dX8_sendLoads_14 ?_
      refine lv_iload_n hx hb dX8_sendLoads_17 rfl (lv_at hl 1 rfl) ?_
      refine lv_iconst (v := 2) hx hb dX8_sendLoads_18 (by decide) ?_
      refine zz_callVi C (As := [.int v1, .int 2]) (rest := []) (zc_X7_get _ _ _) (cwV 2 hts gX8_sendLoads_X7_get rfl rfl rfl zd_X7_get ⟨Nat.le_of_ble_eq_true rfl, Nat.le_of_ble_eq_true rfl⟩) hP hS 2 rfl rfl rfl hl rfl (Nat.le_of_ble_eq_true rfl) dX8_sendLoads_19 ⟨Nat.zero_le _, Nat.zero_le _⟩ (fun H locs hP hS => ?_)
      refine lv_topi (fun w1 e1 => ?_)
      replace hf := zz_vi hf e1
      refine lv_istore_n (lv' := [(2, .int w1), (0, .ref (q 0)), (1, .int v1)]) hx hb dX8_sendLoads_22 rfl hl (by decide) rfl (fun ls hl => ?_)
      refine lv_aload_n hx hb dX8_sendLoads_23 rfl (lv_at hl 1 rfl) ?_
      refine zz_getf C zi_X8_sendLoads_X8 hP 0 rfl rfl 1 (nm := "units") (ds := "LThirteenthDay$Units;") (fin := true) rfl (by decide) zk_X8_sendLoads_19 rfl dX8_sendLoads_24 ?_
      refine lv_iload_n hx hb dX8_sendLoads_27 rfl (lv_at hl 2 rfl) ?_
      refine lv_bipush (v := 7) hx hb dX8_sendLoads_28 (by decide) ?_
      refine zz_callVi C (As := [.int v1, .int 7]) (rest := []) (zc_X7_get _ _ _) (cwV 2 hts gX8_sendLoads_X7_get rfl rfl rfl zd_X7_get ⟨Nat.le_of_ble_eq_true rfl, Nat.le_of_ble_eq_true rfl⟩) hP hS 2 rfl rfl rfl hl rfl (Nat.le_of_ble_eq_true rfl) dX8_sendLoads_30 ⟨Nat.zero_le _, Nat.zero_le _⟩ (fun H locs hP hS => ?_)
      refine lv_topi (fun w2 e2 => ?_)
      replace hf := zz_vi hf e2
      refine lv_istore_n (lv' := [(3, .int w2), (2, .int w1), (0, .ref (q 0)), (1, .int v1)]) hx hb dX8_sendLoads_33 rfl hl (by decide) rfl (fun ls hl => ?_)
      exact zt_X8_sendLoads_34 C hr _ ih zz_N _ _ _ _ _ _ _ _ hf hP hS (lv_sub hl [2, 3, 1, 0] rfl)
def zX8_sendLoads (st : zz_T) : Option zz_T :=
  zX8_sendLoads_2 zz_N 0 st
set_option maxHeartbeats 4000000 in
set_option maxRecDepth 100000 in
theorem zc_X8_sendLoads {l : Launch} {A : Nat → Prop} {D : va_G} {cI : ClassId} {q : Nat → Nat} (st : zz_T) (r : zz_T) (hf : zX8_sendLoads st = some r) : zz_Mv l A D cI q yX8_sendLoads wsX8_sendLoads zr_X8_sendLoads [.ref (q 0)] st r := by
  refine zz_of (cc := cX8_sendLoads) (nL := 5) (ret := none) (by decide) rfl (Nat.le_of_ble_eq_true rfl) ?_
  intro p e s m args below meth c ls C hr hP hS hl
  obtain ⟨hx, hb, hml, hown, hts⟩ := id C.1
  have hl : lv_has ls 5 [(0, .ref (q 0))] := hl
  rw [zX8_sendLoads] at hf
  skip
  refine lv_iconst (v := 0) hx hb dX8_sendLoads_0 (by decide) ?_
  refine lv_istore_n (lv' := [(1, .int 0), (0, .ref (q 0))]) hx hb dX8_sendLoads_1 rfl hl (by decide) rfl (fun ls hl => ?_)
  exact zt_X8_sendLoads_2 C hr zz_N _ _ _ _ _ _ hf hP hS (lv_sub hl [1, 0] rfl)
/-! X8_sendSupplies PW -/
theorem zd_X8_sendSupplies : yX8_sendSupplies.cls = RX8 ∧ yX8_sendSupplies.cls ≠ "java/lang/invoke/MethodHandle" ∧ yX8_sendSupplies.cls ≠ "java/lang/invoke/VarHandle" ∧ (parseMethodDescriptor yX8_sendSupplies.desc).map (fun d => d.parameters.length) = some 0 := by decide +kernel
abbrev zr_X8_sendSupplies : Room := { frames := 3, cells := 0, slots := 0, locals := 73 }
theorem zk_X8_sendSupplies_43 : Cond.fieldLink yX8_sendSupplies.cls 43 RX8 "supplies" "LThirteenthDay$Supplies;" ∈ wsX8_sendSupplies := by decide +kernel
theorem zi_X8_sendSupplies_X8 : ∀ w ∈ u_ws RX8 TX8 11, w ∈ wsX8_sendSupplies := by decide +kernel
def zX8_sendSupplies_11 : Nat → Int32 → Int32 → zz_T → Option zz_T
  | 0, _, _, _ => none
  | n + 1, v1, v2, st =>
    if 6 ≤ v2 then
      some st
    else
      if v1 = (-1) then
        some st
      else
        zz_v (zX2_slotOfSupply v1 st) fun w3 =>
        zz_v (zX4_get v1 0 st) fun w4 =>
        if (zX8_canGo w3 0 st) = true then
          zz_v (zX8_depart (-1) (zX4_get v1 1 st) w3 0 st) fun st7 =>
          zz_v (zX4_leave v1 st7) fun st9 =>
          (zX4_nextBehind w4 st9).bind fun x11 =>
          zX8_sendSupplies_11 n x11 (v2 + 1) st9
        else
          (zX4_nextBehind w4 st).bind fun x5 =>
          zX8_sendSupplies_11 n x5 (v2 + 1) st
set_option maxHeartbeats 4000000 in
set_option maxRecDepth 100000 in
theorem zt_X8_sendSupplies_11 {l : Launch} {A : Nat → Prop} {D : va_G} {cI : ClassId} {q : Nat → Nat} {p : Program} {e : Env} {s : State} {m : MethodId} {args : Array Value} {below : List Frame} {meth : Method} {c : Code} (C : zz_C A D cI q p s m args meth c cX8_sendSupplies 5 wsX8_sendSupplies yX8_sendSupplies.cls) (hr : meth.sig.returnType = none) : ∀ (n : Nat) (v1 : Int32) (v2 : Int32) (st : zz_T) (H : Heap) (locs : List Loc) (ls : Array Slot) (r : zz_T), zX8_sendSupplies_11 n v1 v2 st = some r → va_P D vwCl (zz_c q cI st) H → va_S A s.heap H locs → lv_has ls 5 [(0, .ref (q 0)), (1, .int v1), (2, .int v2)] → W p l e zr_X8_sendSupplies s m args below meth c H locs 0 0 (zz_Qv A D cI q r below args s) (F0 m 11 ls []) := by
  obtain ⟨hx, hb, hml, hown, hts⟩ := id C.1
  intro n
  induction n with
  | zero => intro v1 v2 st H locs ls r hf; cases hf
  | succ n ih =>
    intro v1 v2 st H locs ls r hf hP hS hl
    rw [zX8_sendSupplies_11] at hf
    refine lv_iload_n hx hb dX8_sendSupplies_11 rfl (lv_at hl 2 rfl) ?_
    refine lv_bipush (v := 6) hx hb dX8_sendSupplies_12 (by decide) ?_
    refine lv_icmp_ge (tgt := 87) hx hb dX8_sendSupplies_14 (by decide) (fun h => ?_) (fun h => ?_)
    · rw [if_pos h] at hf
      rw [← (Option.some.inj hf)]
      exact zz_retv C hr hP hS dX8_sendSupplies_87
    · rw [if_neg h] at hf
      refine lv_iload_n hx hb dX8_sendSupplies_17 rfl (lv_at hl 1 rfl) ?_
      refine lv_iconst (v := (-1)) hx hb dX8_sendSupplies_18 (by decide) ?_
      refine lv_icmp_eq (tgt := 87) hx hb dX8_sendSupplies_19 (by decide) (fun h => ?_) (fun h => ?_)
      · rw [if_pos h] at hf
        rw [← (Option.some.inj hf)]
        exact zz_retv C hr hP hS dX8_sendSupplies_87
      · rw [if_neg h] at hf
        refine lv_iload_n hx hb dX8_sendSupplies_22 rfl (lv_at hl 1 rfl) ?_
        refine zz_callSi C (As := [.int v1]) (rest := []) (zc_X2_slotOfSupply _ _) (va_cwS 1 hts gX8_sendSupplies_X2_slotOfSupply rfl rfl rfl zd_X2_slotOfSupply.2 ⟨Nat.le_of_ble_eq_true rfl, Nat.le_of_ble_eq_true rfl⟩) hP hS rfl hl rfl (Nat.le_of_ble_eq_true rfl) dX8_sendSupplies_23 ⟨Nat.zero_le _, Nat.zero_le _⟩ (fun H locs hP hS => ?_)
        refine lv_topi (fun w3 e3 => ?_)
        replace hf := zz_vi hf e3
        refine lv_istore_n (lv' := [(3, .int w3), (0, .ref (q 0)), (1, .int v1), (2, .int v2)]) hx hb dX8_sendSupplies_26 rfl hl (by decide) rfl (fun ls hl => ?_)
        refine lv_aload_n hx hb dX8_sendSupplies_27 rfl (lv_at hl 1 rfl) ?_
        refine zz_getf C zi_X8_sendSupplies_X8 hP 0 rfl rfl 5 (nm := "supplies") (ds := "LThirteenthDay$Supplies;") (fin := true) rfl (by decide) zk_X8_sendSupplies_43 rfl dX8_sendSupplies_28 ?_
        refine lv_iload_n hx hb dX8_sendSupplies_31 rfl (lv_at hl 2 rfl) ?_
        refine lv_iconst (v := 0) hx hb dX8_sendSupplies_32 (by decide) ?_
        refine zz_callVi C (As := [.int v1, .int 0]) (rest := []) (zc_X4_get _ _ _) (cwV 2 hts gX8_sendSupplies_X4_get rfl rfl rfl zd_X4_get ⟨Nat.le_of_ble_eq_true rfl, Nat.le_of_ble_eq_true rfl⟩) hP hS 6 rfl rfl rfl hl rfl (Nat.le_of_ble_eq_true rfl) dX8_sendSupplies_33 ⟨Nat.zero_le _, Nat.zero_le _⟩ (fun H locs hP hS => ?_)
        refine lv_topi (fun w4 e4 => ?_)
        replace hf := zz_vi hf e4
        refine lv_istore (lv' := [(4, .int w4), (3, .int w3), (0, .ref (q 0)), (1, .int v1), (2, .int v2)]) hx hb dX8_sendSupplies_36 hl (by decide) rfl (fun ls hl => ?_)
        refine lv_aload_n hx hb dX8_sendSupplies_38 rfl (lv_at hl 2 rfl) ?_
        refine lv_iload_n hx hb dX8_sendSupplies_39 rfl (lv_at hl 1 rfl) ?_
        refine lv_iconst (v := 0) hx hb dX8_sendSupplies_40 (by decide) ?_
        refine zz_callVi C (As := [.int w3, .int 0]) (rest := []) (zc_X8_canGo _ _ _) (cwV 2 hts gX8_sendSupplies_X8_canGo rfl rfl rfl zd_X8_canGo ⟨Nat.le_of_ble_eq_true rfl, Nat.le_of_ble_eq_true rfl⟩) hP hS 0 rfl rfl rfl hl rfl (Nat.le_of_ble_eq_true rfl) dX8_sendSupplies_41 ⟨Nat.zero_le _, Nat.zero_le _⟩ (fun H locs hP hS => ?_)
        refine lv_if_eq (tgt := 71) hx hb dX8_sendSupplies_44 (by decide) (fun h => ?_) (fun h => ?_)
        · rw [zz_if0 (zz_b0 h)] at hf
          refine lv_aload_n hx hb dX8_sendSupplies_71 rfl (lv_at hl 2 rfl) ?_
          refine zz_getf C zi_X8_sendSupplies_X8 hP 0 rfl rfl 5 (nm := "supplies") (ds := "LThirteenthDay$Supplies;") (fin := true) rfl (by decide) zk_X8_sendSupplies_43 rfl dX8_sendSupplies_72 ?_
          refine lv_iload hx hb dX8_sendSupplies_75 (lv_at hl 0 rfl) ?_
          obtain ⟨x5, e6, hf⟩ := zz_bo hf
          refine zz_callVi C (As := [.int w4]) (rest := []) (zc_X4_nextBehind _ _ _ e6) (cwV 1 hts gX8_sendSupplies_X4_nextBehind rfl rfl rfl zd_X4_nextBehind ⟨Nat.le_of_ble_eq_true rfl, Nat.le_of_ble_eq_true rfl⟩) hP hS 6 rfl rfl rfl hl rfl (Nat.le_of_ble_eq_true rfl) dX8_sendSupplies_77 ⟨Nat.zero_le _, Nat.zero_le _⟩ (fun H locs hP hS => ?_)
          refine lv_istore_n (lv' := [(1, .int x5), (4, .int w4), (3, .int w3), (0, .ref (q 0)), (2, .int v2)]) hx hb dX8_sendSupplies_80 rfl hl (by decide) rfl (fun ls hl => ?_)
          refine lv_iinc (v := (v2 + 1)) (lv' := [(2, .int (v2 + 1)), (1, .int x5), (4, .int w4), (3, .int w3), (0, .ref (q 0))]) hx hb dX8_sendSupplies_81 hl (k := 4) rfl (congrArg (fun z => v2 + z) (by decide)) (by decide) rfl (fun ls hl => ?_)
          refine lv_goto (tgt := 11) hx hb dX8_sendSupplies_84 (by decide) ?_
          exact ih _ _ _ _ _ _ _ hf hP hS (lv_sub hl [4, 1, 0] rfl)
        · rw [zz_if1 (zz_b1 h)] at hf
          refine lv_aload_n hx hb dX8_sendSupplies_47 rfl (lv_at hl 2 rfl) ?_
          refine lv_iconst (v := (-1)) hx hb dX8_sendSupplies_48 (by decide) ?_
          refine lv_aload_n hx hb dX8_sendSupplies_49 rfl (lv_at hl 2 rfl) ?_
          refine zz_getf C zi_X8_sendSupplies_X8 hP 0 rfl rfl 5 (nm := "supplies") (ds := "LThirteenthDay$Supplies;") (fin := true) rfl (by decide) zk_X8_sendSupplies_43 rfl dX8_sendSupplies_50 ?_
          refine lv_iload_n hx hb dX8_sendSupplies_53 rfl (lv_at hl 3 rfl) ?_
          refine lv_iconst (v := 1) hx hb dX8_sendSupplies_54 (by decide) ?_
          refine zz_callVi C (As := [.int v1, .int 1]) (rest := [.int (-1), .ref (q 0)]) (zc_X4_get _ _ _) (cwV 2 hts gX8_sendSupplies_X4_get rfl rfl rfl zd_X4_get ⟨Nat.le_of_ble_eq_true rfl, Nat.le_of_ble_eq_true rfl⟩) hP hS 6 rfl rfl rfl hl rfl (Nat.le_of_ble_eq_true rfl) dX8_sendSupplies_55 ⟨Nat.zero_le _, Nat.zero_le _⟩ (fun H locs hP hS => ?_)
          refine lv_iload_n hx hb dX8_sendSupplies_58 rfl (lv_at hl 1 rfl) ?_
          refine lv_iconst (v := 0) hx hb dX8_sendSupplies_59 (by decide) ?_
          obtain ⟨st7, e8, hf⟩ := zz_vo hf
          refine zz_callVv C (As := [.int (-1), .int (zX4_get v1 1 st), .int w3, .int 0]) (rest := []) (zz_Mv_e e8 (zc_X8_depart _ _ _ _ _)) (cwV 4 hts gX8_sendSupplies_X8_depart rfl rfl rfl zd_X8_depart ⟨Nat.le_of_ble_eq_true rfl, Nat.le_of_ble_eq_true rfl⟩) hP hS 0 rfl rfl rfl hl rfl (Nat.le_of_ble_eq_true rfl) dX8_sendSupplies_60 ⟨Nat.zero_le _, Nat.zero_le _⟩ (fun H locs hP hS => ?_)
          refine lv_aload_n hx hb dX8_sendSupplies_63 rfl (lv_at hl 2 rfl) ?_
          refine zz_getf C zi_X8_sendSupplies_X8 hP 0 rfl rfl 5 (nm := "supplies") (ds := "LThirteenthDay$Supplies;") (fin := true) rfl (by decide) zk_X8_sendSupplies_43 rfl dX8_sendSupplies_64 ?_
          refine lv_iload_n hx hb dX8_sendSupplies_67 rfl (lv_at hl 3 rfl) ?_
          obtain ⟨st9, e10, hf⟩ := zz_vo hf
          refine zz_callVv C (As := [.int v1]) (rest := []) (zz_Mv_e e10 (zc_X4_leave _ _)) (cwV 1 hts gX8_sendSupplies_X4_leave rfl rfl rfl zd_X4_leave ⟨Nat.le_of_ble_eq_true rfl, Nat.le_of_ble_eq_true rfl⟩) hP hS 6 rfl rfl rfl hl rfl (Nat.le_of_ble_eq_true rfl) dX8_sendSupplies_68 ⟨Nat.zero_le _, Nat.zero_le _⟩ (fun H locs hP hS => ?_)
          refine lv_aload_n hx hb dX8_sendSupplies_71 rfl (lv_at hl 2 rfl) ?_
          refine zz_getf C zi_X8_sendSupplies_X8 hP 0 rfl rfl 5 (nm := "supplies") (ds := "LThirteenthDay$Supplies;") (fin := true) rfl (by decide) zk_X8_sendSupplies_43 rfl dX8_sendSupplies_72 ?_
          refine lv_iload hx hb dX8_sendSupplies_75 (lv_at hl 0 rfl) ?_
          obtain ⟨x11, e12, hf⟩ := zz_bo hf
          refine zz_callVi C (As := [.int w4]) (rest := []) (zc_X4_nextBehind _ _ _ e12) (cwV 1 hts gX8_sendSupplies_X4_nextBehind rfl rfl rfl zd_X4_nextBehind ⟨Nat.le_of_ble_eq_true rfl, Nat.le_of_ble_eq_true rfl⟩) hP hS 6 rfl rfl rfl hl rfl (Nat.le_of_ble_eq_true rfl) dX8_sendSupplies_77 ⟨Nat.zero_le _, Nat.zero_le _⟩ (fun H locs hP hS => ?_)
          refine lv_istore_n (lv' := [(1, .int x11), (4, .int w4), (3, .int w3), (0, .ref (q 0)), (2, .int v2)]) hx hb dX8_sendSupplies_80 rfl hl (by decide) rfl (fun ls hl => ?_)
          refine lv_iinc (v := (v2 + 1)) (lv' := [(2, .int (v2 + 1)), (1, .int x11), (4, .int w4), (3, .int w3), (0, .ref (q 0))]) hx hb dX8_sendSupplies_81 hl (k := 4) rfl (congrArg (fun z => v2 + z) (by decide)) (by decide) rfl (fun ls hl => ?_)
          refine lv_goto (tgt := 11) hx hb dX8_sendSupplies_84 (by decide) ?_
          exact ih _ _ _ _ _ _ _ hf hP hS (lv_sub hl [4, 1, 0] rfl)
def zX8_sendSupplies (st : zz_T) : Option zz_T :=
  (zX4_nextBehind 0 st).bind fun x1 =>
  zX8_sendSupplies_11 zz_N x1 0 st
set_option maxHeartbeats 4000000 in
set_option maxRecDepth 100000 in
theorem zc_X8_sendSupplies {l : Launch} {A : Nat → Prop} {D : va_G} {cI : ClassId} {q : Nat → Nat} (st : zz_T) (r : zz_T) (hf : zX8_sendSupplies st = some r) : zz_Mv l A D cI q yX8_sendSupplies wsX8_sendSupplies zr_X8_sendSupplies [.ref (q 0)] st r := by
  refine zz_of (cc := cX8_sendSupplies) (nL := 5) (ret := none) (by decide) rfl (Nat.le_of_ble_eq_true rfl) ?_
  intro p e s m args below meth c ls C hr hP hS hl
  obtain ⟨hx, hb, hml, hown, hts⟩ := id C.1
  have hl : lv_has ls 5 [(0, .ref (q 0))] := hl
  rw [zX8_sendSupplies] at hf
  skip
  refine lv_aload_n hx hb dX8_sendSupplies_0 rfl (lv_at hl 0 rfl) ?_
  refine zz_getf C zi_X8_sendSupplies_X8 hP 0 rfl rfl 5 (nm := "supplies") (ds := "LThirteenthDay$Supplies;") (fin := true) rfl (by decide) zk_X8_sendSupplies_43 rfl dX8_sendSupplies_1 ?_
  refine lv_iconst (v := 0) hx hb dX8_sendSupplies_4 (by decide) ?_
  obtain ⟨x1, e2, hf⟩ := zz_bo hf
  refine zz_callVi C (As := [.int 0]) (rest := []) (zc_X4_nextBehind _ _ _ e2) (cwV 1 hts gX8_sendSupplies_X4_nextBehind rfl rfl rfl zd_X4_nextBehind ⟨Nat.le_of_ble_eq_true rfl, Nat.le_of_ble_eq_true rfl⟩) hP hS 6 rfl rfl rfl hl rfl (Nat.le_of_ble_eq_true rfl) dX8_sendSupplies_5 ⟨Nat.zero_le _, Nat.zero_le _⟩ (fun H locs hP hS => ?_)
  refine lv_istore_n (lv' := [(1, .int x1), (0, .ref (q 0))]) hx hb dX8_sendSupplies_8 rfl hl (by decide) rfl (fun ls hl => ?_)
  refine lv_iconst (v := 0) hx hb dX8_sendSupplies_9 (by decide) ?_
  refine lv_istore_n (lv' := [(2, .int 0), (1, .int x1), (0, .ref (q 0))]) hx hb dX8_sendSupplies_10 rfl hl (by decide) rfl (fun ls hl => ?_)
  exact zt_X8_sendSupplies_11 C hr zz_N _ _ _ _ _ _ _ hf hP hS (lv_sub hl [2, 1, 0] rfl)
