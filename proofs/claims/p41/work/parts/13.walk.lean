/-! X8_trainFact TR -/
theorem zd_X8_trainFact : yX8_trainFact.cls = RX8 ∧ yX8_trainFact.cls ≠ "java/lang/invoke/MethodHandle" ∧ yX8_trainFact.cls ≠ "java/lang/invoke/VarHandle" ∧ (parseMethodDescriptor yX8_trainFact.desc).map (fun d => d.parameters.length) = some 2 := by decide +kernel
abbrev zr_X8_trainFact : Room := { frames := 2, cells := 0, slots := 0, locals := 46 }
theorem zk_X8_trainFact_36 : Cond.fieldLink yX8_trainFact.cls 36 RX8 "trains" "LThirteenthDay$Trains;" ∈ wsX8_trainFact := by decide +kernel
theorem zk_X8_trainFact_70 : Cond.fieldLink yX8_trainFact.cls 70 RX8 "tick" "I" ∈ wsX8_trainFact := by decide +kernel
theorem zi_X8_trainFact_X8 : ∀ w ∈ u_ws RX8 TX8 11, w ∈ wsX8_trainFact := by decide +kernel
def zX8_trainFact (v1 : Int32) (v2 : Int32) (st : zz_T) : Int32 :=
  if v2 = 7 then
    (zX6_lateOf v1 (st.2 0) st)
  else
    (zX6_get v1 v2 st)
set_option maxHeartbeats 4000000 in
set_option maxRecDepth 100000 in
theorem zc_X8_trainFact {l : Launch} {A : Nat → Prop} {D : va_G} {cI : ClassId} {q : Nat → Nat} (v1 : Int32) (v2 : Int32) (st : zz_T) : zz_Mi l A D cI q yX8_trainFact wsX8_trainFact zr_X8_trainFact [.ref (q 0), .int v1, .int v2] st (zX8_trainFact v1 v2 st) st := by
  refine zz_of (cc := cX8_trainFact) (nL := 3) (ret := some .int) (by decide) rfl (Nat.le_of_ble_eq_true rfl) ?_
  intro p e s m args below meth c ls C hr hP hS hl
  obtain ⟨hx, hb, hml, hown, hts⟩ := id C.1
  have hl : lv_has ls 3 [(0, .ref (q 0)), (1, .int v1), (2, .int v2)] := hl
  obtain ⟨r, hf⟩ : ∃ r, zX8_trainFact v1 v2 st = r := ⟨_, rfl⟩
  rw [hf]
  rw [zX8_trainFact] at hf
  skip
  refine lv_iload_n hx hb dX8_trainFact_0 rfl (lv_at hl 2 rfl) ?_
  refine lv_bipush (v := 7) hx hb dX8_trainFact_1 (by decide) ?_
  refine lv_icmp_ne (tgt := 21) hx hb dX8_trainFact_3 (by decide) (fun h => ?_) (fun h => ?_)
  · rw [if_neg h] at hf
    refine lv_aload_n hx hb dX8_trainFact_21 rfl (lv_at hl 0 rfl) ?_
    refine zz_getf C zi_X8_trainFact_X8 hP 0 rfl rfl 4 (nm := "trains") (ds := "LThirteenthDay$Trains;") (fin := true) rfl (by decide) zk_X8_trainFact_36 rfl dX8_trainFact_22 ?_
    refine lv_iload_n hx hb dX8_trainFact_25 rfl (lv_at hl 1 rfl) ?_
    refine lv_iload_n hx hb dX8_trainFact_26 rfl (lv_at hl 2 rfl) ?_
    refine zz_callVi C (As := [.int v1, .int v2]) (rest := []) (zc_X6_get _ _ _) (cwV 2 hts gX8_trainFact_X6_get rfl rfl rfl zd_X6_get ⟨Nat.le_of_ble_eq_true rfl, Nat.le_of_ble_eq_true rfl⟩) hP hS 5 rfl rfl rfl hl rfl (Nat.le_of_ble_eq_true rfl) dX8_trainFact_27 ⟨Nat.zero_le _, Nat.zero_le _⟩ (fun H locs hP hS => ?_)
    rw [← hf]
    exact zz_reti C hr hP hS dX8_trainFact_30
  · rw [if_pos h] at hf
    refine lv_aload_n hx hb dX8_trainFact_6 rfl (lv_at hl 0 rfl) ?_
    refine zz_getf C zi_X8_trainFact_X8 hP 0 rfl rfl 4 (nm := "trains") (ds := "LThirteenthDay$Trains;") (fin := true) rfl (by decide) zk_X8_trainFact_36 rfl dX8_trainFact_7 ?_
    refine lv_iload_n hx hb dX8_trainFact_10 rfl (lv_at hl 1 rfl) ?_
    refine lv_aload_n hx hb dX8_trainFact_11 rfl (lv_at hl 0 rfl) ?_
    refine zz_getf C zi_X8_trainFact_X8 hP 0 rfl rfl 9 (nm := "tick") (ds := "I") (fin := false) rfl (by decide) zk_X8_trainFact_70 rfl dX8_trainFact_12 ?_
    refine zz_callVi C (As := [.int v1, .int (st.2 0)]) (rest := []) (zc_X6_lateOf _ _ _) (cwV 2 hts gX8_trainFact_X6_lateOf rfl rfl rfl zd_X6_lateOf ⟨Nat.le_of_ble_eq_true rfl, Nat.le_of_ble_eq_true rfl⟩) hP hS 5 rfl rfl rfl hl rfl (Nat.le_of_ble_eq_true rfl) dX8_trainFact_15 ⟨Nat.zero_le _, Nat.zero_le _⟩ (fun H locs hP hS => ?_)
    refine lv_goto (tgt := 30) hx hb dX8_trainFact_18 (by decide) ?_
    rw [← hf]
    exact zz_reti C hr hP hS dX8_trainFact_30
/-! X8_digestTrains PR -/
theorem zd_X8_digestTrains : yX8_digestTrains.cls = RX8 ∧ yX8_digestTrains.cls ≠ "java/lang/invoke/MethodHandle" ∧ yX8_digestTrains.cls ≠ "java/lang/invoke/VarHandle" ∧ (parseMethodDescriptor yX8_digestTrains.desc).map (fun d => d.parameters.length) = some 1 := by decide +kernel
abbrev zr_X8_digestTrains : Room := { frames := 5, cells := 0, slots := 0, locals := 123 }
theorem zk_X8_digestTrains_36 : Cond.fieldLink yX8_digestTrains.cls 36 RX8 "trains" "LThirteenthDay$Trains;" ∈ wsX8_digestTrains := by decide +kernel
theorem zk_X8_digestTrains_c404 : Cond.constantLong yX8_digestTrains.cls 404 31 ∈ wsX8_digestTrains := by decide +kernel
theorem zk_X8_digestTrains_10 : Cond.fieldLink yX8_digestTrains.cls 10 RX8 "land" "LThirteenthDay$Land;" ∈ wsX8_digestTrains := by decide +kernel
theorem zi_X8_digestTrains_X8 : ∀ w ∈ u_ws RX8 TX8 11, w ∈ wsX8_digestTrains := by decide +kernel
def zX8_digestTrains_20 (k5 : Int64 → Int32 → zz_T → Option Int64) : Nat → Int64 → Int32 → Int32 → zz_T → Option Int64
  | 0, _, _, _, _ => none
  | n + 1, v3, v5, v6, st =>
    if 9 < v6 then
      (zX6_waitOf v5 st).bind fun x1 =>
      zz_v ((v3 * 31) + (x1.toInt64)) fun w3 =>
      k5 w3 (v5 + 1) st
    else
      zz_v ((v3 * 31) + (((zX8_trainFact v5 v6 st)).toInt64)) fun w4 =>
      zX8_digestTrains_20 k5 n w4 v5 (v6 + 1) st
set_option maxHeartbeats 4000000 in
set_option maxRecDepth 100000 in
theorem zt_X8_digestTrains_20 {l : Launch} {A : Nat → Prop} {D : va_G} {cI : ClassId} {q : Nat → Nat} {p : Program} {e : Env} {s : State} {m : MethodId} {args : Array Value} {below : List Frame} {meth : Method} {c : Code} (C : zz_C A D cI q p s m args meth c cX8_digestTrains 7 wsX8_digestTrains yX8_digestTrains.cls) (hr : meth.sig.returnType = some .long) (k5 : Int64 → Int32 → zz_T → Option Int64) (hk5 : ∀ (v3 : Int64) (v5 : Int32) (st : zz_T) (H : Heap) (locs : List Loc) (ls : Array Slot) (r : Int64), k5 v3 v5 st = some r → va_P D vwCl (zz_c q cI st) H → va_S A s.heap H locs → lv_has ls 7 [(0, .ref (q 0)), (3, .long v3), (5, .int v5)] → W p l e zr_X8_digestTrains s m args below meth c H locs 0 0 (zz_Ql A D cI q r st below args s) (F0 m 5 ls [])) : ∀ (n : Nat) (v3 : Int64) (v5 : Int32) (v6 : Int32) (st : zz_T) (H : Heap) (locs : List Loc) (ls : Array Slot) (r : Int64), zX8_digestTrains_20 k5 n v3 v5 v6 st = some r → va_P D vwCl (zz_c q cI st) H → va_S A s.heap H locs → lv_has ls 7 [(0, .ref (q 0)), (3, .long v3), (5, .int v5), (6, .int v6)] → W p l e zr_X8_digestTrains s m args below meth c H locs 0 0 (zz_Ql A D cI q r st below args s) (F0 m 20 ls []) := by
  obtain ⟨hx, hb, hml, hown, hts⟩ := id C.1
  intro n
  induction n with
  | zero => intro v3 v5 v6 st H locs ls r hf; cases hf
  | succ n ih =>
    intro v3 v5 v6 st H locs ls r hf hP hS hl
    rw [zX8_digestTrains_20] at hf
    refine lv_iload hx hb dX8_digestTrains_20 (lv_at hl 3 rfl) ?_
    refine lv_bipush (v := 9) hx hb dX8_digestTrains_22 (by decide) ?_
    refine lv_icmp_gt (tgt := 49) hx hb dX8_digestTrains_24 (by decide) (fun h => ?_) (fun h => ?_)
    · rw [if_pos h] at hf
      refine lv_lload_n hx hb dX8_digestTrains_49 rfl (lv_at hl 1 rfl) ?_
      refine lv_ldc2 (v := 31) hx hb hown (hts _ zk_X8_digestTrains_c404) dX8_digestTrains_50 ?_
      refine lv_lmul hx hb dX8_digestTrains_53 ?_
      refine lv_aload_n hx hb dX8_digestTrains_54 rfl (lv_at hl 0 rfl) ?_
      refine zz_getf C zi_X8_digestTrains_X8 hP 0 rfl rfl 4 (nm := "trains") (ds := "LThirteenthDay$Trains;") (fin := true) rfl (by decide) zk_X8_digestTrains_36 rfl dX8_digestTrains_55 ?_
      refine lv_iload hx hb dX8_digestTrains_58 (lv_at hl 2 rfl) ?_
      refine lv_aload_n hx hb dX8_digestTrains_60 rfl (lv_at hl 0 rfl) ?_
      refine zz_getf C zi_X8_digestTrains_X8 hP 0 rfl rfl 0 (nm := "land") (ds := "LThirteenthDay$Land;") (fin := true) rfl (by decide) zk_X8_digestTrains_10 rfl dX8_digestTrains_61 ?_
      obtain ⟨x1, e2, hf⟩ := zz_bo hf
      refine zz_callVi C (As := [.int v5, .ref (q 1)]) (rest := [.long (v3 * 31)]) (zc_X6_waitOf _ _ _ e2) (cwV 2 hts gX8_digestTrains_X6_waitOf rfl rfl rfl zd_X6_waitOf ⟨Nat.le_of_ble_eq_true rfl, Nat.le_of_ble_eq_true rfl⟩) hP hS 5 rfl rfl rfl hl rfl (Nat.le_of_ble_eq_true rfl) dX8_digestTrains_64 ⟨Nat.zero_le _, Nat.zero_le _⟩ (fun H locs hP hS => ?_)
      refine lv_i2l (v := x1.toInt64) hx hb dX8_digestTrains_67 rfl ?_
      refine lv_ladd hx hb dX8_digestTrains_68 ?_
      refine lv_topl (fun w3 e3 => ?_)
      replace hf := zz_vi hf e3
      refine lv_lstore_n (lv' := [(3, .long w3), (0, .ref (q 0)), (5, .int v5), (6, .int v6)]) hx hb dX8_digestTrains_69 rfl hl (by decide) rfl (fun ls hl => ?_)
      refine lv_iinc (v := (v5 + 1)) (lv' := [(5, .int (v5 + 1)), (3, .long w3), (0, .ref (q 0)), (6, .int v6)]) hx hb dX8_digestTrains_70 hl (k := 2) rfl (congrArg (fun z => v5 + z) (by decide)) (by decide) rfl (fun ls hl => ?_)
      refine lv_goto (tgt := 5) hx hb dX8_digestTrains_73 (by decide) ?_
      exact hk5 _ _ _ _ _ _ _ hf hP hS (lv_sub hl [2, 1, 0] rfl)
    · rw [if_neg h] at hf
      refine lv_lload_n hx hb dX8_digestTrains_27 rfl (lv_at hl 1 rfl) ?_
      refine lv_ldc2 (v := 31) hx hb hown (hts _ zk_X8_digestTrains_c404) dX8_digestTrains_28 ?_
      refine lv_lmul hx hb dX8_digestTrains_31 ?_
      refine lv_aload_n hx hb dX8_digestTrains_32 rfl (lv_at hl 0 rfl) ?_
      refine lv_iload hx hb dX8_digestTrains_33 (lv_at hl 2 rfl) ?_
      refine lv_iload hx hb dX8_digestTrains_35 (lv_at hl 3 rfl) ?_
      refine zz_callVi C (As := [.int v5, .int v6]) (rest := [.long (v3 * 31)]) (zc_X8_trainFact _ _ _) (cwV 2 hts gX8_digestTrains_X8_trainFact rfl rfl rfl zd_X8_trainFact ⟨Nat.le_of_ble_eq_true rfl, Nat.le_of_ble_eq_true rfl⟩) hP hS 0 rfl rfl rfl hl rfl (Nat.le_of_ble_eq_true rfl) dX8_digestTrains_37 ⟨Nat.zero_le _, Nat.zero_le _⟩ (fun H locs hP hS => ?_)
      refine lv_i2l (v := ((zX8_trainFact v5 v6 st)).toInt64) hx hb dX8_digestTrains_40 rfl ?_
      refine lv_ladd hx hb dX8_digestTrains_41 ?_
      refine lv_topl (fun w4 e4 => ?_)
      replace hf := zz_vi hf e4
      refine lv_lstore_n (lv' := [(3, .long w4), (0, .ref (q 0)), (5, .int v5), (6, .int v6)]) hx hb dX8_digestTrains_42 rfl hl (by decide) rfl (fun ls hl => ?_)
      refine lv_iinc (v := (v6 + 1)) (lv' := [(6, .int (v6 + 1)), (3, .long w4), (0, .ref (q 0)), (5, .int v5)]) hx hb dX8_digestTrains_43 hl (k := 3) rfl (congrArg (fun z => v6 + z) (by decide)) (by decide) rfl (fun ls hl => ?_)
      refine lv_goto (tgt := 20) hx hb dX8_digestTrains_46 (by decide) ?_
      exact ih _ _ _ _ _ _ _ _ hf hP hS (lv_sub hl [2, 1, 3, 0] rfl)
def zX8_digestTrains_5 : Nat → Int64 → Int32 → zz_T → Option Int64
  | 0, _, _, _ => none
  | n + 1, v3, v5, st =>
    if (zX6_count st) ≤ v5 then
      some v3
    else
      zX8_digestTrains_20 (fun v3' v5' st' => zX8_digestTrains_5 n v3' v5' st') zz_N v3 v5 0 st
set_option maxHeartbeats 4000000 in
set_option maxRecDepth 100000 in
theorem zt_X8_digestTrains_5 {l : Launch} {A : Nat → Prop} {D : va_G} {cI : ClassId} {q : Nat → Nat} {p : Program} {e : Env} {s : State} {m : MethodId} {args : Array Value} {below : List Frame} {meth : Method} {c : Code} (C : zz_C A D cI q p s m args meth c cX8_digestTrains 7 wsX8_digestTrains yX8_digestTrains.cls) (hr : meth.sig.returnType = some .long) : ∀ (n : Nat) (v3 : Int64) (v5 : Int32) (st : zz_T) (H : Heap) (locs : List Loc) (ls : Array Slot) (r : Int64), zX8_digestTrains_5 n v3 v5 st = some r → va_P D vwCl (zz_c q cI st) H → va_S A s.heap H locs → lv_has ls 7 [(0, .ref (q 0)), (3, .long v3), (5, .int v5)] → W p l e zr_X8_digestTrains s m args below meth c H locs 0 0 (zz_Ql A D cI q r st below args s) (F0 m 5 ls []) := by
  obtain ⟨hx, hb, hml, hown, hts⟩ := id C.1
  intro n
  induction n with
  | zero => intro v3 v5 st H locs ls r hf; cases hf
  | succ n ih =>
    intro v3 v5 st H locs ls r hf hP hS hl
    rw [zX8_digestTrains_5] at hf
    refine lv_iload hx hb dX8_digestTrains_5 (lv_at hl 2 rfl) ?_
    refine lv_aload_n hx hb dX8_digestTrains_7 rfl (lv_at hl 0 rfl) ?_
    refine zz_getf C zi_X8_digestTrains_X8 hP 0 rfl rfl 4 (nm := "trains") (ds := "LThirteenthDay$Trains;") (fin := true) rfl (by decide) zk_X8_digestTrains_36 rfl dX8_digestTrains_8 ?_
    refine zz_callVi C (As := []) (rest := [.int v5]) (zc_X6_count _) (cwV 0 hts gX8_digestTrains_X6_count rfl rfl rfl zd_X6_count ⟨Nat.le_of_ble_eq_true rfl, Nat.le_of_ble_eq_true rfl⟩) hP hS 5 rfl rfl rfl hl rfl (Nat.le_of_ble_eq_true rfl) dX8_digestTrains_11 ⟨Nat.zero_le _, Nat.zero_le _⟩ (fun H locs hP hS => ?_)
    refine lv_icmp_ge (tgt := 76) hx hb dX8_digestTrains_14 (by decide) (fun h => ?_) (fun h => ?_)
    · rw [if_pos h] at hf
      refine lv_lload_n hx hb dX8_digestTrains_76 rfl (lv_at hl 1 rfl) ?_
      rw [← (Option.some.inj hf)]
      exact zz_retl C hr hP hS dX8_digestTrains_77
    · rw [if_neg h] at hf
      refine lv_iconst (v := 0) hx hb dX8_digestTrains_17 (by decide) ?_
      refine lv_istore (lv' := [(6, .int 0), (0, .ref (q 0)), (3, .long v3), (5, .int v5)]) hx hb dX8_digestTrains_18 hl (by decide) rfl (fun ls hl => ?_)
      exact zt_X8_digestTrains_20 C hr _ ih zz_N _ _ _ _ _ _ _ _ hf hP hS (lv_sub hl [1, 2, 3, 0] rfl)
def zX8_digestTrains (v1 : Int64) (st : zz_T) : Option Int64 :=
  zX8_digestTrains_5 zz_N v1 0 st
set_option maxHeartbeats 4000000 in
set_option maxRecDepth 100000 in
theorem zc_X8_digestTrains {l : Launch} {A : Nat → Prop} {D : va_G} {cI : ClassId} {q : Nat → Nat} (v1 : Int64) (st : zz_T) (r : Int64) (hf : zX8_digestTrains v1 st = some r) : zz_Ml l A D cI q yX8_digestTrains wsX8_digestTrains zr_X8_digestTrains [.ref (q 0), .long v1] st r st := by
  refine zz_of (cc := cX8_digestTrains) (nL := 7) (ret := some .long) (by decide) rfl (Nat.le_of_ble_eq_true rfl) ?_
  intro p e s m args below meth c ls C hr hP hS hl
  obtain ⟨hx, hb, hml, hown, hts⟩ := id C.1
  have hl : lv_has ls 7 [(0, .ref (q 0)), (1, .long v1)] := hl
  rw [zX8_digestTrains] at hf
  skip
  refine lv_lload_n hx hb dX8_digestTrains_0 rfl (lv_at hl 1 rfl) ?_
  refine lv_lstore_n (lv' := [(3, .long v1), (0, .ref (q 0)), (1, .long v1)]) hx hb dX8_digestTrains_1 rfl hl (by decide) rfl (fun ls hl => ?_)
  refine lv_iconst (v := 0) hx hb dX8_digestTrains_2 (by decide) ?_
  refine lv_istore (lv' := [(5, .int 0), (3, .long v1), (0, .ref (q 0)), (1, .long v1)]) hx hb dX8_digestTrains_3 hl (by decide) rfl (fun ls hl => ?_)
  exact zt_X8_digestTrains_5 C hr zz_N _ _ _ _ _ _ _ hf hP hS (lv_sub hl [2, 1, 0] rfl)
/-! X2_get TR -/
theorem zd_X2_get : yX2_get.cls = RX2 ∧ yX2_get.cls ≠ "java/lang/invoke/MethodHandle" ∧ yX2_get.cls ≠ "java/lang/invoke/VarHandle" ∧ (parseMethodDescriptor yX2_get.desc).map (fun d => d.parameters.length) = some 2 := by decide +kernel
abbrev zr_X2_get : Room := { frames := 1, cells := 0, slots := 0, locals := 24 }
theorem zk_X2_get_20 : Cond.fieldLink yX2_get.cls 20 RX2 "facts" "LThirteenthDay$Table;" ∈ wsX2_get := by decide +kernel
theorem zi_X2_get_X2 : ∀ w ∈ u_ws RX2 TX2 5, w ∈ wsX2_get := by decide +kernel
def zX2_get (b : Nat) (v1 : Int32) (v2 : Int32) (st : zz_T) : Int32 :=
  (zz_g (b + 0) v1 v2 st)
set_option maxHeartbeats 4000000 in
set_option maxRecDepth 100000 in
theorem zc_X2_get {l : Launch} {A : Nat → Prop} {D : va_G} {cI : ClassId} {q : Nat → Nat} (o b : Nat) (hz : zz_P o b) (v1 : Int32) (v2 : Int32) (st : zz_T) : zz_Mi l A D cI q yX2_get wsX2_get zr_X2_get [.ref (q o), .int v1, .int v2] st (zX2_get b v1 v2 st) st := by
  refine zz_of (cc := cX2_get) (nL := 3) (ret := some .int) (by decide) rfl (Nat.le_of_ble_eq_true rfl) ?_
  intro p e s m args below meth c ls C hr hP hS hl
  obtain ⟨hx, hb, hml, hown, hts⟩ := id C.1
  have hl : lv_has ls 3 [(0, .ref (q o)), (1, .int v1), (2, .int v2)] := hl
  obtain ⟨r, hf⟩ : ∃ r, zX2_get b v1 v2 st = r := ⟨_, rfl⟩
  rw [hf]
  rw [zX2_get] at hf
  skip
  refine lv_aload_n hx hb dX2_get_0 rfl (lv_at hl 0 rfl) ?_
  refine zz_getf C zi_X2_get_X2 hP o (zz_c_pa hz) rfl 0 (nm := "facts") (ds := "LThirteenthDay$Table;") (fin := true) rfl (by decide) zk_X2_get_20 rfl dX2_get_1 ?_
  refine lv_iload_n hx hb dX2_get_4 rfl (lv_at hl 1 rfl) ?_
  refine lv_iload_n hx hb dX2_get_5 rfl (lv_at hl 2 rfl) ?_
  refine zz_callVi C (As := [.int v1, .int v2]) (rest := []) (zc_X5_get (b + 0) (zz_Plt hz (by decide)) _ _ _) (cwV 2 hts gX2_get_X5_get rfl rfl rfl zd_X5_get ⟨Nat.le_of_ble_eq_true rfl, Nat.le_of_ble_eq_true rfl⟩) hP hS (9 + (b + 0)) (zz_c_tab (zz_Plt hz (by decide))) rfl rfl hl rfl (Nat.le_of_ble_eq_true rfl) dX2_get_6 ⟨Nat.zero_le _, Nat.zero_le _⟩ (fun H locs hP hS => ?_)
  rw [← hf]
  exact zz_reti C hr hP hS dX2_get_9
/-! X8_pathFact TR -/
theorem zd_X8_pathFact : yX8_pathFact.cls = RX8 ∧ yX8_pathFact.cls ≠ "java/lang/invoke/MethodHandle" ∧ yX8_pathFact.cls ≠ "java/lang/invoke/VarHandle" ∧ (parseMethodDescriptor yX8_pathFact.desc).map (fun d => d.parameters.length) = some 2 := by decide +kernel
abbrev zr_X8_pathFact : Room := { frames := 2, cells := 0, slots := 0, locals := 46 }
theorem zk_X8_pathFact_26 : Cond.fieldLink yX8_pathFact.cls 26 RX8 "paths" "LThirteenthDay$Paths;" ∈ wsX8_pathFact := by decide +kernel
theorem zi_X8_pathFact_X8 : ∀ w ∈ u_ws RX8 TX8 11, w ∈ wsX8_pathFact := by decide +kernel
def zX8_pathFact (v1 : Int32) (v2 : Int32) (st : zz_T) : Int32 :=
  if (zX2_isKept 6 v1 st) = true then
    if v2 = 0 then
      (zX2_get 6 v1 0 st)
    else
      if v2 = 1 then
        (zX2_arrivesOf 6 v1 st)
      else
        (zX2_get 6 v1 1 st)
  else
    (-1)
set_option maxHeartbeats 4000000 in
set_option maxRecDepth 100000 in
theorem zc_X8_pathFact {l : Launch} {A : Nat → Prop} {D : va_G} {cI : ClassId} {q : Nat → Nat} (v1 : Int32) (v2 : Int32) (st : zz_T) : zz_Mi l A D cI q yX8_pathFact wsX8_pathFact zr_X8_pathFact [.ref (q 0), .int v1, .int v2] st (zX8_pathFact v1 v2 st) st := by
  refine zz_of (cc := cX8_pathFact) (nL := 3) (ret := some .int) (by decide) rfl (Nat.le_of_ble_eq_true rfl) ?_
  intro p e s m args below meth c ls C hr hP hS hl
  obtain ⟨hx, hb, hml, hown, hts⟩ := id C.1
  have hl : lv_has ls 3 [(0, .ref (q 0)), (1, .int v1), (2, .int v2)] := hl
  obtain ⟨r, hf⟩ : ∃ r, zX8_pathFact v1 v2 st = r := ⟨_, rfl⟩
  rw [hf]
  rw [zX8_pathFact] at hf
  skip
  refine lv_aload_n hx hb dX8_pathFact_0 rfl (lv_at hl 0 rfl) ?_
  refine zz_getf C zi_X8_pathFact_X8 hP 0 rfl rfl 2 (nm := "paths") (ds := "LThirteenthDay$Paths;") (fin := true) rfl (by decide) zk_X8_pathFact_26 rfl dX8_pathFact_1 ?_
  refine lv_iload_n hx hb dX8_pathFact_4 rfl (lv_at hl 1 rfl) ?_
  refine zz_callVi C (As := [.int v1]) (rest := []) (zc_X2_isKept 3 6 (by decide) _ _) (cwV 1 hts gX8_pathFact_X2_isKept rfl rfl rfl zd_X2_isKept ⟨Nat.le_of_ble_eq_true rfl, Nat.le_of_ble_eq_true rfl⟩) hP hS 3 rfl rfl rfl hl rfl (Nat.le_of_ble_eq_true rfl) dX8_pathFact_5 ⟨Nat.zero_le _, Nat.zero_le _⟩ (fun H locs hP hS => ?_)
  refine lv_if_ne (tgt := 13) hx hb dX8_pathFact_8 (by decide) (fun h => ?_) (fun h => ?_)
  · rw [zz_if1 (zz_b1 h)] at hf
    refine lv_iload_n hx hb dX8_pathFact_13 rfl (lv_at hl 2 rfl) ?_
    refine lv_if_ne (tgt := 27) hx hb dX8_pathFact_14 (by decide) (fun h => ?_) (fun h => ?_)
    · rw [if_neg h] at hf
      refine lv_iload_n hx hb dX8_pathFact_27 rfl (lv_at hl 2 rfl) ?_
      refine lv_iconst (v := 1) hx hb dX8_pathFact_28 (by decide) ?_
      refine lv_icmp_ne (tgt := 43) hx hb dX8_pathFact_29 (by decide) (fun h => ?_) (fun h => ?_)
      · rw [if_neg h] at hf
        refine lv_aload_n hx hb dX8_pathFact_43 rfl (lv_at hl 0 rfl) ?_
        refine zz_getf C zi_X8_pathFact_X8 hP 0 rfl rfl 2 (nm := "paths") (ds := "LThirteenthDay$Paths;") (fin := true) rfl (by decide) zk_X8_pathFact_26 rfl dX8_pathFact_44 ?_
        refine lv_iload_n hx hb dX8_pathFact_47 rfl (lv_at hl 1 rfl) ?_
        refine lv_iconst (v := 1) hx hb dX8_pathFact_48 (by decide) ?_
        refine zz_callVi C (As := [.int v1, .int 1]) (rest := []) (zc_X2_get 3 6 (by decide) _ _ _) (cwV 2 hts gX8_pathFact_X2_get rfl rfl rfl zd_X2_get ⟨Nat.le_of_ble_eq_true rfl, Nat.le_of_ble_eq_true rfl⟩) hP hS 3 rfl rfl rfl hl rfl (Nat.le_of_ble_eq_true rfl) dX8_pathFact_49 ⟨Nat.zero_le _, Nat.zero_le _⟩ (fun H locs hP hS => ?_)
        rw [← hf]
        exact zz_reti C hr hP hS dX8_pathFact_52
      · rw [if_pos h] at hf
        refine lv_aload_n hx hb dX8_pathFact_32 rfl (lv_at hl 0 rfl) ?_
        refine zz_getf C zi_X8_pathFact_X8 hP 0 rfl rfl 2 (nm := "paths") (ds := "LThirteenthDay$Paths;") (fin := true) rfl (by decide) zk_X8_pathFact_26 rfl dX8_pathFact_33 ?_
        refine lv_iload_n hx hb dX8_pathFact_36 rfl (lv_at hl 1 rfl) ?_
        refine zz_callVi C (As := [.int v1]) (rest := []) (zc_X2_arrivesOf 3 6 (by decide) _ _) (cwV 1 hts gX8_pathFact_X2_arrivesOf rfl rfl rfl zd_X2_arrivesOf ⟨Nat.le_of_ble_eq_true rfl, Nat.le_of_ble_eq_true rfl⟩) hP hS 3 rfl rfl rfl hl rfl (Nat.le_of_ble_eq_true rfl) dX8_pathFact_37 ⟨Nat.zero_le _, Nat.zero_le _⟩ (fun H locs hP hS => ?_)
        refine lv_goto (tgt := 52) hx hb dX8_pathFact_40 (by decide) ?_
        rw [← hf]
        exact zz_reti C hr hP hS dX8_pathFact_52
    · rw [if_pos h] at hf
      refine lv_aload_n hx hb dX8_pathFact_17 rfl (lv_at hl 0 rfl) ?_
      refine zz_getf C zi_X8_pathFact_X8 hP 0 rfl rfl 2 (nm := "paths") (ds := "LThirteenthDay$Paths;") (fin := true) rfl (by decide) zk_X8_pathFact_26 rfl dX8_pathFact_18 ?_
      refine lv_iload_n hx hb dX8_pathFact_21 rfl (lv_at hl 1 rfl) ?_
      refine lv_iconst (v := 0) hx hb dX8_pathFact_22 (by decide) ?_
      refine zz_callVi C (As := [.int v1, .int 0]) (rest := []) (zc_X2_get 3 6 (by decide) _ _ _) (cwV 2 hts gX8_pathFact_X2_get rfl rfl rfl zd_X2_get ⟨Nat.le_of_ble_eq_true rfl, Nat.le_of_ble_eq_true rfl⟩) hP hS 3 rfl rfl rfl hl rfl (Nat.le_of_ble_eq_true rfl) dX8_pathFact_23 ⟨Nat.zero_le _, Nat.zero_le _⟩ (fun H locs hP hS => ?_)
      rw [← hf]
      exact zz_reti C hr hP hS dX8_pathFact_26
  · rw [zz_if0 (zz_b0 h)] at hf
    refine lv_iconst (v := (-1)) hx hb dX8_pathFact_11 (by decide) ?_
    rw [← hf]
    exact zz_reti C hr hP hS dX8_pathFact_12
/-! X7_ticksToStop TR -/
theorem zd_X7_ticksToStop : yX7_ticksToStop.cls = RX7 ∧ yX7_ticksToStop.cls ≠ "java/lang/invoke/MethodHandle" ∧ yX7_ticksToStop.cls ≠ "java/lang/invoke/VarHandle" ∧ (parseMethodDescriptor yX7_ticksToStop.desc).map (fun d => d.parameters.length) = some 2 := by decide +kernel
abbrev zr_X7_ticksToStop : Room := { frames := 1, cells := 0, slots := 0, locals := 24 }
theorem zq_X7_ticksToStop_max : Cond.methodLink yX7_ticksToStop.cls 55 Lib.Math.max.name ∈ wsX7_ticksToStop ∧ Cond.static Lib.Math.max.name ∈ wsX7_ticksToStop ∧ Cond.initialized "java/lang/Math" ∈ wsX7_ticksToStop ∧ Cond.code Lib.Math.max.name Lib.Math.max.code 2 (some .int) ∈ wsX7_ticksToStop := by decide +kernel
theorem zk_X7_ticksToStop_16 : Cond.fieldLink yX7_ticksToStop.cls 16 RX7 "units" "LThirteenthDay$Table;" ∈ wsX7_ticksToStop := by decide +kernel
theorem zi_X7_ticksToStop_X7 : ∀ w ∈ u_ws RX7 TX7 3, w ∈ wsX7_ticksToStop := by decide +kernel
def zX7_ticksToStop (v1 : Int32) (v2 : Int32) (st : zz_T) : Int32 :=
  if (zz_g 4 v1 4 st) = 2 then
    (zz_max 0 (36 - (v2 - (zz_g 4 v1 5 st))))
  else
    (-1)
set_option maxHeartbeats 4000000 in
set_option maxRecDepth 100000 in
theorem zc_X7_ticksToStop {l : Launch} {A : Nat → Prop} {D : va_G} {cI : ClassId} {q : Nat → Nat} (v1 : Int32) (v2 : Int32) (st : zz_T) : zz_Mi l A D cI q yX7_ticksToStop wsX7_ticksToStop zr_X7_ticksToStop [.ref (q 2), .int v1, .int v2] st (zX7_ticksToStop v1 v2 st) st := by
  refine zz_of (cc := cX7_ticksToStop) (nL := 3) (ret := some .int) (by decide) rfl (Nat.le_of_ble_eq_true rfl) ?_
  intro p e s m args below meth c ls C hr hP hS hl
  obtain ⟨hx, hb, hml, hown, hts⟩ := id C.1
  have hl : lv_has ls 3 [(0, .ref (q 2)), (1, .int v1), (2, .int v2)] := hl
  obtain ⟨r, hf⟩ : ∃ r, zX7_ticksToStop v1 v2 st = r := ⟨_, rfl⟩
  rw [hf]
  rw [zX7_ticksToStop] at hf
  skip
  refine lv_aload_n hx hb dX7_ticksToStop_0 rfl (lv_at hl 0 rfl) ?_
  refine zz_getf C zi_X7_ticksToStop_X7 hP 2 rfl rfl 0 (nm := "units") (ds := "LThirteenthDay$Table;") (fin := true) rfl (by decide) zk_X7_ticksToStop_16 rfl dX7_ticksToStop_1 ?_
  refine lv_iload_n hx hb dX7_ticksToStop_4 rfl (lv_at hl 1 rfl) ?_
  refine lv_iconst (v := 4) hx hb dX7_ticksToStop_5 (by decide) ?_
  refine zz_callVi C (As := [.int v1, .int 4]) (rest := []) (zc_X5_get 4 (by decide) _ _ _) (cwV 2 hts gX7_ticksToStop_X5_get rfl rfl rfl zd_X5_get ⟨Nat.le_of_ble_eq_true rfl, Nat.le_of_ble_eq_true rfl⟩) hP hS (9 + 4) (zz_c_tab (by decide)) rfl rfl hl rfl (Nat.le_of_ble_eq_true rfl) dX7_ticksToStop_6 ⟨Nat.zero_le _, Nat.zero_le _⟩ (fun H locs hP hS => ?_)
  refine lv_iconst (v := 2) hx hb dX7_ticksToStop_9 (by decide) ?_
  refine lv_icmp_eq (tgt := 15) hx hb dX7_ticksToStop_10 (by decide) (fun h => ?_) (fun h => ?_)
  · rw [if_pos h] at hf
    refine lv_iconst (v := 0) hx hb dX7_ticksToStop_15 (by decide) ?_
    refine lv_bipush (v := 36) hx hb dX7_ticksToStop_16 (by decide) ?_
    refine lv_iload_n hx hb dX7_ticksToStop_18 rfl (lv_at hl 2 rfl) ?_
    refine lv_aload_n hx hb dX7_ticksToStop_19 rfl (lv_at hl 0 rfl) ?_
    refine zz_getf C zi_X7_ticksToStop_X7 hP 2 rfl rfl 0 (nm := "units") (ds := "LThirteenthDay$Table;") (fin := true) rfl (by decide) zk_X7_ticksToStop_16 rfl dX7_ticksToStop_20 ?_
    refine lv_iload_n hx hb dX7_ticksToStop_23 rfl (lv_at hl 1 rfl) ?_
    refine lv_iconst (v := 5) hx hb dX7_ticksToStop_24 (by decide) ?_
    refine zz_callVi C (As := [.int v1, .int 5]) (rest := [.int v2, .int 36, .int 0]) (zc_X5_get 4 (by decide) _ _ _) (cwV 2 hts gX7_ticksToStop_X5_get rfl rfl rfl zd_X5_get ⟨Nat.le_of_ble_eq_true rfl, Nat.le_of_ble_eq_true rfl⟩) hP hS (9 + 4) (zz_c_tab (by decide)) rfl rfl hl rfl (Nat.le_of_ble_eq_true rfl) dX7_ticksToStop_25 ⟨Nat.zero_le _, Nat.zero_le _⟩ (fun H locs hP hS => ?_)
    refine lv_isub hx hb dX7_ticksToStop_28 ?_
    refine lv_isub hx hb dX7_ticksToStop_29 ?_
    refine zz_mmax C zq_X7_ticksToStop_max hl (by decide) (Nat.le_of_ble_eq_true rfl) ⟨Nat.zero_le _, Nat.zero_le _⟩ dX7_ticksToStop_30 ?_
    rw [← hf]
    exact zz_reti C hr hP hS dX7_ticksToStop_33
  · rw [if_neg h] at hf
    refine lv_iconst (v := (-1)) hx hb dX7_ticksToStop_13 (by decide) ?_
    rw [← hf]
    exact zz_reti C hr hP hS dX7_ticksToStop_14
/-! X8_unitFact PR -/
theorem zd_X8_unitFact : yX8_unitFact.cls = RX8 ∧ yX8_unitFact.cls ≠ "java/lang/invoke/MethodHandle" ∧ yX8_unitFact.cls ≠ "java/lang/invoke/VarHandle" ∧ (parseMethodDescriptor yX8_unitFact.desc).map (fun d => d.parameters.length) = some 2 := by decide +kernel
abbrev zr_X8_unitFact : Room := { frames := 2, cells := 0, slots := 0, locals := 46 }
theorem zk_X8_unitFact_19 : Cond.fieldLink yX8_unitFact.cls 19 RX8 "units" "LThirteenthDay$Units;" ∈ wsX8_unitFact := by decide +kernel
theorem zk_X8_unitFact_26 : Cond.fieldLink yX8_unitFact.cls 26 RX8 "paths" "LThirteenthDay$Paths;" ∈ wsX8_unitFact := by decide +kernel
theorem zk_X8_unitFact_70 : Cond.fieldLink yX8_unitFact.cls 70 RX8 "tick" "I" ∈ wsX8_unitFact := by decide +kernel
theorem zi_X8_unitFact_X8 : ∀ w ∈ u_ws RX8 TX8 11, w ∈ wsX8_unitFact := by decide +kernel
def zX8_unitFact_43 : Nat → Int32 → Int32 → Int32 → Int32 → Int32 → zz_T → Option Int32
  | 0, _, _, _, _, _, _ => none
  | n + 1, v1, v2, v3, v4, v5, st =>
    if (zX7_get v1 1 st) ≤ v5 then
      if v2 = 10 then
        some v4
      else
        some v3
    else
      zz_v (zX2_slotOf v1 v5 st) fun w1 =>
      if (zX2_isKept 6 w1 st) = true then
        zz_v (zX2_arrivesOf 6 w1 st) fun w2 =>
        zX8_unitFact_43 n v1 v2 (v3 + 1) w2 (v5 + 1) st
      else
        zX8_unitFact_43 n v1 v2 v3 v4 (v5 + 1) st
set_option maxHeartbeats 4000000 in
set_option maxRecDepth 100000 in
theorem zt_X8_unitFact_43 {l : Launch} {A : Nat → Prop} {D : va_G} {cI : ClassId} {q : Nat → Nat} {p : Program} {e : Env} {s : State} {m : MethodId} {args : Array Value} {below : List Frame} {meth : Method} {c : Code} (C : zz_C A D cI q p s m args meth c cX8_unitFact 7 wsX8_unitFact yX8_unitFact.cls) (hr : meth.sig.returnType = some .int) : ∀ (n : Nat) (v1 : Int32) (v2 : Int32) (v3 : Int32) (v4 : Int32) (v5 : Int32) (st : zz_T) (H : Heap) (locs : List Loc) (ls : Array Slot) (r : Int32), zX8_unitFact_43 n v1 v2 v3 v4 v5 st = some r → va_P D vwCl (zz_c q cI st) H → va_S A s.heap H locs → lv_has ls 7 [(0, .ref (q 0)), (1, .int v1), (2, .int v2), (3, .int v3), (4, .int v4), (5, .int v5)] → W p l e zr_X8_unitFact s m args below meth c H locs 0 0 (zz_Qi A D cI q r st below args s) (F0 m 43 ls []) := by
  obtain ⟨hx, hb, hml, hown, hts⟩ := id C.1
  intro n
  induction n with
  | zero => intro v1 v2 v3 v4 v5 st H locs ls r hf; cases hf
  | succ n ih =>
    intro v1 v2 v3 v4 v5 st H locs ls r hf hP hS hl
    rw [zX8_unitFact_43] at hf
    refine lv_iload hx hb dX8_unitFact_43 (lv_at hl 5 rfl) ?_
    refine lv_aload_n hx hb dX8_unitFact_45 rfl (lv_at hl 0 rfl) ?_
    refine zz_getf C zi_X8_unitFact_X8 hP 0 rfl rfl 1 (nm := "units") (ds := "LThirteenthDay$Units;") (fin := true) rfl (by decide) zk_X8_unitFact_19 rfl dX8_unitFact_46 ?_
    refine lv_iload_n hx hb dX8_unitFact_49 rfl (lv_at hl 1 rfl) ?_
    refine lv_iconst (v := 1) hx hb dX8_unitFact_50 (by decide) ?_
    refine zz_callVi C (As := [.int v1, .int 1]) (rest := [.int v5]) (zc_X7_get _ _ _) (cwV 2 hts gX8_unitFact_X7_get rfl rfl rfl zd_X7_get ⟨Nat.le_of_ble_eq_true rfl, Nat.le_of_ble_eq_true rfl⟩) hP hS 2 rfl rfl rfl hl rfl (Nat.le_of_ble_eq_true rfl) dX8_unitFact_51 ⟨Nat.zero_le _, Nat.zero_le _⟩ (fun H locs hP hS => ?_)
    refine lv_icmp_ge (tgt := 97) hx hb dX8_unitFact_54 (by decide) (fun h => ?_) (fun h => ?_)
    · rw [if_pos h] at hf
      refine lv_iload_n hx hb dX8_unitFact_97 rfl (lv_at hl 2 rfl) ?_
      refine lv_bipush (v := 10) hx hb dX8_unitFact_98 (by decide) ?_
      refine lv_icmp_ne (tgt := 108) hx hb dX8_unitFact_100 (by decide) (fun h => ?_) (fun h => ?_)
      · rw [if_neg h] at hf
        refine lv_iload_n hx hb dX8_unitFact_108 rfl (lv_at hl 3 rfl) ?_
        rw [← (Option.some.inj hf)]
        exact zz_reti C hr hP hS dX8_unitFact_109
      · rw [if_pos h] at hf
        refine lv_iload hx hb dX8_unitFact_103 (lv_at hl 4 rfl) ?_
        refine lv_goto (tgt := 109) hx hb dX8_unitFact_105 (by decide) ?_
        rw [← (Option.some.inj hf)]
        exact zz_reti C hr hP hS dX8_unitFact_109
    · rw [if_neg h] at hf
      refine lv_iload_n hx hb dX8_unitFact_57 rfl (lv_at hl 1 rfl) ?_
      refine lv_iload hx hb dX8_unitFact_58 (lv_at hl 5 rfl) ?_
      refine zz_callSi C (As := [.int v1, .int v5]) (rest := []) (zc_X2_slotOf _ _ _) (va_cwS 2 hts gX8_unitFact_X2_slotOf rfl rfl rfl zd_X2_slotOf.2 ⟨Nat.le_of_ble_eq_true rfl, Nat.le_of_ble_eq_true rfl⟩) hP hS rfl hl rfl (Nat.le_of_ble_eq_true rfl) dX8_unitFact_60 ⟨Nat.zero_le _, Nat.zero_le _⟩ (fun H locs hP hS => ?_)
      refine lv_topi (fun w1 e1 => ?_)
      replace hf := zz_vi hf e1
      refine lv_istore (lv' := [(6, .int w1), (0, .ref (q 0)), (1, .int v1), (2, .int v2), (3, .int v3), (4, .int v4), (5, .int v5)]) hx hb dX8_unitFact_63 hl (by decide) rfl (fun ls hl => ?_)
      refine lv_aload_n hx hb dX8_unitFact_65 rfl (lv_at hl 1 rfl) ?_
      refine zz_getf C zi_X8_unitFact_X8 hP 0 rfl rfl 2 (nm := "paths") (ds := "LThirteenthDay$Paths;") (fin := true) rfl (by decide) zk_X8_unitFact_26 rfl dX8_unitFact_66 ?_
      refine lv_iload hx hb dX8_unitFact_69 (lv_at hl 0 rfl) ?_
      refine zz_callVi C (As := [.int w1]) (rest := []) (zc_X2_isKept 3 6 (by decide) _ _) (cwV 1 hts gX8_unitFact_X2_isKept rfl rfl rfl zd_X2_isKept ⟨Nat.le_of_ble_eq_true rfl, Nat.le_of_ble_eq_true rfl⟩) hP hS 3 rfl rfl rfl hl rfl (Nat.le_of_ble_eq_true rfl) dX8_unitFact_71 ⟨Nat.zero_le _, Nat.zero_le _⟩ (fun H locs hP hS => ?_)
      refine lv_if_eq (tgt := 91) hx hb dX8_unitFact_74 (by decide) (fun h => ?_) (fun h => ?_)
      · rw [zz_if0 (zz_b0 h)] at hf
        refine lv_iinc (v := (v5 + 1)) (lv' := [(5, .int (v5 + 1)), (6, .int w1), (0, .ref (q 0)), (1, .int v1), (2, .int v2), (3, .int v3), (4, .int v4)]) hx hb dX8_unitFact_91 hl (k := 6) rfl (congrArg (fun z => v5 + z) (by decide)) (by decide) rfl (fun ls hl => ?_)
        refine lv_goto (tgt := 43) hx hb dX8_unitFact_94 (by decide) ?_
        exact ih _ _ _ _ _ _ _ _ _ _ hf hP hS (lv_sub hl [2, 3, 4, 5, 6, 0] rfl)
      · rw [zz_if1 (zz_b1 h)] at hf
        refine lv_iinc (v := (v3 + 1)) (lv' := [(3, .int (v3 + 1)), (6, .int w1), (0, .ref (q 0)), (1, .int v1), (2, .int v2), (4, .int v4), (5, .int v5)]) hx hb dX8_unitFact_77 hl (k := 4) rfl (congrArg (fun z => v3 + z) (by decide)) (by decide) rfl (fun ls hl => ?_)
        refine lv_aload_n hx hb dX8_unitFact_80 rfl (lv_at hl 2 rfl) ?_
        refine zz_getf C zi_X8_unitFact_X8 hP 0 rfl rfl 2 (nm := "paths") (ds := "LThirteenthDay$Paths;") (fin := true) rfl (by decide) zk_X8_unitFact_26 rfl dX8_unitFact_81 ?_
        refine lv_iload hx hb dX8_unitFact_84 (lv_at hl 1 rfl) ?_
        refine zz_callVi C (As := [.int w1]) (rest := []) (zc_X2_arrivesOf 3 6 (by decide) _ _) (cwV 1 hts gX8_unitFact_X2_arrivesOf rfl rfl rfl zd_X2_arrivesOf ⟨Nat.le_of_ble_eq_true rfl, Nat.le_of_ble_eq_true rfl⟩) hP hS 3 rfl rfl rfl hl rfl (Nat.le_of_ble_eq_true rfl) dX8_unitFact_86 ⟨Nat.zero_le _, Nat.zero_le _⟩ (fun H locs hP hS => ?_)
        refine lv_topi (fun w2 e2 => ?_)
        replace hf := zz_vi hf e2
        refine lv_istore (lv' := [(4, .int w2), (3, .int (v3 + 1)), (6, .int w1), (0, .ref (q 0)), (1, .int v1), (2, .int v2), (5, .int v5)]) hx hb dX8_unitFact_89 hl (by decide) rfl (fun ls hl => ?_)
        refine lv_iinc (v := (v5 + 1)) (lv' := [(5, .int (v5 + 1)), (4, .int w2), (3, .int (v3 + 1)), (6, .int w1), (0, .ref (q 0)), (1, .int v1), (2, .int v2)]) hx hb dX8_unitFact_91 hl (k := 6) rfl (congrArg (fun z => v5 + z) (by decide)) (by decide) rfl (fun ls hl => ?_)
        refine lv_goto (tgt := 43) hx hb dX8_unitFact_94 (by decide) ?_
        exact ih _ _ _ _ _ _ _ _ _ _ hf hP hS (lv_sub hl [4, 5, 6, 2, 1, 0] rfl)
def zX8_unitFact (v1 : Int32) (v2 : Int32) (st : zz_T) : Option Int32 :=
  if 10 ≤ v2 then
    if v2 = 12 then
      some (zX7_ticksToStop v1 (st.2 0) st)
    else
      zX8_unitFact_43 zz_N v1 v2 0 (-1) 0 st
  else
    some (zX7_get v1 v2 st)
set_option maxHeartbeats 4000000 in
set_option maxRecDepth 100000 in
theorem zc_X8_unitFact {l : Launch} {A : Nat → Prop} {D : va_G} {cI : ClassId} {q : Nat → Nat} (v1 : Int32) (v2 : Int32) (st : zz_T) (r : Int32) (hf : zX8_unitFact v1 v2 st = some r) : zz_Mi l A D cI q yX8_unitFact wsX8_unitFact zr_X8_unitFact [.ref (q 0), .int v1, .int v2] st r st := by
  refine zz_of (cc := cX8_unitFact) (nL := 7) (ret := some .int) (by decide) rfl (Nat.le_of_ble_eq_true rfl) ?_
  intro p e s m args below meth c ls C hr hP hS hl
  obtain ⟨hx, hb, hml, hown, hts⟩ := id C.1
  have hl : lv_has ls 7 [(0, .ref (q 0)), (1, .int v1), (2, .int v2)] := hl
  rw [zX8_unitFact] at hf
  skip
  refine lv_iload_n hx hb dX8_unitFact_0 rfl (lv_at hl 2 rfl) ?_
  refine lv_bipush (v := 10) hx hb dX8_unitFact_1 (by decide) ?_
  refine lv_icmp_ge (tgt := 16) hx hb dX8_unitFact_3 (by decide) (fun h => ?_) (fun h => ?_)
  · rw [if_pos h] at hf
    refine lv_iload_n hx hb dX8_unitFact_16 rfl (lv_at hl 2 rfl) ?_
    refine lv_bipush (v := 12) hx hb dX8_unitFact_17 (by decide) ?_
    refine lv_icmp_ne (tgt := 35) hx hb dX8_unitFact_19 (by decide) (fun h => ?_) (fun h => ?_)
    · rw [if_neg h] at hf
      refine lv_iconst (v := 0) hx hb dX8_unitFact_35 (by decide) ?_
      refine lv_istore_n (lv' := [(3, .int 0), (0, .ref (q 0)), (1, .int v1), (2, .int v2)]) hx hb dX8_unitFact_36 rfl hl (by decide) rfl (fun ls hl => ?_)
      refine lv_iconst (v := (-1)) hx hb dX8_unitFact_37 (by decide) ?_
      refine lv_istore (lv' := [(4, .int (-1)), (3, .int 0), (0, .ref (q 0)), (1, .int v1), (2, .int v2)]) hx hb dX8_unitFact_38 hl (by decide) rfl (fun ls hl => ?_)
      refine lv_iconst (v := 0) hx hb dX8_unitFact_40 (by decide) ?_
      refine lv_istore (lv' := [(5, .int 0), (4, .int (-1)), (3, .int 0), (0, .ref (q 0)), (1, .int v1), (2, .int v2)]) hx hb dX8_unitFact_41 hl (by decide) rfl (fun ls hl => ?_)
      exact zt_X8_unitFact_43 C hr zz_N _ _ _ _ _ _ _ _ _ _ hf hP hS (lv_sub hl [3, 4, 5, 2, 1, 0] rfl)
    · rw [if_pos h] at hf
      refine lv_aload_n hx hb dX8_unitFact_22 rfl (lv_at hl 0 rfl) ?_
      refine zz_getf C zi_X8_unitFact_X8 hP 0 rfl rfl 1 (nm := "units") (ds := "LThirteenthDay$Units;") (fin := true) rfl (by decide) zk_X8_unitFact_19 rfl dX8_unitFact_23 ?_
      refine lv_iload_n hx hb dX8_unitFact_26 rfl (lv_at hl 1 rfl) ?_
      refine lv_aload_n hx hb dX8_unitFact_27 rfl (lv_at hl 0 rfl) ?_
      refine zz_getf C zi_X8_unitFact_X8 hP 0 rfl rfl 9 (nm := "tick") (ds := "I") (fin := false) rfl (by decide) zk_X8_unitFact_70 rfl dX8_unitFact_28 ?_
      refine zz_callVi C (As := [.int v1, .int (st.2 0)]) (rest := []) (zc_X7_ticksToStop _ _ _) (cwV 2 hts gX8_unitFact_X7_ticksToStop rfl rfl rfl zd_X7_ticksToStop ⟨Nat.le_of_ble_eq_true rfl, Nat.le_of_ble_eq_true rfl⟩) hP hS 2 rfl rfl rfl hl rfl (Nat.le_of_ble_eq_true rfl) dX8_unitFact_31 ⟨Nat.zero_le _, Nat.zero_le _⟩ (fun H locs hP hS => ?_)
      rw [← (Option.some.inj hf)]
      exact zz_reti C hr hP hS dX8_unitFact_34
  · rw [if_neg h] at hf
    refine lv_aload_n hx hb dX8_unitFact_6 rfl (lv_at hl 0 rfl) ?_
    refine zz_getf C zi_X8_unitFact_X8 hP 0 rfl rfl 1 (nm := "units") (ds := "LThirteenthDay$Units;") (fin := true) rfl (by decide) zk_X8_unitFact_19 rfl dX8_unitFact_7 ?_
    refine lv_iload_n hx hb dX8_unitFact_10 rfl (lv_at hl 1 rfl) ?_
    refine lv_iload_n hx hb dX8_unitFact_11 rfl (lv_at hl 2 rfl) ?_
    refine zz_callVi C (As := [.int v1, .int v2]) (rest := []) (zc_X7_get _ _ _) (cwV 2 hts gX8_unitFact_X7_get rfl rfl rfl zd_X7_get ⟨Nat.le_of_ble_eq_true rfl, Nat.le_of_ble_eq_true rfl⟩) hP hS 2 rfl rfl rfl hl rfl (Nat.le_of_ble_eq_true rfl) dX8_unitFact_12 ⟨Nat.zero_le _, Nat.zero_le _⟩ (fun H locs hP hS => ?_)
    rw [← (Option.some.inj hf)]
    exact zz_reti C hr hP hS dX8_unitFact_15
/-! X8_digestUnits PR -/
theorem zd_X8_digestUnits : yX8_digestUnits.cls = RX8 ∧ yX8_digestUnits.cls ≠ "java/lang/invoke/MethodHandle" ∧ yX8_digestUnits.cls ≠ "java/lang/invoke/VarHandle" ∧ (parseMethodDescriptor yX8_digestUnits.desc).map (fun d => d.parameters.length) = some 1 := by decide +kernel
abbrev zr_X8_digestUnits : Room := { frames := 3, cells := 0, slots := 0, locals := 72 }
theorem zk_X8_digestUnits_19 : Cond.fieldLink yX8_digestUnits.cls 19 RX8 "units" "LThirteenthDay$Units;" ∈ wsX8_digestUnits := by decide +kernel
theorem zk_X8_digestUnits_c404 : Cond.constantLong yX8_digestUnits.cls 404 31 ∈ wsX8_digestUnits := by decide +kernel
theorem zi_X8_digestUnits_X8 : ∀ w ∈ u_ws RX8 TX8 11, w ∈ wsX8_digestUnits := by decide +kernel
def zX8_digestUnits_70 (k5 : Int64 → Int32 → zz_T → Option Int64) (k52 : Int64 → Int32 → Int32 → zz_T → Option Int64) : Nat → Int64 → Int32 → Int32 → Int32 → zz_T → Option Int64
  | 0, _, _, _, _, _ => none
  | n + 1, v3, v5, v6, v7, st =>
    if 2 < v7 then
      k52 v3 v5 (v6 + 1) st
    else
      zz_v ((v3 * 31) + (((zX8_pathFact (zX2_slotOf v5 v6 st) v7 st)).toInt64)) fun w1 =>
      zX8_digestUnits_70 k5 k52 n w1 v5 v6 (v7 + 1) st
set_option maxHeartbeats 4000000 in
set_option maxRecDepth 100000 in
theorem zt_X8_digestUnits_70 {l : Launch} {A : Nat → Prop} {D : va_G} {cI : ClassId} {q : Nat → Nat} {p : Program} {e : Env} {s : State} {m : MethodId} {args : Array Value} {below : List Frame} {meth : Method} {c : Code} (C : zz_C A D cI q p s m args meth c cX8_digestUnits 8 wsX8_digestUnits yX8_digestUnits.cls) (hr : meth.sig.returnType = some .long) (k5 : Int64 → Int32 → zz_T → Option Int64) (hk5 : ∀ (v3 : Int64) (v5 : Int32) (st : zz_T) (H : Heap) (locs : List Loc) (ls : Array Slot) (r : Int64), k5 v3 v5 st = some r → va_P D vwCl (zz_c q cI st) H → va_S A s.heap H locs → lv_has ls 8 [(0, .ref (q 0)), (3, .long v3), (5, .int v5)] → W p l e zr_X8_digestUnits s m args below meth c H locs 0 0 (zz_Ql A D cI q r st below args s) (F0 m 5 ls [])) (k52 : Int64 → Int32 → Int32 → zz_T → Option Int64) (hk52 : ∀ (v3 : Int64) (v5 : Int32) (v6 : Int32) (st : zz_T) (H : Heap) (locs : List Loc) (ls : Array Slot) (r : Int64), k52 v3 v5 v6 st = some r → va_P D vwCl (zz_c q cI st) H → va_S A s.heap H locs → lv_has ls 8 [(0, .ref (q 0)), (3, .long v3), (5, .int v5), (6, .int v6)] → W p l e zr_X8_digestUnits s m args below meth c H locs 0 0 (zz_Ql A D cI q r st below args s) (F0 m 52 ls [])) : ∀ (n : Nat) (v3 : Int64) (v5 : Int32) (v6 : Int32) (v7 : Int32) (st : zz_T) (H : Heap) (locs : List Loc) (ls : Array Slot) (r : Int64), zX8_digestUnits_70 k5 k52 n v3 v5 v6 v7 st = some r → va_P D vwCl (zz_c q cI st) H → va_S A s.heap H locs → lv_has ls 8 [(0, .ref (q 0)), (3, .long v3), (5, .int v5), (6, .int v6), (7, .int v7)] → W p l e zr_X8_digestUnits s m args below meth c H locs 0 0 (zz_Ql A D cI q r st below args s) (F0 m 70 ls []) := by
  obtain ⟨hx, hb, hml, hown, hts⟩ := id C.1
  intro n
  induction n with
  | zero => intro v3 v5 v6 v7 st H locs ls r hf; cases hf
  | succ n ih =>
    intro v3 v5 v6 v7 st H locs ls r hf hP hS hl
    rw [zX8_digestUnits_70] at hf
    refine lv_iload hx hb dX8_digestUnits_70 (lv_at hl 4 rfl) ?_
    refine lv_iconst (v := 2) hx hb dX8_digestUnits_72 (by decide) ?_
    refine lv_icmp_gt (tgt := 103) hx hb dX8_digestUnits_73 (by decide) (fun h => ?_) (fun h => ?_)
    · rw [if_pos h] at hf
      refine lv_iinc (v := (v6 + 1)) (lv' := [(6, .int (v6 + 1)), (0, .ref (q 0)), (3, .long v3), (5, .int v5), (7, .int v7)]) hx hb dX8_digestUnits_103 hl (k := 3) rfl (congrArg (fun z => v6 + z) (by decide)) (by decide) rfl (fun ls hl => ?_)
      refine lv_goto (tgt := 52) hx hb dX8_digestUnits_106 (by decide) ?_
      exact hk52 _ _ _ _ _ _ _ _ hf hP hS (lv_sub hl [1, 2, 3, 0] rfl)
    · rw [if_neg h] at hf
      refine lv_lload_n hx hb dX8_digestUnits_76 rfl (lv_at hl 1 rfl) ?_
      refine lv_ldc2 (v := 31) hx hb hown (hts _ zk_X8_digestUnits_c404) dX8_digestUnits_77 ?_
      refine lv_lmul hx hb dX8_digestUnits_80 ?_
      refine lv_aload_n hx hb dX8_digestUnits_81 rfl (lv_at hl 0 rfl) ?_
      refine lv_iload hx hb dX8_digestUnits_82 (lv_at hl 2 rfl) ?_
      refine lv_iload hx hb dX8_digestUnits_84 (lv_at hl 3 rfl) ?_
      refine zz_callSi C (As := [.int v5, .int v6]) (rest := [.ref (q 0), .long (v3 * 31)]) (zc_X2_slotOf _ _ _) (va_cwS 2 hts gX8_digestUnits_X2_slotOf rfl rfl rfl zd_X2_slotOf.2 ⟨Nat.le_of_ble_eq_true rfl, Nat.le_of_ble_eq_true rfl⟩) hP hS rfl hl rfl (Nat.le_of_ble_eq_true rfl) dX8_digestUnits_86 ⟨Nat.zero_le _, Nat.zero_le _⟩ (fun H locs hP hS => ?_)
      refine lv_iload hx hb dX8_digestUnits_89 (lv_at hl 4 rfl) ?_
      refine zz_callVi C (As := [.int (zX2_slotOf v5 v6 st), .int v7]) (rest := [.long (v3 * 31)]) (zc_X8_pathFact _ _ _) (cwV 2 hts gX8_digestUnits_X8_pathFact rfl rfl rfl zd_X8_pathFact ⟨Nat.le_of_ble_eq_true rfl, Nat.le_of_ble_eq_true rfl⟩) hP hS 0 rfl rfl rfl hl rfl (Nat.le_of_ble_eq_true rfl) dX8_digestUnits_91 ⟨Nat.zero_le _, Nat.zero_le _⟩ (fun H locs hP hS => ?_)
      refine lv_i2l (v := ((zX8_pathFact (zX2_slotOf v5 v6 st) v7 st)).toInt64) hx hb dX8_digestUnits_94 rfl ?_
      refine lv_ladd hx hb dX8_digestUnits_95 ?_
      refine lv_topl (fun w1 e1 => ?_)
      replace hf := zz_vi hf e1
      refine lv_lstore_n (lv' := [(3, .long w1), (0, .ref (q 0)), (5, .int v5), (6, .int v6), (7, .int v7)]) hx hb dX8_digestUnits_96 rfl hl (by decide) rfl (fun ls hl => ?_)
      refine lv_iinc (v := (v7 + 1)) (lv' := [(7, .int (v7 + 1)), (3, .long w1), (0, .ref (q 0)), (5, .int v5), (6, .int v6)]) hx hb dX8_digestUnits_97 hl (k := 4) rfl (congrArg (fun z => v7 + z) (by decide)) (by decide) rfl (fun ls hl => ?_)
      refine lv_goto (tgt := 70) hx hb dX8_digestUnits_100 (by decide) ?_
      exact ih _ _ _ _ _ _ _ _ _ hf hP hS (lv_sub hl [2, 1, 3, 4, 0] rfl)
def zX8_digestUnits_52 (k5 : Int64 → Int32 → zz_T → Option Int64) : Nat → Int64 → Int32 → Int32 → zz_T → Option Int64
  | 0, _, _, _, _ => none
  | n + 1, v3, v5, v6, st =>
    if (zX7_get v5 1 st) ≤ v6 then
      k5 v3 (v5 + 1) st
    else
      zX8_digestUnits_70 k5 (fun v3' v5' v6' st' => zX8_digestUnits_52 k5 n v3' v5' v6' st') zz_N v3 v5 v6 0 st
set_option maxHeartbeats 4000000 in
set_option maxRecDepth 100000 in
theorem zt_X8_digestUnits_52 {l : Launch} {A : Nat → Prop} {D : va_G} {cI : ClassId} {q : Nat → Nat} {p : Program} {e : Env} {s : State} {m : MethodId} {args : Array Value} {below : List Frame} {meth : Method} {c : Code} (C : zz_C A D cI q p s m args meth c cX8_digestUnits 8 wsX8_digestUnits yX8_digestUnits.cls) (hr : meth.sig.returnType = some .long) (k5 : Int64 → Int32 → zz_T → Option Int64) (hk5 : ∀ (v3 : Int64) (v5 : Int32) (st : zz_T) (H : Heap) (locs : List Loc) (ls : Array Slot) (r : Int64), k5 v3 v5 st = some r → va_P D vwCl (zz_c q cI st) H → va_S A s.heap H locs → lv_has ls 8 [(0, .ref (q 0)), (3, .long v3), (5, .int v5)] → W p l e zr_X8_digestUnits s m args below meth c H locs 0 0 (zz_Ql A D cI q r st below args s) (F0 m 5 ls [])) : ∀ (n : Nat) (v3 : Int64) (v5 : Int32) (v6 : Int32) (st : zz_T) (H : Heap) (locs : List Loc) (ls : Array Slot) (r : Int64), zX8_digestUnits_52 k5 n v3 v5 v6 st = some r → va_P D vwCl (zz_c q cI st) H → va_S A s.heap H locs → lv_has ls 8 [(0, .ref (q 0)), (3, .long v3), (5, .int v5), (6, .int v6)] → W p l e zr_X8_digestUnits s m args below meth c H locs 0 0 (zz_Ql A D cI q r st below args s) (F0 m 52 ls []) := by
  obtain ⟨hx, hb, hml, hown, hts⟩ := id C.1
  intro n
  induction n with
  | zero => intro v3 v5 v6 st H locs ls r hf; cases hf
  | succ n ih =>
    intro v3 v5 v6 st H locs ls r hf hP hS hl
    rw [zX8_digestUnits_52] at hf
    refine lv_iload hx hb dX8_digestUnits_52 (lv_at hl 3 rfl) ?_
    refine lv_aload_n hx hb dX8_digestUnits_54 rfl (lv_at hl 0 rfl) ?_
    refine zz_getf C zi_X8_digestUnits_X8 hP 0 rfl rfl 1 (nm := "units") (ds := "LThirteenthDay$Units;") (fin := true) rfl (by decide) zk_X8_digestUnits_19 rfl dX8_digestUnits_55 ?_
    refine lv_iload hx hb dX8_digestUnits_58 (lv_at hl 2 rfl) ?_
    refine lv_iconst (v := 1) hx hb dX8_digestUnits_60 (by decide) ?_
    refine zz_callVi C (As := [.int v5, .int 1]) (rest := [.int v6]) (zc_X7_get _ _ _) (cwV 2 hts gX8_digestUnits_X7_get rfl rfl rfl zd_X7_get ⟨Nat.le_of_ble_eq_true rfl, Nat.le_of_ble_eq_true rfl⟩) hP hS 2 rfl rfl rfl hl rfl (Nat.le_of_ble_eq_true rfl) dX8_digestUnits_61 ⟨Nat.zero_le _, Nat.zero_le _⟩ (fun H locs hP hS => ?_)
    refine lv_icmp_ge (tgt := 109) hx hb dX8_digestUnits_64 (by decide) (fun h => ?_) (fun h => ?_)
    · rw [if_pos h] at hf
      refine lv_iinc (v := (v5 + 1)) (lv' := [(5, .int (v5 + 1)), (0, .ref (q 0)), (3, .long v3), (6, .int v6)]) hx hb dX8_digestUnits_109 hl (k := 2) rfl (congrArg (fun z => v5 + z) (by decide)) (by decide) rfl (fun ls hl => ?_)
      refine lv_goto (tgt := 5) hx hb dX8_digestUnits_112 (by decide) ?_
      exact hk5 _ _ _ _ _ _ _ hf hP hS (lv_sub hl [1, 2, 0] rfl)
    · rw [if_neg h] at hf
      refine lv_iconst (v := 0) hx hb dX8_digestUnits_67 (by decide) ?_
      refine lv_istore (lv' := [(7, .int 0), (0, .ref (q 0)), (3, .long v3), (5, .int v5), (6, .int v6)]) hx hb dX8_digestUnits_68 hl (by decide) rfl (fun ls hl => ?_)
      exact zt_X8_digestUnits_70 C hr _ hk5 _ ih zz_N _ _ _ _ _ _ _ _ _ hf hP hS (lv_sub hl [1, 2, 3, 4, 0] rfl)
def zX8_digestUnits_20 (k5 : Int64 → Int32 → zz_T → Option Int64) : Nat → Int64 → Int32 → Int32 → zz_T → Option Int64
  | 0, _, _, _, _ => none
  | n + 1, v3, v5, v6, st =>
    if 12 < v6 then
      zX8_digestUnits_52 k5 zz_N v3 v5 0 st
    else
      (zX8_unitFact v5 v6 st).bind fun x2 =>
      zz_v ((v3 * 31) + (x2.toInt64)) fun w4 =>
      zX8_digestUnits_20 k5 n w4 v5 (v6 + 1) st
set_option maxHeartbeats 4000000 in
set_option maxRecDepth 100000 in
theorem zt_X8_digestUnits_20 {l : Launch} {A : Nat → Prop} {D : va_G} {cI : ClassId} {q : Nat → Nat} {p : Program} {e : Env} {s : State} {m : MethodId} {args : Array Value} {below : List Frame} {meth : Method} {c : Code} (C : zz_C A D cI q p s m args meth c cX8_digestUnits 8 wsX8_digestUnits yX8_digestUnits.cls) (hr : meth.sig.returnType = some .long) (k5 : Int64 → Int32 → zz_T → Option Int64) (hk5 : ∀ (v3 : Int64) (v5 : Int32) (st : zz_T) (H : Heap) (locs : List Loc) (ls : Array Slot) (r : Int64), k5 v3 v5 st = some r → va_P D vwCl (zz_c q cI st) H → va_S A s.heap H locs → lv_has ls 8 [(0, .ref (q 0)), (3, .long v3), (5, .int v5)] → W p l e zr_X8_digestUnits s m args below meth c H locs 0 0 (zz_Ql A D cI q r st below args s) (F0 m 5 ls [])) : ∀ (n : Nat) (v3 : Int64) (v5 : Int32) (v6 : Int32) (st : zz_T) (H : Heap) (locs : List Loc) (ls : Array Slot) (r : Int64), zX8_digestUnits_20 k5 n v3 v5 v6 st = some r → va_P D vwCl (zz_c q cI st) H → va_S A s.heap H locs → lv_has ls 8 [(0, .ref (q 0)), (3, .long v3), (5, .int v5), (6, .int v6)] → W p l e zr_X8_digestUnits s m args below meth c H locs 0 0 (zz_Ql A D cI q r st below args s) (F0 m 20 ls []) := by
  obtain ⟨hx, hb, hml, hown, hts⟩ := id C.1
  intro n
  induction n with
  | zero => intro v3 v5 v6 st H locs ls r hf; cases hf
  | succ n ih =>
    intro v3 v5 v6 st H locs ls r hf hP hS hl
    rw [zX8_digestUnits_20] at hf
    refine lv_iload hx hb dX8_digestUnits_20 (lv_at hl 3 rfl) ?_
    refine lv_bipush (v := 12) hx hb dX8_digestUnits_22 (by decide) ?_
    refine lv_icmp_gt (tgt := 49) hx hb dX8_digestUnits_24 (by decide) (fun h => ?_) (fun h => ?_)
    · rw [if_pos h] at hf
      refine lv_iconst (v := 0) hx hb dX8_digestUnits_49 (by decide) ?_
      refine lv_istore (lv' := [(6, .int 0), (0, .ref (q 0)), (3, .long v3), (5, .int v5)]) hx hb dX8_digestUnits_50 hl (by decide) rfl (fun ls hl => ?_)
      exact zt_X8_digestUnits_52 C hr _ hk5 zz_N _ _ _ _ _ _ _ _ hf hP hS (lv_sub hl [1, 2, 3, 0] rfl)
    · rw [if_neg h] at hf
      refine lv_lload_n hx hb dX8_digestUnits_27 rfl (lv_at hl 1 rfl) ?_
      refine lv_ldc2 (v := 31) hx hb hown (hts _ zk_X8_digestUnits_c404) dX8_digestUnits_28 ?_
      refine lv_lmul hx hb dX8_digestUnits_31 ?_
      refine lv_aload_n hx hb dX8_digestUnits_32 rfl (lv_at hl 0 rfl) ?_
      refine lv_iload hx hb dX8_digestUnits_33 (lv_at hl 2 rfl) ?_
      refine lv_iload hx hb dX8_digestUnits_35 (lv_at hl 3 rfl) ?_
      obtain ⟨x2, e3, hf⟩ := zz_bo hf
      refine zz_callVi C (As := [.int v5, .int v6]) (rest := [.long (v3 * 31)]) (zc_X8_unitFact _ _ _ _ e3) (cwV 2 hts gX8_digestUnits_X8_unitFact rfl rfl rfl zd_X8_unitFact ⟨Nat.le_of_ble_eq_true rfl, Nat.le_of_ble_eq_true rfl⟩) hP hS 0 rfl rfl rfl hl rfl (Nat.le_of_ble_eq_true rfl) dX8_digestUnits_37 ⟨Nat.zero_le _, Nat.zero_le _⟩ (fun H locs hP hS => ?_)
      refine lv_i2l (v := x2.toInt64) hx hb dX8_digestUnits_40 rfl ?_
      refine lv_ladd hx hb dX8_digestUnits_41 ?_
      refine lv_topl (fun w4 e4 => ?_)
      replace hf := zz_vi hf e4
      refine lv_lstore_n (lv' := [(3, .long w4), (0, .ref (q 0)), (5, .int v5), (6, .int v6)]) hx hb dX8_digestUnits_42 rfl hl (by decide) rfl (fun ls hl => ?_)
      refine lv_iinc (v := (v6 + 1)) (lv' := [(6, .int (v6 + 1)), (3, .long w4), (0, .ref (q 0)), (5, .int v5)]) hx hb dX8_digestUnits_43 hl (k := 3) rfl (congrArg (fun z => v6 + z) (by decide)) (by decide) rfl (fun ls hl => ?_)
      refine lv_goto (tgt := 20) hx hb dX8_digestUnits_46 (by decide) ?_
      exact ih _ _ _ _ _ _ _ _ hf hP hS (lv_sub hl [2, 1, 3, 0] rfl)
def zX8_digestUnits_5 : Nat → Int64 → Int32 → zz_T → Option Int64
  | 0, _, _, _ => none
  | n + 1, v3, v5, st =>
    if (zX7_count st) ≤ v5 then
      some v3
    else
      zX8_digestUnits_20 (fun v3' v5' st' => zX8_digestUnits_5 n v3' v5' st') zz_N v3 v5 0 st
set_option maxHeartbeats 4000000 in
set_option maxRecDepth 100000 in
theorem zt_X8_digestUnits_5 {l : Launch} {A : Nat → Prop} {D : va_G} {cI : ClassId} {q : Nat → Nat} {p : Program} {e : Env} {s : State} {m : MethodId} {args : Array Value} {below : List Frame} {meth : Method} {c : Code} (C : zz_C A D cI q p s m args meth c cX8_digestUnits 8 wsX8_digestUnits yX8_digestUnits.cls) (hr : meth.sig.returnType = some .long) : ∀ (n : Nat) (v3 : Int64) (v5 : Int32) (st : zz_T) (H : Heap) (locs : List Loc) (ls : Array Slot) (r : Int64), zX8_digestUnits_5 n v3 v5 st = some r → va_P D vwCl (zz_c q cI st) H → va_S A s.heap H locs → lv_has ls 8 [(0, .ref (q 0)), (3, .long v3), (5, .int v5)] → W p l e zr_X8_digestUnits s m args below meth c H locs 0 0 (zz_Ql A D cI q r st below args s) (F0 m 5 ls []) := by
  obtain ⟨hx, hb, hml, hown, hts⟩ := id C.1
  intro n
  induction n with
  | zero => intro v3 v5 st H locs ls r hf; cases hf
  | succ n ih =>
    intro v3 v5 st H locs ls r hf hP hS hl
    rw [zX8_digestUnits_5] at hf
    refine lv_iload hx hb dX8_digestUnits_5 (lv_at hl 2 rfl) ?_
    refine lv_aload_n hx hb dX8_digestUnits_7 rfl (lv_at hl 0 rfl) ?_
    refine zz_getf C zi_X8_digestUnits_X8 hP 0 rfl rfl 1 (nm := "units") (ds := "LThirteenthDay$Units;") (fin := true) rfl (by decide) zk_X8_digestUnits_19 rfl dX8_digestUnits_8 ?_
    refine zz_callVi C (As := []) (rest := [.int v5]) (zc_X7_count _) (cwV 0 hts gX8_digestUnits_X7_count rfl rfl rfl zd_X7_count ⟨Nat.le_of_ble_eq_true rfl, Nat.le_of_ble_eq_true rfl⟩) hP hS 2 rfl rfl rfl hl rfl (Nat.le_of_ble_eq_true rfl) dX8_digestUnits_11 ⟨Nat.zero_le _, Nat.zero_le _⟩ (fun H locs hP hS => ?_)
    refine lv_icmp_ge (tgt := 115) hx hb dX8_digestUnits_14 (by decide) (fun h => ?_) (fun h => ?_)
    · rw [if_pos h] at hf
      refine lv_lload_n hx hb dX8_digestUnits_115 rfl (lv_at hl 1 rfl) ?_
      rw [← (Option.some.inj hf)]
      exact zz_retl C hr hP hS dX8_digestUnits_116
    · rw [if_neg h] at hf
      refine lv_iconst (v := 0) hx hb dX8_digestUnits_17 (by decide) ?_
      refine lv_istore (lv' := [(6, .int 0), (0, .ref (q 0)), (3, .long v3), (5, .int v5)]) hx hb dX8_digestUnits_18 hl (by decide) rfl (fun ls hl => ?_)
      exact zt_X8_digestUnits_20 C hr _ ih zz_N _ _ _ _ _ _ _ _ hf hP hS (lv_sub hl [1, 2, 3, 0] rfl)
def zX8_digestUnits (v1 : Int64) (st : zz_T) : Option Int64 :=
  zX8_digestUnits_5 zz_N v1 0 st
set_option maxHeartbeats 4000000 in
set_option maxRecDepth 100000 in
theorem zc_X8_digestUnits {l : Launch} {A : Nat → Prop} {D : va_G} {cI : ClassId} {q : Nat → Nat} (v1 : Int64) (st : zz_T) (r : Int64) (hf : zX8_digestUnits v1 st = some r) : zz_Ml l A D cI q yX8_digestUnits wsX8_digestUnits zr_X8_digestUnits [.ref (q 0), .long v1] st r st := by
  refine zz_of (cc := cX8_digestUnits) (nL := 8) (ret := some .long) (by decide) rfl (Nat.le_of_ble_eq_true rfl) ?_
  intro p e s m args below meth c ls C hr hP hS hl
  obtain ⟨hx, hb, hml, hown, hts⟩ := id C.1
  have hl : lv_has ls 8 [(0, .ref (q 0)), (1, .long v1)] := hl
  rw [zX8_digestUnits] at hf
  skip
  refine lv_lload_n hx hb dX8_digestUnits_0 rfl (lv_at hl 1 rfl) ?_
  refine lv_lstore_n (lv' := [(3, .long v1), (0, .ref (q 0)), (1, .long v1)]) hx hb dX8_digestUnits_1 rfl hl (by decide) rfl (fun ls hl => ?_)
  refine lv_iconst (v := 0) hx hb dX8_digestUnits_2 (by decide) ?_
  refine lv_istore (lv' := [(5, .int 0), (3, .long v1), (0, .ref (q 0)), (1, .long v1)]) hx hb dX8_digestUnits_3 hl (by decide) rfl (fun ls hl => ?_)
  exact zt_X8_digestUnits_5 C hr zz_N _ _ _ _ _ _ _ hf hP hS (lv_sub hl [2, 1, 0] rfl)
/-! X2_areApart PR -/
theorem zd_X2_areApart : yX2_areApart.cls = RX2 ∧ yX2_areApart.cls ≠ "java/lang/invoke/MethodHandle" ∧ yX2_areApart.cls ≠ "java/lang/invoke/VarHandle" ∧ (parseMethodDescriptor yX2_areApart.desc).map (fun d => d.parameters.length) = some 0 := by decide +kernel
abbrev zr_X2_areApart : Room := { frames := 3, cells := 0, slots := 0, locals := 76 }
def zX2_areApart_2 (b : Nat) : Nat → Int32 → zz_T → Option Bool
  | 0, _, _ => none
  | n + 1, v1, st =>
    if 54 ≤ v1 then
      some true
    else
      if (zX2_isKept b v1 st) = true then
        (zX2_firstFouledLine b v1 st).bind fun x1 =>
        if x1 = (-1) then
          zX2_areApart_2 b n (v1 + 1) st
        else
          some false
      else
        zX2_areApart_2 b n (v1 + 1) st
set_option maxHeartbeats 4000000 in
set_option maxRecDepth 100000 in
theorem zt_X2_areApart_2 {l : Launch} {A : Nat → Prop} {D : va_G} {cI : ClassId} {q : Nat → Nat} {p : Program} {e : Env} {s : State} {m : MethodId} {args : Array Value} {below : List Frame} {meth : Method} {c : Code} (C : zz_C A D cI q p s m args meth c cX2_areApart 2 wsX2_areApart yX2_areApart.cls) (hr : meth.sig.returnType = some .boolean) (o b : Nat) (hz : zz_P o b) : ∀ (n : Nat) (v1 : Int32) (st : zz_T) (H : Heap) (locs : List Loc) (ls : Array Slot) (r : Bool), zX2_areApart_2 b n v1 st = some r → va_P D vwCl (zz_c q cI st) H → va_S A s.heap H locs → lv_has ls 2 [(0, .ref (q o)), (1, .int v1)] → W p l e zr_X2_areApart s m args below meth c H locs 0 0 (zz_Qi A D cI q (zz_b r) st below args s) (F0 m 2 ls []) := by
  obtain ⟨hx, hb, hml, hown, hts⟩ := id C.1
  intro n
  induction n with
  | zero => intro v1 st H locs ls r hf; cases hf
  | succ n ih =>
    intro v1 st H locs ls r hf hP hS hl
    rw [zX2_areApart_2] at hf
    refine lv_iload_n hx hb dX2_areApart_2 rfl (lv_at hl 1 rfl) ?_
    refine lv_bipush (v := 54) hx hb dX2_areApart_3 (by decide) ?_
    refine lv_icmp_ge (tgt := 33) hx hb dX2_areApart_5 (by decide) (fun h => ?_) (fun h => ?_)
    · rw [if_pos h] at hf
      refine lv_iconst (v := 1) hx hb dX2_areApart_33 (by decide) ?_
      rw [← (Option.some.inj hf)]
      exact zz_retz (v := true) C hr hP hS dX2_areApart_34
    · rw [if_neg h] at hf
      refine lv_aload_n hx hb dX2_areApart_8 rfl (lv_at hl 0 rfl) ?_
      refine lv_iload_n hx hb dX2_areApart_9 rfl (lv_at hl 1 rfl) ?_
      refine zz_callVi C (As := [.int v1]) (rest := []) (zc_X2_isKept o b hz _ _) (cwV 1 hts gX2_areApart_X2_isKept rfl rfl rfl zd_X2_isKept ⟨Nat.le_of_ble_eq_true rfl, Nat.le_of_ble_eq_true rfl⟩) hP hS o (zz_c_pa hz) rfl rfl hl rfl (Nat.le_of_ble_eq_true rfl) dX2_areApart_10 ⟨Nat.zero_le _, Nat.zero_le _⟩ (fun H locs hP hS => ?_)
      refine lv_if_eq (tgt := 27) hx hb dX2_areApart_13 (by decide) (fun h => ?_) (fun h => ?_)
      · rw [zz_if0 (zz_b0 h)] at hf
        refine lv_iinc (v := (v1 + 1)) (lv' := [(1, .int (v1 + 1)), (0, .ref (q o))]) hx hb dX2_areApart_27 hl (k := 1) rfl (congrArg (fun z => v1 + z) (by decide)) (by decide) rfl (fun ls hl => ?_)
        refine lv_goto (tgt := 2) hx hb dX2_areApart_30 (by decide) ?_
        exact ih _ _ _ _ _ _ hf hP hS (lv_sub hl [1, 0] rfl)
      · rw [zz_if1 (zz_b1 h)] at hf
        refine lv_aload_n hx hb dX2_areApart_16 rfl (lv_at hl 0 rfl) ?_
        refine lv_iload_n hx hb dX2_areApart_17 rfl (lv_at hl 1 rfl) ?_
        obtain ⟨x1, e2, hf⟩ := zz_bo hf
        refine zz_callVi C (As := [.int v1]) (rest := []) (zc_X2_firstFouledLine o b hz _ _ _ e2) (cwV 1 hts gX2_areApart_X2_firstFouledLine rfl rfl rfl zd_X2_firstFouledLine ⟨Nat.le_of_ble_eq_true rfl, Nat.le_of_ble_eq_true rfl⟩) hP hS o (zz_c_pa hz) rfl rfl hl rfl (Nat.le_of_ble_eq_true rfl) dX2_areApart_18 ⟨Nat.zero_le _, Nat.zero_le _⟩ (fun H locs hP hS => ?_)
        refine lv_iconst (v := (-1)) hx hb dX2_areApart_21 (by decide) ?_
        refine lv_icmp_eq (tgt := 27) hx hb dX2_areApart_22 (by decide) (fun h => ?_) (fun h => ?_)
        · rw [if_pos h] at hf
          refine lv_iinc (v := (v1 + 1)) (lv' := [(1, .int (v1 + 1)), (0, .ref (q o))]) hx hb dX2_areApart_27 hl (k := 1) rfl (congrArg (fun z => v1 + z) (by decide)) (by decide) rfl (fun ls hl => ?_)
          refine lv_goto (tgt := 2) hx hb dX2_areApart_30 (by decide) ?_
          exact ih _ _ _ _ _ _ hf hP hS (lv_sub hl [1, 0] rfl)
        · rw [if_neg h] at hf
          refine lv_iconst (v := 0) hx hb dX2_areApart_25 (by decide) ?_
          rw [← (Option.some.inj hf)]
          exact zz_retz (v := false) C hr hP hS dX2_areApart_26
def zX2_areApart (b : Nat) (st : zz_T) : Option Bool :=
  zX2_areApart_2 b zz_N 0 st
set_option maxHeartbeats 4000000 in
set_option maxRecDepth 100000 in
theorem zc_X2_areApart {l : Launch} {A : Nat → Prop} {D : va_G} {cI : ClassId} {q : Nat → Nat} (o b : Nat) (hz : zz_P o b) (st : zz_T) (r : Bool) (hf : zX2_areApart b st = some r) : zz_Mi l A D cI q yX2_areApart wsX2_areApart zr_X2_areApart [.ref (q o)] st (zz_b r) st := by
  refine zz_of (cc := cX2_areApart) (nL := 2) (ret := some .boolean) (by decide) rfl (Nat.le_of_ble_eq_true rfl) ?_
  intro p e s m args below meth c ls C hr hP hS hl
  obtain ⟨hx, hb, hml, hown, hts⟩ := id C.1
  have hl : lv_has ls 2 [(0, .ref (q o))] := hl
  rw [zX2_areApart] at hf
  skip
  refine lv_iconst (v := 0) hx hb dX2_areApart_0 (by decide) ?_
  refine lv_istore_n (lv' := [(1, .int 0), (0, .ref (q o))]) hx hb dX2_areApart_1 rfl hl (by decide) rfl (fun ls hl => ?_)
  exact zt_X2_areApart_2 C hr o b hz zz_N _ _ _ _ _ _ hf hP hS (lv_sub hl [1, 0] rfl)
/-! X6_clash TR -/
theorem zd_X6_clash : yX6_clash.cls = RX6 ∧ yX6_clash.cls ≠ "java/lang/invoke/MethodHandle" ∧ yX6_clash.cls ≠ "java/lang/invoke/VarHandle" ∧ (parseMethodDescriptor yX6_clash.desc).map (fun d => d.parameters.length) = some 3 := by decide +kernel
abbrev zr_X6_clash : Room := { frames := 1, cells := 0, slots := 0, locals := 24 }
theorem zk_X6_clash_16 : Cond.fieldLink yX6_clash.cls 16 RX6 "trains" "LThirteenthDay$Table;" ∈ wsX6_clash := by decide +kernel
theorem zi_X6_clash_X6 : ∀ w ∈ u_ws RX6 TX6 3, w ∈ wsX6_clash := by decide +kernel
def zX6_clash_28 (v1 : Int32) (v2 : Int32) (v3 : Bool) (k0 : Bool) (st : zz_T) : Bool :=
  if (zz_g 16 v1 4 st) = (zz_g 16 v2 4 st) then
    if k0 = true then
      true
    else
      if v3 = true then
        false
      else
        true
  else
    if k0 = true then
      false
    else
      if v3 = true then
        false
      else
        true
set_option maxHeartbeats 4000000 in
set_option maxRecDepth 100000 in
theorem zt_X6_clash_28 {l : Launch} {A : Nat → Prop} {D : va_G} {cI : ClassId} {q : Nat → Nat} {p : Program} {e : Env} {s : State} {m : MethodId} {args : Array Value} {below : List Frame} {meth : Method} {c : Code} (C : zz_C A D cI q p s m args meth c cX6_clash 6 wsX6_clash yX6_clash.cls) (hr : meth.sig.returnType = some .boolean) : ∀ (v1 : Int32) (v2 : Int32) (v3 : Bool) (k0 : Bool) (st : zz_T) (H : Heap) (locs : List Loc) (ls : Array Slot) (r : Bool), zX6_clash_28 v1 v2 v3 k0 st = r → va_P D vwCl (zz_c q cI st) H → va_S A s.heap H locs → lv_has ls 6 [(0, .ref (q 5)), (1, .int v1), (2, .int v2), (3, .int (zz_b v3))] → W p l e zr_X6_clash s m args below meth c H locs 0 0 (zz_Qi A D cI q (zz_b r) st below args s) (F0 m 28 ls [.int (zz_b k0)]) := by
  obtain ⟨hx, hb, hml, hown, hts⟩ := id C.1
  intro v1 v2 v3 k0 st H locs ls r hf hP hS hl
  rw [zX6_clash_28] at hf
  refine lv_istore (lv' := [(4, .int (zz_b k0)), (0, .ref (q 5)), (1, .int v1), (2, .int v2), (3, .int (zz_b v3))]) hx hb dX6_clash_28 hl (by decide) rfl (fun ls hl => ?_)
  refine lv_aload_n hx hb dX6_clash_30 rfl (lv_at hl 1 rfl) ?_
  refine zz_getf C zi_X6_clash_X6 hP 5 rfl rfl 0 (nm := "trains") (ds := "LThirteenthDay$Table;") (fin := true) rfl (by decide) zk_X6_clash_16 rfl dX6_clash_31 ?_
  refine lv_iload_n hx hb dX6_clash_34 rfl (lv_at hl 2 rfl) ?_
  refine lv_iconst (v := 4) hx hb dX6_clash_35 (by decide) ?_
  refine zz_callVi C (As := [.int v1, .int 4]) (rest := []) (zc_X5_get 16 (by decide) _ _ _) (cwV 2 hts gX6_clash_X5_get rfl rfl rfl zd_X5_get ⟨Nat.le_of_ble_eq_true rfl, Nat.le_of_ble_eq_true rfl⟩) hP hS (9 + 16) (zz_c_tab (by decide)) rfl rfl hl rfl (Nat.le_of_ble_eq_true rfl) dX6_clash_36 ⟨Nat.zero_le _, Nat.zero_le _⟩ (fun H locs hP hS => ?_)
  refine lv_aload_n hx hb dX6_clash_39 rfl (lv_at hl 1 rfl) ?_
  refine zz_getf C zi_X6_clash_X6 hP 5 rfl rfl 0 (nm := "trains") (ds := "LThirteenthDay$Table;") (fin := true) rfl (by decide) zk_X6_clash_16 rfl dX6_clash_40 ?_
  refine lv_iload_n hx hb dX6_clash_43 rfl (lv_at hl 3 rfl) ?_
  refine lv_iconst (v := 4) hx hb dX6_clash_44 (by decide) ?_
  refine zz_callVi C (As := [.int v2, .int 4]) (rest := [.int (zz_g 16 v1 4 st)]) (zc_X5_get 16 (by decide) _ _ _) (cwV 2 hts gX6_clash_X5_get rfl rfl rfl zd_X5_get ⟨Nat.le_of_ble_eq_true rfl, Nat.le_of_ble_eq_true rfl⟩) hP hS (9 + 16) (zz_c_tab (by decide)) rfl rfl hl rfl (Nat.le_of_ble_eq_true rfl) dX6_clash_45 ⟨Nat.zero_le _, Nat.zero_le _⟩ (fun H locs hP hS => ?_)
  refine lv_icmp_ne (tgt := 55) hx hb dX6_clash_48 (by decide) (fun h => ?_) (fun h => ?_)
  · rw [if_neg h] at hf
    refine lv_iconst (v := 0) hx hb dX6_clash_55 (by decide) ?_
    refine lv_istore (lv' := [(5, .int 0), (4, .int (zz_b k0)), (0, .ref (q 5)), (1, .int v1), (2, .int v2), (3, .int (zz_b v3))]) hx hb dX6_clash_56 hl (by decide) rfl (fun ls hl => ?_)
    refine lv_iload hx hb dX6_clash_58 (lv_at hl 1 rfl) ?_
    refine lv_if_eq (tgt := 68) hx hb dX6_clash_60 (by decide) (fun h => ?_) (fun h => ?_)
    · rw [zz_if0 (zz_b0 h)] at hf
      refine lv_iload_n hx hb dX6_clash_68 rfl (lv_at hl 5 rfl) ?_
      refine lv_if_ne (tgt := 76) hx hb dX6_clash_69 (by decide) (fun h => ?_) (fun h => ?_)
      · rw [zz_if1 (zz_b1 h)] at hf
        refine lv_iconst (v := 0) hx hb dX6_clash_76 (by decide) ?_
        rw [← hf]
        exact zz_retz (v := false) C hr hP hS dX6_clash_77
      · rw [zz_if0 (zz_b0 h)] at hf
        refine lv_iconst (v := 1) hx hb dX6_clash_72 (by decide) ?_
        refine lv_goto (tgt := 77) hx hb dX6_clash_73 (by decide) ?_
        rw [← hf]
        exact zz_retz (v := true) C hr hP hS dX6_clash_77
    · rw [zz_if1 (zz_b1 h)] at hf
      refine lv_iload hx hb dX6_clash_63 (lv_at hl 0 rfl) ?_
      refine lv_goto (tgt := 77) hx hb dX6_clash_65 (by decide) ?_
      rw [← hf]
      exact zz_retz (v := false) C hr hP hS dX6_clash_77
  · rw [if_pos h] at hf
    refine lv_iconst (v := 1) hx hb dX6_clash_51 (by decide) ?_
    refine lv_goto (tgt := 56) hx hb dX6_clash_52 (by decide) ?_
    refine lv_istore (lv' := [(5, .int 1), (4, .int (zz_b k0)), (0, .ref (q 5)), (1, .int v1), (2, .int v2), (3, .int (zz_b v3))]) hx hb dX6_clash_56 hl (by decide) rfl (fun ls hl => ?_)
    refine lv_iload hx hb dX6_clash_58 (lv_at hl 1 rfl) ?_
    refine lv_if_eq (tgt := 68) hx hb dX6_clash_60 (by decide) (fun h => ?_) (fun h => ?_)
    · rw [zz_if0 (zz_b0 h)] at hf
      refine lv_iload_n hx hb dX6_clash_68 rfl (lv_at hl 5 rfl) ?_
      refine lv_if_ne (tgt := 76) hx hb dX6_clash_69 (by decide) (fun h => ?_) (fun h => ?_)
      · rw [zz_if1 (zz_b1 h)] at hf
        refine lv_iconst (v := 0) hx hb dX6_clash_76 (by decide) ?_
        rw [← hf]
        exact zz_retz (v := false) C hr hP hS dX6_clash_77
      · rw [zz_if0 (zz_b0 h)] at hf
        refine lv_iconst (v := 1) hx hb dX6_clash_72 (by decide) ?_
        refine lv_goto (tgt := 77) hx hb dX6_clash_73 (by decide) ?_
        rw [← hf]
        exact zz_retz (v := true) C hr hP hS dX6_clash_77
    · rw [zz_if1 (zz_b1 h)] at hf
      refine lv_iload hx hb dX6_clash_63 (lv_at hl 0 rfl) ?_
      refine lv_goto (tgt := 77) hx hb dX6_clash_65 (by decide) ?_
      rw [← hf]
      exact zz_retz (v := true) C hr hP hS dX6_clash_77
def zX6_clash (v1 : Int32) (v2 : Int32) (v3 : Bool) (st : zz_T) : Bool :=
  if (zz_g 16 v1 11 st) = (zz_g 16 v2 11 st) then
    zX6_clash_28 v1 v2 v3 true st
  else
    zX6_clash_28 v1 v2 v3 false st
set_option maxHeartbeats 4000000 in
set_option maxRecDepth 100000 in
theorem zc_X6_clash {l : Launch} {A : Nat → Prop} {D : va_G} {cI : ClassId} {q : Nat → Nat} (v1 : Int32) (v2 : Int32) (v3 : Bool) (st : zz_T) : zz_Mi l A D cI q yX6_clash wsX6_clash zr_X6_clash [.ref (q 5), .int v1, .int v2, .int (zz_b v3)] st (zz_b (zX6_clash v1 v2 v3 st)) st := by
  refine zz_of (cc := cX6_clash) (nL := 6) (ret := some .boolean) (by decide) rfl (Nat.le_of_ble_eq_true rfl) ?_
  intro p e s m args below meth c ls C hr hP hS hl
  obtain ⟨hx, hb, hml, hown, hts⟩ := id C.1
  have hl : lv_has ls 6 [(0, .ref (q 5)), (1, .int v1), (2, .int v2), (3, .int (zz_b v3))] := hl
  obtain ⟨r, hf⟩ : ∃ r, zX6_clash v1 v2 v3 st = r := ⟨_, rfl⟩
  rw [hf]
  rw [zX6_clash] at hf
  skip
  refine lv_aload_n hx hb dX6_clash_0 rfl (lv_at hl 0 rfl) ?_
  refine zz_getf C zi_X6_clash_X6 hP 5 rfl rfl 0 (nm := "trains") (ds := "LThirteenthDay$Table;") (fin := true) rfl (by decide) zk_X6_clash_16 rfl dX6_clash_1 ?_
  refine lv_iload_n hx hb dX6_clash_4 rfl (lv_at hl 1 rfl) ?_
  refine lv_bipush (v := 11) hx hb dX6_clash_5 (by decide) ?_
  refine zz_callVi C (As := [.int v1, .int 11]) (rest := []) (zc_X5_get 16 (by decide) _ _ _) (cwV 2 hts gX6_clash_X5_get rfl rfl rfl zd_X5_get ⟨Nat.le_of_ble_eq_true rfl, Nat.le_of_ble_eq_true rfl⟩) hP hS (9 + 16) (zz_c_tab (by decide)) rfl rfl hl rfl (Nat.le_of_ble_eq_true rfl) dX6_clash_7 ⟨Nat.zero_le _, Nat.zero_le _⟩ (fun H locs hP hS => ?_)
  refine lv_aload_n hx hb dX6_clash_10 rfl (lv_at hl 0 rfl) ?_
  refine zz_getf C zi_X6_clash_X6 hP 5 rfl rfl 0 (nm := "trains") (ds := "LThirteenthDay$Table;") (fin := true) rfl (by decide) zk_X6_clash_16 rfl dX6_clash_11 ?_
  refine lv_iload_n hx hb dX6_clash_14 rfl (lv_at hl 2 rfl) ?_
  refine lv_bipush (v := 11) hx hb dX6_clash_15 (by decide) ?_
  refine zz_callVi C (As := [.int v2, .int 11]) (rest := [.int (zz_g 16 v1 11 st)]) (zc_X5_get 16 (by decide) _ _ _) (cwV 2 hts gX6_clash_X5_get rfl rfl rfl zd_X5_get ⟨Nat.le_of_ble_eq_true rfl, Nat.le_of_ble_eq_true rfl⟩) hP hS (9 + 16) (zz_c_tab (by decide)) rfl rfl hl rfl (Nat.le_of_ble_eq_true rfl) dX6_clash_17 ⟨Nat.zero_le _, Nat.zero_le _⟩ (fun H locs hP hS => ?_)
  refine lv_icmp_ne (tgt := 27) hx hb dX6_clash_20 (by decide) (fun h => ?_) (fun h => ?_)
  · rw [if_neg h] at hf
    refine lv_iconst (v := 0) hx hb dX6_clash_27 (by decide) ?_
    exact zt_X6_clash_28 C hr _ _ _ _ _ _ _ _ _ hf hP hS (lv_sub hl [0, 1, 2, 3] rfl)
  · rw [if_pos h] at hf
    refine lv_iconst (v := 1) hx hb dX6_clash_23 (by decide) ?_
    refine lv_goto (tgt := 28) hx hb dX6_clash_24 (by decide) ?_
    exact zt_X6_clash_28 C hr _ _ _ _ _ _ _ _ _ hf hP hS (lv_sub hl [0, 1, 2, 3] rfl)
/-! X6_areApart PR -/
theorem zd_X6_areApart : yX6_areApart.cls = RX6 ∧ yX6_areApart.cls ≠ "java/lang/invoke/MethodHandle" ∧ yX6_areApart.cls ≠ "java/lang/invoke/VarHandle" ∧ (parseMethodDescriptor yX6_areApart.desc).map (fun d => d.parameters.length) = some 1 := by decide +kernel
abbrev zr_X6_areApart : Room := { frames := 2, cells := 0, slots := 0, locals := 49 }
theorem zk_X6_areApart_23 : Cond.fieldLink yX6_areApart.cls 23 RX6 "trainCount" "I" ∈ wsX6_areApart := by decide +kernel
theorem zk_X6_areApart_16 : Cond.fieldLink yX6_areApart.cls 16 RX6 "trains" "LThirteenthDay$Table;" ∈ wsX6_areApart := by decide +kernel
theorem zi_X6_areApart_X6 : ∀ w ∈ u_ws RX6 TX6 3, w ∈ wsX6_areApart := by decide +kernel
def zX6_areApart_25 (k2 : Int32 → zz_T → Option Bool) : Nat → Int32 → Int32 → Int32 → zz_T → Option Bool
  | 0, _, _, _, _ => none
  | n + 1, v2, v3, v4, st =>
    if (st.2 5) ≤ v4 then
      k2 (v2 + 1) st
    else
      if (zX6_isOn v2 v3 st) = true then
        if (zX6_isOn v4 v3 st) = true then
          if (zX6_clash v2 v4 (zX1_isDouble v3 st) st) = true then
            some false
          else
            zX6_areApart_25 k2 n v2 v3 (v4 + 1) st
        else
          zX6_areApart_25 k2 n v2 v3 (v4 + 1) st
      else
        zX6_areApart_25 k2 n v2 v3 (v4 + 1) st
set_option maxHeartbeats 4000000 in
set_option maxRecDepth 100000 in
theorem zt_X6_areApart_25 {l : Launch} {A : Nat → Prop} {D : va_G} {cI : ClassId} {q : Nat → Nat} {p : Program} {e : Env} {s : State} {m : MethodId} {args : Array Value} {below : List Frame} {meth : Method} {c : Code} (C : zz_C A D cI q p s m args meth c cX6_areApart 5 wsX6_areApart yX6_areApart.cls) (hr : meth.sig.returnType = some .boolean) (k2 : Int32 → zz_T → Option Bool) (hk2 : ∀ (v2 : Int32) (st : zz_T) (H : Heap) (locs : List Loc) (ls : Array Slot) (r : Bool), k2 v2 st = some r → va_P D vwCl (zz_c q cI st) H → va_S A s.heap H locs → lv_has ls 5 [(0, .ref (q 5)), (1, .ref (q 1)), (2, .int v2)] → W p l e zr_X6_areApart s m args below meth c H locs 0 0 (zz_Qi A D cI q (zz_b r) st below args s) (F0 m 2 ls [])) : ∀ (n : Nat) (v2 : Int32) (v3 : Int32) (v4 : Int32) (st : zz_T) (H : Heap) (locs : List Loc) (ls : Array Slot) (r : Bool), zX6_areApart_25 k2 n v2 v3 v4 st = some r → va_P D vwCl (zz_c q cI st) H → va_S A s.heap H locs → lv_has ls 5 [(0, .ref (q 5)), (1, .ref (q 1)), (2, .int v2), (3, .int v3), (4, .int v4)] → W p l e zr_X6_areApart s m args below meth c H locs 0 0 (zz_Qi A D cI q (zz_b r) st below args s) (F0 m 25 ls []) := by
  obtain ⟨hx, hb, hml, hown, hts⟩ := id C.1
  intro n
  induction n with
  | zero => intro v2 v3 v4 st H locs ls r hf; cases hf
  | succ n ih =>
    intro v2 v3 v4 st H locs ls r hf hP hS hl
    rw [zX6_areApart_25] at hf
    refine lv_iload hx hb dX6_areApart_25 (lv_at hl 4 rfl) ?_
    refine lv_aload_n hx hb dX6_areApart_27 rfl (lv_at hl 0 rfl) ?_
    refine zz_getf C zi_X6_areApart_X6 hP 5 rfl rfl 2 (nm := "trainCount") (ds := "I") (fin := false) rfl (by decide) zk_X6_areApart_23 rfl dX6_areApart_28 ?_
    refine lv_icmp_ge (tgt := 76) hx hb dX6_areApart_31 (by decide) (fun h => ?_) (fun h => ?_)
    · rw [if_pos h] at hf
      refine lv_iinc (v := (v2 + 1)) (lv' := [(2, .int (v2 + 1)), (0, .ref (q 5)), (1, .ref (q 1)), (3, .int v3), (4, .int v4)]) hx hb dX6_areApart_76 hl (k := 2) rfl (congrArg (fun z => v2 + z) (by decide)) (by decide) rfl (fun ls hl => ?_)
      refine lv_goto (tgt := 2) hx hb dX6_areApart_79 (by decide) ?_
      exact hk2 _ _ _ _ _ _ hf hP hS (lv_sub hl [1, 2, 0] rfl)
    · rw [if_neg h] at hf
      refine lv_aload_n hx hb dX6_areApart_34 rfl (lv_at hl 0 rfl) ?_
      refine lv_iload_n hx hb dX6_areApart_35 rfl (lv_at hl 2 rfl) ?_
      refine lv_iload_n hx hb dX6_areApart_36 rfl (lv_at hl 3 rfl) ?_
      refine zz_callVi C (As := [.int v2, .int v3]) (rest := []) (zc_X6_isOn _ _ _) (cwV 2 hts gX6_areApart_X6_isOn rfl rfl rfl zd_X6_isOn ⟨Nat.le_of_ble_eq_true rfl, Nat.le_of_ble_eq_true rfl⟩) hP hS 5 rfl rfl rfl hl rfl (Nat.le_of_ble_eq_true rfl) dX6_areApart_37 ⟨Nat.zero_le _, Nat.zero_le _⟩ (fun H locs hP hS => ?_)
      refine lv_if_eq (tgt := 70) hx hb dX6_areApart_40 (by decide) (fun h => ?_) (fun h => ?_)
      · rw [zz_if0 (zz_b0 h)] at hf
        refine lv_iinc (v := (v4 + 1)) (lv' := [(4, .int (v4 + 1)), (0, .ref (q 5)), (1, .ref (q 1)), (2, .int v2), (3, .int v3)]) hx hb dX6_areApart_70 hl (k := 4) rfl (congrArg (fun z => v4 + z) (by decide)) (by decide) rfl (fun ls hl => ?_)
        refine lv_goto (tgt := 25) hx hb dX6_areApart_73 (by decide) ?_
        exact ih _ _ _ _ _ _ _ _ hf hP hS (lv_sub hl [1, 2, 3, 4, 0] rfl)
      · rw [zz_if1 (zz_b1 h)] at hf
        refine lv_aload_n hx hb dX6_areApart_43 rfl (lv_at hl 0 rfl) ?_
        refine lv_iload hx hb dX6_areApart_44 (lv_at hl 4 rfl) ?_
        refine lv_iload_n hx hb dX6_areApart_46 rfl (lv_at hl 3 rfl) ?_
        refine zz_callVi C (As := [.int v4, .int v3]) (rest := []) (zc_X6_isOn _ _ _) (cwV 2 hts gX6_areApart_X6_isOn rfl rfl rfl zd_X6_isOn ⟨Nat.le_of_ble_eq_true rfl, Nat.le_of_ble_eq_true rfl⟩) hP hS 5 rfl rfl rfl hl rfl (Nat.le_of_ble_eq_true rfl) dX6_areApart_47 ⟨Nat.zero_le _, Nat.zero_le _⟩ (fun H locs hP hS => ?_)
        refine lv_if_eq (tgt := 70) hx hb dX6_areApart_50 (by decide) (fun h => ?_) (fun h => ?_)
        · rw [zz_if0 (zz_b0 h)] at hf
          refine lv_iinc (v := (v4 + 1)) (lv' := [(4, .int (v4 + 1)), (0, .ref (q 5)), (1, .ref (q 1)), (2, .int v2), (3, .int v3)]) hx hb dX6_areApart_70 hl (k := 4) rfl (congrArg (fun z => v4 + z) (by decide)) (by decide) rfl (fun ls hl => ?_)
          refine lv_goto (tgt := 25) hx hb dX6_areApart_73 (by decide) ?_
          exact ih _ _ _ _ _ _ _ _ hf hP hS (lv_sub hl [1, 2, 3, 4, 0] rfl)
        · rw [zz_if1 (zz_b1 h)] at hf
          refine lv_aload_n hx hb dX6_areApart_53 rfl (lv_at hl 0 rfl) ?_
          refine lv_iload_n hx hb dX6_areApart_54 rfl (lv_at hl 2 rfl) ?_
          refine lv_iload hx hb dX6_areApart_55 (lv_at hl 4 rfl) ?_
          refine lv_aload_n hx hb dX6_areApart_57 rfl (lv_at hl 1 rfl) ?_
          refine lv_iload_n hx hb dX6_areApart_58 rfl (lv_at hl 3 rfl) ?_
          refine zz_callVi C (As := [.int v3]) (rest := [.int v4, .int v2, .ref (q 5)]) (zc_X1_isDouble _ _) (cwV 1 hts gX6_areApart_X1_isDouble rfl rfl rfl zd_X1_isDouble ⟨Nat.le_of_ble_eq_true rfl, Nat.le_of_ble_eq_true rfl⟩) hP hS 1 rfl rfl rfl hl rfl (Nat.le_of_ble_eq_true rfl) dX6_areApart_59 ⟨Nat.zero_le _, Nat.zero_le _⟩ (fun H locs hP hS => ?_)
          refine zz_callVi C (As := [.int v2, .int v4, .int (zz_b (zX1_isDouble v3 st))]) (rest := []) (zc_X6_clash _ _ (zX1_isDouble v3 st) _) (cwV 3 hts gX6_areApart_X6_clash rfl rfl rfl zd_X6_clash ⟨Nat.le_of_ble_eq_true rfl, Nat.le_of_ble_eq_true rfl⟩) hP hS 5 rfl rfl rfl hl rfl (Nat.le_of_ble_eq_true rfl) dX6_areApart_62 ⟨Nat.zero_le _, Nat.zero_le _⟩ (fun H locs hP hS => ?_)
          refine lv_if_eq (tgt := 70) hx hb dX6_areApart_65 (by decide) (fun h => ?_) (fun h => ?_)
          · rw [zz_if0 (zz_b0 h)] at hf
            refine lv_iinc (v := (v4 + 1)) (lv' := [(4, .int (v4 + 1)), (0, .ref (q 5)), (1, .ref (q 1)), (2, .int v2), (3, .int v3)]) hx hb dX6_areApart_70 hl (k := 4) rfl (congrArg (fun z => v4 + z) (by decide)) (by decide) rfl (fun ls hl => ?_)
            refine lv_goto (tgt := 25) hx hb dX6_areApart_73 (by decide) ?_
            exact ih _ _ _ _ _ _ _ _ hf hP hS (lv_sub hl [1, 2, 3, 4, 0] rfl)
          · rw [zz_if1 (zz_b1 h)] at hf
            refine lv_iconst (v := 0) hx hb dX6_areApart_68 (by decide) ?_
            rw [← (Option.some.inj hf)]
            exact zz_retz (v := false) C hr hP hS dX6_areApart_69
def zX6_areApart_2 : Nat → Int32 → zz_T → Option Bool
  | 0, _, _ => none
  | n + 1, v2, st =>
    if (st.2 5) ≤ v2 then
      some true
    else
      zz_v (zz_g 16 v2 3 st) fun w1 =>
      zz_v (v2 + 1) fun w2 =>
      zX6_areApart_25 (fun v2' st' => zX6_areApart_2 n v2' st') zz_N v2 w1 w2 st
set_option maxHeartbeats 4000000 in
set_option maxRecDepth 100000 in
theorem zt_X6_areApart_2 {l : Launch} {A : Nat → Prop} {D : va_G} {cI : ClassId} {q : Nat → Nat} {p : Program} {e : Env} {s : State} {m : MethodId} {args : Array Value} {below : List Frame} {meth : Method} {c : Code} (C : zz_C A D cI q p s m args meth c cX6_areApart 5 wsX6_areApart yX6_areApart.cls) (hr : meth.sig.returnType = some .boolean) : ∀ (n : Nat) (v2 : Int32) (st : zz_T) (H : Heap) (locs : List Loc) (ls : Array Slot) (r : Bool), zX6_areApart_2 n v2 st = some r → va_P D vwCl (zz_c q cI st) H → va_S A s.heap H locs → lv_has ls 5 [(0, .ref (q 5)), (1, .ref (q 1)), (2, .int v2)] → W p l e zr_X6_areApart s m args below meth c H locs 0 0 (zz_Qi A D cI q (zz_b r) st below args s) (F0 m 2 ls []) := by
  obtain ⟨hx, hb, hml, hown, hts⟩ := id C.1
  intro n
  induction n with
  | zero => intro v2 st H locs ls r hf; cases hf
  | succ n ih =>
    intro v2 st H locs ls r hf hP hS hl
    rw [zX6_areApart_2] at hf
    refine lv_iload_n hx hb dX6_areApart_2 rfl (lv_at hl 2 rfl) ?_
    refine lv_aload_n hx hb dX6_areApart_3 rfl (lv_at hl 0 rfl) ?_
    refine zz_getf C zi_X6_areApart_X6 hP 5 rfl rfl 2 (nm := "trainCount") (ds := "I") (fin := false) rfl (by decide) zk_X6_areApart_23 rfl dX6_areApart_4 ?_
    refine lv_icmp_ge (tgt := 82) hx hb dX6_areApart_7 (by decide) (fun h => ?_) (fun h => ?_)
    · rw [if_pos h] at hf
      refine lv_iconst (v := 1) hx hb dX6_areApart_82 (by decide) ?_
      rw [← (Option.some.inj hf)]
      exact zz_retz (v := true) C hr hP hS dX6_areApart_83
    · rw [if_neg h] at hf
      refine lv_aload_n hx hb dX6_areApart_10 rfl (lv_at hl 0 rfl) ?_
      refine zz_getf C zi_X6_areApart_X6 hP 5 rfl rfl 0 (nm := "trains") (ds := "LThirteenthDay$Table;") (fin := true) rfl (by decide) zk_X6_areApart_16 rfl dX6_areApart_11 ?_
      refine lv_iload_n hx hb dX6_areApart_14 rfl (lv_at hl 2 rfl) ?_
      refine lv_iconst (v := 3) hx hb dX6_areApart_15 (by decide) ?_
      refine zz_callVi C (As := [.int v2, .int 3]) (rest := []) (zc_X5_get 16 (by decide) _ _ _) (cwV 2 hts gX6_areApart_X5_get rfl rfl rfl zd_X5_get ⟨Nat.le_of_ble_eq_true rfl, Nat.le_of_ble_eq_true rfl⟩) hP hS (9 + 16) (zz_c_tab (by decide)) rfl rfl hl rfl (Nat.le_of_ble_eq_true rfl) dX6_areApart_16 ⟨Nat.zero_le _, Nat.zero_le _⟩ (fun H locs hP hS => ?_)
      refine lv_topi (fun w1 e1 => ?_)
      replace hf := zz_vi hf e1
      refine lv_istore_n (lv' := [(3, .int w1), (0, .ref (q 5)), (1, .ref (q 1)), (2, .int v2)]) hx hb dX6_areApart_19 rfl hl (by decide) rfl (fun ls hl => ?_)
      refine lv_iload_n hx hb dX6_areApart_20 rfl (lv_at hl 3 rfl) ?_
      refine lv_iconst (v := 1) hx hb dX6_areApart_21 (by decide) ?_
      refine lv_iadd hx hb dX6_areApart_22 ?_
      refine lv_topi (fun w2 e2 => ?_)
      replace hf := zz_vi hf e2
      refine lv_istore (lv' := [(4, .int w2), (3, .int w1), (0, .ref (q 5)), (1, .ref (q 1)), (2, .int v2)]) hx hb dX6_areApart_23 hl (by decide) rfl (fun ls hl => ?_)
      exact zt_X6_areApart_25 C hr _ ih zz_N _ _ _ _ _ _ _ _ hf hP hS (lv_sub hl [2, 3, 4, 1, 0] rfl)
def zX6_areApart (st : zz_T) : Option Bool :=
  zX6_areApart_2 zz_N 0 st
set_option maxHeartbeats 4000000 in
set_option maxRecDepth 100000 in
theorem zc_X6_areApart {l : Launch} {A : Nat → Prop} {D : va_G} {cI : ClassId} {q : Nat → Nat} (st : zz_T) (r : Bool) (hf : zX6_areApart st = some r) : zz_Mi l A D cI q yX6_areApart wsX6_areApart zr_X6_areApart [.ref (q 5), .ref (q 1)] st (zz_b r) st := by
  refine zz_of (cc := cX6_areApart) (nL := 5) (ret := some .boolean) (by decide) rfl (Nat.le_of_ble_eq_true rfl) ?_
  intro p e s m args below meth c ls C hr hP hS hl
  obtain ⟨hx, hb, hml, hown, hts⟩ := id C.1
  have hl : lv_has ls 5 [(0, .ref (q 5)), (1, .ref (q 1))] := hl
  rw [zX6_areApart] at hf
  skip
  refine lv_iconst (v := 0) hx hb dX6_areApart_0 (by decide) ?_
  refine lv_istore_n (lv' := [(2, .int 0), (0, .ref (q 5)), (1, .ref (q 1))]) hx hb dX6_areApart_1 rfl hl (by decide) rfl (fun ls hl => ?_)
  exact zt_X6_areApart_2 C hr zz_N _ _ _ _ _ _ hf hP hS (lv_sub hl [1, 2, 0] rfl)
/-! X7_areSound PR -/
theorem zd_X7_areSound : yX7_areSound.cls = RX7 ∧ yX7_areSound.cls ≠ "java/lang/invoke/MethodHandle" ∧ yX7_areSound.cls ≠ "java/lang/invoke/VarHandle" ∧ (parseMethodDescriptor yX7_areSound.desc).map (fun d => d.parameters.length) = some 0 := by decide +kernel
abbrev zr_X7_areSound : Room := { frames := 1, cells := 0, slots := 0, locals := 24 }
theorem zk_X7_areSound_23 : Cond.fieldLink yX7_areSound.cls 23 RX7 "unitCount" "I" ∈ wsX7_areSound := by decide +kernel
theorem zk_X7_areSound_16 : Cond.fieldLink yX7_areSound.cls 16 RX7 "units" "LThirteenthDay$Table;" ∈ wsX7_areSound := by decide +kernel
theorem zi_X7_areSound_X7 : ∀ w ∈ u_ws RX7 TX7 3, w ∈ wsX7_areSound := by decide +kernel
def zX7_areSound_2 : Nat → Int32 → zz_T → Option Bool
  | 0, _, _ => none
  | n + 1, v1, st =>
    if (st.2 4) ≤ v1 then
      some true
    else
      if (zz_g 4 v1 8 st) < (zz_g 4 v1 9 st) then
        some false
      else
        if (zz_g 4 v1 7 st) < (zz_g 4 v1 8 st) then
          some false
        else
          if (zz_g 4 v1 6 st) < (zz_g 4 v1 7 st) then
            some false
          else
            zX7_areSound_2 n (v1 + 1) st
set_option maxHeartbeats 4000000 in
set_option maxRecDepth 100000 in
theorem zt_X7_areSound_2 {l : Launch} {A : Nat → Prop} {D : va_G} {cI : ClassId} {q : Nat → Nat} {p : Program} {e : Env} {s : State} {m : MethodId} {args : Array Value} {below : List Frame} {meth : Method} {c : Code} (C : zz_C A D cI q p s m args meth c cX7_areSound 3 wsX7_areSound yX7_areSound.cls) (hr : meth.sig.returnType = some .boolean) : ∀ (n : Nat) (v1 : Int32) (st : zz_T) (H : Heap) (locs : List Loc) (ls : Array Slot) (r : Bool), zX7_areSound_2 n v1 st = some r → va_P D vwCl (zz_c q cI st) H → va_S A s.heap H locs → lv_has ls 3 [(0, .ref (q 2)), (1, .int v1)] → W p l e zr_X7_areSound s m args below meth c H locs 0 0 (zz_Qi A D cI q (zz_b r) st below args s) (F0 m 2 ls []) := by
  obtain ⟨hx, hb, hml, hown, hts⟩ := id C.1
  intro n
  induction n with
  | zero => intro v1 st H locs ls r hf; cases hf
  | succ n ih =>
    intro v1 st H locs ls r hf hP hS hl
    rw [zX7_areSound_2] at hf
    refine lv_iload_n hx hb dX7_areSound_2 rfl (lv_at hl 1 rfl) ?_
    refine lv_aload_n hx hb dX7_areSound_3 rfl (lv_at hl 0 rfl) ?_
    refine zz_getf C zi_X7_areSound_X7 hP 2 rfl rfl 2 (nm := "unitCount") (ds := "I") (fin := false) rfl (by decide) zk_X7_areSound_23 rfl dX7_areSound_4 ?_
    refine lv_icmp_ge (tgt := 97) hx hb dX7_areSound_7 (by decide) (fun h => ?_) (fun h => ?_)
    · rw [if_pos h] at hf
      refine lv_iconst (v := 1) hx hb dX7_areSound_97 (by decide) ?_
      rw [← (Option.some.inj hf)]
      exact zz_retz (v := true) C hr hP hS dX7_areSound_98
    · rw [if_neg h] at hf
      refine lv_aload_n hx hb dX7_areSound_10 rfl (lv_at hl 0 rfl) ?_
      refine zz_getf C zi_X7_areSound_X7 hP 2 rfl rfl 0 (nm := "units") (ds := "LThirteenthDay$Table;") (fin := true) rfl (by decide) zk_X7_areSound_16 rfl dX7_areSound_11 ?_
      refine lv_iload_n hx hb dX7_areSound_14 rfl (lv_at hl 1 rfl) ?_
      refine lv_bipush (v := 9) hx hb dX7_areSound_15 (by decide) ?_
      refine zz_callVi C (As := [.int v1, .int 9]) (rest := []) (zc_X5_get 4 (by decide) _ _ _) (cwV 2 hts gX7_areSound_X5_get rfl rfl rfl zd_X5_get ⟨Nat.le_of_ble_eq_true rfl, Nat.le_of_ble_eq_true rfl⟩) hP hS (9 + 4) (zz_c_tab (by decide)) rfl rfl hl rfl (Nat.le_of_ble_eq_true rfl) dX7_areSound_17 ⟨Nat.zero_le _, Nat.zero_le _⟩ (fun H locs hP hS => ?_)
      refine lv_aload_n hx hb dX7_areSound_20 rfl (lv_at hl 0 rfl) ?_
      refine zz_getf C zi_X7_areSound_X7 hP 2 rfl rfl 0 (nm := "units") (ds := "LThirteenthDay$Table;") (fin := true) rfl (by decide) zk_X7_areSound_16 rfl dX7_areSound_21 ?_
      refine lv_iload_n hx hb dX7_areSound_24 rfl (lv_at hl 1 rfl) ?_
      refine lv_bipush (v := 8) hx hb dX7_areSound_25 (by decide) ?_
      refine zz_callVi C (As := [.int v1, .int 8]) (rest := [.int (zz_g 4 v1 9 st)]) (zc_X5_get 4 (by decide) _ _ _) (cwV 2 hts gX7_areSound_X5_get rfl rfl rfl zd_X5_get ⟨Nat.le_of_ble_eq_true rfl, Nat.le_of_ble_eq_true rfl⟩) hP hS (9 + 4) (zz_c_tab (by decide)) rfl rfl hl rfl (Nat.le_of_ble_eq_true rfl) dX7_areSound_27 ⟨Nat.zero_le _, Nat.zero_le _⟩ (fun H locs hP hS => ?_)
      refine lv_icmp_gt (tgt := 83) hx hb dX7_areSound_30 (by decide) (fun h => ?_) (fun h => ?_)
      · rw [if_pos h] at hf
        refine lv_iconst (v := 0) hx hb dX7_areSound_83 (by decide) ?_
        refine lv_istore_n (lv' := [(2, .int 0), (0, .ref (q 2)), (1, .int v1)]) hx hb dX7_areSound_84 rfl hl (by decide) rfl (fun ls hl => ?_)
        refine lv_iload_n hx hb dX7_areSound_85 rfl (lv_at hl 0 rfl) ?_
        refine lv_if_ne (tgt := 91) hx hb dX7_areSound_86 (by decide) (fun h => absurd (by decide) h) (fun _ => ?_)
        refine lv_iconst (v := 0) hx hb dX7_areSound_89 (by decide) ?_
        rw [← (Option.some.inj hf)]
        exact zz_retz (v := false) C hr hP hS dX7_areSound_90
      · rw [if_neg h] at hf
        refine lv_aload_n hx hb dX7_areSound_33 rfl (lv_at hl 0 rfl) ?_
        refine zz_getf C zi_X7_areSound_X7 hP 2 rfl rfl 0 (nm := "units") (ds := "LThirteenthDay$Table;") (fin := true) rfl (by decide) zk_X7_areSound_16 rfl dX7_areSound_34 ?_
        refine lv_iload_n hx hb dX7_areSound_37 rfl (lv_at hl 1 rfl) ?_
        refine lv_bipush (v := 8) hx hb dX7_areSound_38 (by decide) ?_
        refine zz_callVi C (As := [.int v1, .int 8]) (rest := []) (zc_X5_get 4 (by decide) _ _ _) (cwV 2 hts gX7_areSound_X5_get rfl rfl rfl zd_X5_get ⟨Nat.le_of_ble_eq_true rfl, Nat.le_of_ble_eq_true rfl⟩) hP hS (9 + 4) (zz_c_tab (by decide)) rfl rfl hl rfl (Nat.le_of_ble_eq_true rfl) dX7_areSound_40 ⟨Nat.zero_le _, Nat.zero_le _⟩ (fun H locs hP hS => ?_)
        refine lv_aload_n hx hb dX7_areSound_43 rfl (lv_at hl 0 rfl) ?_
        refine zz_getf C zi_X7_areSound_X7 hP 2 rfl rfl 0 (nm := "units") (ds := "LThirteenthDay$Table;") (fin := true) rfl (by decide) zk_X7_areSound_16 rfl dX7_areSound_44 ?_
        refine lv_iload_n hx hb dX7_areSound_47 rfl (lv_at hl 1 rfl) ?_
        refine lv_bipush (v := 7) hx hb dX7_areSound_48 (by decide) ?_
        refine zz_callVi C (As := [.int v1, .int 7]) (rest := [.int (zz_g 4 v1 8 st)]) (zc_X5_get 4 (by decide) _ _ _) (cwV 2 hts gX7_areSound_X5_get rfl rfl rfl zd_X5_get ⟨Nat.le_of_ble_eq_true rfl, Nat.le_of_ble_eq_true rfl⟩) hP hS (9 + 4) (zz_c_tab (by decide)) rfl rfl hl rfl (Nat.le_of_ble_eq_true rfl) dX7_areSound_50 ⟨Nat.zero_le _, Nat.zero_le _⟩ (fun H locs hP hS => ?_)
        refine lv_icmp_gt (tgt := 83) hx hb dX7_areSound_53 (by decide) (fun h => ?_) (fun h => ?_)
        · rw [if_pos h] at hf
          refine lv_iconst (v := 0) hx hb dX7_areSound_83 (by decide) ?_
          refine lv_istore_n (lv' := [(2, .int 0), (0, .ref (q 2)), (1, .int v1)]) hx hb dX7_areSound_84 rfl hl (by decide) rfl (fun ls hl => ?_)
          refine lv_iload_n hx hb dX7_areSound_85 rfl (lv_at hl 0 rfl) ?_
          refine lv_if_ne (tgt := 91) hx hb dX7_areSound_86 (by decide) (fun h => absurd (by decide) h) (fun _ => ?_)
          refine lv_iconst (v := 0) hx hb dX7_areSound_89 (by decide) ?_
          rw [← (Option.some.inj hf)]
          exact zz_retz (v := false) C hr hP hS dX7_areSound_90
        · rw [if_neg h] at hf
          refine lv_aload_n hx hb dX7_areSound_56 rfl (lv_at hl 0 rfl) ?_
          refine zz_getf C zi_X7_areSound_X7 hP 2 rfl rfl 0 (nm := "units") (ds := "LThirteenthDay$Table;") (fin := true) rfl (by decide) zk_X7_areSound_16 rfl dX7_areSound_57 ?_
          refine lv_iload_n hx hb dX7_areSound_60 rfl (lv_at hl 1 rfl) ?_
          refine lv_bipush (v := 7) hx hb dX7_areSound_61 (by decide) ?_
          refine zz_callVi C (As := [.int v1, .int 7]) (rest := []) (zc_X5_get 4 (by decide) _ _ _) (cwV 2 hts gX7_areSound_X5_get rfl rfl rfl zd_X5_get ⟨Nat.le_of_ble_eq_true rfl, Nat.le_of_ble_eq_true rfl⟩) hP hS (9 + 4) (zz_c_tab (by decide)) rfl rfl hl rfl (Nat.le_of_ble_eq_true rfl) dX7_areSound_63 ⟨Nat.zero_le _, Nat.zero_le _⟩ (fun H locs hP hS => ?_)
          refine lv_aload_n hx hb dX7_areSound_66 rfl (lv_at hl 0 rfl) ?_
          refine zz_getf C zi_X7_areSound_X7 hP 2 rfl rfl 0 (nm := "units") (ds := "LThirteenthDay$Table;") (fin := true) rfl (by decide) zk_X7_areSound_16 rfl dX7_areSound_67 ?_
          refine lv_iload_n hx hb dX7_areSound_70 rfl (lv_at hl 1 rfl) ?_
          refine lv_bipush (v := 6) hx hb dX7_areSound_71 (by decide) ?_
          refine zz_callVi C (As := [.int v1, .int 6]) (rest := [.int (zz_g 4 v1 7 st)]) (zc_X5_get 4 (by decide) _ _ _) (cwV 2 hts gX7_areSound_X5_get rfl rfl rfl zd_X5_get ⟨Nat.le_of_ble_eq_true rfl, Nat.le_of_ble_eq_true rfl⟩) hP hS (9 + 4) (zz_c_tab (by decide)) rfl rfl hl rfl (Nat.le_of_ble_eq_true rfl) dX7_areSound_73 ⟨Nat.zero_le _, Nat.zero_le _⟩ (fun H locs hP hS => ?_)
          refine lv_icmp_gt (tgt := 83) hx hb dX7_areSound_76 (by decide) (fun h => ?_) (fun h => ?_)
          · rw [if_pos h] at hf
            refine lv_iconst (v := 0) hx hb dX7_areSound_83 (by decide) ?_
            refine lv_istore_n (lv' := [(2, .int 0), (0, .ref (q 2)), (1, .int v1)]) hx hb dX7_areSound_84 rfl hl (by decide) rfl (fun ls hl => ?_)
            refine lv_iload_n hx hb dX7_areSound_85 rfl (lv_at hl 0 rfl) ?_
            refine lv_if_ne (tgt := 91) hx hb dX7_areSound_86 (by decide) (fun h => absurd (by decide) h) (fun _ => ?_)
            refine lv_iconst (v := 0) hx hb dX7_areSound_89 (by decide) ?_
            rw [← (Option.some.inj hf)]
            exact zz_retz (v := false) C hr hP hS dX7_areSound_90
          · rw [if_neg h] at hf
            refine lv_iconst (v := 1) hx hb dX7_areSound_79 (by decide) ?_
            refine lv_goto (tgt := 84) hx hb dX7_areSound_80 (by decide) ?_
            refine lv_istore_n (lv' := [(2, .int 1), (0, .ref (q 2)), (1, .int v1)]) hx hb dX7_areSound_84 rfl hl (by decide) rfl (fun ls hl => ?_)
            refine lv_iload_n hx hb dX7_areSound_85 rfl (lv_at hl 0 rfl) ?_
            refine lv_if_ne (tgt := 91) hx hb dX7_areSound_86 (by decide) (fun _ => ?_) (fun h => absurd h (by decide))
            refine lv_iinc (v := (v1 + 1)) (lv' := [(1, .int (v1 + 1)), (2, .int 1), (0, .ref (q 2))]) hx hb dX7_areSound_91 hl (k := 2) rfl (congrArg (fun z => v1 + z) (by decide)) (by decide) rfl (fun ls hl => ?_)
            refine lv_goto (tgt := 2) hx hb dX7_areSound_94 (by decide) ?_
            exact ih _ _ _ _ _ _ hf hP hS (lv_sub hl [2, 0] rfl)
def zX7_areSound (st : zz_T) : Option Bool :=
  zX7_areSound_2 zz_N 0 st
set_option maxHeartbeats 4000000 in
set_option maxRecDepth 100000 in
theorem zc_X7_areSound {l : Launch} {A : Nat → Prop} {D : va_G} {cI : ClassId} {q : Nat → Nat} (st : zz_T) (r : Bool) (hf : zX7_areSound st = some r) : zz_Mi l A D cI q yX7_areSound wsX7_areSound zr_X7_areSound [.ref (q 2)] st (zz_b r) st := by
  refine zz_of (cc := cX7_areSound) (nL := 3) (ret := some .boolean) (by decide) rfl (Nat.le_of_ble_eq_true rfl) ?_
  intro p e s m args below meth c ls C hr hP hS hl
  obtain ⟨hx, hb, hml, hown, hts⟩ := id C.1
  have hl : lv_has ls 3 [(0, .ref (q 2))] := hl
  rw [zX7_areSound] at hf
  skip
  refine lv_iconst (v := 0) hx hb dX7_areSound_0 (by decide) ?_
  refine lv_istore_n (lv' := [(1, .int 0), (0, .ref (q 2))]) hx hb dX7_areSound_1 rfl hl (by decide) rfl (fun ls hl => ?_)
  exact zt_X7_areSound_2 C hr zz_N _ _ _ _ _ _ hf hP hS (lv_sub hl [1, 0] rfl)
/-! X6_countGuestsAt PR -/
theorem zd_X6_countGuestsAt : yX6_countGuestsAt.cls = RX6 ∧ yX6_countGuestsAt.cls ≠ "java/lang/invoke/MethodHandle" ∧ yX6_countGuestsAt.cls ≠ "java/lang/invoke/VarHandle" ∧ (parseMethodDescriptor yX6_countGuestsAt.desc).map (fun d => d.parameters.length) = some 1 := by decide +kernel
abbrev zr_X6_countGuestsAt : Room := { frames := 2, cells := 0, slots := 0, locals := 47 }
theorem zk_X6_countGuestsAt_23 : Cond.fieldLink yX6_countGuestsAt.cls 23 RX6 "trainCount" "I" ∈ wsX6_countGuestsAt := by decide +kernel
theorem zk_X6_countGuestsAt_16 : Cond.fieldLink yX6_countGuestsAt.cls 16 RX6 "trains" "LThirteenthDay$Table;" ∈ wsX6_countGuestsAt := by decide +kernel
theorem zi_X6_countGuestsAt_X6 : ∀ w ∈ u_ws RX6 TX6 3, w ∈ wsX6_countGuestsAt := by decide +kernel
def zX6_countGuestsAt_4 : Nat → Int32 → Int32 → Int32 → zz_T → Option Int32
  | 0, _, _, _, _ => none
  | n + 1, v1, v2, v3, st =>
    if (st.2 5) ≤ v3 then
      some v2
    else
      if (zX6_isAt v3 v1 st) = true then
        if (zz_g 16 v3 12 st) = v1 then
          zz_v (v2 + 0) fun w2 =>
          zX6_countGuestsAt_4 n v1 w2 (v3 + 1) st
        else
          zz_v (v2 + 1) fun w3 =>
          zX6_countGuestsAt_4 n v1 w3 (v3 + 1) st
      else
        zz_v (v2 + 0) fun w1 =>
        zX6_countGuestsAt_4 n v1 w1 (v3 + 1) st
set_option maxHeartbeats 4000000 in
set_option maxRecDepth 100000 in
theorem zt_X6_countGuestsAt_4 {l : Launch} {A : Nat → Prop} {D : va_G} {cI : ClassId} {q : Nat → Nat} {p : Program} {e : Env} {s : State} {m : MethodId} {args : Array Value} {below : List Frame} {meth : Method} {c : Code} (C : zz_C A D cI q p s m args meth c cX6_countGuestsAt 4 wsX6_countGuestsAt yX6_countGuestsAt.cls) (hr : meth.sig.returnType = some .int) : ∀ (n : Nat) (v1 : Int32) (v2 : Int32) (v3 : Int32) (st : zz_T) (H : Heap) (locs : List Loc) (ls : Array Slot) (r : Int32), zX6_countGuestsAt_4 n v1 v2 v3 st = some r → va_P D vwCl (zz_c q cI st) H → va_S A s.heap H locs → lv_has ls 4 [(0, .ref (q 5)), (1, .int v1), (2, .int v2), (3, .int v3)] → W p l e zr_X6_countGuestsAt s m args below meth c H locs 0 0 (zz_Qi A D cI q r st below args s) (F0 m 4 ls []) := by
  obtain ⟨hx, hb, hml, hown, hts⟩ := id C.1
  intro n
  induction n with
  | zero => intro v1 v2 v3 st H locs ls r hf; cases hf
  | succ n ih =>
    intro v1 v2 v3 st H locs ls r hf hP hS hl
    rw [zX6_countGuestsAt_4] at hf
    refine lv_iload_n hx hb dX6_countGuestsAt_4 rfl (lv_at hl 3 rfl) ?_
    refine lv_aload_n hx hb dX6_countGuestsAt_5 rfl (lv_at hl 0 rfl) ?_
    refine zz_getf C zi_X6_countGuestsAt_X6 hP 5 rfl rfl 2 (nm := "trainCount") (ds := "I") (fin := false) rfl (by decide) zk_X6_countGuestsAt_23 rfl dX6_countGuestsAt_6 ?_
    refine lv_icmp_ge (tgt := 49) hx hb dX6_countGuestsAt_9 (by decide) (fun h => ?_) (fun h => ?_)
    · rw [if_pos h] at hf
      refine lv_iload_n hx hb dX6_countGuestsAt_49 rfl (lv_at hl 2 rfl) ?_
      rw [← (Option.some.inj hf)]
      exact zz_reti C hr hP hS dX6_countGuestsAt_50
    · rw [if_neg h] at hf
      refine lv_iload_n hx hb dX6_countGuestsAt_12 rfl (lv_at hl 2 rfl) ?_
      refine lv_aload_n hx hb dX6_countGuestsAt_13 rfl (lv_at hl 0 rfl) ?_
      refine lv_iload_n hx hb dX6_countGuestsAt_14 rfl (lv_at hl 3 rfl) ?_
      refine lv_iload_n hx hb dX6_countGuestsAt_15 rfl (lv_at hl 1 rfl) ?_
      refine zz_callVi C (As := [.int v3, .int v1]) (rest := [.int v2]) (zc_X6_isAt _ _ _) (cwV 2 hts gX6_countGuestsAt_X6_isAt rfl rfl rfl zd_X6_isAt ⟨Nat.le_of_ble_eq_true rfl, Nat.le_of_ble_eq_true rfl⟩) hP hS 5 rfl rfl rfl hl rfl (Nat.le_of_ble_eq_true rfl) dX6_countGuestsAt_16 ⟨Nat.zero_le _, Nat.zero_le _⟩ (fun H locs hP hS => ?_)
      refine lv_if_eq (tgt := 40) hx hb dX6_countGuestsAt_19 (by decide) (fun h => ?_) (fun h => ?_)
      · rw [zz_if0 (zz_b0 h)] at hf
        refine lv_iconst (v := 0) hx hb dX6_countGuestsAt_40 (by decide) ?_
        refine lv_iadd hx hb dX6_countGuestsAt_41 ?_
        refine lv_topi (fun w1 e1 => ?_)
        replace hf := zz_vi hf e1
        refine lv_istore_n (lv' := [(2, .int w1), (0, .ref (q 5)), (1, .int v1), (3, .int v3)]) hx hb dX6_countGuestsAt_42 rfl hl (by decide) rfl (fun ls hl => ?_)
        refine lv_iinc (v := (v3 + 1)) (lv' := [(3, .int (v3 + 1)), (2, .int w1), (0, .ref (q 5)), (1, .int v1)]) hx hb dX6_countGuestsAt_43 hl (k := 3) rfl (congrArg (fun z => v3 + z) (by decide)) (by decide) rfl (fun ls hl => ?_)
        refine lv_goto (tgt := 4) hx hb dX6_countGuestsAt_46 (by decide) ?_
        exact ih _ _ _ _ _ _ _ _ hf hP hS (lv_sub hl [2, 3, 1, 0] rfl)
      · rw [zz_if1 (zz_b1 h)] at hf
        refine lv_aload_n hx hb dX6_countGuestsAt_22 rfl (lv_at hl 0 rfl) ?_
        refine zz_getf C zi_X6_countGuestsAt_X6 hP 5 rfl rfl 0 (nm := "trains") (ds := "LThirteenthDay$Table;") (fin := true) rfl (by decide) zk_X6_countGuestsAt_16 rfl dX6_countGuestsAt_23 ?_
        refine lv_iload_n hx hb dX6_countGuestsAt_26 rfl (lv_at hl 3 rfl) ?_
        refine lv_bipush (v := 12) hx hb dX6_countGuestsAt_27 (by decide) ?_
        refine zz_callVi C (As := [.int v3, .int 12]) (rest := [.int v2]) (zc_X5_get 16 (by decide) _ _ _) (cwV 2 hts gX6_countGuestsAt_X5_get rfl rfl rfl zd_X5_get ⟨Nat.le_of_ble_eq_true rfl, Nat.le_of_ble_eq_true rfl⟩) hP hS (9 + 16) (zz_c_tab (by decide)) rfl rfl hl rfl (Nat.le_of_ble_eq_true rfl) dX6_countGuestsAt_29 ⟨Nat.zero_le _, Nat.zero_le _⟩ (fun H locs hP hS => ?_)
        refine lv_iload_n hx hb dX6_countGuestsAt_32 rfl (lv_at hl 1 rfl) ?_
        refine lv_icmp_eq (tgt := 40) hx hb dX6_countGuestsAt_33 (by decide) (fun h => ?_) (fun h => ?_)
        · rw [if_pos h] at hf
          refine lv_iconst (v := 0) hx hb dX6_countGuestsAt_40 (by decide) ?_
          refine lv_iadd hx hb dX6_countGuestsAt_41 ?_
          refine lv_topi (fun w2 e2 => ?_)
          replace hf := zz_vi hf e2
          refine lv_istore_n (lv' := [(2, .int w2), (0, .ref (q 5)), (1, .int v1), (3, .int v3)]) hx hb dX6_countGuestsAt_42 rfl hl (by decide) rfl (fun ls hl => ?_)
          refine lv_iinc (v := (v3 + 1)) (lv' := [(3, .int (v3 + 1)), (2, .int w2), (0, .ref (q 5)), (1, .int v1)]) hx hb dX6_countGuestsAt_43 hl (k := 3) rfl (congrArg (fun z => v3 + z) (by decide)) (by decide) rfl (fun ls hl => ?_)
          refine lv_goto (tgt := 4) hx hb dX6_countGuestsAt_46 (by decide) ?_
          exact ih _ _ _ _ _ _ _ _ hf hP hS (lv_sub hl [2, 3, 1, 0] rfl)
        · rw [if_neg h] at hf
          refine lv_iconst (v := 1) hx hb dX6_countGuestsAt_36 (by decide) ?_
          refine lv_goto (tgt := 41) hx hb dX6_countGuestsAt_37 (by decide) ?_
          refine lv_iadd hx hb dX6_countGuestsAt_41 ?_
          refine lv_topi (fun w3 e3 => ?_)
          replace hf := zz_vi hf e3
          refine lv_istore_n (lv' := [(2, .int w3), (0, .ref (q 5)), (1, .int v1), (3, .int v3)]) hx hb dX6_countGuestsAt_42 rfl hl (by decide) rfl (fun ls hl => ?_)
          refine lv_iinc (v := (v3 + 1)) (lv' := [(3, .int (v3 + 1)), (2, .int w3), (0, .ref (q 5)), (1, .int v1)]) hx hb dX6_countGuestsAt_43 hl (k := 3) rfl (congrArg (fun z => v3 + z) (by decide)) (by decide) rfl (fun ls hl => ?_)
          refine lv_goto (tgt := 4) hx hb dX6_countGuestsAt_46 (by decide) ?_
          exact ih _ _ _ _ _ _ _ _ hf hP hS (lv_sub hl [2, 3, 1, 0] rfl)
def zX6_countGuestsAt (v1 : Int32) (st : zz_T) : Option Int32 :=
  zX6_countGuestsAt_4 zz_N v1 0 0 st
set_option maxHeartbeats 4000000 in
set_option maxRecDepth 100000 in
theorem zc_X6_countGuestsAt {l : Launch} {A : Nat → Prop} {D : va_G} {cI : ClassId} {q : Nat → Nat} (v1 : Int32) (st : zz_T) (r : Int32) (hf : zX6_countGuestsAt v1 st = some r) : zz_Mi l A D cI q yX6_countGuestsAt wsX6_countGuestsAt zr_X6_countGuestsAt [.ref (q 5), .int v1] st r st := by
  refine zz_of (cc := cX6_countGuestsAt) (nL := 4) (ret := some .int) (by decide) rfl (Nat.le_of_ble_eq_true rfl) ?_
  intro p e s m args below meth c ls C hr hP hS hl
  obtain ⟨hx, hb, hml, hown, hts⟩ := id C.1
  have hl : lv_has ls 4 [(0, .ref (q 5)), (1, .int v1)] := hl
  rw [zX6_countGuestsAt] at hf
  skip
  refine lv_iconst (v := 0) hx hb dX6_countGuestsAt_0 (by decide) ?_
  refine lv_istore_n (lv' := [(2, .int 0), (0, .ref (q 5)), (1, .int v1)]) hx hb dX6_countGuestsAt_1 rfl hl (by decide) rfl (fun ls hl => ?_)
  refine lv_iconst (v := 0) hx hb dX6_countGuestsAt_2 (by decide) ?_
  refine lv_istore_n (lv' := [(3, .int 0), (2, .int 0), (0, .ref (q 5)), (1, .int v1)]) hx hb dX6_countGuestsAt_3 rfl hl (by decide) rfl (fun ls hl => ?_)
  exact zt_X6_countGuestsAt_4 C hr zz_N _ _ _ _ _ _ _ _ hf hP hS (lv_sub hl [2, 3, 1, 0] rfl)
/-! X8_areStationsSound PR -/
theorem zd_X8_areStationsSound : yX8_areStationsSound.cls = RX8 ∧ yX8_areStationsSound.cls ≠ "java/lang/invoke/MethodHandle" ∧ yX8_areStationsSound.cls ≠ "java/lang/invoke/VarHandle" ∧ (parseMethodDescriptor yX8_areStationsSound.desc).map (fun d => d.parameters.length) = some 0 := by decide +kernel
abbrev zr_X8_areStationsSound : Room := { frames := 3, cells := 0, slots := 0, locals := 70 }
theorem zk_X8_areStationsSound_10 : Cond.fieldLink yX8_areStationsSound.cls 10 RX8 "land" "LThirteenthDay$Land;" ∈ wsX8_areStationsSound := by decide +kernel
theorem zk_X8_areStationsSound_36 : Cond.fieldLink yX8_areStationsSound.cls 36 RX8 "trains" "LThirteenthDay$Trains;" ∈ wsX8_areStationsSound := by decide +kernel
theorem zi_X8_areStationsSound_X8 : ∀ w ∈ u_ws RX8 TX8 11, w ∈ wsX8_areStationsSound := by decide +kernel
def zX8_areStationsSound_2 : Nat → Int32 → zz_T → Option Bool
  | 0, _, _ => none
  | n + 1, v1, st =>
    if (zX1_countStations st) ≤ v1 then
      some true
    else
      zz_v (zX1_getStation v1 0 st) fun w1 =>
      zz_v (w1 + (zX1_getStation v1 1 st)) fun w2 =>
      (zX6_countGuestsAt v1 st).bind fun x3 =>
      if w2 < x3 then
        some false
      else
        (zX6_countUnloadingAt v1 st).bind fun x5 =>
        if x5 ≤ w1 then
          zX8_areStationsSound_2 n (v1 + 1) st
        else
          some false
set_option maxHeartbeats 4000000 in
set_option maxRecDepth 100000 in
theorem zt_X8_areStationsSound_2 {l : Launch} {A : Nat → Prop} {D : va_G} {cI : ClassId} {q : Nat → Nat} {p : Program} {e : Env} {s : State} {m : MethodId} {args : Array Value} {below : List Frame} {meth : Method} {c : Code} (C : zz_C A D cI q p s m args meth c cX8_areStationsSound 4 wsX8_areStationsSound yX8_areStationsSound.cls) (hr : meth.sig.returnType = some .boolean) : ∀ (n : Nat) (v1 : Int32) (st : zz_T) (H : Heap) (locs : List Loc) (ls : Array Slot) (r : Bool), zX8_areStationsSound_2 n v1 st = some r → va_P D vwCl (zz_c q cI st) H → va_S A s.heap H locs → lv_has ls 4 [(0, .ref (q 0)), (1, .int v1)] → W p l e zr_X8_areStationsSound s m args below meth c H locs 0 0 (zz_Qi A D cI q (zz_b r) st below args s) (F0 m 2 ls []) := by
  obtain ⟨hx, hb, hml, hown, hts⟩ := id C.1
  intro n
  induction n with
  | zero => intro v1 st H locs ls r hf; cases hf
  | succ n ih =>
    intro v1 st H locs ls r hf hP hS hl
    rw [zX8_areStationsSound_2] at hf
    refine lv_iload_n hx hb dX8_areStationsSound_2 rfl (lv_at hl 1 rfl) ?_
    refine lv_aload_n hx hb dX8_areStationsSound_3 rfl (lv_at hl 0 rfl) ?_
    refine zz_getf C zi_X8_areStationsSound_X8 hP 0 rfl rfl 0 (nm := "land") (ds := "LThirteenthDay$Land;") (fin := true) rfl (by decide) zk_X8_areStationsSound_10 rfl dX8_areStationsSound_4 ?_
    refine zz_callVi C (As := []) (rest := [.int v1]) (zc_X1_countStations _) (cwV 0 hts gX8_areStationsSound_X1_countStations rfl rfl rfl zd_X1_countStations ⟨Nat.le_of_ble_eq_true rfl, Nat.le_of_ble_eq_true rfl⟩) hP hS 1 rfl rfl rfl hl rfl (Nat.le_of_ble_eq_true rfl) dX8_areStationsSound_7 ⟨Nat.zero_le _, Nat.zero_le _⟩ (fun H locs hP hS => ?_)
    refine lv_icmp_ge (tgt := 67) hx hb dX8_areStationsSound_10 (by decide) (fun h => ?_) (fun h => ?_)
    · rw [if_pos h] at hf
      refine lv_iconst (v := 1) hx hb dX8_areStationsSound_67 (by decide) ?_
      rw [← (Option.some.inj hf)]
      exact zz_retz (v := true) C hr hP hS dX8_areStationsSound_68
    · rw [if_neg h] at hf
      refine lv_aload_n hx hb dX8_areStationsSound_13 rfl (lv_at hl 0 rfl) ?_
      refine zz_getf C zi_X8_areStationsSound_X8 hP 0 rfl rfl 0 (nm := "land") (ds := "LThirteenthDay$Land;") (fin := true) rfl (by decide) zk_X8_areStationsSound_10 rfl dX8_areStationsSound_14 ?_
      refine lv_iload_n hx hb dX8_areStationsSound_17 rfl (lv_at hl 1 rfl) ?_
      refine lv_iconst (v := 0) hx hb dX8_areStationsSound_18 (by decide) ?_
      refine zz_callVi C (As := [.int v1, .int 0]) (rest := []) (zc_X1_getStation _ _ _) (cwV 2 hts gX8_areStationsSound_X1_getStation rfl rfl rfl zd_X1_getStation ⟨Nat.le_of_ble_eq_true rfl, Nat.le_of_ble_eq_true rfl⟩) hP hS 1 rfl rfl rfl hl rfl (Nat.le_of_ble_eq_true rfl) dX8_areStationsSound_19 ⟨Nat.zero_le _, Nat.zero_le _⟩ (fun H locs hP hS => ?_)
      refine lv_topi (fun w1 e1 => ?_)
      replace hf := zz_vi hf e1
      refine lv_istore_n (lv' := [(2, .int w1), (0, .ref (q 0)), (1, .int v1)]) hx hb dX8_areStationsSound_22 rfl hl (by decide) rfl (fun ls hl => ?_)
      refine lv_iload_n hx hb dX8_areStationsSound_23 rfl (lv_at hl 0 rfl) ?_
      refine lv_aload_n hx hb dX8_areStationsSound_24 rfl (lv_at hl 1 rfl) ?_
      refine zz_getf C zi_X8_areStationsSound_X8 hP 0 rfl rfl 0 (nm := "land") (ds := "LThirteenthDay$Land;") (fin := true) rfl (by decide) zk_X8_areStationsSound_10 rfl dX8_areStationsSound_25 ?_
      refine lv_iload_n hx hb dX8_areStationsSound_28 rfl (lv_at hl 2 rfl) ?_
      refine lv_iconst (v := 1) hx hb dX8_areStationsSound_29 (by decide) ?_
      refine zz_callVi C (As := [.int v1, .int 1]) (rest := [.int w1]) (zc_X1_getStation _ _ _) (cwV 2 hts gX8_areStationsSound_X1_getStation rfl rfl rfl zd_X1_getStation ⟨Nat.le_of_ble_eq_true rfl, Nat.le_of_ble_eq_true rfl⟩) hP hS 1 rfl rfl rfl hl rfl (Nat.le_of_ble_eq_true rfl) dX8_areStationsSound_30 ⟨Nat.zero_le _, Nat.zero_le _⟩ (fun H locs hP hS => ?_)
      refine lv_iadd hx hb dX8_areStationsSound_33 ?_
      refine lv_topi (fun w2 e2 => ?_)
      replace hf := zz_vi hf e2
      refine lv_istore_n (lv' := [(3, .int w2), (2, .int w1), (0, .ref (q 0)), (1, .int v1)]) hx hb dX8_areStationsSound_34 rfl hl (by decide) rfl (fun ls hl => ?_)
      refine lv_aload_n hx hb dX8_areStationsSound_35 rfl (lv_at hl 2 rfl) ?_
      refine zz_getf C zi_X8_areStationsSound_X8 hP 0 rfl rfl 4 (nm := "trains") (ds := "LThirteenthDay$Trains;") (fin := true) rfl (by decide) zk_X8_areStationsSound_36 rfl dX8_areStationsSound_36 ?_
      refine lv_iload_n hx hb dX8_areStationsSound_39 rfl (lv_at hl 3 rfl) ?_
      obtain ⟨x3, e4, hf⟩ := zz_bo hf
      refine zz_callVi C (As := [.int v1]) (rest := []) (zc_X6_countGuestsAt _ _ _ e4) (cwV 1 hts gX8_areStationsSound_X6_countGuestsAt rfl rfl rfl zd_X6_countGuestsAt ⟨Nat.le_of_ble_eq_true rfl, Nat.le_of_ble_eq_true rfl⟩) hP hS 5 rfl rfl rfl hl rfl (Nat.le_of_ble_eq_true rfl) dX8_areStationsSound_40 ⟨Nat.zero_le _, Nat.zero_le _⟩ (fun H locs hP hS => ?_)
      refine lv_iload_n hx hb dX8_areStationsSound_43 rfl (lv_at hl 0 rfl) ?_
      refine lv_icmp_gt (tgt := 59) hx hb dX8_areStationsSound_44 (by decide) (fun h => ?_) (fun h => ?_)
      · rw [if_pos h] at hf
        refine lv_iconst (v := 0) hx hb dX8_areStationsSound_59 (by decide) ?_
        rw [← (Option.some.inj hf)]
        exact zz_retz (v := false) C hr hP hS dX8_areStationsSound_60
      · rw [if_neg h] at hf
        refine lv_aload_n hx hb dX8_areStationsSound_47 rfl (lv_at hl 2 rfl) ?_
        refine zz_getf C zi_X8_areStationsSound_X8 hP 0 rfl rfl 4 (nm := "trains") (ds := "LThirteenthDay$Trains;") (fin := true) rfl (by decide) zk_X8_areStationsSound_36 rfl dX8_areStationsSound_48 ?_
        refine lv_iload_n hx hb dX8_areStationsSound_51 rfl (lv_at hl 3 rfl) ?_
        obtain ⟨x5, e6, hf⟩ := zz_bo hf
        refine zz_callVi C (As := [.int v1]) (rest := []) (zc_X6_countUnloadingAt _ _ _ e6) (cwV 1 hts gX8_areStationsSound_X6_countUnloadingAt rfl rfl rfl zd_X6_countUnloadingAt ⟨Nat.le_of_ble_eq_true rfl, Nat.le_of_ble_eq_true rfl⟩) hP hS 5 rfl rfl rfl hl rfl (Nat.le_of_ble_eq_true rfl) dX8_areStationsSound_52 ⟨Nat.zero_le _, Nat.zero_le _⟩ (fun H locs hP hS => ?_)
        refine lv_iload_n hx hb dX8_areStationsSound_55 rfl (lv_at hl 1 rfl) ?_
        refine lv_icmp_le (tgt := 61) hx hb dX8_areStationsSound_56 (by decide) (fun h => ?_) (fun h => ?_)
        · rw [if_pos h] at hf
          refine lv_iinc (v := (v1 + 1)) (lv' := [(1, .int (v1 + 1)), (3, .int w2), (2, .int w1), (0, .ref (q 0))]) hx hb dX8_areStationsSound_61 hl (k := 3) rfl (congrArg (fun z => v1 + z) (by decide)) (by decide) rfl (fun ls hl => ?_)
          refine lv_goto (tgt := 2) hx hb dX8_areStationsSound_64 (by decide) ?_
          exact ih _ _ _ _ _ _ hf hP hS (lv_sub hl [3, 0] rfl)
        · rw [if_neg h] at hf
          refine lv_iconst (v := 0) hx hb dX8_areStationsSound_59 (by decide) ?_
          rw [← (Option.some.inj hf)]
          exact zz_retz (v := false) C hr hP hS dX8_areStationsSound_60
def zX8_areStationsSound (st : zz_T) : Option Bool :=
  zX8_areStationsSound_2 zz_N 0 st
set_option maxHeartbeats 4000000 in
set_option maxRecDepth 100000 in
theorem zc_X8_areStationsSound {l : Launch} {A : Nat → Prop} {D : va_G} {cI : ClassId} {q : Nat → Nat} (st : zz_T) (r : Bool) (hf : zX8_areStationsSound st = some r) : zz_Mi l A D cI q yX8_areStationsSound wsX8_areStationsSound zr_X8_areStationsSound [.ref (q 0)] st (zz_b r) st := by
  refine zz_of (cc := cX8_areStationsSound) (nL := 4) (ret := some .boolean) (by decide) rfl (Nat.le_of_ble_eq_true rfl) ?_
  intro p e s m args below meth c ls C hr hP hS hl
  obtain ⟨hx, hb, hml, hown, hts⟩ := id C.1
  have hl : lv_has ls 4 [(0, .ref (q 0))] := hl
  rw [zX8_areStationsSound] at hf
  skip
  refine lv_iconst (v := 0) hx hb dX8_areStationsSound_0 (by decide) ?_
  refine lv_istore_n (lv' := [(1, .int 0), (0, .ref (q 0))]) hx hb dX8_areStationsSound_1 rfl hl (by decide) rfl (fun ls hl => ?_)
  exact zt_X8_areStationsSound_2 C hr zz_N _ _ _ _ _ _ hf hP hS (lv_sub hl [1, 0] rfl)
/-! X8_isWholeSound PR -/
theorem zd_X8_isWholeSound : yX8_isWholeSound.cls = RX8 ∧ yX8_isWholeSound.cls ≠ "java/lang/invoke/MethodHandle" ∧ yX8_isWholeSound.cls ≠ "java/lang/invoke/VarHandle" ∧ (parseMethodDescriptor yX8_isWholeSound.desc).map (fun d => d.parameters.length) = some 0 := by decide +kernel
abbrev zr_X8_isWholeSound : Room := { frames := 4, cells := 0, slots := 0, locals := 97 }
theorem zk_X8_isWholeSound_36 : Cond.fieldLink yX8_isWholeSound.cls 36 RX8 "trains" "LThirteenthDay$Trains;" ∈ wsX8_isWholeSound := by decide +kernel
theorem zk_X8_isWholeSound_10 : Cond.fieldLink yX8_isWholeSound.cls 10 RX8 "land" "LThirteenthDay$Land;" ∈ wsX8_isWholeSound := by decide +kernel
theorem zk_X8_isWholeSound_26 : Cond.fieldLink yX8_isWholeSound.cls 26 RX8 "paths" "LThirteenthDay$Paths;" ∈ wsX8_isWholeSound := by decide +kernel
theorem zk_X8_isWholeSound_19 : Cond.fieldLink yX8_isWholeSound.cls 19 RX8 "units" "LThirteenthDay$Units;" ∈ wsX8_isWholeSound := by decide +kernel
theorem zi_X8_isWholeSound_X8 : ∀ w ∈ u_ws RX8 TX8 11, w ∈ wsX8_isWholeSound := by decide +kernel
def zX8_isWholeSound (st : zz_T) : Option Bool :=
  (zX6_areApart st).bind fun x1 =>
  if x1 = true then
    (zX8_areStationsSound st).bind fun x3 =>
    if x3 = true then
      (zX2_areApart 6 st).bind fun x5 =>
      if x5 = true then
        (zX7_areSound st).bind fun x7 =>
        if x7 = true then
          some true
        else
          some false
      else
        some false
    else
      some false
  else
    some false
set_option maxHeartbeats 4000000 in
set_option maxRecDepth 100000 in
theorem zc_X8_isWholeSound {l : Launch} {A : Nat → Prop} {D : va_G} {cI : ClassId} {q : Nat → Nat} (st : zz_T) (r : Bool) (hf : zX8_isWholeSound st = some r) : zz_Mi l A D cI q yX8_isWholeSound wsX8_isWholeSound zr_X8_isWholeSound [.ref (q 0)] st (zz_b r) st := by
  refine zz_of (cc := cX8_isWholeSound) (nL := 1) (ret := some .boolean) (by decide) rfl (Nat.le_of_ble_eq_true rfl) ?_
  intro p e s m args below meth c ls C hr hP hS hl
  obtain ⟨hx, hb, hml, hown, hts⟩ := id C.1
  have hl : lv_has ls 1 [(0, .ref (q 0))] := hl
  rw [zX8_isWholeSound] at hf
  skip
  refine lv_aload_n hx hb dX8_isWholeSound_0 rfl (lv_at hl 0 rfl) ?_
  refine zz_getf C zi_X8_isWholeSound_X8 hP 0 rfl rfl 4 (nm := "trains") (ds := "LThirteenthDay$Trains;") (fin := true) rfl (by decide) zk_X8_isWholeSound_36 rfl dX8_isWholeSound_1 ?_
  refine lv_aload_n hx hb dX8_isWholeSound_4 rfl (lv_at hl 0 rfl) ?_
  refine zz_getf C zi_X8_isWholeSound_X8 hP 0 rfl rfl 0 (nm := "land") (ds := "LThirteenthDay$Land;") (fin := true) rfl (by decide) zk_X8_isWholeSound_10 rfl dX8_isWholeSound_5 ?_
  obtain ⟨x1, e2, hf⟩ := zz_bo hf
  refine zz_callVi C (As := [.ref (q 1)]) (rest := []) (zc_X6_areApart _ _ e2) (cwV 1 hts gX8_isWholeSound_X6_areApart rfl rfl rfl zd_X6_areApart ⟨Nat.le_of_ble_eq_true rfl, Nat.le_of_ble_eq_true rfl⟩) hP hS 5 rfl rfl rfl hl rfl (Nat.le_of_ble_eq_true rfl) dX8_isWholeSound_8 ⟨Nat.zero_le _, Nat.zero_le _⟩ (fun H locs hP hS => ?_)
  refine lv_if_eq (tgt := 45) hx hb dX8_isWholeSound_11 (by decide) (fun h => ?_) (fun h => ?_)
  · rw [zz_if0 (zz_b0 h)] at hf
    refine lv_iconst (v := 0) hx hb dX8_isWholeSound_45 (by decide) ?_
    rw [← (Option.some.inj hf)]
    exact zz_retz (v := false) C hr hP hS dX8_isWholeSound_46
  · rw [zz_if1 (zz_b1 h)] at hf
    refine lv_aload_n hx hb dX8_isWholeSound_14 rfl (lv_at hl 0 rfl) ?_
    obtain ⟨x3, e4, hf⟩ := zz_bo hf
    refine zz_callVi C (As := []) (rest := []) (zc_X8_areStationsSound _ _ e4) (cwV 0 hts gX8_isWholeSound_X8_areStationsSound rfl rfl rfl zd_X8_areStationsSound ⟨Nat.le_of_ble_eq_true rfl, Nat.le_of_ble_eq_true rfl⟩) hP hS 0 rfl rfl rfl hl rfl (Nat.le_of_ble_eq_true rfl) dX8_isWholeSound_15 ⟨Nat.zero_le _, Nat.zero_le _⟩ (fun H locs hP hS => ?_)
    refine lv_if_eq (tgt := 45) hx hb dX8_isWholeSound_18 (by decide) (fun h => ?_) (fun h => ?_)
    · rw [zz_if0 (zz_b0 h)] at hf
      refine lv_iconst (v := 0) hx hb dX8_isWholeSound_45 (by decide) ?_
      rw [← (Option.some.inj hf)]
      exact zz_retz (v := false) C hr hP hS dX8_isWholeSound_46
    · rw [zz_if1 (zz_b1 h)] at hf
      refine lv_aload_n hx hb dX8_isWholeSound_21 rfl (lv_at hl 0 rfl) ?_
      refine zz_getf C zi_X8_isWholeSound_X8 hP 0 rfl rfl 2 (nm := "paths") (ds := "LThirteenthDay$Paths;") (fin := true) rfl (by decide) zk_X8_isWholeSound_26 rfl dX8_isWholeSound_22 ?_
      obtain ⟨x5, e6, hf⟩ := zz_bo hf
      refine zz_callVi C (As := []) (rest := []) (zc_X2_areApart 3 6 (by decide) _ _ e6) (cwV 0 hts gX8_isWholeSound_X2_areApart rfl rfl rfl zd_X2_areApart ⟨Nat.le_of_ble_eq_true rfl, Nat.le_of_ble_eq_true rfl⟩) hP hS 3 rfl rfl rfl hl rfl (Nat.le_of_ble_eq_true rfl) dX8_isWholeSound_25 ⟨Nat.zero_le _, Nat.zero_le _⟩ (fun H locs hP hS => ?_)
      refine lv_if_eq (tgt := 45) hx hb dX8_isWholeSound_28 (by decide) (fun h => ?_) (fun h => ?_)
      · rw [zz_if0 (zz_b0 h)] at hf
        refine lv_iconst (v := 0) hx hb dX8_isWholeSound_45 (by decide) ?_
        rw [← (Option.some.inj hf)]
        exact zz_retz (v := false) C hr hP hS dX8_isWholeSound_46
      · rw [zz_if1 (zz_b1 h)] at hf
        refine lv_aload_n hx hb dX8_isWholeSound_31 rfl (lv_at hl 0 rfl) ?_
        refine zz_getf C zi_X8_isWholeSound_X8 hP 0 rfl rfl 1 (nm := "units") (ds := "LThirteenthDay$Units;") (fin := true) rfl (by decide) zk_X8_isWholeSound_19 rfl dX8_isWholeSound_32 ?_
        obtain ⟨x7, e8, hf⟩ := zz_bo hf
        refine zz_callVi C (As := []) (rest := []) (zc_X7_areSound _ _ e8) (cwV 0 hts gX8_isWholeSound_X7_areSound rfl rfl rfl zd_X7_areSound ⟨Nat.le_of_ble_eq_true rfl, Nat.le_of_ble_eq_true rfl⟩) hP hS 2 rfl rfl rfl hl rfl (Nat.le_of_ble_eq_true rfl) dX8_isWholeSound_35 ⟨Nat.zero_le _, Nat.zero_le _⟩ (fun H locs hP hS => ?_)
        refine lv_if_eq (tgt := 45) hx hb dX8_isWholeSound_38 (by decide) (fun h => ?_) (fun h => ?_)
        · rw [zz_if0 (zz_b0 h)] at hf
          refine lv_iconst (v := 0) hx hb dX8_isWholeSound_45 (by decide) ?_
          rw [← (Option.some.inj hf)]
          exact zz_retz (v := false) C hr hP hS dX8_isWholeSound_46
        · rw [zz_if1 (zz_b1 h)] at hf
          refine lv_iconst (v := 1) hx hb dX8_isWholeSound_41 (by decide) ?_
          refine lv_goto (tgt := 46) hx hb dX8_isWholeSound_42 (by decide) ?_
          rw [← (Option.some.inj hf)]
          exact zz_retz (v := true) C hr hP hS dX8_isWholeSound_46
/-! X0_count TR -/
theorem zd_X0_count : yX0_count.cls = RX0 ∧ yX0_count.cls ≠ "java/lang/invoke/MethodHandle" ∧ yX0_count.cls ≠ "java/lang/invoke/VarHandle" ∧ (parseMethodDescriptor yX0_count.desc).map (fun d => d.parameters.length) = some 0 := by decide +kernel
abbrev zr_X0_count : Room := { frames := 1, cells := 0, slots := 0, locals := 24 }
theorem zk_X0_count_20 : Cond.fieldLink yX0_count.cls 20 RX0 "plans" "LThirteenthDay$Table;" ∈ wsX0_count := by decide +kernel
theorem zi_X0_count_X0 : ∀ w ∈ u_ws RX0 TX0 4, w ∈ wsX0_count := by decide +kernel
def zX0_count (st : zz_T) : Int32 :=
  (((zz_g 21 0 0 st) + (zz_g 21 1 0 st)) + (zz_g 21 2 0 st))
set_option maxHeartbeats 4000000 in
set_option maxRecDepth 100000 in
theorem zc_X0_count {l : Launch} {A : Nat → Prop} {D : va_G} {cI : ClassId} {q : Nat → Nat} (st : zz_T) : zz_Mi l A D cI q yX0_count wsX0_count zr_X0_count [.ref (q 8)] st (zX0_count st) st := by
  refine zz_of (cc := cX0_count) (nL := 1) (ret := some .int) (by decide) rfl (Nat.le_of_ble_eq_true rfl) ?_
  intro p e s m args below meth c ls C hr hP hS hl
  obtain ⟨hx, hb, hml, hown, hts⟩ := id C.1
  have hl : lv_has ls 1 [(0, .ref (q 8))] := hl
  obtain ⟨r, hf⟩ : ∃ r, zX0_count st = r := ⟨_, rfl⟩
  rw [hf]
  rw [zX0_count] at hf
  skip
  refine lv_aload_n hx hb dX0_count_0 rfl (lv_at hl 0 rfl) ?_
  refine zz_getf C zi_X0_count_X0 hP 8 rfl rfl 1 (nm := "plans") (ds := "LThirteenthDay$Table;") (fin := true) rfl (by decide) zk_X0_count_20 rfl dX0_count_1 ?_
  refine lv_iconst (v := 0) hx hb dX0_count_4 (by decide) ?_
  refine lv_iconst (v := 0) hx hb dX0_count_5 (by decide) ?_
  refine zz_callVi C (As := [.int 0, .int 0]) (rest := []) (zc_X5_get 21 (by decide) _ _ _) (cwV 2 hts gX0_count_X5_get rfl rfl rfl zd_X5_get ⟨Nat.le_of_ble_eq_true rfl, Nat.le_of_ble_eq_true rfl⟩) hP hS (9 + 21) (zz_c_tab (by decide)) rfl rfl hl rfl (Nat.le_of_ble_eq_true rfl) dX0_count_6 ⟨Nat.zero_le _, Nat.zero_le _⟩ (fun H locs hP hS => ?_)
  refine lv_aload_n hx hb dX0_count_9 rfl (lv_at hl 0 rfl) ?_
  refine zz_getf C zi_X0_count_X0 hP 8 rfl rfl 1 (nm := "plans") (ds := "LThirteenthDay$Table;") (fin := true) rfl (by decide) zk_X0_count_20 rfl dX0_count_10 ?_
  refine lv_iconst (v := 1) hx hb dX0_count_13 (by decide) ?_
  refine lv_iconst (v := 0) hx hb dX0_count_14 (by decide) ?_
  refine zz_callVi C (As := [.int 1, .int 0]) (rest := [.int (zz_g 21 0 0 st)]) (zc_X5_get 21 (by decide) _ _ _) (cwV 2 hts gX0_count_X5_get rfl rfl rfl zd_X5_get ⟨Nat.le_of_ble_eq_true rfl, Nat.le_of_ble_eq_true rfl⟩) hP hS (9 + 21) (zz_c_tab (by decide)) rfl rfl hl rfl (Nat.le_of_ble_eq_true rfl) dX0_count_15 ⟨Nat.zero_le _, Nat.zero_le _⟩ (fun H locs hP hS => ?_)
  refine lv_iadd hx hb dX0_count_18 ?_
  refine lv_aload_n hx hb dX0_count_19 rfl (lv_at hl 0 rfl) ?_
  refine zz_getf C zi_X0_count_X0 hP 8 rfl rfl 1 (nm := "plans") (ds := "LThirteenthDay$Table;") (fin := true) rfl (by decide) zk_X0_count_20 rfl dX0_count_20 ?_
  refine lv_iconst (v := 2) hx hb dX0_count_23 (by decide) ?_
  refine lv_iconst (v := 0) hx hb dX0_count_24 (by decide) ?_
  refine zz_callVi C (As := [.int 2, .int 0]) (rest := [.int ((zz_g 21 0 0 st) + (zz_g 21 1 0 st))]) (zc_X5_get 21 (by decide) _ _ _) (cwV 2 hts gX0_count_X5_get rfl rfl rfl zd_X5_get ⟨Nat.le_of_ble_eq_true rfl, Nat.le_of_ble_eq_true rfl⟩) hP hS (9 + 21) (zz_c_tab (by decide)) rfl rfl hl rfl (Nat.le_of_ble_eq_true rfl) dX0_count_25 ⟨Nat.zero_le _, Nat.zero_le _⟩ (fun H locs hP hS => ?_)
  refine lv_iadd hx hb dX0_count_28 ?_
  rw [← hf]
  exact zz_reti C hr hP hS dX0_count_29
/-! X2_countKept PR -/
theorem zd_X2_countKept : yX2_countKept.cls = RX2 ∧ yX2_countKept.cls ≠ "java/lang/invoke/MethodHandle" ∧ yX2_countKept.cls ≠ "java/lang/invoke/VarHandle" ∧ (parseMethodDescriptor yX2_countKept.desc).map (fun d => d.parameters.length) = some 0 := by decide +kernel
abbrev zr_X2_countKept : Room := { frames := 2, cells := 0, slots := 0, locals := 45 }
def zX2_countKept_4 (b : Nat) : Nat → Int32 → Int32 → zz_T → Option Int32
  | 0, _, _, _ => none
  | n + 1, v1, v2, st =>
    if 54 ≤ v2 then
      some v1
    else
      if (zX2_isKept b v2 st) = true then
        zz_v (v1 + 1) fun w2 =>
        zX2_countKept_4 b n w2 (v2 + 1) st
      else
        zz_v (v1 + 0) fun w1 =>
        zX2_countKept_4 b n w1 (v2 + 1) st
set_option maxHeartbeats 4000000 in
set_option maxRecDepth 100000 in
theorem zt_X2_countKept_4 {l : Launch} {A : Nat → Prop} {D : va_G} {cI : ClassId} {q : Nat → Nat} {p : Program} {e : Env} {s : State} {m : MethodId} {args : Array Value} {below : List Frame} {meth : Method} {c : Code} (C : zz_C A D cI q p s m args meth c cX2_countKept 3 wsX2_countKept yX2_countKept.cls) (hr : meth.sig.returnType = some .int) (o b : Nat) (hz : zz_P o b) : ∀ (n : Nat) (v1 : Int32) (v2 : Int32) (st : zz_T) (H : Heap) (locs : List Loc) (ls : Array Slot) (r : Int32), zX2_countKept_4 b n v1 v2 st = some r → va_P D vwCl (zz_c q cI st) H → va_S A s.heap H locs → lv_has ls 3 [(0, .ref (q o)), (1, .int v1), (2, .int v2)] → W p l e zr_X2_countKept s m args below meth c H locs 0 0 (zz_Qi A D cI q r st below args s) (F0 m 4 ls []) := by
  obtain ⟨hx, hb, hml, hown, hts⟩ := id C.1
  intro n
  induction n with
  | zero => intro v1 v2 st H locs ls r hf; cases hf
  | succ n ih =>
    intro v1 v2 st H locs ls r hf hP hS hl
    rw [zX2_countKept_4] at hf
    refine lv_iload_n hx hb dX2_countKept_4 rfl (lv_at hl 2 rfl) ?_
    refine lv_bipush (v := 54) hx hb dX2_countKept_5 (by decide) ?_
    refine lv_icmp_ge (tgt := 32) hx hb dX2_countKept_7 (by decide) (fun h => ?_) (fun h => ?_)
    · rw [if_pos h] at hf
      refine lv_iload_n hx hb dX2_countKept_32 rfl (lv_at hl 1 rfl) ?_
      rw [← (Option.some.inj hf)]
      exact zz_reti C hr hP hS dX2_countKept_33
    · rw [if_neg h] at hf
      refine lv_iload_n hx hb dX2_countKept_10 rfl (lv_at hl 1 rfl) ?_
      refine lv_aload_n hx hb dX2_countKept_11 rfl (lv_at hl 0 rfl) ?_
      refine lv_iload_n hx hb dX2_countKept_12 rfl (lv_at hl 2 rfl) ?_
      refine zz_callVi C (As := [.int v2]) (rest := [.int v1]) (zc_X2_isKept o b hz _ _) (cwV 1 hts gX2_countKept_X2_isKept rfl rfl rfl zd_X2_isKept ⟨Nat.le_of_ble_eq_true rfl, Nat.le_of_ble_eq_true rfl⟩) hP hS o (zz_c_pa hz) rfl rfl hl rfl (Nat.le_of_ble_eq_true rfl) dX2_countKept_13 ⟨Nat.zero_le _, Nat.zero_le _⟩ (fun H locs hP hS => ?_)
      refine lv_if_eq (tgt := 23) hx hb dX2_countKept_16 (by decide) (fun h => ?_) (fun h => ?_)
      · rw [zz_if0 (zz_b0 h)] at hf
        refine lv_iconst (v := 0) hx hb dX2_countKept_23 (by decide) ?_
        refine lv_iadd hx hb dX2_countKept_24 ?_
        refine lv_topi (fun w1 e1 => ?_)
        replace hf := zz_vi hf e1
        refine lv_istore_n (lv' := [(1, .int w1), (0, .ref (q o)), (2, .int v2)]) hx hb dX2_countKept_25 rfl hl (by decide) rfl (fun ls hl => ?_)
        refine lv_iinc (v := (v2 + 1)) (lv' := [(2, .int (v2 + 1)), (1, .int w1), (0, .ref (q o))]) hx hb dX2_countKept_26 hl (k := 2) rfl (congrArg (fun z => v2 + z) (by decide)) (by decide) rfl (fun ls hl => ?_)
        refine lv_goto (tgt := 4) hx hb dX2_countKept_29 (by decide) ?_
        exact ih _ _ _ _ _ _ _ hf hP hS (lv_sub hl [2, 1, 0] rfl)
      · rw [zz_if1 (zz_b1 h)] at hf
        refine lv_iconst (v := 1) hx hb dX2_countKept_19 (by decide) ?_
        refine lv_goto (tgt := 24) hx hb dX2_countKept_20 (by decide) ?_
        refine lv_iadd hx hb dX2_countKept_24 ?_
        refine lv_topi (fun w2 e2 => ?_)
        replace hf := zz_vi hf e2
        refine lv_istore_n (lv' := [(1, .int w2), (0, .ref (q o)), (2, .int v2)]) hx hb dX2_countKept_25 rfl hl (by decide) rfl (fun ls hl => ?_)
        refine lv_iinc (v := (v2 + 1)) (lv' := [(2, .int (v2 + 1)), (1, .int w2), (0, .ref (q o))]) hx hb dX2_countKept_26 hl (k := 2) rfl (congrArg (fun z => v2 + z) (by decide)) (by decide) rfl (fun ls hl => ?_)
        refine lv_goto (tgt := 4) hx hb dX2_countKept_29 (by decide) ?_
        exact ih _ _ _ _ _ _ _ hf hP hS (lv_sub hl [2, 1, 0] rfl)
def zX2_countKept (b : Nat) (st : zz_T) : Option Int32 :=
  zX2_countKept_4 b zz_N 0 0 st
set_option maxHeartbeats 4000000 in
set_option maxRecDepth 100000 in
theorem zc_X2_countKept {l : Launch} {A : Nat → Prop} {D : va_G} {cI : ClassId} {q : Nat → Nat} (o b : Nat) (hz : zz_P o b) (st : zz_T) (r : Int32) (hf : zX2_countKept b st = some r) : zz_Mi l A D cI q yX2_countKept wsX2_countKept zr_X2_countKept [.ref (q o)] st r st := by
  refine zz_of (cc := cX2_countKept) (nL := 3) (ret := some .int) (by decide) rfl (Nat.le_of_ble_eq_true rfl) ?_
  intro p e s m args below meth c ls C hr hP hS hl
  obtain ⟨hx, hb, hml, hown, hts⟩ := id C.1
  have hl : lv_has ls 3 [(0, .ref (q o))] := hl
  rw [zX2_countKept] at hf
  skip
  refine lv_iconst (v := 0) hx hb dX2_countKept_0 (by decide) ?_
  refine lv_istore_n (lv' := [(1, .int 0), (0, .ref (q o))]) hx hb dX2_countKept_1 rfl hl (by decide) rfl (fun ls hl => ?_)
  refine lv_iconst (v := 0) hx hb dX2_countKept_2 (by decide) ?_
  refine lv_istore_n (lv' := [(2, .int 0), (1, .int 0), (0, .ref (q o))]) hx hb dX2_countKept_3 rfl hl (by decide) rfl (fun ls hl => ?_)
  exact zt_X2_countKept_4 C hr o b hz zz_N _ _ _ _ _ _ _ hf hP hS (lv_sub hl [2, 1, 0] rfl)
/-! X4_count PR -/
theorem zd_X4_count : yX4_count.cls = RX4 ∧ yX4_count.cls ≠ "java/lang/invoke/MethodHandle" ∧ yX4_count.cls ≠ "java/lang/invoke/VarHandle" ∧ (parseMethodDescriptor yX4_count.desc).map (fun d => d.parameters.length) = some 0 := by decide +kernel
abbrev zr_X4_count : Room := { frames := 1, cells := 0, slots := 0, locals := 24 }
theorem zk_X4_count_16 : Cond.fieldLink yX4_count.cls 16 RX4 "rows" "LThirteenthDay$Table;" ∈ wsX4_count := by decide +kernel
theorem zi_X4_count_X4 : ∀ w ∈ u_ws RX4 TX4 2, w ∈ wsX4_count := by decide +kernel
def zX4_count_4 : Nat → Int32 → Int32 → zz_T → Option Int32
  | 0, _, _, _ => none
  | n + 1, v1, v2, st =>
    if 6 ≤ v2 then
      some v1
    else
      if (zz_g 18 v2 0 st) ≤ 0 then
        zz_v (v1 + 0) fun w1 =>
        zX4_count_4 n w1 (v2 + 1) st
      else
        zz_v (v1 + 1) fun w2 =>
        zX4_count_4 n w2 (v2 + 1) st
set_option maxHeartbeats 4000000 in
set_option maxRecDepth 100000 in
theorem zt_X4_count_4 {l : Launch} {A : Nat → Prop} {D : va_G} {cI : ClassId} {q : Nat → Nat} {p : Program} {e : Env} {s : State} {m : MethodId} {args : Array Value} {below : List Frame} {meth : Method} {c : Code} (C : zz_C A D cI q p s m args meth c cX4_count 3 wsX4_count yX4_count.cls) (hr : meth.sig.returnType = some .int) : ∀ (n : Nat) (v1 : Int32) (v2 : Int32) (st : zz_T) (H : Heap) (locs : List Loc) (ls : Array Slot) (r : Int32), zX4_count_4 n v1 v2 st = some r → va_P D vwCl (zz_c q cI st) H → va_S A s.heap H locs → lv_has ls 3 [(0, .ref (q 6)), (1, .int v1), (2, .int v2)] → W p l e zr_X4_count s m args below meth c H locs 0 0 (zz_Qi A D cI q r st below args s) (F0 m 4 ls []) := by
  obtain ⟨hx, hb, hml, hown, hts⟩ := id C.1
  intro n
  induction n with
  | zero => intro v1 v2 st H locs ls r hf; cases hf
  | succ n ih =>
    intro v1 v2 st H locs ls r hf hP hS hl
    rw [zX4_count_4] at hf
    refine lv_iload_n hx hb dX4_count_4 rfl (lv_at hl 2 rfl) ?_
    refine lv_bipush (v := 6) hx hb dX4_count_5 (by decide) ?_
    refine lv_icmp_ge (tgt := 36) hx hb dX4_count_7 (by decide) (fun h => ?_) (fun h => ?_)
    · rw [if_pos h] at hf
      refine lv_iload_n hx hb dX4_count_36 rfl (lv_at hl 1 rfl) ?_
      rw [← (Option.some.inj hf)]
      exact zz_reti C hr hP hS dX4_count_37
    · rw [if_neg h] at hf
      refine lv_iload_n hx hb dX4_count_10 rfl (lv_at hl 1 rfl) ?_
      refine lv_aload_n hx hb dX4_count_11 rfl (lv_at hl 0 rfl) ?_
      refine zz_getf C zi_X4_count_X4 hP 6 rfl rfl 0 (nm := "rows") (ds := "LThirteenthDay$Table;") (fin := true) rfl (by decide) zk_X4_count_16 rfl dX4_count_12 ?_
      refine lv_iload_n hx hb dX4_count_15 rfl (lv_at hl 2 rfl) ?_
      refine lv_iconst (v := 0) hx hb dX4_count_16 (by decide) ?_
      refine zz_callVi C (As := [.int v2, .int 0]) (rest := [.int v1]) (zc_X5_get 18 (by decide) _ _ _) (cwV 2 hts gX4_count_X5_get rfl rfl rfl zd_X5_get ⟨Nat.le_of_ble_eq_true rfl, Nat.le_of_ble_eq_true rfl⟩) hP hS (9 + 18) (zz_c_tab (by decide)) rfl rfl hl rfl (Nat.le_of_ble_eq_true rfl) dX4_count_17 ⟨Nat.zero_le _, Nat.zero_le _⟩ (fun H locs hP hS => ?_)
      refine lv_if_le (tgt := 27) hx hb dX4_count_20 (by decide) (fun h => ?_) (fun h => ?_)
      · rw [if_pos h] at hf
        refine lv_iconst (v := 0) hx hb dX4_count_27 (by decide) ?_
        refine lv_iadd hx hb dX4_count_28 ?_
        refine lv_topi (fun w1 e1 => ?_)
        replace hf := zz_vi hf e1
        refine lv_istore_n (lv' := [(1, .int w1), (0, .ref (q 6)), (2, .int v2)]) hx hb dX4_count_29 rfl hl (by decide) rfl (fun ls hl => ?_)
        refine lv_iinc (v := (v2 + 1)) (lv' := [(2, .int (v2 + 1)), (1, .int w1), (0, .ref (q 6))]) hx hb dX4_count_30 hl (k := 2) rfl (congrArg (fun z => v2 + z) (by decide)) (by decide) rfl (fun ls hl => ?_)
        refine lv_goto (tgt := 4) hx hb dX4_count_33 (by decide) ?_
        exact ih _ _ _ _ _ _ _ hf hP hS (lv_sub hl [2, 1, 0] rfl)
      · rw [if_neg h] at hf
        refine lv_iconst (v := 1) hx hb dX4_count_23 (by decide) ?_
        refine lv_goto (tgt := 28) hx hb dX4_count_24 (by decide) ?_
        refine lv_iadd hx hb dX4_count_28 ?_
        refine lv_topi (fun w2 e2 => ?_)
        replace hf := zz_vi hf e2
        refine lv_istore_n (lv' := [(1, .int w2), (0, .ref (q 6)), (2, .int v2)]) hx hb dX4_count_29 rfl hl (by decide) rfl (fun ls hl => ?_)
        refine lv_iinc (v := (v2 + 1)) (lv' := [(2, .int (v2 + 1)), (1, .int w2), (0, .ref (q 6))]) hx hb dX4_count_30 hl (k := 2) rfl (congrArg (fun z => v2 + z) (by decide)) (by decide) rfl (fun ls hl => ?_)
        refine lv_goto (tgt := 4) hx hb dX4_count_33 (by decide) ?_
        exact ih _ _ _ _ _ _ _ hf hP hS (lv_sub hl [2, 1, 0] rfl)
def zX4_count (st : zz_T) : Option Int32 :=
  zX4_count_4 zz_N 0 0 st
set_option maxHeartbeats 4000000 in
set_option maxRecDepth 100000 in
theorem zc_X4_count {l : Launch} {A : Nat → Prop} {D : va_G} {cI : ClassId} {q : Nat → Nat} (st : zz_T) (r : Int32) (hf : zX4_count st = some r) : zz_Mi l A D cI q yX4_count wsX4_count zr_X4_count [.ref (q 6)] st r st := by
  refine zz_of (cc := cX4_count) (nL := 3) (ret := some .int) (by decide) rfl (Nat.le_of_ble_eq_true rfl) ?_
  intro p e s m args below meth c ls C hr hP hS hl
  obtain ⟨hx, hb, hml, hown, hts⟩ := id C.1
  have hl : lv_has ls 3 [(0, .ref (q 6))] := hl
  rw [zX4_count] at hf
  skip
  refine lv_iconst (v := 0) hx hb dX4_count_0 (by decide) ?_
  refine lv_istore_n (lv' := [(1, .int 0), (0, .ref (q 6))]) hx hb dX4_count_1 rfl hl (by decide) rfl (fun ls hl => ?_)
  refine lv_iconst (v := 0) hx hb dX4_count_2 (by decide) ?_
  refine lv_istore_n (lv' := [(2, .int 0), (1, .int 0), (0, .ref (q 6))]) hx hb dX4_count_3 rfl hl (by decide) rfl (fun ls hl => ?_)
  exact zt_X4_count_4 C hr zz_N _ _ _ _ _ _ _ hf hP hS (lv_sub hl [2, 1, 0] rfl)
/-! X6_countDone PR -/
theorem zd_X6_countDone : yX6_countDone.cls = RX6 ∧ yX6_countDone.cls ≠ "java/lang/invoke/MethodHandle" ∧ yX6_countDone.cls ≠ "java/lang/invoke/VarHandle" ∧ (parseMethodDescriptor yX6_countDone.desc).map (fun d => d.parameters.length) = some 0 := by decide +kernel
abbrev zr_X6_countDone : Room := { frames := 1, cells := 0, slots := 0, locals := 24 }
theorem zk_X6_countDone_23 : Cond.fieldLink yX6_countDone.cls 23 RX6 "trainCount" "I" ∈ wsX6_countDone := by decide +kernel
theorem zk_X6_countDone_16 : Cond.fieldLink yX6_countDone.cls 16 RX6 "trains" "LThirteenthDay$Table;" ∈ wsX6_countDone := by decide +kernel
theorem zi_X6_countDone_X6 : ∀ w ∈ u_ws RX6 TX6 3, w ∈ wsX6_countDone := by decide +kernel
def zX6_countDone_4 : Nat → Int32 → Int32 → zz_T → Option Int32
  | 0, _, _, _ => none
  | n + 1, v1, v2, st =>
    if (st.2 5) ≤ v2 then
      some v1
    else
      if (zz_g 16 v2 2 st) = 3 then
        zz_v (v1 + 1) fun w2 =>
        zX6_countDone_4 n w2 (v2 + 1) st
      else
        zz_v (v1 + 0) fun w1 =>
        zX6_countDone_4 n w1 (v2 + 1) st
set_option maxHeartbeats 4000000 in
set_option maxRecDepth 100000 in
theorem zt_X6_countDone_4 {l : Launch} {A : Nat → Prop} {D : va_G} {cI : ClassId} {q : Nat → Nat} {p : Program} {e : Env} {s : State} {m : MethodId} {args : Array Value} {below : List Frame} {meth : Method} {c : Code} (C : zz_C A D cI q p s m args meth c cX6_countDone 3 wsX6_countDone yX6_countDone.cls) (hr : meth.sig.returnType = some .int) : ∀ (n : Nat) (v1 : Int32) (v2 : Int32) (st : zz_T) (H : Heap) (locs : List Loc) (ls : Array Slot) (r : Int32), zX6_countDone_4 n v1 v2 st = some r → va_P D vwCl (zz_c q cI st) H → va_S A s.heap H locs → lv_has ls 3 [(0, .ref (q 5)), (1, .int v1), (2, .int v2)] → W p l e zr_X6_countDone s m args below meth c H locs 0 0 (zz_Qi A D cI q r st below args s) (F0 m 4 ls []) := by
  obtain ⟨hx, hb, hml, hown, hts⟩ := id C.1
  intro n
  induction n with
  | zero => intro v1 v2 st H locs ls r hf; cases hf
  | succ n ih =>
    intro v1 v2 st H locs ls r hf hP hS hl
    rw [zX6_countDone_4] at hf
    refine lv_iload_n hx hb dX6_countDone_4 rfl (lv_at hl 2 rfl) ?_
    refine lv_aload_n hx hb dX6_countDone_5 rfl (lv_at hl 0 rfl) ?_
    refine zz_getf C zi_X6_countDone_X6 hP 5 rfl rfl 2 (nm := "trainCount") (ds := "I") (fin := false) rfl (by decide) zk_X6_countDone_23 rfl dX6_countDone_6 ?_
    refine lv_icmp_ge (tgt := 39) hx hb dX6_countDone_9 (by decide) (fun h => ?_) (fun h => ?_)
    · rw [if_pos h] at hf
      refine lv_iload_n hx hb dX6_countDone_39 rfl (lv_at hl 1 rfl) ?_
      rw [← (Option.some.inj hf)]
      exact zz_reti C hr hP hS dX6_countDone_40
    · rw [if_neg h] at hf
      refine lv_iload_n hx hb dX6_countDone_12 rfl (lv_at hl 1 rfl) ?_
      refine lv_aload_n hx hb dX6_countDone_13 rfl (lv_at hl 0 rfl) ?_
      refine zz_getf C zi_X6_countDone_X6 hP 5 rfl rfl 0 (nm := "trains") (ds := "LThirteenthDay$Table;") (fin := true) rfl (by decide) zk_X6_countDone_16 rfl dX6_countDone_14 ?_
      refine lv_iload_n hx hb dX6_countDone_17 rfl (lv_at hl 2 rfl) ?_
      refine lv_iconst (v := 2) hx hb dX6_countDone_18 (by decide) ?_
      refine zz_callVi C (As := [.int v2, .int 2]) (rest := [.int v1]) (zc_X5_get 16 (by decide) _ _ _) (cwV 2 hts gX6_countDone_X5_get rfl rfl rfl zd_X5_get ⟨Nat.le_of_ble_eq_true rfl, Nat.le_of_ble_eq_true rfl⟩) hP hS (9 + 16) (zz_c_tab (by decide)) rfl rfl hl rfl (Nat.le_of_ble_eq_true rfl) dX6_countDone_19 ⟨Nat.zero_le _, Nat.zero_le _⟩ (fun H locs hP hS => ?_)
      refine lv_iconst (v := 3) hx hb dX6_countDone_22 (by decide) ?_
      refine lv_icmp_ne (tgt := 30) hx hb dX6_countDone_23 (by decide) (fun h => ?_) (fun h => ?_)
      · rw [if_neg h] at hf
        refine lv_iconst (v := 0) hx hb dX6_countDone_30 (by decide) ?_
        refine lv_iadd hx hb dX6_countDone_31 ?_
        refine lv_topi (fun w1 e1 => ?_)
        replace hf := zz_vi hf e1
        refine lv_istore_n (lv' := [(1, .int w1), (0, .ref (q 5)), (2, .int v2)]) hx hb dX6_countDone_32 rfl hl (by decide) rfl (fun ls hl => ?_)
        refine lv_iinc (v := (v2 + 1)) (lv' := [(2, .int (v2 + 1)), (1, .int w1), (0, .ref (q 5))]) hx hb dX6_countDone_33 hl (k := 2) rfl (congrArg (fun z => v2 + z) (by decide)) (by decide) rfl (fun ls hl => ?_)
        refine lv_goto (tgt := 4) hx hb dX6_countDone_36 (by decide) ?_
        exact ih _ _ _ _ _ _ _ hf hP hS (lv_sub hl [2, 1, 0] rfl)
      · rw [if_pos h] at hf
        refine lv_iconst (v := 1) hx hb dX6_countDone_26 (by decide) ?_
        refine lv_goto (tgt := 31) hx hb dX6_countDone_27 (by decide) ?_
        refine lv_iadd hx hb dX6_countDone_31 ?_
        refine lv_topi (fun w2 e2 => ?_)
        replace hf := zz_vi hf e2
        refine lv_istore_n (lv' := [(1, .int w2), (0, .ref (q 5)), (2, .int v2)]) hx hb dX6_countDone_32 rfl hl (by decide) rfl (fun ls hl => ?_)
        refine lv_iinc (v := (v2 + 1)) (lv' := [(2, .int (v2 + 1)), (1, .int w2), (0, .ref (q 5))]) hx hb dX6_countDone_33 hl (k := 2) rfl (congrArg (fun z => v2 + z) (by decide)) (by decide) rfl (fun ls hl => ?_)
        refine lv_goto (tgt := 4) hx hb dX6_countDone_36 (by decide) ?_
        exact ih _ _ _ _ _ _ _ hf hP hS (lv_sub hl [2, 1, 0] rfl)
def zX6_countDone (st : zz_T) : Option Int32 :=
  zX6_countDone_4 zz_N 0 0 st
set_option maxHeartbeats 4000000 in
set_option maxRecDepth 100000 in
theorem zc_X6_countDone {l : Launch} {A : Nat → Prop} {D : va_G} {cI : ClassId} {q : Nat → Nat} (st : zz_T) (r : Int32) (hf : zX6_countDone st = some r) : zz_Mi l A D cI q yX6_countDone wsX6_countDone zr_X6_countDone [.ref (q 5)] st r st := by
  refine zz_of (cc := cX6_countDone) (nL := 3) (ret := some .int) (by decide) rfl (Nat.le_of_ble_eq_true rfl) ?_
  intro p e s m args below meth c ls C hr hP hS hl
  obtain ⟨hx, hb, hml, hown, hts⟩ := id C.1
  have hl : lv_has ls 3 [(0, .ref (q 5))] := hl
  rw [zX6_countDone] at hf
  skip
  refine lv_iconst (v := 0) hx hb dX6_countDone_0 (by decide) ?_
  refine lv_istore_n (lv' := [(1, .int 0), (0, .ref (q 5))]) hx hb dX6_countDone_1 rfl hl (by decide) rfl (fun ls hl => ?_)
  refine lv_iconst (v := 0) hx hb dX6_countDone_2 (by decide) ?_
  refine lv_istore_n (lv' := [(2, .int 0), (1, .int 0), (0, .ref (q 5))]) hx hb dX6_countDone_3 rfl hl (by decide) rfl (fun ls hl => ?_)
  exact zt_X6_countDone_4 C hr zz_N _ _ _ _ _ _ _ hf hP hS (lv_sub hl [2, 1, 0] rfl)
/-! X6_greatestLate PR -/
theorem zd_X6_greatestLate : yX6_greatestLate.cls = RX6 ∧ yX6_greatestLate.cls ≠ "java/lang/invoke/MethodHandle" ∧ yX6_greatestLate.cls ≠ "java/lang/invoke/VarHandle" ∧ (parseMethodDescriptor yX6_greatestLate.desc).map (fun d => d.parameters.length) = some 1 := by decide +kernel
abbrev zr_X6_greatestLate : Room := { frames := 2, cells := 0, slots := 0, locals := 46 }
theorem zq_X6_greatestLate_max : Cond.methodLink yX6_greatestLate.cls 38 Lib.Math.max.name ∈ wsX6_greatestLate ∧ Cond.static Lib.Math.max.name ∈ wsX6_greatestLate ∧ Cond.initialized "java/lang/Math" ∈ wsX6_greatestLate ∧ Cond.code Lib.Math.max.name Lib.Math.max.code 2 (some .int) ∈ wsX6_greatestLate := by decide +kernel
theorem zk_X6_greatestLate_23 : Cond.fieldLink yX6_greatestLate.cls 23 RX6 "trainCount" "I" ∈ wsX6_greatestLate := by decide +kernel
theorem zi_X6_greatestLate_X6 : ∀ w ∈ u_ws RX6 TX6 3, w ∈ wsX6_greatestLate := by decide +kernel
def zX6_greatestLate_4 : Nat → Int32 → Int32 → Int32 → zz_T → Option Int32
  | 0, _, _, _, _ => none
  | n + 1, v1, v2, v3, st =>
    if (st.2 5) ≤ v3 then
      some v2
    else
      zz_v (zz_max v2 (zX6_lateOf v3 v1 st)) fun w1 =>
      zX6_greatestLate_4 n v1 w1 (v3 + 1) st
set_option maxHeartbeats 4000000 in
set_option maxRecDepth 100000 in
theorem zt_X6_greatestLate_4 {l : Launch} {A : Nat → Prop} {D : va_G} {cI : ClassId} {q : Nat → Nat} {p : Program} {e : Env} {s : State} {m : MethodId} {args : Array Value} {below : List Frame} {meth : Method} {c : Code} (C : zz_C A D cI q p s m args meth c cX6_greatestLate 4 wsX6_greatestLate yX6_greatestLate.cls) (hr : meth.sig.returnType = some .int) : ∀ (n : Nat) (v1 : Int32) (v2 : Int32) (v3 : Int32) (st : zz_T) (H : Heap) (locs : List Loc) (ls : Array Slot) (r : Int32), zX6_greatestLate_4 n v1 v2 v3 st = some r → va_P D vwCl (zz_c q cI st) H → va_S A s.heap H locs → lv_has ls 4 [(0, .ref (q 5)), (1, .int v1), (2, .int v2), (3, .int v3)] → W p l e zr_X6_greatestLate s m args below meth c H locs 0 0 (zz_Qi A D cI q r st below args s) (F0 m 4 ls []) := by
  obtain ⟨hx, hb, hml, hown, hts⟩ := id C.1
  intro n
  induction n with
  | zero => intro v1 v2 v3 st H locs ls r hf; cases hf
  | succ n ih =>
    intro v1 v2 v3 st H locs ls r hf hP hS hl
    rw [zX6_greatestLate_4] at hf
    refine lv_iload_n hx hb dX6_greatestLate_4 rfl (lv_at hl 3 rfl) ?_
    refine lv_aload_n hx hb dX6_greatestLate_5 rfl (lv_at hl 0 rfl) ?_
    refine zz_getf C zi_X6_greatestLate_X6 hP 5 rfl rfl 2 (nm := "trainCount") (ds := "I") (fin := false) rfl (by decide) zk_X6_greatestLate_23 rfl dX6_greatestLate_6 ?_
    refine lv_icmp_ge (tgt := 29) hx hb dX6_greatestLate_9 (by decide) (fun h => ?_) (fun h => ?_)
    · rw [if_pos h] at hf
      refine lv_iload_n hx hb dX6_greatestLate_29 rfl (lv_at hl 2 rfl) ?_
      rw [← (Option.some.inj hf)]
      exact zz_reti C hr hP hS dX6_greatestLate_30
    · rw [if_neg h] at hf
      refine lv_iload_n hx hb dX6_greatestLate_12 rfl (lv_at hl 2 rfl) ?_
      refine lv_aload_n hx hb dX6_greatestLate_13 rfl (lv_at hl 0 rfl) ?_
      refine lv_iload_n hx hb dX6_greatestLate_14 rfl (lv_at hl 3 rfl) ?_
      refine lv_iload_n hx hb dX6_greatestLate_15 rfl (lv_at hl 1 rfl) ?_
      refine zz_callVi C (As := [.int v3, .int v1]) (rest := [.int v2]) (zc_X6_lateOf _ _ _) (cwV 2 hts gX6_greatestLate_X6_lateOf rfl rfl rfl zd_X6_lateOf ⟨Nat.le_of_ble_eq_true rfl, Nat.le_of_ble_eq_true rfl⟩) hP hS 5 rfl rfl rfl hl rfl (Nat.le_of_ble_eq_true rfl) dX6_greatestLate_16 ⟨Nat.zero_le _, Nat.zero_le _⟩ (fun H locs hP hS => ?_)
      refine zz_mmax C zq_X6_greatestLate_max hl (by decide) (Nat.le_of_ble_eq_true rfl) ⟨Nat.zero_le _, Nat.zero_le _⟩ dX6_greatestLate_19 ?_
      refine lv_topi (fun w1 e1 => ?_)
      replace hf := zz_vi hf e1
      refine lv_istore_n (lv' := [(2, .int w1), (0, .ref (q 5)), (1, .int v1), (3, .int v3)]) hx hb dX6_greatestLate_22 rfl hl (by decide) rfl (fun ls hl => ?_)
      refine lv_iinc (v := (v3 + 1)) (lv' := [(3, .int (v3 + 1)), (2, .int w1), (0, .ref (q 5)), (1, .int v1)]) hx hb dX6_greatestLate_23 hl (k := 3) rfl (congrArg (fun z => v3 + z) (by decide)) (by decide) rfl (fun ls hl => ?_)
      refine lv_goto (tgt := 4) hx hb dX6_greatestLate_26 (by decide) ?_
      exact ih _ _ _ _ _ _ _ _ hf hP hS (lv_sub hl [2, 3, 1, 0] rfl)
def zX6_greatestLate (v1 : Int32) (st : zz_T) : Option Int32 :=
  zX6_greatestLate_4 zz_N v1 0 0 st
set_option maxHeartbeats 4000000 in
set_option maxRecDepth 100000 in
theorem zc_X6_greatestLate {l : Launch} {A : Nat → Prop} {D : va_G} {cI : ClassId} {q : Nat → Nat} (v1 : Int32) (st : zz_T) (r : Int32) (hf : zX6_greatestLate v1 st = some r) : zz_Mi l A D cI q yX6_greatestLate wsX6_greatestLate zr_X6_greatestLate [.ref (q 5), .int v1] st r st := by
  refine zz_of (cc := cX6_greatestLate) (nL := 4) (ret := some .int) (by decide) rfl (Nat.le_of_ble_eq_true rfl) ?_
  intro p e s m args below meth c ls C hr hP hS hl
  obtain ⟨hx, hb, hml, hown, hts⟩ := id C.1
  have hl : lv_has ls 4 [(0, .ref (q 5)), (1, .int v1)] := hl
  rw [zX6_greatestLate] at hf
  skip
  refine lv_iconst (v := 0) hx hb dX6_greatestLate_0 (by decide) ?_
  refine lv_istore_n (lv' := [(2, .int 0), (0, .ref (q 5)), (1, .int v1)]) hx hb dX6_greatestLate_1 rfl hl (by decide) rfl (fun ls hl => ?_)
  refine lv_iconst (v := 0) hx hb dX6_greatestLate_2 (by decide) ?_
  refine lv_istore_n (lv' := [(3, .int 0), (2, .int 0), (0, .ref (q 5)), (1, .int v1)]) hx hb dX6_greatestLate_3 rfl hl (by decide) rfl (fun ls hl => ?_)
  exact zt_X6_greatestLate_4 C hr zz_N _ _ _ _ _ _ _ _ hf hP hS (lv_sub hl [2, 3, 1, 0] rfl)
