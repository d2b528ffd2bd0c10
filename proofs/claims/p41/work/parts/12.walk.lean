/-! X0_seenOf PR -/
theorem zd_X0_seenOf : yX0_seenOf.cls = RX0 ∧ yX0_seenOf.cls ≠ "java/lang/invoke/MethodHandle" ∧ yX0_seenOf.cls ≠ "java/lang/invoke/VarHandle" ∧ (parseMethodDescriptor yX0_seenOf.desc).map (fun d => d.parameters.length) = some 2 := by decide +kernel
abbrev zr_X0_seenOf : Room := { frames := 1, cells := 0, slots := 0, locals := 24 }
theorem zk_X0_seenOf_23 : Cond.fieldLink yX0_seenOf.cls 23 RX0 "came" "LThirteenthDay$Table;" ∈ wsX0_seenOf := by decide +kernel
theorem zi_X0_seenOf_X0 : ∀ w ∈ u_ws RX0 TX0 4, w ∈ wsX0_seenOf := by decide +kernel
def zX0_seenOf_5 : Nat → Int32 → Int32 → Int32 → Int32 → zz_T → Option Int32
  | 0, _, _, _, _, _ => none
  | n + 1, v1, v2, v3, v4, st =>
    if (v2 - 2) < v4 then
      some v3
    else
      zz_v (v3 + (zz_g 22 v1 v4 st)) fun w1 =>
      zX0_seenOf_5 n v1 v2 w1 (v4 + 1) st
set_option maxHeartbeats 4000000 in
set_option maxRecDepth 100000 in
theorem zt_X0_seenOf_5 {l : Launch} {A : Nat → Prop} {D : va_G} {cI : ClassId} {q : Nat → Nat} {p : Program} {e : Env} {s : State} {m : MethodId} {args : Array Value} {below : List Frame} {meth : Method} {c : Code} (C : zz_C A D cI q p s m args meth c cX0_seenOf 5 wsX0_seenOf yX0_seenOf.cls) (hr : meth.sig.returnType = some .int) : ∀ (n : Nat) (v1 : Int32) (v2 : Int32) (v3 : Int32) (v4 : Int32) (st : zz_T) (H : Heap) (locs : List Loc) (ls : Array Slot) (r : Int32), zX0_seenOf_5 n v1 v2 v3 v4 st = some r → va_P D vwCl (zz_c q cI st) H → va_S A s.heap H locs → lv_has ls 5 [(0, .ref (q 8)), (1, .int v1), (2, .int v2), (3, .int v3), (4, .int v4)] → W p l e zr_X0_seenOf s m args below meth c H locs 0 0 (zz_Qi A D cI q r st below args s) (F0 m 5 ls []) := by
  obtain ⟨hx, hb, hml, hown, hts⟩ := id C.1
  intro n
  induction n with
  | zero => intro v1 v2 v3 v4 st H locs ls r hf; cases hf
  | succ n ih =>
    intro v1 v2 v3 v4 st H locs ls r hf hP hS hl
    rw [zX0_seenOf_5] at hf
    refine lv_iload hx hb dX0_seenOf_5 (lv_at hl 4 rfl) ?_
    refine lv_iload_n hx hb dX0_seenOf_7 rfl (lv_at hl 2 rfl) ?_
    refine lv_iconst (v := 2) hx hb dX0_seenOf_8 (by decide) ?_
    refine lv_isub hx hb dX0_seenOf_9 ?_
    refine lv_icmp_gt (tgt := 32) hx hb dX0_seenOf_10 (by decide) (fun h => ?_) (fun h => ?_)
    · rw [if_pos h] at hf
      refine lv_iload_n hx hb dX0_seenOf_32 rfl (lv_at hl 3 rfl) ?_
      rw [← (Option.some.inj hf)]
      exact zz_reti C hr hP hS dX0_seenOf_33
    · rw [if_neg h] at hf
      refine lv_iload_n hx hb dX0_seenOf_13 rfl (lv_at hl 3 rfl) ?_
      refine lv_aload_n hx hb dX0_seenOf_14 rfl (lv_at hl 0 rfl) ?_
      refine zz_getf C zi_X0_seenOf_X0 hP 8 rfl rfl 2 (nm := "came") (ds := "LThirteenthDay$Table;") (fin := true) rfl (by decide) zk_X0_seenOf_23 rfl dX0_seenOf_15 ?_
      refine lv_iload_n hx hb dX0_seenOf_18 rfl (lv_at hl 1 rfl) ?_
      refine lv_iload hx hb dX0_seenOf_19 (lv_at hl 4 rfl) ?_
      refine zz_callVi C (As := [.int v1, .int v4]) (rest := [.int v3]) (zc_X5_get 22 (by decide) _ _ _) (cwV 2 hts gX0_seenOf_X5_get rfl rfl rfl zd_X5_get ⟨Nat.le_of_ble_eq_true rfl, Nat.le_of_ble_eq_true rfl⟩) hP hS (9 + 22) (zz_c_tab (by decide)) rfl rfl hl rfl (Nat.le_of_ble_eq_true rfl) dX0_seenOf_21 ⟨Nat.zero_le _, Nat.zero_le _⟩ (fun H locs hP hS => ?_)
      refine lv_iadd hx hb dX0_seenOf_24 ?_
      refine lv_topi (fun w1 e1 => ?_)
      replace hf := zz_vi hf e1
      refine lv_istore_n (lv' := [(3, .int w1), (0, .ref (q 8)), (1, .int v1), (2, .int v2), (4, .int v4)]) hx hb dX0_seenOf_25 rfl hl (by decide) rfl (fun ls hl => ?_)
      refine lv_iinc (v := (v4 + 1)) (lv' := [(4, .int (v4 + 1)), (3, .int w1), (0, .ref (q 8)), (1, .int v1), (2, .int v2)]) hx hb dX0_seenOf_26 hl (k := 4) rfl (congrArg (fun z => v4 + z) (by decide)) (by decide) rfl (fun ls hl => ?_)
      refine lv_goto (tgt := 5) hx hb dX0_seenOf_29 (by decide) ?_
      exact ih _ _ _ _ _ _ _ _ _ hf hP hS (lv_sub hl [2, 3, 4, 1, 0] rfl)
def zX0_seenOf (v1 : Int32) (v2 : Int32) (st : zz_T) : Option Int32 :=
  zX0_seenOf_5 zz_N v1 v2 0 0 st
set_option maxHeartbeats 4000000 in
set_option maxRecDepth 100000 in
theorem zc_X0_seenOf {l : Launch} {A : Nat → Prop} {D : va_G} {cI : ClassId} {q : Nat → Nat} (v1 : Int32) (v2 : Int32) (st : zz_T) (r : Int32) (hf : zX0_seenOf v1 v2 st = some r) : zz_Mi l A D cI q yX0_seenOf wsX0_seenOf zr_X0_seenOf [.ref (q 8), .int v1, .int v2] st r st := by
  refine zz_of (cc := cX0_seenOf) (nL := 5) (ret := some .int) (by decide) rfl (Nat.le_of_ble_eq_true rfl) ?_
  intro p e s m args below meth c ls C hr hP hS hl
  obtain ⟨hx, hb, hml, hown, hts⟩ := id C.1
  have hl : lv_has ls 5 [(0, .ref (q 8)), (1, .int v1), (2, .int v2)] := hl
  rw [zX0_seenOf] at hf
  skip
  refine lv_iconst (v := 0) hx hb dX0_seenOf_0 (by decide) ?_
  refine lv_istore_n (lv' := [(3, .int 0), (0, .ref (q 8)), (1, .int v1), (2, .int v2)]) hx hb dX0_seenOf_1 rfl hl (by decide) rfl (fun ls hl => ?_)
  refine lv_iconst (v := 0) hx hb dX0_seenOf_2 (by decide) ?_
  refine lv_istore (lv' := [(4, .int 0), (3, .int 0), (0, .ref (q 8)), (1, .int v1), (2, .int v2)]) hx hb dX0_seenOf_3 hl (by decide) rfl (fun ls hl => ?_)
  exact zt_X0_seenOf_5 C hr zz_N _ _ _ _ _ _ _ _ _ hf hP hS (lv_sub hl [2, 3, 4, 1, 0] rfl)
/-! X7_countLoadsAt PR -/
theorem zd_X7_countLoadsAt : yX7_countLoadsAt.cls = RX7 ∧ yX7_countLoadsAt.cls ≠ "java/lang/invoke/MethodHandle" ∧ yX7_countLoadsAt.cls ≠ "java/lang/invoke/VarHandle" ∧ (parseMethodDescriptor yX7_countLoadsAt.desc).map (fun d => d.parameters.length) = some 2 := by decide +kernel
abbrev zr_X7_countLoadsAt : Room := { frames := 1, cells := 0, slots := 0, locals := 24 }
theorem zk_X7_countLoadsAt_16 : Cond.fieldLink yX7_countLoadsAt.cls 16 RX7 "units" "LThirteenthDay$Table;" ∈ wsX7_countLoadsAt := by decide +kernel
theorem zk_X7_countLoadsAt_20 : Cond.fieldLink yX7_countLoadsAt.cls 20 RX7 "loads" "LThirteenthDay$Table;" ∈ wsX7_countLoadsAt := by decide +kernel
theorem zi_X7_countLoadsAt_X7 : ∀ w ∈ u_ws RX7 TX7 3, w ∈ wsX7_countLoadsAt := by decide +kernel
def zX7_countLoadsAt_59 (k5 : Int32 → Int32 → Int32 → Int32 → zz_T → Option Int32) (v1 : Int32) (v2 : Int32) (v3 : Int32) (v4 : Int32) (st : zz_T) : Option Int32 :=
  zz_v (v3 + 0) fun w2 =>
  k5 v1 v2 w2 (v4 + 1) st
set_option maxHeartbeats 4000000 in
set_option maxRecDepth 100000 in
theorem zt_X7_countLoadsAt_59 {l : Launch} {A : Nat → Prop} {D : va_G} {cI : ClassId} {q : Nat → Nat} {p : Program} {e : Env} {s : State} {m : MethodId} {args : Array Value} {below : List Frame} {meth : Method} {c : Code} (C : zz_C A D cI q p s m args meth c cX7_countLoadsAt 7 wsX7_countLoadsAt yX7_countLoadsAt.cls) (hr : meth.sig.returnType = some .int) (k5 : Int32 → Int32 → Int32 → Int32 → zz_T → Option Int32) (hk5 : ∀ (v1 : Int32) (v2 : Int32) (v3 : Int32) (v4 : Int32) (st : zz_T) (H : Heap) (locs : List Loc) (ls : Array Slot) (r : Int32), k5 v1 v2 v3 v4 st = some r → va_P D vwCl (zz_c q cI st) H → va_S A s.heap H locs → lv_has ls 7 [(0, .ref (q 2)), (1, .int v1), (2, .int v2), (3, .int v3), (4, .int v4)] → W p l e zr_X7_countLoadsAt s m args below meth c H locs 0 0 (zz_Qi A D cI q r st below args s) (F0 m 5 ls [])) : ∀ (v1 : Int32) (v2 : Int32) (v3 : Int32) (v4 : Int32) (st : zz_T) (H : Heap) (locs : List Loc) (ls : Array Slot) (r : Int32), zX7_countLoadsAt_59 k5 v1 v2 v3 v4 st = some r → va_P D vwCl (zz_c q cI st) H → va_S A s.heap H locs → lv_has ls 7 [(0, .ref (q 2)), (1, .int v1), (2, .int v2), (3, .int v3), (4, .int v4)] → W p l e zr_X7_countLoadsAt s m args below meth c H locs 0 0 (zz_Qi A D cI q r st below args s) (F0 m 59 ls []) := by
  obtain ⟨hx, hb, hml, hown, hts⟩ := id C.1
  intro v1 v2 v3 v4 st H locs ls r hf hP hS hl
  rw [zX7_countLoadsAt_59] at hf
  refine lv_iconst (v := 0) hx hb dX7_countLoadsAt_59 (by decide) ?_
  refine lv_istore (lv' := [(6, .int 0), (0, .ref (q 2)), (1, .int v1), (2, .int v2), (3, .int v3), (4, .int v4)]) hx hb dX7_countLoadsAt_60 hl (by decide) rfl (fun ls hl => ?_)
  refine lv_iload_n hx hb dX7_countLoadsAt_62 rfl (lv_at hl 4 rfl) ?_
  refine lv_iload hx hb dX7_countLoadsAt_63 (lv_at hl 0 rfl) ?_
  refine lv_if_eq (tgt := 72) hx hb dX7_countLoadsAt_65 (by decide) (fun _ => ?_) (fun h => absurd (by decide) h)
  refine lv_iconst (v := 0) hx hb dX7_countLoadsAt_72 (by decide) ?_
  refine lv_iadd hx hb dX7_countLoadsAt_73 ?_
  refine lv_topi (fun w2 e2 => ?_)
  replace hf := zz_vi hf e2
  refine lv_istore_n (lv' := [(3, .int w2), (6, .int 0), (0, .ref (q 2)), (1, .int v1), (2, .int v2), (4, .int v4)]) hx hb dX7_countLoadsAt_74 rfl hl (by decide) rfl (fun ls hl => ?_)
  refine lv_iinc (v := (v4 + 1)) (lv' := [(4, .int (v4 + 1)), (3, .int w2), (6, .int 0), (0, .ref (q 2)), (1, .int v1), (2, .int v2)]) hx hb dX7_countLoadsAt_75 hl (k := 5) rfl (congrArg (fun z => v4 + z) (by decide)) (by decide) rfl (fun ls hl => ?_)
  refine lv_goto (tgt := 5) hx hb dX7_countLoadsAt_78 (by decide) ?_
  exact hk5 _ _ _ _ _ _ _ _ _ hf hP hS (lv_sub hl [3, 4, 5, 1, 0] rfl)
def zX7_countLoadsAt_5 : Nat → Int32 → Int32 → Int32 → Int32 → zz_T → Option Int32
  | 0, _, _, _, _, _ => none
  | n + 1, v1, v2, v3, v4, st =>
    if (zz_g 4 v1 1 st) ≤ v4 then
      some v3
    else
      zz_v (zX2_slotOf v1 v4 st) fun w1 =>
      if (zz_g 5 w1 0 st) = 2 then
        if (zz_g 5 w1 1 st) = v2 then
          zz_v (v3 + 1) fun w3 =>
          zX7_countLoadsAt_5 n v1 v2 w3 (v4 + 1) st
        else
          zX7_countLoadsAt_59 (fun v1' v2' v3' v4' st' => zX7_countLoadsAt_5 n v1' v2' v3' v4' st') v1 v2 v3 v4 st
      else
        zX7_countLoadsAt_59 (fun v1' v2' v3' v4' st' => zX7_countLoadsAt_5 n v1' v2' v3' v4' st') v1 v2 v3 v4 st
set_option maxHeartbeats 4000000 in
set_option maxRecDepth 100000 in
theorem zt_X7_countLoadsAt_5 {l : Launch} {A : Nat → Prop} {D : va_G} {cI : ClassId} {q : Nat → Nat} {p : Program} {e : Env} {s : State} {m : MethodId} {args : Array Value} {below : List Frame} {meth : Method} {c : Code} (C : zz_C A D cI q p s m args meth c cX7_countLoadsAt 7 wsX7_countLoadsAt yX7_countLoadsAt.cls) (hr : meth.sig.returnType = some .int) : ∀ (n : Nat) (v1 : Int32) (v2 : Int32) (v3 : Int32) (v4 : Int32) (st : zz_T) (H : Heap) (locs : List Loc) (ls : Array Slot) (r : Int32), zX7_countLoadsAt_5 n v1 v2 v3 v4 st = some r → va_P D vwCl (zz_c q cI st) H → va_S A s.heap H locs → lv_has ls 7 [(0, .ref (q 2)), (1, .int v1), (2, .int v2), (3, .int v3), (4, .int v4)] → W p l e zr_X7_countLoadsAt s m args below meth c H locs 0 0 (zz_Qi A D cI q r st below args s) (F0 m 5 ls []) := by
  obtain ⟨hx, hb, hml, hown, hts⟩ := id C.1
  intro n
  induction n with
  | zero => intro v1 v2 v3 v4 st H locs ls r hf; cases hf
  | succ n ih =>
    intro v1 v2 v3 v4 st H locs ls r hf hP hS hl
    rw [zX7_countLoadsAt_5] at hf
    refine lv_iload hx hb dX7_countLoadsAt_5 (lv_at hl 4 rfl) ?_
    refine lv_aload_n hx hb dX7_countLoadsAt_7 rfl (lv_at hl 0 rfl) ?_
    refine zz_getf C zi_X7_countLoadsAt_X7 hP 2 rfl rfl 0 (nm := "units") (ds := "LThirteenthDay$Table;") (fin := true) rfl (by decide) zk_X7_countLoadsAt_16 rfl dX7_countLoadsAt_8 ?_
    refine lv_iload_n hx hb dX7_countLoadsAt_11 rfl (lv_at hl 1 rfl) ?_
    refine lv_iconst (v := 1) hx hb dX7_countLoadsAt_12 (by decide) ?_
    refine zz_callVi C (As := [.int v1, .int 1]) (rest := [.int v4]) (zc_X5_get 4 (by decide) _ _ _) (cwV 2 hts gX7_countLoadsAt_X5_get rfl rfl rfl zd_X5_get ⟨Nat.le_of_ble_eq_true rfl, Nat.le_of_ble_eq_true rfl⟩) hP hS (9 + 4) (zz_c_tab (by decide)) rfl rfl hl rfl (Nat.le_of_ble_eq_true rfl) dX7_countLoadsAt_13 ⟨Nat.zero_le _, Nat.zero_le _⟩ (fun H locs hP hS => ?_)
    refine lv_icmp_ge (tgt := 81) hx hb dX7_countLoadsAt_16 (by decide) (fun h => ?_) (fun h => ?_)
    · rw [if_pos h] at hf
      refine lv_iload_n hx hb dX7_countLoadsAt_81 rfl (lv_at hl 3 rfl) ?_
      rw [← (Option.some.inj hf)]
      exact zz_reti C hr hP hS dX7_countLoadsAt_82
    · rw [if_neg h] at hf
      refine lv_iload_n hx hb dX7_countLoadsAt_19 rfl (lv_at hl 1 rfl) ?_
      refine lv_iload hx hb dX7_countLoadsAt_20 (lv_at hl 4 rfl) ?_
      refine zz_callSi C (As := [.int v1, .int v4]) (rest := []) (zc_X2_slotOf _ _ _) (va_cwS 2 hts gX7_countLoadsAt_X2_slotOf rfl rfl rfl zd_X2_slotOf.2 ⟨Nat.le_of_ble_eq_true rfl, Nat.le_of_ble_eq_true rfl⟩) hP hS rfl hl rfl (Nat.le_of_ble_eq_true rfl) dX7_countLoadsAt_22 ⟨Nat.zero_le _, Nat.zero_le _⟩ (fun H locs hP hS => ?_)
      refine lv_topi (fun w1 e1 => ?_)
      replace hf := zz_vi hf e1
      refine lv_istore (lv' := [(5, .int w1), (0, .ref (q 2)), (1, .int v1), (2, .int v2), (3, .int v3), (4, .int v4)]) hx hb dX7_countLoadsAt_25 hl (by decide) rfl (fun ls hl => ?_)
      refine lv_aload_n hx hb dX7_countLoadsAt_27 rfl (lv_at hl 1 rfl) ?_
      refine zz_getf C zi_X7_countLoadsAt_X7 hP 2 rfl rfl 1 (nm := "loads") (ds := "LThirteenthDay$Table;") (fin := true) rfl (by decide) zk_X7_countLoadsAt_20 rfl dX7_countLoadsAt_28 ?_
      refine lv_iload hx hb dX7_countLoadsAt_31 (lv_at hl 0 rfl) ?_
      refine lv_iconst (v := 0) hx hb dX7_countLoadsAt_33 (by decide) ?_
      refine zz_callVi C (As := [.int w1, .int 0]) (rest := []) (zc_X5_get 5 (by decide) _ _ _) (cwV 2 hts gX7_countLoadsAt_X5_get rfl rfl rfl zd_X5_get ⟨Nat.le_of_ble_eq_true rfl, Nat.le_of_ble_eq_true rfl⟩) hP hS (9 + 5) (zz_c_tab (by decide)) rfl rfl hl rfl (Nat.le_of_ble_eq_true rfl) dX7_countLoadsAt_34 ⟨Nat.zero_le _, Nat.zero_le _⟩ (fun H locs hP hS => ?_)
      refine lv_iconst (v := 2) hx hb dX7_countLoadsAt_37 (by decide) ?_
      refine lv_icmp_ne (tgt := 59) hx hb dX7_countLoadsAt_38 (by decide) (fun h => ?_) (fun h => ?_)
      · rw [if_neg h] at hf
        exact zt_X7_countLoadsAt_59 C hr _ ih _ _ _ _ _ _ _ _ _ hf hP hS (lv_sub hl [1, 2, 3, 4, 5] rfl)
      · rw [if_pos h] at hf
        refine lv_aload_n hx hb dX7_countLoadsAt_41 rfl (lv_at hl 1 rfl) ?_
        refine zz_getf C zi_X7_countLoadsAt_X7 hP 2 rfl rfl 1 (nm := "loads") (ds := "LThirteenthDay$Table;") (fin := true) rfl (by decide) zk_X7_countLoadsAt_20 rfl dX7_countLoadsAt_42 ?_
        refine lv_iload hx hb dX7_countLoadsAt_45 (lv_at hl 0 rfl) ?_
        refine lv_iconst (v := 1) hx hb dX7_countLoadsAt_47 (by decide) ?_
        refine zz_callVi C (As := [.int w1, .int 1]) (rest := []) (zc_X5_get 5 (by decide) _ _ _) (cwV 2 hts gX7_countLoadsAt_X5_get rfl rfl rfl zd_X5_get ⟨Nat.le_of_ble_eq_true rfl, Nat.le_of_ble_eq_true rfl⟩) hP hS (9 + 5) (zz_c_tab (by decide)) rfl rfl hl rfl (Nat.le_of_ble_eq_true rfl) dX7_countLoadsAt_48 ⟨Nat.zero_le _, Nat.zero_le _⟩ (fun H locs hP hS => ?_)
        refine lv_iload_n hx hb dX7_countLoadsAt_51 rfl (lv_at hl 3 rfl) ?_
        refine lv_icmp_ne (tgt := 59) hx hb dX7_countLoadsAt_52 (by decide) (fun h => ?_) (fun h => ?_)
        · rw [if_neg h] at hf
          exact zt_X7_countLoadsAt_59 C hr _ ih _ _ _ _ _ _ _ _ _ hf hP hS (lv_sub hl [1, 2, 3, 4, 5] rfl)
        · rw [if_pos h] at hf
          refine lv_iconst (v := 1) hx hb dX7_countLoadsAt_55 (by decide) ?_
          refine lv_goto (tgt := 60) hx hb dX7_countLoadsAt_56 (by decide) ?_
          refine lv_istore (lv' := [(6, .int 1), (5, .int w1), (0, .ref (q 2)), (1, .int v1), (2, .int v2), (3, .int v3), (4, .int v4)]) hx hb dX7_countLoadsAt_60 hl (by decide) rfl (fun ls hl => ?_)
          refine lv_iload_n hx hb dX7_countLoadsAt_62 rfl (lv_at hl 5 rfl) ?_
          refine lv_iload hx hb dX7_countLoadsAt_63 (lv_at hl 0 rfl) ?_
          refine lv_if_eq (tgt := 72) hx hb dX7_countLoadsAt_65 (by decide) (fun h => absurd h (by decide)) (fun _ => ?_)
          refine lv_iconst (v := 1) hx hb dX7_countLoadsAt_68 (by decide) ?_
          refine lv_goto (tgt := 73) hx hb dX7_countLoadsAt_69 (by decide) ?_
          refine lv_iadd hx hb dX7_countLoadsAt_73 ?_
          refine lv_topi (fun w3 e3 => ?_)
          replace hf := zz_vi hf e3
          refine lv_istore_n (lv' := [(3, .int w3), (6, .int 1), (5, .int w1), (0, .ref (q 2)), (1, .int v1), (2, .int v2), (4, .int v4)]) hx hb dX7_countLoadsAt_74 rfl hl (by decide) rfl (fun ls hl => ?_)
          refine lv_iinc (v := (v4 + 1)) (lv' := [(4, .int (v4 + 1)), (3, .int w3), (6, .int 1), (5, .int w1), (0, .ref (q 2)), (1, .int v1), (2, .int v2)]) hx hb dX7_countLoadsAt_75 hl (k := 6) rfl (congrArg (fun z => v4 + z) (by decide)) (by decide) rfl (fun ls hl => ?_)
          refine lv_goto (tgt := 5) hx hb dX7_countLoadsAt_78 (by decide) ?_
          exact ih _ _ _ _ _ _ _ _ _ hf hP hS (lv_sub hl [4, 5, 6, 1, 0] rfl)
def zX7_countLoadsAt (v1 : Int32) (v2 : Int32) (st : zz_T) : Option Int32 :=
  zX7_countLoadsAt_5 zz_N v1 v2 0 0 st
set_option maxHeartbeats 4000000 in
set_option maxRecDepth 100000 in
theorem zc_X7_countLoadsAt {l : Launch} {A : Nat → Prop} {D : va_G} {cI : ClassId} {q : Nat → Nat} (v1 : Int32) (v2 : Int32) (st : zz_T) (r : Int32) (hf : zX7_countLoadsAt v1 v2 st = some r) : zz_Mi l A D cI q yX7_countLoadsAt wsX7_countLoadsAt zr_X7_countLoadsAt [.ref (q 2), .int v1, .int v2] st r st := by
  refine zz_of (cc := cX7_countLoadsAt) (nL := 7) (ret := some .int) (by decide) rfl (Nat.le_of_ble_eq_true rfl) ?_
  intro p e s m args below meth c ls C hr hP hS hl
  obtain ⟨hx, hb, hml, hown, hts⟩ := id C.1
  have hl : lv_has ls 7 [(0, .ref (q 2)), (1, .int v1), (2, .int v2)] := hl
  rw [zX7_countLoadsAt] at hf
  skip
  refine lv_iconst (v := 0) hx hb dX7_countLoadsAt_0 (by decide) ?_
  refine lv_istore_n (lv' := [(3, .int 0), (0, .ref (q 2)), (1, .int v1), (2, .int v2)]) hx hb dX7_countLoadsAt_1 rfl hl (by decide) rfl (fun ls hl => ?_)
  refine lv_iconst (v := 0) hx hb dX7_countLoadsAt_2 (by decide) ?_
  refine lv_istore (lv' := [(4, .int 0), (3, .int 0), (0, .ref (q 2)), (1, .int v1), (2, .int v2)]) hx hb dX7_countLoadsAt_3 hl (by decide) rfl (fun ls hl => ?_)
  exact zt_X7_countLoadsAt_5 C hr zz_N _ _ _ _ _ _ _ _ _ hf hP hS (lv_sub hl [2, 3, 4, 1, 0] rfl)
/-! X7_countAt PR -/
theorem zd_X7_countAt : yX7_countAt.cls = RX7 ∧ yX7_countAt.cls ≠ "java/lang/invoke/MethodHandle" ∧ yX7_countAt.cls ≠ "java/lang/invoke/VarHandle" ∧ (parseMethodDescriptor yX7_countAt.desc).map (fun d => d.parameters.length) = some 2 := by decide +kernel
abbrev zr_X7_countAt : Room := { frames := 2, cells := 0, slots := 0, locals := 50 }
theorem zk_X7_countAt_23 : Cond.fieldLink yX7_countAt.cls 23 RX7 "unitCount" "I" ∈ wsX7_countAt := by decide +kernel
theorem zk_X7_countAt_16 : Cond.fieldLink yX7_countAt.cls 16 RX7 "units" "LThirteenthDay$Table;" ∈ wsX7_countAt := by decide +kernel
theorem zi_X7_countAt_X7 : ∀ w ∈ u_ws RX7 TX7 3, w ∈ wsX7_countAt := by decide +kernel
def zX7_countAt_5 : Nat → Int32 → Bool → Int32 → Int32 → zz_T → Option Int32
  | 0, _, _, _, _, _ => none
  | n + 1, v1, v2, v3, v4, st =>
    if (st.2 4) ≤ v4 then
      some v3
    else
      if v2 = true then
        if (zz_g 4 v4 0 st) = 4 then
          (zX7_countLoadsAt v4 v1 st).bind fun x4 =>
          zz_v (v3 + x4) fun w6 =>
          zX7_countAt_5 n v1 v2 w6 (v4 + 1) st
        else
          zX7_countAt_5 n v1 v2 v3 (v4 + 1) st
      else
        (zX7_countLoadsAt v4 v1 st).bind fun x1 =>
        zz_v (v3 + x1) fun w3 =>
        zX7_countAt_5 n v1 v2 w3 (v4 + 1) st
set_option maxHeartbeats 4000000 in
set_option maxRecDepth 100000 in
theorem zt_X7_countAt_5 {l : Launch} {A : Nat → Prop} {D : va_G} {cI : ClassId} {q : Nat → Nat} {p : Program} {e : Env} {s : State} {m : MethodId} {args : Array Value} {below : List Frame} {meth : Method} {c : Code} (C : zz_C A D cI q p s m args meth c cX7_countAt 5 wsX7_countAt yX7_countAt.cls) (hr : meth.sig.returnType = some .int) : ∀ (n : Nat) (v1 : Int32) (v2 : Bool) (v3 : Int32) (v4 : Int32) (st : zz_T) (H : Heap) (locs : List Loc) (ls : Array Slot) (r : Int32), zX7_countAt_5 n v1 v2 v3 v4 st = some r → va_P D vwCl (zz_c q cI st) H → va_S A s.heap H locs → lv_has ls 5 [(0, .ref (q 2)), (1, .int v1), (2, .int (zz_b v2)), (3, .int v3), (4, .int v4)] → W p l e zr_X7_countAt s m args below meth c H locs 0 0 (zz_Qi A D cI q r st below args s) (F0 m 5 ls []) := by
  obtain ⟨hx, hb, hml, hown, hts⟩ := id C.1
  intro n
  induction n with
  | zero => intro v1 v2 v3 v4 st H locs ls r hf; cases hf
  | succ n ih =>
    intro v1 v2 v3 v4 st H locs ls r hf hP hS hl
    rw [zX7_countAt_5] at hf
    refine lv_iload hx hb dX7_countAt_5 (lv_at hl 4 rfl) ?_
    refine lv_aload_n hx hb dX7_countAt_7 rfl (lv_at hl 0 rfl) ?_
    refine zz_getf C zi_X7_countAt_X7 hP 2 rfl rfl 2 (nm := "unitCount") (ds := "I") (fin := false) rfl (by decide) zk_X7_countAt_23 rfl dX7_countAt_8 ?_
    refine lv_icmp_ge (tgt := 48) hx hb dX7_countAt_11 (by decide) (fun h => ?_) (fun h => ?_)
    · rw [if_pos h] at hf
      refine lv_iload_n hx hb dX7_countAt_48 rfl (lv_at hl 3 rfl) ?_
      rw [← (Option.some.inj hf)]
      exact zz_reti C hr hP hS dX7_countAt_49
    · rw [if_neg h] at hf
      refine lv_iload_n hx hb dX7_countAt_14 rfl (lv_at hl 2 rfl) ?_
      refine lv_if_eq (tgt := 32) hx hb dX7_countAt_15 (by decide) (fun h => ?_) (fun h => ?_)
      · rw [zz_if0 (zz_b0 h)] at hf
        refine lv_iload_n hx hb dX7_countAt_32 rfl (lv_at hl 3 rfl) ?_
        refine lv_aload_n hx hb dX7_countAt_33 rfl (lv_at hl 0 rfl) ?_
        refine lv_iload hx hb dX7_countAt_34 (lv_at hl 4 rfl) ?_
        refine lv_iload_n hx hb dX7_countAt_36 rfl (lv_at hl 1 rfl) ?_
        obtain ⟨x1, e2, hf⟩ := zz_bo hf
        refine zz_callVi C (As := [.int v4, .int v1]) (rest := [.int v3]) (zc_X7_countLoadsAt _ _ _ _ e2) (cwV 2 hts gX7_countAt_X7_countLoadsAt rfl rfl rfl zd_X7_countLoadsAt ⟨Nat.le_of_ble_eq_true rfl, Nat.le_of_ble_eq_true rfl⟩) hP hS 2 rfl rfl rfl hl rfl (Nat.le_of_ble_eq_true rfl) dX7_countAt_37 ⟨Nat.zero_le _, Nat.zero_le _⟩ (fun H locs hP hS => ?_)
        refine lv_iadd hx hb dX7_countAt_40 ?_
        refine lv_topi (fun w3 e3 => ?_)
        replace hf := zz_vi hf e3
        refine lv_istore_n (lv' := [(3, .int w3), (0, .ref (q 2)), (1, .int v1), (2, .int (zz_b v2)), (4, .int v4)]) hx hb dX7_countAt_41 rfl hl (by decide) rfl (fun ls hl => ?_)
        refine lv_iinc (v := (v4 + 1)) (lv' := [(4, .int (v4 + 1)), (3, .int w3), (0, .ref (q 2)), (1, .int v1), (2, .int (zz_b v2))]) hx hb dX7_countAt_42 hl (k := 4) rfl (congrArg (fun z => v4 + z) (by decide)) (by decide) rfl (fun ls hl => ?_)
        refine lv_goto (tgt := 5) hx hb dX7_countAt_45 (by decide) ?_
        exact ih _ _ _ _ _ _ _ _ _ hf hP hS (lv_sub hl [2, 3, 4, 1, 0] rfl)
      · rw [zz_if1 (zz_b1 h)] at hf
        refine lv_aload_n hx hb dX7_countAt_18 rfl (lv_at hl 0 rfl) ?_
        refine zz_getf C zi_X7_countAt_X7 hP 2 rfl rfl 0 (nm := "units") (ds := "LThirteenthDay$Table;") (fin := true) rfl (by decide) zk_X7_countAt_16 rfl dX7_countAt_19 ?_
        refine lv_iload hx hb dX7_countAt_22 (lv_at hl 4 rfl) ?_
        refine lv_iconst (v := 0) hx hb dX7_countAt_24 (by decide) ?_
        refine zz_callVi C (As := [.int v4, .int 0]) (rest := []) (zc_X5_get 4 (by decide) _ _ _) (cwV 2 hts gX7_countAt_X5_get rfl rfl rfl zd_X5_get ⟨Nat.le_of_ble_eq_true rfl, Nat.le_of_ble_eq_true rfl⟩) hP hS (9 + 4) (zz_c_tab (by decide)) rfl rfl hl rfl (Nat.le_of_ble_eq_true rfl) dX7_countAt_25 ⟨Nat.zero_le _, Nat.zero_le _⟩ (fun H locs hP hS => ?_)
        refine lv_iconst (v := 4) hx hb dX7_countAt_28 (by decide) ?_
        refine lv_icmp_ne (tgt := 42) hx hb dX7_countAt_29 (by decide) (fun h => ?_) (fun h => ?_)
        · rw [if_neg h] at hf
          refine lv_iinc (v := (v4 + 1)) (lv' := [(4, .int (v4 + 1)), (0, .ref (q 2)), (1, .int v1), (2, .int (zz_b v2)), (3, .int v3)]) hx hb dX7_countAt_42 hl (k := 4) rfl (congrArg (fun z => v4 + z) (by decide)) (by decide) rfl (fun ls hl => ?_)
          refine lv_goto (tgt := 5) hx hb dX7_countAt_45 (by decide) ?_
          exact ih _ _ _ _ _ _ _ _ _ hf hP hS (lv_sub hl [1, 2, 3, 4, 0] rfl)
        · rw [if_pos h] at hf
          refine lv_iload_n hx hb dX7_countAt_32 rfl (lv_at hl 3 rfl) ?_
          refine lv_aload_n hx hb dX7_countAt_33 rfl (lv_at hl 0 rfl) ?_
          refine lv_iload hx hb dX7_countAt_34 (lv_at hl 4 rfl) ?_
          refine lv_iload_n hx hb dX7_countAt_36 rfl (lv_at hl 1 rfl) ?_
          obtain ⟨x4, e5, hf⟩ := zz_bo hf
          refine zz_callVi C (As := [.int v4, .int v1]) (rest := [.int v3]) (zc_X7_countLoadsAt _ _ _ _ e5) (cwV 2 hts gX7_countAt_X7_countLoadsAt rfl rfl rfl zd_X7_countLoadsAt ⟨Nat.le_of_ble_eq_true rfl, Nat.le_of_ble_eq_true rfl⟩) hP hS 2 rfl rfl rfl hl rfl (Nat.le_of_ble_eq_true rfl) dX7_countAt_37 ⟨Nat.zero_le _, Nat.zero_le _⟩ (fun H locs hP hS => ?_)
          refine lv_iadd hx hb dX7_countAt_40 ?_
          refine lv_topi (fun w6 e6 => ?_)
          replace hf := zz_vi hf e6
          refine lv_istore_n (lv' := [(3, .int w6), (0, .ref (q 2)), (1, .int v1), (2, .int (zz_b v2)), (4, .int v4)]) hx hb dX7_countAt_41 rfl hl (by decide) rfl (fun ls hl => ?_)
          refine lv_iinc (v := (v4 + 1)) (lv' := [(4, .int (v4 + 1)), (3, .int w6), (0, .ref (q 2)), (1, .int v1), (2, .int (zz_b v2))]) hx hb dX7_countAt_42 hl (k := 4) rfl (congrArg (fun z => v4 + z) (by decide)) (by decide) rfl (fun ls hl => ?_)
          refine lv_goto (tgt := 5) hx hb dX7_countAt_45 (by decide) ?_
          exact ih _ _ _ _ _ _ _ _ _ hf hP hS (lv_sub hl [2, 3, 4, 1, 0] rfl)
def zX7_countAt (v1 : Int32) (v2 : Bool) (st : zz_T) : Option Int32 :=
  zX7_countAt_5 zz_N v1 v2 0 0 st
set_option maxHeartbeats 4000000 in
set_option maxRecDepth 100000 in
theorem zc_X7_countAt {l : Launch} {A : Nat → Prop} {D : va_G} {cI : ClassId} {q : Nat → Nat} (v1 : Int32) (v2 : Bool) (st : zz_T) (r : Int32) (hf : zX7_countAt v1 v2 st = some r) : zz_Mi l A D cI q yX7_countAt wsX7_countAt zr_X7_countAt [.ref (q 2), .int v1, .int (zz_b v2)] st r st := by
  refine zz_of (cc := cX7_countAt) (nL := 5) (ret := some .int) (by decide) rfl (Nat.le_of_ble_eq_true rfl) ?_
  intro p e s m args below meth c ls C hr hP hS hl
  obtain ⟨hx, hb, hml, hown, hts⟩ := id C.1
  have hl : lv_has ls 5 [(0, .ref (q 2)), (1, .int v1), (2, .int (zz_b v2))] := hl
  rw [zX7_countAt] at hf
  skip
  refine lv_iconst (v := 0) hx hb dX7_countAt_0 (by decide) ?_
  refine lv_istore_n (lv' := [(3, .int 0), (0, .ref (q 2)), (1, .int v1), (2, .int (zz_b v2))]) hx hb dX7_countAt_1 rfl hl (by decide) rfl (fun ls hl => ?_)
  refine lv_iconst (v := 0) hx hb dX7_countAt_2 (by decide) ?_
  refine lv_istore (lv' := [(4, .int 0), (3, .int 0), (0, .ref (q 2)), (1, .int v1), (2, .int (zz_b v2))]) hx hb dX7_countAt_3 hl (by decide) rfl (fun ls hl => ?_)
  exact zt_X7_countAt_5 C hr zz_N _ _ _ _ _ _ _ _ _ hf hP hS (lv_sub hl [2, 3, 4, 1, 0] rfl)
/-! X7_weightAt PR -/
theorem zd_X7_weightAt : yX7_weightAt.cls = RX7 ∧ yX7_weightAt.cls ≠ "java/lang/invoke/MethodHandle" ∧ yX7_weightAt.cls ≠ "java/lang/invoke/VarHandle" ∧ (parseMethodDescriptor yX7_weightAt.desc).map (fun d => d.parameters.length) = some 1 := by decide +kernel
abbrev zr_X7_weightAt : Room := { frames := 2, cells := 0, slots := 0, locals := 50 }
theorem zk_X7_weightAt_23 : Cond.fieldLink yX7_weightAt.cls 23 RX7 "unitCount" "I" ∈ wsX7_weightAt := by decide +kernel
theorem zk_X7_weightAt_16 : Cond.fieldLink yX7_weightAt.cls 16 RX7 "units" "LThirteenthDay$Table;" ∈ wsX7_weightAt := by decide +kernel
theorem zi_X7_weightAt_X7 : ∀ w ∈ u_ws RX7 TX7 3, w ∈ wsX7_weightAt := by decide +kernel
def zX7_weightAt_4 : Nat → Int32 → Int32 → Int32 → zz_T → Option Int32
  | 0, _, _, _, _ => none
  | n + 1, v1, v2, v3, st =>
    if (st.2 4) ≤ v3 then
      some v2
    else
      (zX7_countLoadsAt v3 v1 st).bind fun x1 =>
      zz_v (v2 + (x1 * (zX7_weightOf (zz_g 4 v3 0 st) st))) fun w3 =>
      zX7_weightAt_4 n v1 w3 (v3 + 1) st
set_option maxHeartbeats 4000000 in
set_option maxRecDepth 100000 in
theorem zt_X7_weightAt_4 {l : Launch} {A : Nat → Prop} {D : va_G} {cI : ClassId} {q : Nat → Nat} {p : Program} {e : Env} {s : State} {m : MethodId} {args : Array Value} {below : List Frame} {meth : Method} {c : Code} (C : zz_C A D cI q p s m args meth c cX7_weightAt 4 wsX7_weightAt yX7_weightAt.cls) (hr : meth.sig.returnType = some .int) : ∀ (n : Nat) (v1 : Int32) (v2 : Int32) (v3 : Int32) (st : zz_T) (H : Heap) (locs : List Loc) (ls : Array Slot) (r : Int32), zX7_weightAt_4 n v1 v2 v3 st = some r → va_P D vwCl (zz_c q cI st) H → va_S A s.heap H locs → lv_has ls 4 [(0, .ref (q 2)), (1, .int v1), (2, .int v2), (3, .int v3)] → W p l e zr_X7_weightAt s m args below meth c H locs 0 0 (zz_Qi A D cI q r st below args s) (F0 m 4 ls []) := by
  obtain ⟨hx, hb, hml, hown, hts⟩ := id C.1
  intro n
  induction n with
  | zero => intro v1 v2 v3 st H locs ls r hf; cases hf
  | succ n ih =>
    intro v1 v2 v3 st H locs ls r hf hP hS hl
    rw [zX7_weightAt_4] at hf
    refine lv_iload_n hx hb dX7_weightAt_4 rfl (lv_at hl 3 rfl) ?_
    refine lv_aload_n hx hb dX7_weightAt_5 rfl (lv_at hl 0 rfl) ?_
    refine zz_getf C zi_X7_weightAt_X7 hP 2 rfl rfl 2 (nm := "unitCount") (ds := "I") (fin := false) rfl (by decide) zk_X7_weightAt_23 rfl dX7_weightAt_6 ?_
    refine lv_icmp_ge (tgt := 40) hx hb dX7_weightAt_9 (by decide) (fun h => ?_) (fun h => ?_)
    · rw [if_pos h] at hf
      refine lv_iload_n hx hb dX7_weightAt_40 rfl (lv_at hl 2 rfl) ?_
      rw [← (Option.some.inj hf)]
      exact zz_reti C hr hP hS dX7_weightAt_41
    · rw [if_neg h] at hf
      refine lv_iload_n hx hb dX7_weightAt_12 rfl (lv_at hl 2 rfl) ?_
      refine lv_aload_n hx hb dX7_weightAt_13 rfl (lv_at hl 0 rfl) ?_
      refine lv_iload_n hx hb dX7_weightAt_14 rfl (lv_at hl 3 rfl) ?_
      refine lv_iload_n hx hb dX7_weightAt_15 rfl (lv_at hl 1 rfl) ?_
      obtain ⟨x1, e2, hf⟩ := zz_bo hf
      refine zz_callVi C (As := [.int v3, .int v1]) (rest := [.int v2]) (zc_X7_countLoadsAt _ _ _ _ e2) (cwV 2 hts gX7_weightAt_X7_countLoadsAt rfl rfl rfl zd_X7_countLoadsAt ⟨Nat.le_of_ble_eq_true rfl, Nat.le_of_ble_eq_true rfl⟩) hP hS 2 rfl rfl rfl hl rfl (Nat.le_of_ble_eq_true rfl) dX7_weightAt_16 ⟨Nat.zero_le _, Nat.zero_le _⟩ (fun H locs hP hS => ?_)
      refine lv_aload_n hx hb dX7_weightAt_19 rfl (lv_at hl 0 rfl) ?_
      refine zz_getf C zi_X7_weightAt_X7 hP 2 rfl rfl 0 (nm := "units") (ds := "LThirteenthDay$Table;") (fin := true) rfl (by decide) zk_X7_weightAt_16 rfl dX7_weightAt_20 ?_
      refine lv_iload_n hx hb dX7_weightAt_23 rfl (lv_at hl 3 rfl) ?_
      refine lv_iconst (v := 0) hx hb dX7_weightAt_24 (by decide) ?_
      refine zz_callVi C (As := [.int v3, .int 0]) (rest := [.int x1, .int v2]) (zc_X5_get 4 (by decide) _ _ _) (cwV 2 hts gX7_weightAt_X5_get rfl rfl rfl zd_X5_get ⟨Nat.le_of_ble_eq_true rfl, Nat.le_of_ble_eq_true rfl⟩) hP hS (9 + 4) (zz_c_tab (by decide)) rfl rfl hl rfl (Nat.le_of_ble_eq_true rfl) dX7_weightAt_25 ⟨Nat.zero_le _, Nat.zero_le _⟩ (fun H locs hP hS => ?_)
      refine zz_callSi C (As := [.int (zz_g 4 v3 0 st)]) (rest := [.int x1, .int v2]) (zc_X7_weightOf _ _) (va_cwS 1 hts gX7_weightAt_X7_weightOf rfl rfl rfl zd_X7_weightOf.2 ⟨Nat.le_of_ble_eq_true rfl, Nat.le_of_ble_eq_true rfl⟩) hP hS rfl hl rfl (Nat.le_of_ble_eq_true rfl) dX7_weightAt_28 ⟨Nat.zero_le _, Nat.zero_le _⟩ (fun H locs hP hS => ?_)
      refine lv_imul hx hb dX7_weightAt_31 ?_
      refine lv_iadd hx hb dX7_weightAt_32 ?_
      refine lv_topi (fun w3 e3 => ?_)
      replace hf := zz_vi hf e3
      refine lv_istore_n (lv' := [(2, .int w3), (0, .ref (q 2)), (1, .int v1), (3, .int v3)]) hx hb dX7_weightAt_33 rfl hl (by decide) rfl (fun ls hl => ?_)
      refine lv_iinc (v := (v3 + 1)) (lv' := [(3, .int (v3 + 1)), (2, .int w3), (0, .ref (q 2)), (1, .int v1)]) hx hb dX7_weightAt_34 hl (k := 3) rfl (congrArg (fun z => v3 + z) (by decide)) (by decide) rfl (fun ls hl => ?_)
      refine lv_goto (tgt := 4) hx hb dX7_weightAt_37 (by decide) ?_
      exact ih _ _ _ _ _ _ _ _ hf hP hS (lv_sub hl [2, 3, 1, 0] rfl)
def zX7_weightAt (v1 : Int32) (st : zz_T) : Option Int32 :=
  zX7_weightAt_4 zz_N v1 0 0 st
set_option maxHeartbeats 4000000 in
set_option maxRecDepth 100000 in
theorem zc_X7_weightAt {l : Launch} {A : Nat → Prop} {D : va_G} {cI : ClassId} {q : Nat → Nat} (v1 : Int32) (st : zz_T) (r : Int32) (hf : zX7_weightAt v1 st = some r) : zz_Mi l A D cI q yX7_weightAt wsX7_weightAt zr_X7_weightAt [.ref (q 2), .int v1] st r st := by
  refine zz_of (cc := cX7_weightAt) (nL := 4) (ret := some .int) (by decide) rfl (Nat.le_of_ble_eq_true rfl) ?_
  intro p e s m args below meth c ls C hr hP hS hl
  obtain ⟨hx, hb, hml, hown, hts⟩ := id C.1
  have hl : lv_has ls 4 [(0, .ref (q 2)), (1, .int v1)] := hl
  rw [zX7_weightAt] at hf
  skip
  refine lv_iconst (v := 0) hx hb dX7_weightAt_0 (by decide) ?_
  refine lv_istore_n (lv' := [(2, .int 0), (0, .ref (q 2)), (1, .int v1)]) hx hb dX7_weightAt_1 rfl hl (by decide) rfl (fun ls hl => ?_)
  refine lv_iconst (v := 0) hx hb dX7_weightAt_2 (by decide) ?_
  refine lv_istore_n (lv' := [(3, .int 0), (2, .int 0), (0, .ref (q 2)), (1, .int v1)]) hx hb dX7_weightAt_3 rfl hl (by decide) rfl (fun ls hl => ?_)
  exact zt_X7_weightAt_4 C hr zz_N _ _ _ _ _ _ _ _ hf hP hS (lv_sub hl [2, 3, 1, 0] rfl)
/-! X8_sectorFact PR -/
theorem zd_X8_sectorFact : yX8_sectorFact.cls = RX8 ∧ yX8_sectorFact.cls ≠ "java/lang/invoke/MethodHandle" ∧ yX8_sectorFact.cls ≠ "java/lang/invoke/VarHandle" ∧ (parseMethodDescriptor yX8_sectorFact.desc).map (fun d => d.parameters.length) = some 2 := by decide +kernel
abbrev zr_X8_sectorFact : Room := { frames := 3, cells := 0, slots := 0, locals := 74 }
theorem zk_X8_sectorFact_50 : Cond.fieldLink yX8_sectorFact.cls 50 RX8 "sectors" "LThirteenthDay$Sectors;" ∈ wsX8_sectorFact := by decide +kernel
theorem zk_X8_sectorFact_57 : Cond.fieldLink yX8_sectorFact.cls 57 RX8 "foes" "LThirteenthDay$Foes;" ∈ wsX8_sectorFact := by decide +kernel
theorem zk_X8_sectorFact_19 : Cond.fieldLink yX8_sectorFact.cls 19 RX8 "units" "LThirteenthDay$Units;" ∈ wsX8_sectorFact := by decide +kernel
theorem zi_X8_sectorFact_X8 : ∀ w ∈ u_ws RX8 TX8 11, w ∈ wsX8_sectorFact := by decide +kernel
def zX8_sectorFact (v1 : Int32) (v2 : Int32) (st : zz_T) : Option Int32 :=
  if v2 = 2 then
    (zX7_countAt v1 false st).bind fun x5 =>
    some x5
  else
    if v2 = 3 then
      (zX7_weightAt v1 st).bind fun x3 =>
      some x3
    else
      if v2 = 5 then
        (zX0_seenOf v1 (zX8_day st) st).bind fun x1 =>
        some x1
      else
        some (zX3_get v1 v2 st)
set_option maxHeartbeats 4000000 in
set_option maxRecDepth 100000 in
theorem zc_X8_sectorFact {l : Launch} {A : Nat → Prop} {D : va_G} {cI : ClassId} {q : Nat → Nat} (v1 : Int32) (v2 : Int32) (st : zz_T) (r : Int32) (hf : zX8_sectorFact v1 v2 st = some r) : zz_Mi l A D cI q yX8_sectorFact wsX8_sectorFact zr_X8_sectorFact [.ref (q 0), .int v1, .int v2] st r st := by
  refine zz_of (cc := cX8_sectorFact) (nL := 3) (ret := some .int) (by decide) rfl (Nat.le_of_ble_eq_true rfl) ?_
  intro p e s m args below meth c ls C hr hP hS hl
  obtain ⟨hx, hb, hml, hown, hts⟩ := id C.1
  have hl : lv_has ls 3 [(0, .ref (q 0)), (1, .int v1), (2, .int v2)] := hl
  rw [zX8_sectorFact] at hf
  skip
  refine lv_iload_n hx hb dX8_sectorFact_0 rfl (lv_at hl 2 rfl) ?_
  refine lv_iconst (v := 2) hx hb dX8_sectorFact_1 (by decide) ?_
  refine lv_icmp_ne (tgt := 15) hx hb dX8_sectorFact_2 (by decide) (fun h => ?_) (fun h => ?_)
  · rw [if_neg h] at hf
    refine lv_iload_n hx hb dX8_sectorFact_15 rfl (lv_at hl 2 rfl) ?_
    refine lv_iconst (v := 3) hx hb dX8_sectorFact_16 (by decide) ?_
    refine lv_icmp_ne (tgt := 29) hx hb dX8_sectorFact_17 (by decide) (fun h => ?_) (fun h => ?_)
    · rw [if_neg h] at hf
      refine lv_iload_n hx hb dX8_sectorFact_29 rfl (lv_at hl 2 rfl) ?_
      refine lv_iconst (v := 5) hx hb dX8_sectorFact_30 (by decide) ?_
      refine lv_icmp_ne (tgt := 49) hx hb dX8_sectorFact_31 (by decide) (fun h => ?_) (fun h => ?_)
      · rw [if_neg h] at hf
        refine lv_aload_n hx hb dX8_sectorFact_49 rfl (lv_at hl 0 rfl) ?_
        refine zz_getf C zi_X8_sectorFact_X8 hP 0 rfl rfl 6 (nm := "sectors") (ds := "LThirteenthDay$Sectors;") (fin := true) rfl (by decide) zk_X8_sectorFact_50 rfl dX8_sectorFact_50 ?_
        refine lv_iload_n hx hb dX8_sectorFact_53 rfl (lv_at hl 1 rfl) ?_
        refine lv_iload_n hx hb dX8_sectorFact_54 rfl (lv_at hl 2 rfl) ?_
        refine zz_callVi C (As := [.int v1, .int v2]) (rest := []) (zc_X3_get _ _ _) (cwV 2 hts gX8_sectorFact_X3_get rfl rfl rfl zd_X3_get ⟨Nat.le_of_ble_eq_true rfl, Nat.le_of_ble_eq_true rfl⟩) hP hS 7 rfl rfl rfl hl rfl (Nat.le_of_ble_eq_true rfl) dX8_sectorFact_55 ⟨Nat.zero_le _, Nat.zero_le _⟩ (fun H locs hP hS => ?_)
        rw [← (Option.some.inj hf)]
        exact zz_reti C hr hP hS dX8_sectorFact_58
      · rw [if_pos h] at hf
        refine lv_aload_n hx hb dX8_sectorFact_34 rfl (lv_at hl 0 rfl) ?_
        refine zz_getf C zi_X8_sectorFact_X8 hP 0 rfl rfl 7 (nm := "foes") (ds := "LThirteenthDay$Foes;") (fin := true) rfl (by decide) zk_X8_sectorFact_57 rfl dX8_sectorFact_35 ?_
        refine lv_iload_n hx hb dX8_sectorFact_38 rfl (lv_at hl 1 rfl) ?_
        refine lv_aload_n hx hb dX8_sectorFact_39 rfl (lv_at hl 0 rfl) ?_
        refine zz_callVi C (As := []) (rest := [.int v1, .ref (q 8)]) (zc_X8_day _) (cwV 0 hts gX8_sectorFact_X8_day rfl rfl rfl zd_X8_day ⟨Nat.le_of_ble_eq_true rfl, Nat.le_of_ble_eq_true rfl⟩) hP hS 0 rfl rfl rfl hl rfl (Nat.le_of_ble_eq_true rfl) dX8_sectorFact_40 ⟨Nat.zero_le _, Nat.zero_le _⟩ (fun H locs hP hS => ?_)
        obtain ⟨x1, e2, hf⟩ := zz_bo hf
        refine zz_callVi C (As := [.int v1, .int (zX8_day st)]) (rest := []) (zc_X0_seenOf _ _ _ _ e2) (cwV 2 hts gX8_sectorFact_X0_seenOf rfl rfl rfl zd_X0_seenOf ⟨Nat.le_of_ble_eq_true rfl, Nat.le_of_ble_eq_true rfl⟩) hP hS 8 rfl rfl rfl hl rfl (Nat.le_of_ble_eq_true rfl) dX8_sectorFact_43 ⟨Nat.zero_le _, Nat.zero_le _⟩ (fun H locs hP hS => ?_)
        refine lv_goto (tgt := 58) hx hb dX8_sectorFact_46 (by decide) ?_
        rw [← (Option.some.inj hf)]
        exact zz_reti C hr hP hS dX8_sectorFact_58
    · rw [if_pos h] at hf
      refine lv_aload_n hx hb dX8_sectorFact_20 rfl (lv_at hl 0 rfl) ?_
      refine zz_getf C zi_X8_sectorFact_X8 hP 0 rfl rfl 1 (nm := "units") (ds := "LThirteenthDay$Units;") (fin := true) rfl (by decide) zk_X8_sectorFact_19 rfl dX8_sectorFact_21 ?_
      refine lv_iload_n hx hb dX8_sectorFact_24 rfl (lv_at hl 1 rfl) ?_
      obtain ⟨x3, e4, hf⟩ := zz_bo hf
      refine zz_callVi C (As := [.int v1]) (rest := []) (zc_X7_weightAt _ _ _ e4) (cwV 1 hts gX8_sectorFact_X7_weightAt rfl rfl rfl zd_X7_weightAt ⟨Nat.le_of_ble_eq_true rfl, Nat.le_of_ble_eq_true rfl⟩) hP hS 2 rfl rfl rfl hl rfl (Nat.le_of_ble_eq_true rfl) dX8_sectorFact_25 ⟨Nat.zero_le _, Nat.zero_le _⟩ (fun H locs hP hS => ?_)
      rw [← (Option.some.inj hf)]
      exact zz_reti C hr hP hS dX8_sectorFact_28
  · rw [if_pos h] at hf
    refine lv_aload_n hx hb dX8_sectorFact_5 rfl (lv_at hl 0 rfl) ?_
    refine zz_getf C zi_X8_sectorFact_X8 hP 0 rfl rfl 1 (nm := "units") (ds := "LThirteenthDay$Units;") (fin := true) rfl (by decide) zk_X8_sectorFact_19 rfl dX8_sectorFact_6 ?_
    refine lv_iload_n hx hb dX8_sectorFact_9 rfl (lv_at hl 1 rfl) ?_
    refine lv_iconst (v := 0) hx hb dX8_sectorFact_10 (by decide) ?_
    obtain ⟨x5, e6, hf⟩ := zz_bo hf
    refine zz_callVi C (As := [.int v1, .int 0]) (rest := []) (zc_X7_countAt _ false _ _ e6) (cwV 2 hts gX8_sectorFact_X7_countAt rfl rfl rfl zd_X7_countAt ⟨Nat.le_of_ble_eq_true rfl, Nat.le_of_ble_eq_true rfl⟩) hP hS 2 rfl rfl rfl hl rfl (Nat.le_of_ble_eq_true rfl) dX8_sectorFact_11 ⟨Nat.zero_le _, Nat.zero_le _⟩ (fun H locs hP hS => ?_)
    rw [← (Option.some.inj hf)]
    exact zz_reti C hr hP hS dX8_sectorFact_14
/-! X2_isDueAt TR -/
theorem zd_X2_isDueAt : yX2_isDueAt.cls = RX2 ∧ yX2_isDueAt.cls ≠ "java/lang/invoke/MethodHandle" ∧ yX2_isDueAt.cls ≠ "java/lang/invoke/VarHandle" ∧ (parseMethodDescriptor yX2_isDueAt.desc).map (fun d => d.parameters.length) = some 3 := by decide +kernel
abbrev zr_X2_isDueAt : Room := { frames := 2, cells := 0, slots := 0, locals := 45 }
theorem zk_X2_isDueAt_20 : Cond.fieldLink yX2_isDueAt.cls 20 RX2 "facts" "LThirteenthDay$Table;" ∈ wsX2_isDueAt := by decide +kernel
theorem zi_X2_isDueAt_X2 : ∀ w ∈ u_ws RX2 TX2 5, w ∈ wsX2_isDueAt := by decide +kernel
def zX2_isDueAt (b : Nat) (v1 : Int32) (v2 : Int32) (v3 : Int32) (st : zz_T) : Bool :=
  if (zX2_isKept b v1 st) = true then
    if (zz_g (b + 0) v1 2 st) = v2 then
      if v3 < (((zX2_arrivesOf b v1 st) + 1) + (zz_g (b + 0) v1 4 st)) then
        false
      else
        true
    else
      false
  else
    false
set_option maxHeartbeats 4000000 in
set_option maxRecDepth 100000 in
theorem zc_X2_isDueAt {l : Launch} {A : Nat → Prop} {D : va_G} {cI : ClassId} {q : Nat → Nat} (o b : Nat) (hz : zz_P o b) (v1 : Int32) (v2 : Int32) (v3 : Int32) (st : zz_T) : zz_Mi l A D cI q yX2_isDueAt wsX2_isDueAt zr_X2_isDueAt [.ref (q o), .int v1, .int v2, .int v3] st (zz_b (zX2_isDueAt b v1 v2 v3 st)) st := by
  refine zz_of (cc := cX2_isDueAt) (nL := 4) (ret := some .boolean) (by decide) rfl (Nat.le_of_ble_eq_true rfl) ?_
  intro p e s m args below meth c ls C hr hP hS hl
  obtain ⟨hx, hb, hml, hown, hts⟩ := id C.1
  have hl : lv_has ls 4 [(0, .ref (q o)), (1, .int v1), (2, .int v2), (3, .int v3)] := hl
  obtain ⟨r, hf⟩ : ∃ r, zX2_isDueAt b v1 v2 v3 st = r := ⟨_, rfl⟩
  rw [hf]
  rw [zX2_isDueAt] at hf
  skip
  refine lv_aload_n hx hb dX2_isDueAt_0 rfl (lv_at hl 0 rfl) ?_
  refine lv_iload_n hx hb dX2_isDueAt_1 rfl (lv_at hl 1 rfl) ?_
  refine zz_callVi C (As := [.int v1]) (rest := []) (zc_X2_isKept o b hz _ _) (cwV 1 hts gX2_isDueAt_X2_isKept rfl rfl rfl zd_X2_isKept ⟨Nat.le_of_ble_eq_true rfl, Nat.le_of_ble_eq_true rfl⟩) hP hS o (zz_c_pa hz) rfl rfl hl rfl (Nat.le_of_ble_eq_true rfl) dX2_isDueAt_2 ⟨Nat.zero_le _, Nat.zero_le _⟩ (fun H locs hP hS => ?_)
  refine lv_if_eq (tgt := 46) hx hb dX2_isDueAt_5 (by decide) (fun h => ?_) (fun h => ?_)
  · rw [zz_if0 (zz_b0 h)] at hf
    refine lv_iconst (v := 0) hx hb dX2_isDueAt_46 (by decide) ?_
    rw [← hf]
    exact zz_retz (v := false) C hr hP hS dX2_isDueAt_47
  · rw [zz_if1 (zz_b1 h)] at hf
    refine lv_aload_n hx hb dX2_isDueAt_8 rfl (lv_at hl 0 rfl) ?_
    refine zz_getf C zi_X2_isDueAt_X2 hP o (zz_c_pa hz) rfl 0 (nm := "facts") (ds := "LThirteenthDay$Table;") (fin := true) rfl (by decide) zk_X2_isDueAt_20 rfl dX2_isDueAt_9 ?_
    refine lv_iload_n hx hb dX2_isDueAt_12 rfl (lv_at hl 1 rfl) ?_
    refine lv_iconst (v := 2) hx hb dX2_isDueAt_13 (by decide) ?_
    refine zz_callVi C (As := [.int v1, .int 2]) (rest := []) (zc_X5_get (b + 0) (zz_Plt hz (by decide)) _ _ _) (cwV 2 hts gX2_isDueAt_X5_get rfl rfl rfl zd_X5_get ⟨Nat.le_of_ble_eq_true rfl, Nat.le_of_ble_eq_true rfl⟩) hP hS (9 + (b + 0)) (zz_c_tab (zz_Plt hz (by decide))) rfl rfl hl rfl (Nat.le_of_ble_eq_true rfl) dX2_isDueAt_14 ⟨Nat.zero_le _, Nat.zero_le _⟩ (fun H locs hP hS => ?_)
    refine lv_iload_n hx hb dX2_isDueAt_17 rfl (lv_at hl 2 rfl) ?_
    refine lv_icmp_ne (tgt := 46) hx hb dX2_isDueAt_18 (by decide) (fun h => ?_) (fun h => ?_)
    · rw [if_neg h] at hf
      refine lv_iconst (v := 0) hx hb dX2_isDueAt_46 (by decide) ?_
      rw [← hf]
      exact zz_retz (v := false) C hr hP hS dX2_isDueAt_47
    · rw [if_pos h] at hf
      refine lv_aload_n hx hb dX2_isDueAt_21 rfl (lv_at hl 0 rfl) ?_
      refine lv_iload_n hx hb dX2_isDueAt_22 rfl (lv_at hl 1 rfl) ?_
      refine zz_callVi C (As := [.int v1]) (rest := []) (zc_X2_arrivesOf o b hz _ _) (cwV 1 hts gX2_isDueAt_X2_arrivesOf rfl rfl rfl zd_X2_arrivesOf ⟨Nat.le_of_ble_eq_true rfl, Nat.le_of_ble_eq_true rfl⟩) hP hS o (zz_c_pa hz) rfl rfl hl rfl (Nat.le_of_ble_eq_true rfl) dX2_isDueAt_23 ⟨Nat.zero_le _, Nat.zero_le _⟩ (fun H locs hP hS => ?_)
      refine lv_iconst (v := 1) hx hb dX2_isDueAt_26 (by decide) ?_
      refine lv_iadd hx hb dX2_isDueAt_27 ?_
      refine lv_aload_n hx hb dX2_isDueAt_28 rfl (lv_at hl 0 rfl) ?_
      refine zz_getf C zi_X2_isDueAt_X2 hP o (zz_c_pa hz) rfl 0 (nm := "facts") (ds := "LThirteenthDay$Table;") (fin := true) rfl (by decide) zk_X2_isDueAt_20 rfl dX2_isDueAt_29 ?_
      refine lv_iload_n hx hb dX2_isDueAt_32 rfl (lv_at hl 1 rfl) ?_
      refine lv_iconst (v := 4) hx hb dX2_isDueAt_33 (by decide) ?_
      refine zz_callVi C (As := [.int v1, .int 4]) (rest := [.int ((zX2_arrivesOf b v1 st) + 1)]) (zc_X5_get (b + 0) (zz_Plt hz (by decide)) _ _ _) (cwV 2 hts gX2_isDueAt_X5_get rfl rfl rfl zd_X5_get ⟨Nat.le_of_ble_eq_true rfl, Nat.le_of_ble_eq_true rfl⟩) hP hS (9 + (b + 0)) (zz_c_tab (zz_Plt hz (by decide))) rfl rfl hl rfl (Nat.le_of_ble_eq_true rfl) dX2_isDueAt_34 ⟨Nat.zero_le _, Nat.zero_le _⟩ (fun H locs hP hS => ?_)
      refine lv_iadd hx hb dX2_isDueAt_37 ?_
      refine lv_iload_n hx hb dX2_isDueAt_38 rfl (lv_at hl 3 rfl) ?_
      refine lv_icmp_gt (tgt := 46) hx hb dX2_isDueAt_39 (by decide) (fun h => ?_) (fun h => ?_)
      · rw [if_pos h] at hf
        refine lv_iconst (v := 0) hx hb dX2_isDueAt_46 (by decide) ?_
        rw [← hf]
        exact zz_retz (v := false) C hr hP hS dX2_isDueAt_47
      · rw [if_neg h] at hf
        refine lv_iconst (v := 1) hx hb dX2_isDueAt_42 (by decide) ?_
        refine lv_goto (tgt := 47) hx hb dX2_isDueAt_43 (by decide) ?_
        rw [← hf]
        exact zz_retz (v := true) C hr hP hS dX2_isDueAt_47
/-! X7_count TR -/
theorem zd_X7_count : yX7_count.cls = RX7 ∧ yX7_count.cls ≠ "java/lang/invoke/MethodHandle" ∧ yX7_count.cls ≠ "java/lang/invoke/VarHandle" ∧ (parseMethodDescriptor yX7_count.desc).map (fun d => d.parameters.length) = some 0 := by decide +kernel
abbrev zr_X7_count : Room := { frames := 0, cells := 0, slots := 0, locals := 0 }
theorem zk_X7_count_23 : Cond.fieldLink yX7_count.cls 23 RX7 "unitCount" "I" ∈ wsX7_count := by decide +kernel
theorem zi_X7_count_X7 : ∀ w ∈ u_ws RX7 TX7 3, w ∈ wsX7_count := by decide +kernel
def zX7_count (st : zz_T) : Int32 :=
  (st.2 4)
set_option maxHeartbeats 4000000 in
set_option maxRecDepth 100000 in
theorem zc_X7_count {l : Launch} {A : Nat → Prop} {D : va_G} {cI : ClassId} {q : Nat → Nat} (st : zz_T) : zz_Mi l A D cI q yX7_count wsX7_count zr_X7_count [.ref (q 2)] st (zX7_count st) st := by
  refine zz_of (cc := cX7_count) (nL := 1) (ret := some .int) (by decide) rfl (Nat.le_of_ble_eq_true rfl) ?_
  intro p e s m args below meth c ls C hr hP hS hl
  obtain ⟨hx, hb, hml, hown, hts⟩ := id C.1
  have hl : lv_has ls 1 [(0, .ref (q 2))] := hl
  obtain ⟨r, hf⟩ : ∃ r, zX7_count st = r := ⟨_, rfl⟩
  rw [hf]
  rw [zX7_count] at hf
  skip
  refine lv_aload_n hx hb dX7_count_0 rfl (lv_at hl 0 rfl) ?_
  refine zz_getf C zi_X7_count_X7 hP 2 rfl rfl 2 (nm := "unitCount") (ds := "I") (fin := false) rfl (by decide) zk_X7_count_23 rfl dX7_count_1 ?_
  rw [← hf]
  exact zz_reti C hr hP hS dX7_count_4
/-! X7_isAtBy TR -/
theorem zd_X7_isAtBy : yX7_isAtBy.cls = RX7 ∧ yX7_isAtBy.cls ≠ "java/lang/invoke/MethodHandle" ∧ yX7_isAtBy.cls ≠ "java/lang/invoke/VarHandle" ∧ (parseMethodDescriptor yX7_isAtBy.desc).map (fun d => d.parameters.length) = some 3 := by decide +kernel
abbrev zr_X7_isAtBy : Room := { frames := 1, cells := 0, slots := 0, locals := 24 }
theorem zk_X7_isAtBy_20 : Cond.fieldLink yX7_isAtBy.cls 20 RX7 "loads" "LThirteenthDay$Table;" ∈ wsX7_isAtBy := by decide +kernel
theorem zi_X7_isAtBy_X7 : ∀ w ∈ u_ws RX7 TX7 3, w ∈ wsX7_isAtBy := by decide +kernel
def zX7_isAtBy (v1 : Int32) (v2 : Int32) (v3 : Int32) (st : zz_T) : Bool :=
  zz_v (zz_g 5 v1 0 st) fun w1 =>
  if (zz_g 5 v1 1 st) = v2 then
    if w1 = 2 then
      true
    else
      if w1 = 1 then
        if v3 < (zz_g 5 v1 2 st) then
          false
        else
          true
      else
        false
  else
    false
set_option maxHeartbeats 4000000 in
set_option maxRecDepth 100000 in
theorem zc_X7_isAtBy {l : Launch} {A : Nat → Prop} {D : va_G} {cI : ClassId} {q : Nat → Nat} (v1 : Int32) (v2 : Int32) (v3 : Int32) (st : zz_T) : zz_Mi l A D cI q yX7_isAtBy wsX7_isAtBy zr_X7_isAtBy [.ref (q 2), .int v1, .int v2, .int v3] st (zz_b (zX7_isAtBy v1 v2 v3 st)) st := by
  refine zz_of (cc := cX7_isAtBy) (nL := 5) (ret := some .boolean) (by decide) rfl (Nat.le_of_ble_eq_true rfl) ?_
  intro p e s m args below meth c ls C hr hP hS hl
  obtain ⟨hx, hb, hml, hown, hts⟩ := id C.1
  have hl : lv_has ls 5 [(0, .ref (q 2)), (1, .int v1), (2, .int v2), (3, .int v3)] := hl
  obtain ⟨r, hf⟩ : ∃ r, zX7_isAtBy v1 v2 v3 st = r := ⟨_, rfl⟩
  rw [hf]
  rw [zX7_isAtBy] at hf
  skip
  refine lv_aload_n hx hb dX7_isAtBy_0 rfl (lv_at hl 0 rfl) ?_
  refine zz_getf C zi_X7_isAtBy_X7 hP 2 rfl rfl 1 (nm := "loads") (ds := "LThirteenthDay$Table;") (fin := true) rfl (by decide) zk_X7_isAtBy_20 rfl dX7_isAtBy_1 ?_
  refine lv_iload_n hx hb dX7_isAtBy_4 rfl (lv_at hl 1 rfl) ?_
  refine lv_iconst (v := 0) hx hb dX7_isAtBy_5 (by decide) ?_
  refine zz_callVi C (As := [.int v1, .int 0]) (rest := []) (zc_X5_get 5 (by decide) _ _ _) (cwV 2 hts gX7_isAtBy_X5_get rfl rfl rfl zd_X5_get ⟨Nat.le_of_ble_eq_true rfl, Nat.le_of_ble_eq_true rfl⟩) hP hS (9 + 5) (zz_c_tab (by decide)) rfl rfl hl rfl (Nat.le_of_ble_eq_true rfl) dX7_isAtBy_6 ⟨Nat.zero_le _, Nat.zero_le _⟩ (fun H locs hP hS => ?_)
  refine lv_topi (fun w1 e1 => ?_)
  replace hf := zz_vi hf e1
  refine lv_istore (lv' := [(4, .int w1), (0, .ref (q 2)), (1, .int v1), (2, .int v2), (3, .int v3)]) hx hb dX7_isAtBy_9 hl (by decide) rfl (fun ls hl => ?_)
  refine lv_aload_n hx hb dX7_isAtBy_11 rfl (lv_at hl 1 rfl) ?_
  refine zz_getf C zi_X7_isAtBy_X7 hP 2 rfl rfl 1 (nm := "loads") (ds := "LThirteenthDay$Table;") (fin := true) rfl (by decide) zk_X7_isAtBy_20 rfl dX7_isAtBy_12 ?_
  refine lv_iload_n hx hb dX7_isAtBy_15 rfl (lv_at hl 2 rfl) ?_
  refine lv_iconst (v := 1) hx hb dX7_isAtBy_16 (by decide) ?_
  refine zz_callVi C (As := [.int v1, .int 1]) (rest := []) (zc_X5_get 5 (by decide) _ _ _) (cwV 2 hts gX7_isAtBy_X5_get rfl rfl rfl zd_X5_get ⟨Nat.le_of_ble_eq_true rfl, Nat.le_of_ble_eq_true rfl⟩) hP hS (9 + 5) (zz_c_tab (by decide)) rfl rfl hl rfl (Nat.le_of_ble_eq_true rfl) dX7_isAtBy_17 ⟨Nat.zero_le _, Nat.zero_le _⟩ (fun H locs hP hS => ?_)
  refine lv_iload_n hx hb dX7_isAtBy_20 rfl (lv_at hl 3 rfl) ?_
  refine lv_icmp_ne (tgt := 53) hx hb dX7_isAtBy_21 (by decide) (fun h => ?_) (fun h => ?_)
  · rw [if_neg h] at hf
    refine lv_iconst (v := 0) hx hb dX7_isAtBy_53 (by decide) ?_
    rw [← hf]
    exact zz_retz (v := false) C hr hP hS dX7_isAtBy_54
  · rw [if_pos h] at hf
    refine lv_iload hx hb dX7_isAtBy_24 (lv_at hl 0 rfl) ?_
    refine lv_iconst (v := 2) hx hb dX7_isAtBy_26 (by decide) ?_
    refine lv_icmp_eq (tgt := 49) hx hb dX7_isAtBy_27 (by decide) (fun h => ?_) (fun h => ?_)
    · rw [if_pos h] at hf
      refine lv_iconst (v := 1) hx hb dX7_isAtBy_49 (by decide) ?_
      refine lv_goto (tgt := 54) hx hb dX7_isAtBy_50 (by decide) ?_
      rw [← hf]
      exact zz_retz (v := true) C hr hP hS dX7_isAtBy_54
    · rw [if_neg h] at hf
      refine lv_iload hx hb dX7_isAtBy_30 (lv_at hl 0 rfl) ?_
      refine lv_iconst (v := 1) hx hb dX7_isAtBy_32 (by decide) ?_
      refine lv_icmp_ne (tgt := 53) hx hb dX7_isAtBy_33 (by decide) (fun h => ?_) (fun h => ?_)
      · rw [if_neg h] at hf
        refine lv_iconst (v := 0) hx hb dX7_isAtBy_53 (by decide) ?_
        rw [← hf]
        exact zz_retz (v := false) C hr hP hS dX7_isAtBy_54
      · rw [if_pos h] at hf
        refine lv_aload_n hx hb dX7_isAtBy_36 rfl (lv_at hl 1 rfl) ?_
        refine zz_getf C zi_X7_isAtBy_X7 hP 2 rfl rfl 1 (nm := "loads") (ds := "LThirteenthDay$Table;") (fin := true) rfl (by decide) zk_X7_isAtBy_20 rfl dX7_isAtBy_37 ?_
        refine lv_iload_n hx hb dX7_isAtBy_40 rfl (lv_at hl 2 rfl) ?_
        refine lv_iconst (v := 2) hx hb dX7_isAtBy_41 (by decide) ?_
        refine zz_callVi C (As := [.int v1, .int 2]) (rest := []) (zc_X5_get 5 (by decide) _ _ _) (cwV 2 hts gX7_isAtBy_X5_get rfl rfl rfl zd_X5_get ⟨Nat.le_of_ble_eq_true rfl, Nat.le_of_ble_eq_true rfl⟩) hP hS (9 + 5) (zz_c_tab (by decide)) rfl rfl hl rfl (Nat.le_of_ble_eq_true rfl) dX7_isAtBy_42 ⟨Nat.zero_le _, Nat.zero_le _⟩ (fun H locs hP hS => ?_)
        refine lv_iload_n hx hb dX7_isAtBy_45 rfl (lv_at hl 4 rfl) ?_
        refine lv_icmp_gt (tgt := 53) hx hb dX7_isAtBy_46 (by decide) (fun h => ?_) (fun h => ?_)
        · rw [if_pos h] at hf
          refine lv_iconst (v := 0) hx hb dX7_isAtBy_53 (by decide) ?_
          rw [← hf]
          exact zz_retz (v := false) C hr hP hS dX7_isAtBy_54
        · rw [if_neg h] at hf
          refine lv_iconst (v := 1) hx hb dX7_isAtBy_49 (by decide) ?_
          refine lv_goto (tgt := 54) hx hb dX7_isAtBy_50 (by decide) ?_
          rw [← hf]
          exact zz_retz (v := true) C hr hP hS dX7_isAtBy_54
/-! X8_weightBy PR -/
theorem zd_X8_weightBy : yX8_weightBy.cls = RX8 ∧ yX8_weightBy.cls ≠ "java/lang/invoke/MethodHandle" ∧ yX8_weightBy.cls ≠ "java/lang/invoke/VarHandle" ∧ (parseMethodDescriptor yX8_weightBy.desc).map (fun d => d.parameters.length) = some 2 := by decide +kernel
abbrev zr_X8_weightBy : Room := { frames := 3, cells := 0, slots := 0, locals := 68 }
theorem zk_X8_weightBy_50 : Cond.fieldLink yX8_weightBy.cls 50 RX8 "sectors" "LThirteenthDay$Sectors;" ∈ wsX8_weightBy := by decide +kernel
theorem zk_X8_weightBy_19 : Cond.fieldLink yX8_weightBy.cls 19 RX8 "units" "LThirteenthDay$Units;" ∈ wsX8_weightBy := by decide +kernel
theorem zk_X8_weightBy_26 : Cond.fieldLink yX8_weightBy.cls 26 RX8 "paths" "LThirteenthDay$Paths;" ∈ wsX8_weightBy := by decide +kernel
theorem zi_X8_weightBy_X8 : ∀ w ∈ u_ws RX8 TX8 11, w ∈ wsX8_weightBy := by decide +kernel
def zX8_weightBy_108 (k23 : Int32 → Int32 → Int32 → Int32 → Int32 → zz_T → Option Int32) (k53 : Int32 → Int32 → Int32 → Int32 → Int32 → Int32 → Int32 → zz_T → Option Int32) (v1 : Int32) (v3 : Int32) (v4 : Int32) (v5 : Int32) (v6 : Int32) (v7 : Int32) (v8 : Int32) (st : zz_T) : Option Int32 :=
  zz_v (v5 + v7) fun w5 =>
  k53 v1 v3 v4 w5 v6 v7 (v8 + 1) st
set_option maxHeartbeats 4000000 in
set_option maxRecDepth 100000 in
theorem zt_X8_weightBy_108 {l : Launch} {A : Nat → Prop} {D : va_G} {cI : ClassId} {q : Nat → Nat} {p : Program} {e : Env} {s : State} {m : MethodId} {args : Array Value} {below : List Frame} {meth : Method} {c : Code} (C : zz_C A D cI q p s m args meth c cX8_weightBy 11 wsX8_weightBy yX8_weightBy.cls) (hr : meth.sig.returnType = some .int) (k23 : Int32 → Int32 → Int32 → Int32 → Int32 → zz_T → Option Int32) (hk23 : ∀ (v1 : Int32) (v3 : Int32) (v4 : Int32) (v5 : Int32) (v6 : Int32) (st : zz_T) (H : Heap) (locs : List Loc) (ls : Array Slot) (r : Int32), k23 v1 v3 v4 v5 v6 st = some r → va_P D vwCl (zz_c q cI st) H → va_S A s.heap H locs → lv_has ls 11 [(0, .ref (q 0)), (1, .int v1), (3, .int v3), (4, .int v4), (5, .int v5), (6, .int v6)] → W p l e zr_X8_weightBy s m args below meth c H locs 0 0 (zz_Qi A D cI q r st below args s) (F0 m 23 ls [])) (k53 : Int32 → Int32 → Int32 → Int32 → Int32 → Int32 → Int32 → zz_T → Option Int32) (hk53 : ∀ (v1 : Int32) (v3 : Int32) (v4 : Int32) (v5 : Int32) (v6 : Int32) (v7 : Int32) (v8 : Int32) (st : zz_T) (H : Heap) (locs : List Loc) (ls : Array Slot) (r : Int32), k53 v1 v3 v4 v5 v6 v7 v8 st = some r → va_P D vwCl (zz_c q cI st) H → va_S A s.heap H locs → lv_has ls 11 [(0, .ref (q 0)), (1, .int v1), (3, .int v3), (4, .int v4), (5, .int v5), (6, .int v6), (7, .int v7), (8, .int v8)] → W p l e zr_X8_weightBy s m args below meth c H locs 0 0 (zz_Qi A D cI q r st below args s) (F0 m 53 ls [])) : ∀ (v1 : Int32) (v3 : Int32) (v4 : Int32) (v5 : Int32) (v6 : Int32) (v7 : Int32) (v8 : Int32) (st : zz_T) (H : Heap) (locs : List Loc) (ls : Array Slot) (r : Int32), zX8_weightBy_108 k23 k53 v1 v3 v4 v5 v6 v7 v8 st = some r → va_P D vwCl (zz_c q cI st) H → va_S A s.heap H locs → lv_has ls 11 [(0, .ref (q 0)), (1, .int v1), (3, .int v3), (4, .int v4), (5, .int v5), (6, .int v6), (7, .int v7), (8, .int v8)] → W p l e zr_X8_weightBy s m args below meth c H locs 0 0 (zz_Qi A D cI q r st below args s) (F0 m 108 ls []) := by
  obtain ⟨hx, hb, hml, hown, hts⟩ := id C.1
  intro v1 v3 v4 v5 v6 v7 v8 st H locs ls r hf hP hS hl
  rw [zX8_weightBy_108] at hf
  refine lv_iconst (v := 1) hx hb dX8_weightBy_108 (by decide) ?_
  refine lv_goto (tgt := 113) hx hb dX8_weightBy_109 (by decide) ?_
  refine lv_istore (lv' := [(10, .int 1), (0, .ref (q 0)), (1, .int v1), (3, .int v3), (4, .int v4), (5, .int v5), (6, .int v6), (7, .int v7), (8, .int v8)]) hx hb dX8_weightBy_113 hl (by decide) rfl (fun ls hl => ?_)
  refine lv_iload hx hb dX8_weightBy_115 (lv_at hl 5 rfl) ?_
  refine lv_iload hx hb dX8_weightBy_117 (lv_at hl 0 rfl) ?_
  refine lv_if_eq (tgt := 127) hx hb dX8_weightBy_119 (by decide) (fun h => absurd h (by decide)) (fun _ => ?_)
  refine lv_iload hx hb dX8_weightBy_122 (lv_at hl 7 rfl) ?_
  refine lv_goto (tgt := 128) hx hb dX8_weightBy_124 (by decide) ?_
  refine lv_iadd hx hb dX8_weightBy_128 ?_
  refine lv_topi (fun w5 e5 => ?_)
  replace hf := zz_vi hf e5
  refine lv_istore (lv' := [(5, .int w5), (10, .int 1), (0, .ref (q 0)), (1, .int v1), (3, .int v3), (4, .int v4), (6, .int v6), (7, .int v7), (8, .int v8)]) hx hb dX8_weightBy_129 hl (by decide) rfl (fun ls hl => ?_)
  refine lv_iinc (v := (v8 + 1)) (lv' := [(8, .int (v8 + 1)), (5, .int w5), (10, .int 1), (0, .ref (q 0)), (1, .int v1), (3, .int v3), (4, .int v4), (6, .int v6), (7, .int v7)]) hx hb dX8_weightBy_131 hl (k := 8) rfl (congrArg (fun z => v8 + z) (by decide)) (by decide) rfl (fun ls hl => ?_)
  refine lv_goto (tgt := 53) hx hb dX8_weightBy_134 (by decide) ?_
  exact hk53 _ _ _ _ _ _ _ _ _ _ _ _ hf hP hS (lv_sub hl [3, 4, 5, 6, 1, 7, 8, 0] rfl)
def zX8_weightBy_53 (k23 : Int32 → Int32 → Int32 → Int32 → Int32 → zz_T → Option Int32) : Nat → Int32 → Int32 → Int32 → Int32 → Int32 → Int32 → Int32 → zz_T → Option Int32
  | 0, _, _, _, _, _, _, _, _ => none
  | n + 1, v1, v3, v4, v5, v6, v7, v8, st =>
    if (zX7_get v6 1 st) ≤ v8 then
      k23 v1 v3 v4 v5 (v6 + 1) st
    else
      zz_v (zX2_slotOf v6 v8 st) fun w4 =>
      if (zX7_isAtBy w4 v1 v3 st) = true then
        zX8_weightBy_108 k23 (fun v1' v3' v4' v5' v6' v7' v8' st' => zX8_weightBy_53 k23 n v1' v3' v4' v5' v6' v7' v8' st') v1 v3 v4 v5 v6 v7 v8 st
      else
        if (zX2_isDueAt 6 w4 v1 (v3 - v4) st) = true then
          zX8_weightBy_108 k23 (fun v1' v3' v4' v5' v6' v7' v8' st' => zX8_weightBy_53 k23 n v1' v3' v4' v5' v6' v7' v8' st') v1 v3 v4 v5 v6 v7 v8 st
        else
          zz_v (v5 + 0) fun w6 =>
          zX8_weightBy_53 k23 n v1 v3 v4 w6 v6 v7 (v8 + 1) st
set_option maxHeartbeats 4000000 in
set_option maxRecDepth 100000 in
theorem zt_X8_weightBy_53 {l : Launch} {A : Nat → Prop} {D : va_G} {cI : ClassId} {q : Nat → Nat} {p : Program} {e : Env} {s : State} {m : MethodId} {args : Array Value} {below : List Frame} {meth : Method} {c : Code} (C : zz_C A D cI q p s m args meth c cX8_weightBy 11 wsX8_weightBy yX8_weightBy.cls) (hr : meth.sig.returnType = some .int) (k23 : Int32 → Int32 → Int32 → Int32 → Int32 → zz_T → Option Int32) (hk23 : ∀ (v1 : Int32) (v3 : Int32) (v4 : Int32) (v5 : Int32) (v6 : Int32) (st : zz_T) (H : Heap) (locs : List Loc) (ls : Array Slot) (r : Int32), k23 v1 v3 v4 v5 v6 st = some r → va_P D vwCl (zz_c q cI st) H → va_S A s.heap H locs → lv_has ls 11 [(0, .ref (q 0)), (1, .int v1), (3, .int v3), (4, .int v4), (5, .int v5), (6, .int v6)] → W p l e zr_X8_weightBy s m args below meth c H locs 0 0 (zz_Qi A D cI q r st below args s) (F0 m 23 ls [])) : ∀ (n : Nat) (v1 : Int32) (v3 : Int32) (v4 : Int32) (v5 : Int32) (v6 : Int32) (v7 : Int32) (v8 : Int32) (st : zz_T) (H : Heap) (locs : List Loc) (ls : Array Slot) (r : Int32), zX8_weightBy_53 k23 n v1 v3 v4 v5 v6 v7 v8 st = some r → va_P D vwCl (zz_c q cI st) H → va_S A s.heap H locs → lv_has ls 11 [(0, .ref (q 0)), (1, .int v1), (3, .int v3), (4, .int v4), (5, .int v5), (6, .int v6), (7, .int v7), (8, .int v8)] → W p l e zr_X8_weightBy s m args below meth c H locs 0 0 (zz_Qi A D cI q r st below args s) (F0 m 53 ls []) := by
  obtain ⟨hx, hb, hml, hown, hts⟩ := id C.1
  intro n
  induction n with
  | zero => intro v1 v3 v4 v5 v6 v7 v8 st H locs ls r hf; cases hf
  | succ n ih =>
    intro v1 v3 v4 v5 v6 v7 v8 st H locs ls r hf hP hS hl
    rw [zX8_weightBy_53] at hf
    refine lv_iload hx hb dX8_weightBy_53 (lv_at hl 7 rfl) ?_
    refine lv_aload_n hx hb dX8_weightBy_55 rfl (lv_at hl 0 rfl) ?_
    refine zz_getf C zi_X8_weightBy_X8 hP 0 rfl rfl 1 (nm := "units") (ds := "LThirteenthDay$Units;") (fin := true) rfl (by decide) zk_X8_weightBy_19 rfl dX8_weightBy_56 ?_
    refine lv_iload hx hb dX8_weightBy_59 (lv_at hl 5 rfl) ?_
    refine lv_iconst (v := 1) hx hb dX8_weightBy_61 (by decide) ?_
    refine zz_callVi C (As := [.int v6, .int 1]) (rest := [.int v8]) (zc_X7_get _ _ _) (cwV 2 hts gX8_weightBy_X7_get rfl rfl rfl zd_X7_get ⟨Nat.le_of_ble_eq_true rfl, Nat.le_of_ble_eq_true rfl⟩) hP hS 2 rfl rfl rfl hl rfl (Nat.le_of_ble_eq_true rfl) dX8_weightBy_62 ⟨Nat.zero_le _, Nat.zero_le _⟩ (fun H locs hP hS => ?_)
    refine lv_icmp_ge (tgt := 137) hx hb dX8_weightBy_65 (by decide) (fun h => ?_) (fun h => ?_)
    · rw [if_pos h] at hf
      refine lv_iinc (v := (v6 + 1)) (lv' := [(6, .int (v6 + 1)), (0, .ref (q 0)), (1, .int v1), (3, .int v3), (4, .int v4), (5, .int v5), (7, .int v7), (8, .int v8)]) hx hb dX8_weightBy_137 hl (k := 5) rfl (congrArg (fun z => v6 + z) (by decide)) (by decide) rfl (fun ls hl => ?_)
      refine lv_goto (tgt := 23) hx hb dX8_weightBy_140 (by decide) ?_
      exact hk23 _ _ _ _ _ _ _ _ _ _ hf hP hS (lv_sub hl [1, 2, 3, 4, 5, 0] rfl)
    · rw [if_neg h] at hf
      refine lv_iload hx hb dX8_weightBy_68 (lv_at hl 5 rfl) ?_
      refine lv_iload hx hb dX8_weightBy_70 (lv_at hl 7 rfl) ?_
      refine zz_callSi C (As := [.int v6, .int v8]) (rest := []) (zc_X2_slotOf _ _ _) (va_cwS 2 hts gX8_weightBy_X2_slotOf rfl rfl rfl zd_X2_slotOf.2 ⟨Nat.le_of_ble_eq_true rfl, Nat.le_of_ble_eq_true rfl⟩) hP hS rfl hl rfl (Nat.le_of_ble_eq_true rfl) dX8_weightBy_72 ⟨Nat.zero_le _, Nat.zero_le _⟩ (fun H locs hP hS => ?_)
      refine lv_topi (fun w4 e4 => ?_)
      replace hf := zz_vi hf e4
      refine lv_istore (lv' := [(9, .int w4), (0, .ref (q 0)), (1, .int v1), (3, .int v3), (4, .int v4), (5, .int v5), (6, .int v6), (7, .int v7), (8, .int v8)]) hx hb dX8_weightBy_75 hl (by decide) rfl (fun ls hl => ?_)
      refine lv_aload_n hx hb dX8_weightBy_77 rfl (lv_at hl 1 rfl) ?_
      refine zz_getf C zi_X8_weightBy_X8 hP 0 rfl rfl 1 (nm := "units") (ds := "LThirteenthDay$Units;") (fin := true) rfl (by decide) zk_X8_weightBy_19 rfl dX8_weightBy_78 ?_
      refine lv_iload hx hb dX8_weightBy_81 (lv_at hl 0 rfl) ?_
      refine lv_iload_n hx hb dX8_weightBy_83 rfl (lv_at hl 2 rfl) ?_
      refine lv_iload_n hx hb dX8_weightBy_84 rfl (lv_at hl 3 rfl) ?_
      refine zz_callVi C (As := [.int w4, .int v1, .int v3]) (rest := []) (zc_X7_isAtBy _ _ _ _) (cwV 3 hts gX8_weightBy_X7_isAtBy rfl rfl rfl zd_X7_isAtBy ⟨Nat.le_of_ble_eq_true rfl, Nat.le_of_ble_eq_true rfl⟩) hP hS 2 rfl rfl rfl hl rfl (Nat.le_of_ble_eq_true rfl) dX8_weightBy_85 ⟨Nat.zero_le _, Nat.zero_le _⟩ (fun H locs hP hS => ?_)
      refine lv_if_ne (tgt := 108) hx hb dX8_weightBy_88 (by decide) (fun h => ?_) (fun h => ?_)
      · rw [zz_if1 (zz_b1 h)] at hf
        exact zt_X8_weightBy_108 C hr _ hk23 _ ih _ _ _ _ _ _ _ _ _ _ _ _ hf hP hS (lv_sub hl [1, 2, 3, 4, 5, 6, 7, 8] rfl)
      · rw [zz_if0 (zz_b0 h)] at hf
        refine lv_aload_n hx hb dX8_weightBy_91 rfl (lv_at hl 1 rfl) ?_
        refine zz_getf C zi_X8_weightBy_X8 hP 0 rfl rfl 2 (nm := "paths") (ds := "LThirteenthDay$Paths;") (fin := true) rfl (by decide) zk_X8_weightBy_26 rfl dX8_weightBy_92 ?_
        refine lv_iload hx hb dX8_weightBy_95 (lv_at hl 0 rfl) ?_
        refine lv_iload_n hx hb dX8_weightBy_97 rfl (lv_at hl 2 rfl) ?_
        refine lv_iload_n hx hb dX8_weightBy_98 rfl (lv_at hl 3 rfl) ?_
        refine lv_iload hx hb dX8_weightBy_99 (lv_at hl 4 rfl) ?_
        refine lv_isub hx hb dX8_weightBy_101 ?_
        refine zz_callVi C (As := [.int w4, .int v1, .int (v3 - v4)]) (rest := []) (zc_X2_isDueAt 3 6 (by decide) _ _ _ _) (cwV 3 hts gX8_weightBy_X2_isDueAt rfl rfl rfl zd_X2_isDueAt ⟨Nat.le_of_ble_eq_true rfl, Nat.le_of_ble_eq_true rfl⟩) hP hS 3 rfl rfl rfl hl rfl (Nat.le_of_ble_eq_true rfl) dX8_weightBy_102 ⟨Nat.zero_le _, Nat.zero_le _⟩ (fun H locs hP hS => ?_)
        refine lv_if_eq (tgt := 112) hx hb dX8_weightBy_105 (by decide) (fun h => ?_) (fun h => ?_)
        · rw [zz_if0 (zz_b0 h)] at hf
          refine lv_iconst (v := 0) hx hb dX8_weightBy_112 (by decide) ?_
          refine lv_istore (lv' := [(10, .int 0), (9, .int w4), (0, .ref (q 0)), (1, .int v1), (3, .int v3), (4, .int v4), (5, .int v5), (6, .int v6), (7, .int v7), (8, .int v8)]) hx hb dX8_weightBy_113 hl (by decide) rfl (fun ls hl => ?_)
          refine lv_iload hx hb dX8_weightBy_115 (lv_at hl 6 rfl) ?_
          refine lv_iload hx hb dX8_weightBy_117 (lv_at hl 0 rfl) ?_
          refine lv_if_eq (tgt := 127) hx hb dX8_weightBy_119 (by decide) (fun _ => ?_) (fun h => absurd (by decide) h)
          refine lv_iconst (v := 0) hx hb dX8_weightBy_127 (by decide) ?_
          refine lv_iadd hx hb dX8_weightBy_128 ?_
          refine lv_topi (fun w6 e6 => ?_)
          replace hf := zz_vi hf e6
          refine lv_istore (lv' := [(5, .int w6), (10, .int 0), (9, .int w4), (0, .ref (q 0)), (1, .int v1), (3, .int v3), (4, .int v4), (6, .int v6), (7, .int v7), (8, .int v8)]) hx hb dX8_weightBy_129 hl (by decide) rfl (fun ls hl => ?_)
          refine lv_iinc (v := (v8 + 1)) (lv' := [(8, .int (v8 + 1)), (5, .int w6), (10, .int 0), (9, .int w4), (0, .ref (q 0)), (1, .int v1), (3, .int v3), (4, .int v4), (6, .int v6), (7, .int v7)]) hx hb dX8_weightBy_131 hl (k := 9) rfl (congrArg (fun z => v8 + z) (by decide)) (by decide) rfl (fun ls hl => ?_)
          refine lv_goto (tgt := 53) hx hb dX8_weightBy_134 (by decide) ?_
          exact ih _ _ _ _ _ _ _ _ _ _ _ _ hf hP hS (lv_sub hl [4, 5, 6, 7, 1, 8, 9, 0] rfl)
        · rw [zz_if1 (zz_b1 h)] at hf
          exact zt_X8_weightBy_108 C hr _ hk23 _ ih _ _ _ _ _ _ _ _ _ _ _ _ hf hP hS (lv_sub hl [1, 2, 3, 4, 5, 6, 7, 8] rfl)
def zX8_weightBy_23 : Nat → Int32 → Int32 → Int32 → Int32 → Int32 → zz_T → Option Int32
  | 0, _, _, _, _, _, _ => none
  | n + 1, v1, v3, v4, v5, v6, st =>
    if (zX7_count st) ≤ v6 then
      some v5
    else
      zz_v (zX7_weightOf (zX7_get v6 0 st) st) fun w3 =>
      zX8_weightBy_53 (fun v1' v3' v4' v5' v6' st' => zX8_weightBy_23 n v1' v3' v4' v5' v6' st') zz_N v1 v3 v4 v5 v6 w3 0 st
set_option maxHeartbeats 4000000 in
set_option maxRecDepth 100000 in
theorem zt_X8_weightBy_23 {l : Launch} {A : Nat → Prop} {D : va_G} {cI : ClassId} {q : Nat → Nat} {p : Program} {e : Env} {s : State} {m : MethodId} {args : Array Value} {below : List Frame} {meth : Method} {c : Code} (C : zz_C A D cI q p s m args meth c cX8_weightBy 11 wsX8_weightBy yX8_weightBy.cls) (hr : meth.sig.returnType = some .int) : ∀ (n : Nat) (v1 : Int32) (v3 : Int32) (v4 : Int32) (v5 : Int32) (v6 : Int32) (st : zz_T) (H : Heap) (locs : List Loc) (ls : Array Slot) (r : Int32), zX8_weightBy_23 n v1 v3 v4 v5 v6 st = some r → va_P D vwCl (zz_c q cI st) H → va_S A s.heap H locs → lv_has ls 11 [(0, .ref (q 0)), (1, .int v1), (3, .int v3), (4, .int v4), (5, .int v5), (6, .int v6)] → W p l e zr_X8_weightBy s m args below meth c H locs 0 0 (zz_Qi A D cI q r st below args s) (F0 m 23 ls []) := by
  obtain ⟨hx, hb, hml, hown, hts⟩ := id C.1
  intro n
  induction n with
  | zero => intro v1 v3 v4 v5 v6 st H locs ls r hf; cases hf
  | succ n ih =>
    intro v1 v3 v4 v5 v6 st H locs ls r hf hP hS hl
    rw [zX8_weightBy_23] at hf
    refine lv_iload hx hb dX8_weightBy_23 (lv_at hl 5 rfl) ?_
    refine lv_aload_n hx hb dX8_weightBy_25 rfl (lv_at hl 0 rfl) ?_
    refine zz_getf C zi_X8_weightBy_X8 hP 0 rfl rfl 1 (nm := "units") (ds := "LThirteenthDay$Units;") (fin := true) rfl (by decide) zk_X8_weightBy_19 rfl dX8_weightBy_26 ?_
    refine zz_callVi C (As := []) (rest := [.int v6]) (zc_X7_count _) (cwV 0 hts gX8_weightBy_X7_count rfl rfl rfl zd_X7_count ⟨Nat.le_of_ble_eq_true rfl, Nat.le_of_ble_eq_true rfl⟩) hP hS 2 rfl rfl rfl hl rfl (Nat.le_of_ble_eq_true rfl) dX8_weightBy_29 ⟨Nat.zero_le _, Nat.zero_le _⟩ (fun H locs hP hS => ?_)
    refine lv_icmp_ge (tgt := 143) hx hb dX8_weightBy_32 (by decide) (fun h => ?_) (fun h => ?_)
    · rw [if_pos h] at hf
      refine lv_iload hx hb dX8_weightBy_143 (lv_at hl 4 rfl) ?_
      rw [← (Option.some.inj hf)]
      exact zz_reti C hr hP hS dX8_weightBy_145
    · rw [if_neg h] at hf
      refine lv_aload_n hx hb dX8_weightBy_35 rfl (lv_at hl 0 rfl) ?_
      refine zz_getf C zi_X8_weightBy_X8 hP 0 rfl rfl 1 (nm := "units") (ds := "LThirteenthDay$Units;") (fin := true) rfl (by decide) zk_X8_weightBy_19 rfl dX8_weightBy_36 ?_
      refine lv_iload hx hb dX8_weightBy_39 (lv_at hl 5 rfl) ?_
      refine lv_iconst (v := 0) hx hb dX8_weightBy_41 (by decide) ?_
      refine zz_callVi C (As := [.int v6, .int 0]) (rest := []) (zc_X7_get _ _ _) (cwV 2 hts gX8_weightBy_X7_get rfl rfl rfl zd_X7_get ⟨Nat.le_of_ble_eq_true rfl, Nat.le_of_ble_eq_true rfl⟩) hP hS 2 rfl rfl rfl hl rfl (Nat.le_of_ble_eq_true rfl) dX8_weightBy_42 ⟨Nat.zero_le _, Nat.zero_le _⟩ (fun H locs hP hS => ?_)
      refine zz_callSi C (As := [.int (zX7_get v6 0 st)]) (rest := []) (zc_X7_weightOf _ _) (va_cwS 1 hts gX8_weightBy_X7_weightOf rfl rfl rfl zd_X7_weightOf.2 ⟨Nat.le_of_ble_eq_true rfl, Nat.le_of_ble_eq_true rfl⟩) hP hS rfl hl rfl (Nat.le_of_ble_eq_true rfl) dX8_weightBy_45 ⟨Nat.zero_le _, Nat.zero_le _⟩ (fun H locs hP hS => ?_)
      refine lv_topi (fun w3 e3 => ?_)
      replace hf := zz_vi hf e3
      refine lv_istore (lv' := [(7, .int w3), (0, .ref (q 0)), (1, .int v1), (3, .int v3), (4, .int v4), (5, .int v5), (6, .int v6)]) hx hb dX8_weightBy_48 hl (by decide) rfl (fun ls hl => ?_)
      refine lv_iconst (v := 0) hx hb dX8_weightBy_50 (by decide) ?_
      refine lv_istore (lv' := [(8, .int 0), (7, .int w3), (0, .ref (q 0)), (1, .int v1), (3, .int v3), (4, .int v4), (5, .int v5), (6, .int v6)]) hx hb dX8_weightBy_51 hl (by decide) rfl (fun ls hl => ?_)
      exact zt_X8_weightBy_53 C hr _ ih zz_N _ _ _ _ _ _ _ _ _ _ _ _ hf hP hS (lv_sub hl [2, 3, 4, 5, 6, 7, 1, 0] rfl)
def zX8_weightBy (v1 : Int32) (v2 : Int32) (st : zz_T) : Option Int32 :=
  zz_v (v2 * 144) fun w1 =>
  zz_v (zX3_get v1 1 st) fun w2 =>
  zX8_weightBy_23 zz_N v1 w1 w2 0 0 st
set_option maxHeartbeats 4000000 in
set_option maxRecDepth 100000 in
theorem zc_X8_weightBy {l : Launch} {A : Nat → Prop} {D : va_G} {cI : ClassId} {q : Nat → Nat} (v1 : Int32) (v2 : Int32) (st : zz_T) (r : Int32) (hf : zX8_weightBy v1 v2 st = some r) : zz_Mi l A D cI q yX8_weightBy wsX8_weightBy zr_X8_weightBy [.ref (q 0), .int v1, .int v2] st r st := by
  refine zz_of (cc := cX8_weightBy) (nL := 11) (ret := some .int) (by decide) rfl (Nat.le_of_ble_eq_true rfl) ?_
  intro p e s m args below meth c ls C hr hP hS hl
  obtain ⟨hx, hb, hml, hown, hts⟩ := id C.1
  have hl : lv_has ls 11 [(0, .ref (q 0)), (1, .int v1), (2, .int v2)] := hl
  rw [zX8_weightBy] at hf
  skip
  refine lv_iload_n hx hb dX8_weightBy_0 rfl (lv_at hl 2 rfl) ?_
  refine lv_sipush (v := 144) hx hb dX8_weightBy_1 (by decide) ?_
  refine lv_imul hx hb dX8_weightBy_4 ?_
  refine lv_topi (fun w1 e1 => ?_)
  replace hf := zz_vi hf e1
  refine lv_istore_n (lv' := [(3, .int w1), (0, .ref (q 0)), (1, .int v1), (2, .int v2)]) hx hb dX8_weightBy_5 rfl hl (by decide) rfl (fun ls hl => ?_)
  refine lv_aload_n hx hb dX8_weightBy_6 rfl (lv_at hl 1 rfl) ?_
  refine zz_getf C zi_X8_weightBy_X8 hP 0 rfl rfl 6 (nm := "sectors") (ds := "LThirteenthDay$Sectors;") (fin := true) rfl (by decide) zk_X8_weightBy_50 rfl dX8_weightBy_7 ?_
  refine lv_iload_n hx hb dX8_weightBy_10 rfl (lv_at hl 2 rfl) ?_
  refine lv_iconst (v := 1) hx hb dX8_weightBy_11 (by decide) ?_
  refine zz_callVi C (As := [.int v1, .int 1]) (rest := []) (zc_X3_get _ _ _) (cwV 2 hts gX8_weightBy_X3_get rfl rfl rfl zd_X3_get ⟨Nat.le_of_ble_eq_true rfl, Nat.le_of_ble_eq_true rfl⟩) hP hS 7 rfl rfl rfl hl rfl (Nat.le_of_ble_eq_true rfl) dX8_weightBy_12 ⟨Nat.zero_le _, Nat.zero_le _⟩ (fun H locs hP hS => ?_)
  refine lv_topi (fun w2 e2 => ?_)
  replace hf := zz_vi hf e2
  refine lv_istore (lv' := [(4, .int w2), (3, .int w1), (0, .ref (q 0)), (1, .int v1), (2, .int v2)]) hx hb dX8_weightBy_15 hl (by decide) rfl (fun ls hl => ?_)
  refine lv_iconst (v := 0) hx hb dX8_weightBy_17 (by decide) ?_
  refine lv_istore (lv' := [(5, .int 0), (4, .int w2), (3, .int w1), (0, .ref (q 0)), (1, .int v1), (2, .int v2)]) hx hb dX8_weightBy_18 hl (by decide) rfl (fun ls hl => ?_)
  refine lv_iconst (v := 0) hx hb dX8_weightBy_20 (by decide) ?_
  refine lv_istore (lv' := [(6, .int 0), (5, .int 0), (4, .int w2), (3, .int w1), (0, .ref (q 0)), (1, .int v1), (2, .int v2)]) hx hb dX8_weightBy_21 hl (by decide) rfl (fun ls hl => ?_)
  exact zt_X8_weightBy_23 C hr zz_N _ _ _ _ _ _ _ _ _ _ hf hP hS (lv_sub hl [4, 5, 3, 2, 1, 0] rfl)
/-! X8_digestSectors PR -/
theorem zd_X8_digestSectors : yX8_digestSectors.cls = RX8 ∧ yX8_digestSectors.cls ≠ "java/lang/invoke/MethodHandle" ∧ yX8_digestSectors.cls ≠ "java/lang/invoke/VarHandle" ∧ (parseMethodDescriptor yX8_digestSectors.desc).map (fun d => d.parameters.length) = some 1 := by decide +kernel
abbrev zr_X8_digestSectors : Room := { frames := 4, cells := 0, slots := 0, locals := 98 }
theorem zk_X8_digestSectors_c404 : Cond.constantLong yX8_digestSectors.cls 404 31 ∈ wsX8_digestSectors := by decide +kernel
def zX8_digestSectors_14 (k5 : Int64 → Int32 → zz_T → Option Int64) : Nat → Int64 → Int32 → Int32 → zz_T → Option Int64
  | 0, _, _, _, _ => none
  | n + 1, v3, v5, v6, st =>
    if 12 < v6 then
      (zX8_weightBy v5 13 st).bind fun x1 =>
      zz_v ((v3 * 31) + (x1.toInt64)) fun w3 =>
      k5 w3 (v5 + 1) st
    else
      (zX8_sectorFact v5 v6 st).bind fun x4 =>
      zz_v ((v3 * 31) + (x4.toInt64)) fun w6 =>
      zX8_digestSectors_14 k5 n w6 v5 (v6 + 1) st
set_option maxHeartbeats 4000000 in
set_option maxRecDepth 100000 in
theorem zt_X8_digestSectors_14 {l : Launch} {A : Nat → Prop} {D : va_G} {cI : ClassId} {q : Nat → Nat} {p : Program} {e : Env} {s : State} {m : MethodId} {args : Array Value} {below : List Frame} {meth : Method} {c : Code} (C : zz_C A D cI q p s m args meth c cX8_digestSectors 7 wsX8_digestSectors yX8_digestSectors.cls) (hr : meth.sig.returnType = some .long) (k5 : Int64 → Int32 → zz_T → Option Int64) (hk5 : ∀ (v3 : Int64) (v5 : Int32) (st : zz_T) (H : Heap) (locs : List Loc) (ls : Array Slot) (r : Int64), k5 v3 v5 st = some r → va_P D vwCl (zz_c q cI st) H → va_S A s.heap H locs → lv_has ls 7 [(0, .ref (q 0)), (3, .long v3), (5, .int v5)] → W p l e zr_X8_digestSectors s m args below meth c H locs 0 0 (zz_Ql A D cI q r st below args s) (F0 m 5 ls [])) : ∀ (n : Nat) (v3 : Int64) (v5 : Int32) (v6 : Int32) (st : zz_T) (H : Heap) (locs : List Loc) (ls : Array Slot) (r : Int64), zX8_digestSectors_14 k5 n v3 v5 v6 st = some r → va_P D vwCl (zz_c q cI st) H → va_S A s.heap H locs → lv_has ls 7 [(0, .ref (q 0)), (3, .long v3), (5, .int v5), (6, .int v6)] → W p l e zr_X8_digestSectors s m args below meth c H locs 0 0 (zz_Ql A D cI q r st below args s) (F0 m 14 ls []) := by
  obtain ⟨hx, hb, hml, hown, hts⟩ := id C.1
  intro n
  induction n with
  | zero => intro v3 v5 v6 st H locs ls r hf; cases hf
  | succ n ih =>
    intro v3 v5 v6 st H locs ls r hf hP hS hl
    rw [zX8_digestSectors_14] at hf
    refine lv_iload hx hb dX8_digestSectors_14 (lv_at hl 3 rfl) ?_
    refine lv_bipush (v := 12) hx hb dX8_digestSectors_16 (by decide) ?_
    refine lv_icmp_gt (tgt := 43) hx hb dX8_digestSectors_18 (by decide) (fun h => ?_) (fun h => ?_)
    · rw [if_pos h] at hf
      refine lv_lload_n hx hb dX8_digestSectors_43 rfl (lv_at hl 1 rfl) ?_
      refine lv_ldc2 (v := 31) hx hb hown (hts _ zk_X8_digestSectors_c404) dX8_digestSectors_44 ?_
      refine lv_lmul hx hb dX8_digestSectors_47 ?_
      refine lv_aload_n hx hb dX8_digestSectors_48 rfl (lv_at hl 0 rfl) ?_
      refine lv_iload hx hb dX8_digestSectors_49 (lv_at hl 2 rfl) ?_
      refine lv_bipush (v := 13) hx hb dX8_digestSectors_51 (by decide) ?_
      obtain ⟨x1, e2, hf⟩ := zz_bo hf
      refine zz_callVi C (As := [.int v5, .int 13]) (rest := [.long (v3 * 31)]) (zc_X8_weightBy _ _ _ _ e2) (cwV 2 hts gX8_digestSectors_X8_weightBy rfl rfl rfl zd_X8_weightBy ⟨Nat.le_of_ble_eq_true rfl, Nat.le_of_ble_eq_true rfl⟩) hP hS 0 rfl rfl rfl hl rfl (Nat.le_of_ble_eq_true rfl) dX8_digestSectors_53 ⟨Nat.zero_le _, Nat.zero_le _⟩ (fun H locs hP hS => ?_)
      refine lv_i2l (v := x1.toInt64) hx hb dX8_digestSectors_56 rfl ?_
      refine lv_ladd hx hb dX8_digestSectors_57 ?_
      refine lv_topl (fun w3 e3 => ?_)
      replace hf := zz_vi hf e3
      refine lv_lstore_n (lv' := [(3, .long w3), (0, .ref (q 0)), (5, .int v5), (6, .int v6)]) hx hb dX8_digestSectors_58 rfl hl (by decide) rfl (fun ls hl => ?_)
      refine lv_iinc (v := (v5 + 1)) (lv' := [(5, .int (v5 + 1)), (3, .long w3), (0, .ref (q 0)), (6, .int v6)]) hx hb dX8_digestSectors_59 hl (k := 2) rfl (congrArg (fun z => v5 + z) (by decide)) (by decide) rfl (fun ls hl => ?_)
      refine lv_goto (tgt := 5) hx hb dX8_digestSectors_62 (by decide) ?_
      exact hk5 _ _ _ _ _ _ _ hf hP hS (lv_sub hl [2, 1, 0] rfl)
    · rw [if_neg h] at hf
      refine lv_lload_n hx hb dX8_digestSectors_21 rfl (lv_at hl 1 rfl) ?_
      refine lv_ldc2 (v := 31) hx hb hown (hts _ zk_X8_digestSectors_c404) dX8_digestSectors_22 ?_
      refine lv_lmul hx hb dX8_digestSectors_25 ?_
      refine lv_aload_n hx hb dX8_digestSectors_26 rfl (lv_at hl 0 rfl) ?_
      refine lv_iload hx hb dX8_digestSectors_27 (lv_at hl 2 rfl) ?_
      refine lv_iload hx hb dX8_digestSectors_29 (lv_at hl 3 rfl) ?_
      obtain ⟨x4, e5, hf⟩ := zz_bo hf
      refine zz_callVi C (As := [.int v5, .int v6]) (rest := [.long (v3 * 31)]) (zc_X8_sectorFact _ _ _ _ e5) (cwV 2 hts gX8_digestSectors_X8_sectorFact rfl rfl rfl zd_X8_sectorFact ⟨Nat.le_of_ble_eq_true rfl, Nat.le_of_ble_eq_true rfl⟩) hP hS 0 rfl rfl rfl hl rfl (Nat.le_of_ble_eq_true rfl) dX8_digestSectors_31 ⟨Nat.zero_le _, Nat.zero_le _⟩ (fun H locs hP hS => ?_)
      refine lv_i2l (v := x4.toInt64) hx hb dX8_digestSectors_34 rfl ?_
      refine lv_ladd hx hb dX8_digestSectors_35 ?_
      refine lv_topl (fun w6 e6 => ?_)
      replace hf := zz_vi hf e6
      refine lv_lstore_n (lv' := [(3, .long w6), (0, .ref (q 0)), (5, .int v5), (6, .int v6)]) hx hb dX8_digestSectors_36 rfl hl (by decide) rfl (fun ls hl => ?_)
      refine lv_iinc (v := (v6 + 1)) (lv' := [(6, .int (v6 + 1)), (3, .long w6), (0, .ref (q 0)), (5, .int v5)]) hx hb dX8_digestSectors_37 hl (k := 3) rfl (congrArg (fun z => v6 + z) (by decide)) (by decide) rfl (fun ls hl => ?_)
      refine lv_goto (tgt := 14) hx hb dX8_digestSectors_40 (by decide) ?_
      exact ih _ _ _ _ _ _ _ _ hf hP hS (lv_sub hl [2, 1, 3, 0] rfl)
def zX8_digestSectors_5 : Nat → Int64 → Int32 → zz_T → Option Int64
  | 0, _, _, _ => none
  | n + 1, v3, v5, st =>
    if 3 ≤ v5 then
      some v3
    else
      zX8_digestSectors_14 (fun v3' v5' st' => zX8_digestSectors_5 n v3' v5' st') zz_N v3 v5 0 st
set_option maxHeartbeats 4000000 in
set_option maxRecDepth 100000 in
theorem zt_X8_digestSectors_5 {l : Launch} {A : Nat → Prop} {D : va_G} {cI : ClassId} {q : Nat → Nat} {p : Program} {e : Env} {s : State} {m : MethodId} {args : Array Value} {below : List Frame} {meth : Method} {c : Code} (C : zz_C A D cI q p s m args meth c cX8_digestSectors 7 wsX8_digestSectors yX8_digestSectors.cls) (hr : meth.sig.returnType = some .long) : ∀ (n : Nat) (v3 : Int64) (v5 : Int32) (st : zz_T) (H : Heap) (locs : List Loc) (ls : Array Slot) (r : Int64), zX8_digestSectors_5 n v3 v5 st = some r → va_P D vwCl (zz_c q cI st) H → va_S A s.heap H locs → lv_has ls 7 [(0, .ref (q 0)), (3, .long v3), (5, .int v5)] → W p l e zr_X8_digestSectors s m args below meth c H locs 0 0 (zz_Ql A D cI q r st below args s) (F0 m 5 ls []) := by
  obtain ⟨hx, hb, hml, hown, hts⟩ := id C.1
  intro n
  induction n with
  | zero => intro v3 v5 st H locs ls r hf; cases hf
  | succ n ih =>
    intro v3 v5 st H locs ls r hf hP hS hl
    rw [zX8_digestSectors_5] at hf
    refine lv_iload hx hb dX8_digestSectors_5 (lv_at hl 2 rfl) ?_
    refine lv_iconst (v := 3) hx hb dX8_digestSectors_7 (by decide) ?_
    refine lv_icmp_ge (tgt := 65) hx hb dX8_digestSectors_8 (by decide) (fun h => ?_) (fun h => ?_)
    · rw [if_pos h] at hf
      refine lv_lload_n hx hb dX8_digestSectors_65 rfl (lv_at hl 1 rfl) ?_
      rw [← (Option.some.inj hf)]
      exact zz_retl C hr hP hS dX8_digestSectors_66
    · rw [if_neg h] at hf
      refine lv_iconst (v := 0) hx hb dX8_digestSectors_11 (by decide) ?_
      refine lv_istore (lv' := [(6, .int 0), (0, .ref (q 0)), (3, .long v3), (5, .int v5)]) hx hb dX8_digestSectors_12 hl (by decide) rfl (fun ls hl => ?_)
      exact zt_X8_digestSectors_14 C hr _ ih zz_N _ _ _ _ _ _ _ _ hf hP hS (lv_sub hl [1, 2, 3, 0] rfl)
def zX8_digestSectors (v1 : Int64) (st : zz_T) : Option Int64 :=
  zX8_digestSectors_5 zz_N v1 0 st
set_option maxHeartbeats 4000000 in
set_option maxRecDepth 100000 in
theorem zc_X8_digestSectors {l : Launch} {A : Nat → Prop} {D : va_G} {cI : ClassId} {q : Nat → Nat} (v1 : Int64) (st : zz_T) (r : Int64) (hf : zX8_digestSectors v1 st = some r) : zz_Ml l A D cI q yX8_digestSectors wsX8_digestSectors zr_X8_digestSectors [.ref (q 0), .long v1] st r st := by
  refine zz_of (cc := cX8_digestSectors) (nL := 7) (ret := some .long) (by decide) rfl (Nat.le_of_ble_eq_true rfl) ?_
  intro p e s m args below meth c ls C hr hP hS hl
  obtain ⟨hx, hb, hml, hown, hts⟩ := id C.1
  have hl : lv_has ls 7 [(0, .ref (q 0)), (1, .long v1)] := hl
  rw [zX8_digestSectors] at hf
  skip
  refine lv_lload_n hx hb dX8_digestSectors_0 rfl (lv_at hl 1 rfl) ?_
  refine lv_lstore_n (lv' := [(3, .long v1), (0, .ref (q 0)), (1, .long v1)]) hx hb dX8_digestSectors_1 rfl hl (by decide) rfl (fun ls hl => ?_)
  refine lv_iconst (v := 0) hx hb dX8_digestSectors_2 (by decide) ?_
  refine lv_istore (lv' := [(5, .int 0), (3, .long v1), (0, .ref (q 0)), (1, .long v1)]) hx hb dX8_digestSectors_3 hl (by decide) rfl (fun ls hl => ?_)
  exact zt_X8_digestSectors_5 C hr zz_N _ _ _ _ _ _ _ hf hP hS (lv_sub hl [2, 1, 0] rfl)
/-! X6_count TR -/
theorem zd_X6_count : yX6_count.cls = RX6 ∧ yX6_count.cls ≠ "java/lang/invoke/MethodHandle" ∧ yX6_count.cls ≠ "java/lang/invoke/VarHandle" ∧ (parseMethodDescriptor yX6_count.desc).map (fun d => d.parameters.length) = some 0 := by decide +kernel
abbrev zr_X6_count : Room := { frames := 0, cells := 0, slots := 0, locals := 0 }
theorem zk_X6_count_23 : Cond.fieldLink yX6_count.cls 23 RX6 "trainCount" "I" ∈ wsX6_count := by decide +kernel
theorem zi_X6_count_X6 : ∀ w ∈ u_ws RX6 TX6 3, w ∈ wsX6_count := by decide +kernel
def zX6_count (st : zz_T) : Int32 :=
  (st.2 5)
set_option maxHeartbeats 4000000 in
set_option maxRecDepth 100000 in
theorem zc_X6_count {l : Launch} {A : Nat → Prop} {D : va_G} {cI : ClassId} {q : Nat → Nat} (st : zz_T) : zz_Mi l A D cI q yX6_count wsX6_count zr_X6_count [.ref (q 5)] st (zX6_count st) st := by
  refine zz_of (cc := cX6_count) (nL := 1) (ret := some .int) (by decide) rfl (Nat.le_of_ble_eq_true rfl) ?_
  intro p e s m args below meth c ls C hr hP hS hl
  obtain ⟨hx, hb, hml, hown, hts⟩ := id C.1
  have hl : lv_has ls 1 [(0, .ref (q 5))] := hl
  obtain ⟨r, hf⟩ : ∃ r, zX6_count st = r := ⟨_, rfl⟩
  rw [hf]
  rw [zX6_count] at hf
  skip
  refine lv_aload_n hx hb dX6_count_0 rfl (lv_at hl 0 rfl) ?_
  refine zz_getf C zi_X6_count_X6 hP 5 rfl rfl 2 (nm := "trainCount") (ds := "I") (fin := false) rfl (by decide) zk_X6_count_23 rfl dX6_count_1 ?_
  rw [← hf]
  exact zz_reti C hr hP hS dX6_count_4
/-! X6_isComing PR -/
theorem zd_X6_isComing : yX6_isComing.cls = RX6 ∧ yX6_isComing.cls ≠ "java/lang/invoke/MethodHandle" ∧ yX6_isComing.cls ≠ "java/lang/invoke/VarHandle" ∧ (parseMethodDescriptor yX6_isComing.desc).map (fun d => d.parameters.length) = some 2 := by decide +kernel
abbrev zr_X6_isComing : Room := { frames := 2, cells := 0, slots := 0, locals := 46 }
theorem zk_X6_isComing_23 : Cond.fieldLink yX6_isComing.cls 23 RX6 "trainCount" "I" ∈ wsX6_isComing := by decide +kernel
theorem zk_X6_isComing_16 : Cond.fieldLink yX6_isComing.cls 16 RX6 "trains" "LThirteenthDay$Table;" ∈ wsX6_isComing := by decide +kernel
theorem zi_X6_isComing_X6 : ∀ w ∈ u_ws RX6 TX6 3, w ∈ wsX6_isComing := by decide +kernel
def zX6_isComing_2 : Nat → Int32 → Int32 → Int32 → zz_T → Option Bool
  | 0, _, _, _, _ => none
  | n + 1, v1, v2, v3, st =>
    if (st.2 5) ≤ v3 then
      some false
    else
      if (zX6_isOn v3 v1 st) = true then
        if (zz_g 16 v3 11 st) = v2 then
          zX6_isComing_2 n v1 v2 (v3 + 1) st
        else
          some true
      else
        zX6_isComing_2 n v1 v2 (v3 + 1) st
set_option maxHeartbeats 4000000 in
set_option maxRecDepth 100000 in
theorem zt_X6_isComing_2 {l : Launch} {A : Nat → Prop} {D : va_G} {cI : ClassId} {q : Nat → Nat} {p : Program} {e : Env} {s : State} {m : MethodId} {args : Array Value} {below : List Frame} {meth : Method} {c : Code} (C : zz_C A D cI q p s m args meth c cX6_isComing 4 wsX6_isComing yX6_isComing.cls) (hr : meth.sig.returnType = some .boolean) : ∀ (n : Nat) (v1 : Int32) (v2 : Int32) (v3 : Int32) (st : zz_T) (H : Heap) (locs : List Loc) (ls : Array Slot) (r : Bool), zX6_isComing_2 n v1 v2 v3 st = some r → va_P D vwCl (zz_c q cI st) H → va_S A s.heap H locs → lv_has ls 4 [(0, .ref (q 5)), (1, .int v1), (2, .int v2), (3, .int v3)] → W p l e zr_X6_isComing s m args below meth c H locs 0 0 (zz_Qi A D cI q (zz_b r) st below args s) (F0 m 2 ls []) := by
  obtain ⟨hx, hb, hml, hown, hts⟩ := id C.1
  intro n
  induction n with
  | zero => intro v1 v2 v3 st H locs ls r hf; cases hf
  | succ n ih =>
    intro v1 v2 v3 st H locs ls r hf hP hS hl
    rw [zX6_isComing_2] at hf
    refine lv_iload_n hx hb dX6_isComing_2 rfl (lv_at hl 3 rfl) ?_
    refine lv_aload_n hx hb dX6_isComing_3 rfl (lv_at hl 0 rfl) ?_
    refine zz_getf C zi_X6_isComing_X6 hP 5 rfl rfl 2 (nm := "trainCount") (ds := "I") (fin := false) rfl (by decide) zk_X6_isComing_23 rfl dX6_isComing_4 ?_
    refine lv_icmp_ge (tgt := 41) hx hb dX6_isComing_7 (by decide) (fun h => ?_) (fun h => ?_)
    · rw [if_pos h] at hf
      refine lv_iconst (v := 0) hx hb dX6_isComing_41 (by decide) ?_
      rw [← (Option.some.inj hf)]
      exact zz_retz (v := false) C hr hP hS dX6_isComing_42
    · rw [if_neg h] at hf
      refine lv_aload_n hx hb dX6_isComing_10 rfl (lv_at hl 0 rfl) ?_
      refine lv_iload_n hx hb dX6_isComing_11 rfl (lv_at hl 3 rfl) ?_
      refine lv_iload_n hx hb dX6_isComing_12 rfl (lv_at hl 1 rfl) ?_
      refine zz_callVi C (As := [.int v3, .int v1]) (rest := []) (zc_X6_isOn _ _ _) (cwV 2 hts gX6_isComing_X6_isOn rfl rfl rfl zd_X6_isOn ⟨Nat.le_of_ble_eq_true rfl, Nat.le_of_ble_eq_true rfl⟩) hP hS 5 rfl rfl rfl hl rfl (Nat.le_of_ble_eq_true rfl) dX6_isComing_13 ⟨Nat.zero_le _, Nat.zero_le _⟩ (fun H locs hP hS => ?_)
      refine lv_if_eq (tgt := 35) hx hb dX6_isComing_16 (by decide) (fun h => ?_) (fun h => ?_)
      · rw [zz_if0 (zz_b0 h)] at hf
        refine lv_iinc (v := (v3 + 1)) (lv' := [(3, .int (v3 + 1)), (0, .ref (q 5)), (1, .int v1), (2, .int v2)]) hx hb dX6_isComing_35 hl (k := 3) rfl (congrArg (fun z => v3 + z) (by decide)) (by decide) rfl (fun ls hl => ?_)
        refine lv_goto (tgt := 2) hx hb dX6_isComing_38 (by decide) ?_
        exact ih _ _ _ _ _ _ _ _ hf hP hS (lv_sub hl [1, 2, 3, 0] rfl)
      · rw [zz_if1 (zz_b1 h)] at hf
        refine lv_aload_n hx hb dX6_isComing_19 rfl (lv_at hl 0 rfl) ?_
        refine zz_getf C zi_X6_isComing_X6 hP 5 rfl rfl 0 (nm := "trains") (ds := "LThirteenthDay$Table;") (fin := true) rfl (by decide) zk_X6_isComing_16 rfl dX6_isComing_20 ?_
        refine lv_iload_n hx hb dX6_isComing_23 rfl (lv_at hl 3 rfl) ?_
        refine lv_bipush (v := 11) hx hb dX6_isComing_24 (by decide) ?_
        refine zz_callVi C (As := [.int v3, .int 11]) (rest := []) (zc_X5_get 16 (by decide) _ _ _) (cwV 2 hts gX6_isComing_X5_get rfl rfl rfl zd_X5_get ⟨Nat.le_of_ble_eq_true rfl, Nat.le_of_ble_eq_true rfl⟩) hP hS (9 + 16) (zz_c_tab (by decide)) rfl rfl hl rfl (Nat.le_of_ble_eq_true rfl) dX6_isComing_26 ⟨Nat.zero_le _, Nat.zero_le _⟩ (fun H locs hP hS => ?_)
        refine lv_iload_n hx hb dX6_isComing_29 rfl (lv_at hl 2 rfl) ?_
        refine lv_icmp_eq (tgt := 35) hx hb dX6_isComing_30 (by decide) (fun h => ?_) (fun h => ?_)
        · rw [if_pos h] at hf
          refine lv_iinc (v := (v3 + 1)) (lv' := [(3, .int (v3 + 1)), (0, .ref (q 5)), (1, .int v1), (2, .int v2)]) hx hb dX6_isComing_35 hl (k := 3) rfl (congrArg (fun z => v3 + z) (by decide)) (by decide) rfl (fun ls hl => ?_)
          refine lv_goto (tgt := 2) hx hb dX6_isComing_38 (by decide) ?_
          exact ih _ _ _ _ _ _ _ _ hf hP hS (lv_sub hl [1, 2, 3, 0] rfl)
        · rw [if_neg h] at hf
          refine lv_iconst (v := 1) hx hb dX6_isComing_33 (by decide) ?_
          rw [← (Option.some.inj hf)]
          exact zz_retz (v := true) C hr hP hS dX6_isComing_34
def zX6_isComing (v1 : Int32) (v2 : Int32) (st : zz_T) : Option Bool :=
  zX6_isComing_2 zz_N v1 v2 0 st
set_option maxHeartbeats 4000000 in
set_option maxRecDepth 100000 in
theorem zc_X6_isComing {l : Launch} {A : Nat → Prop} {D : va_G} {cI : ClassId} {q : Nat → Nat} (v1 : Int32) (v2 : Int32) (st : zz_T) (r : Bool) (hf : zX6_isComing v1 v2 st = some r) : zz_Mi l A D cI q yX6_isComing wsX6_isComing zr_X6_isComing [.ref (q 5), .int v1, .int v2] st (zz_b r) st := by
  refine zz_of (cc := cX6_isComing) (nL := 4) (ret := some .boolean) (by decide) rfl (Nat.le_of_ble_eq_true rfl) ?_
  intro p e s m args below meth c ls C hr hP hS hl
  obtain ⟨hx, hb, hml, hown, hts⟩ := id C.1
  have hl : lv_has ls 4 [(0, .ref (q 5)), (1, .int v1), (2, .int v2)] := hl
  rw [zX6_isComing] at hf
  skip
  refine lv_iconst (v := 0) hx hb dX6_isComing_0 (by decide) ?_
  refine lv_istore_n (lv' := [(3, .int 0), (0, .ref (q 5)), (1, .int v1), (2, .int v2)]) hx hb dX6_isComing_1 rfl hl (by decide) rfl (fun ls hl => ?_)
  exact zt_X6_isComing_2 C hr zz_N _ _ _ _ _ _ _ _ hf hP hS (lv_sub hl [1, 2, 3, 0] rfl)
/-! X6_isTaken PR -/
theorem zd_X6_isTaken : yX6_isTaken.cls = RX6 ∧ yX6_isTaken.cls ≠ "java/lang/invoke/MethodHandle" ∧ yX6_isTaken.cls ≠ "java/lang/invoke/VarHandle" ∧ (parseMethodDescriptor yX6_isTaken.desc).map (fun d => d.parameters.length) = some 4 := by decide +kernel
abbrev zr_X6_isTaken : Room := { frames := 2, cells := 0, slots := 0, locals := 46 }
theorem zk_X6_isTaken_23 : Cond.fieldLink yX6_isTaken.cls 23 RX6 "trainCount" "I" ∈ wsX6_isTaken := by decide +kernel
theorem zk_X6_isTaken_16 : Cond.fieldLink yX6_isTaken.cls 16 RX6 "trains" "LThirteenthDay$Table;" ∈ wsX6_isTaken := by decide +kernel
theorem zi_X6_isTaken_X6 : ∀ w ∈ u_ws RX6 TX6 3, w ∈ wsX6_isTaken := by decide +kernel
def zX6_isTaken_3 : Nat → Int32 → Int32 → Int32 → Bool → Int32 → zz_T → Option Bool
  | 0, _, _, _, _, _, _ => none
  | n + 1, v1, v2, v3, v4, v5, st =>
    if (st.2 5) ≤ v5 then
      some false
    else
      if (zX6_isOn v5 v1 st) = true then
        if (zz_g 16 v5 4 st) = v2 then
          if v4 = true then
            if (zz_g 16 v5 11 st) = v3 then
              some true
            else
              zX6_isTaken_3 n v1 v2 v3 v4 (v5 + 1) st
          else
            some true
        else
          zX6_isTaken_3 n v1 v2 v3 v4 (v5 + 1) st
      else
        zX6_isTaken_3 n v1 v2 v3 v4 (v5 + 1) st
set_option maxHeartbeats 4000000 in
set_option maxRecDepth 100000 in
theorem zt_X6_isTaken_3 {l : Launch} {A : Nat → Prop} {D : va_G} {cI : ClassId} {q : Nat → Nat} {p : Program} {e : Env} {s : State} {m : MethodId} {args : Array Value} {below : List Frame} {meth : Method} {c : Code} (C : zz_C A D cI q p s m args meth c cX6_isTaken 6 wsX6_isTaken yX6_isTaken.cls) (hr : meth.sig.returnType = some .boolean) : ∀ (n : Nat) (v1 : Int32) (v2 : Int32) (v3 : Int32) (v4 : Bool) (v5 : Int32) (st : zz_T) (H : Heap) (locs : List Loc) (ls : Array Slot) (r : Bool), zX6_isTaken_3 n v1 v2 v3 v4 v5 st = some r → va_P D vwCl (zz_c q cI st) H → va_S A s.heap H locs → lv_has ls 6 [(0, .ref (q 5)), (1, .int v1), (2, .int v2), (3, .int v3), (4, .int (zz_b v4)), (5, .int v5)] → W p l e zr_X6_isTaken s m args below meth c H locs 0 0 (zz_Qi A D cI q (zz_b r) st below args s) (F0 m 3 ls []) := by
  obtain ⟨hx, hb, hml, hown, hts⟩ := id C.1
  intro n
  induction n with
  | zero => intro v1 v2 v3 v4 v5 st H locs ls r hf; cases hf
  | succ n ih =>
    intro v1 v2 v3 v4 v5 st H locs ls r hf hP hS hl
    rw [zX6_isTaken_3] at hf
    refine lv_iload hx hb dX6_isTaken_3 (lv_at hl 5 rfl) ?_
    refine lv_aload_n hx hb dX6_isTaken_5 rfl (lv_at hl 0 rfl) ?_
    refine zz_getf C zi_X6_isTaken_X6 hP 5 rfl rfl 2 (nm := "trainCount") (ds := "I") (fin := false) rfl (by decide) zk_X6_isTaken_23 rfl dX6_isTaken_6 ?_
    refine lv_icmp_ge (tgt := 64) hx hb dX6_isTaken_9 (by decide) (fun h => ?_) (fun h => ?_)
    · rw [if_pos h] at hf
      refine lv_iconst (v := 0) hx hb dX6_isTaken_64 (by decide) ?_
      rw [← (Option.some.inj hf)]
      exact zz_retz (v := false) C hr hP hS dX6_isTaken_65
    · rw [if_neg h] at hf
      refine lv_aload_n hx hb dX6_isTaken_12 rfl (lv_at hl 0 rfl) ?_
      refine lv_iload hx hb dX6_isTaken_13 (lv_at hl 5 rfl) ?_
      refine lv_iload_n hx hb dX6_isTaken_15 rfl (lv_at hl 1 rfl) ?_
      refine zz_callVi C (As := [.int v5, .int v1]) (rest := []) (zc_X6_isOn _ _ _) (cwV 2 hts gX6_isTaken_X6_isOn rfl rfl rfl zd_X6_isOn ⟨Nat.le_of_ble_eq_true rfl, Nat.le_of_ble_eq_true rfl⟩) hP hS 5 rfl rfl rfl hl rfl (Nat.le_of_ble_eq_true rfl) dX6_isTaken_16 ⟨Nat.zero_le _, Nat.zero_le _⟩ (fun H locs hP hS => ?_)
      refine lv_if_eq (tgt := 58) hx hb dX6_isTaken_19 (by decide) (fun h => ?_) (fun h => ?_)
      · rw [zz_if0 (zz_b0 h)] at hf
        refine lv_iinc (v := (v5 + 1)) (lv' := [(5, .int (v5 + 1)), (0, .ref (q 5)), (1, .int v1), (2, .int v2), (3, .int v3), (4, .int (zz_b v4))]) hx hb dX6_isTaken_58 hl (k := 5) rfl (congrArg (fun z => v5 + z) (by decide)) (by decide) rfl (fun ls hl => ?_)
        refine lv_goto (tgt := 3) hx hb dX6_isTaken_61 (by decide) ?_
        exact ih _ _ _ _ _ _ _ _ _ _ hf hP hS (lv_sub hl [1, 2, 3, 4, 5, 0] rfl)
      · rw [zz_if1 (zz_b1 h)] at hf
        refine lv_aload_n hx hb dX6_isTaken_22 rfl (lv_at hl 0 rfl) ?_
        refine zz_getf C zi_X6_isTaken_X6 hP 5 rfl rfl 0 (nm := "trains") (ds := "LThirteenthDay$Table;") (fin := true) rfl (by decide) zk_X6_isTaken_16 rfl dX6_isTaken_23 ?_
        refine lv_iload hx hb dX6_isTaken_26 (lv_at hl 5 rfl) ?_
        refine lv_iconst (v := 4) hx hb dX6_isTaken_28 (by decide) ?_
        refine zz_callVi C (As := [.int v5, .int 4]) (rest := []) (zc_X5_get 16 (by decide) _ _ _) (cwV 2 hts gX6_isTaken_X5_get rfl rfl rfl zd_X5_get ⟨Nat.le_of_ble_eq_true rfl, Nat.le_of_ble_eq_true rfl⟩) hP hS (9 + 16) (zz_c_tab (by decide)) rfl rfl hl rfl (Nat.le_of_ble_eq_true rfl) dX6_isTaken_29 ⟨Nat.zero_le _, Nat.zero_le _⟩ (fun H locs hP hS => ?_)
        refine lv_iload_n hx hb dX6_isTaken_32 rfl (lv_at hl 2 rfl) ?_
        refine lv_icmp_ne (tgt := 58) hx hb dX6_isTaken_33 (by decide) (fun h => ?_) (fun h => ?_)
        · rw [if_neg h] at hf
          refine lv_iinc (v := (v5 + 1)) (lv' := [(5, .int (v5 + 1)), (0, .ref (q 5)), (1, .int v1), (2, .int v2), (3, .int v3), (4, .int (zz_b v4))]) hx hb dX6_isTaken_58 hl (k := 5) rfl (congrArg (fun z => v5 + z) (by decide)) (by decide) rfl (fun ls hl => ?_)
          refine lv_goto (tgt := 3) hx hb dX6_isTaken_61 (by decide) ?_
          exact ih _ _ _ _ _ _ _ _ _ _ hf hP hS (lv_sub hl [1, 2, 3, 4, 5, 0] rfl)
        · rw [if_pos h] at hf
          refine lv_iload hx hb dX6_isTaken_36 (lv_at hl 4 rfl) ?_
          refine lv_if_eq (tgt := 56) hx hb dX6_isTaken_38 (by decide) (fun h => ?_) (fun h => ?_)
          · rw [zz_if0 (zz_b0 h)] at hf
            refine lv_iconst (v := 1) hx hb dX6_isTaken_56 (by decide) ?_
            rw [← (Option.some.inj hf)]
            exact zz_retz (v := true) C hr hP hS dX6_isTaken_57
          · rw [zz_if1 (zz_b1 h)] at hf
            refine lv_aload_n hx hb dX6_isTaken_41 rfl (lv_at hl 0 rfl) ?_
            refine zz_getf C zi_X6_isTaken_X6 hP 5 rfl rfl 0 (nm := "trains") (ds := "LThirteenthDay$Table;") (fin := true) rfl (by decide) zk_X6_isTaken_16 rfl dX6_isTaken_42 ?_
            refine lv_iload hx hb dX6_isTaken_45 (lv_at hl 5 rfl) ?_
            refine lv_bipush (v := 11) hx hb dX6_isTaken_47 (by decide) ?_
            refine zz_callVi C (As := [.int v5, .int 11]) (rest := []) (zc_X5_get 16 (by decide) _ _ _) (cwV 2 hts gX6_isTaken_X5_get rfl rfl rfl zd_X5_get ⟨Nat.le_of_ble_eq_true rfl, Nat.le_of_ble_eq_true rfl⟩) hP hS (9 + 16) (zz_c_tab (by decide)) rfl rfl hl rfl (Nat.le_of_ble_eq_true rfl) dX6_isTaken_49 ⟨Nat.zero_le _, Nat.zero_le _⟩ (fun H locs hP hS => ?_)
            refine lv_iload_n hx hb dX6_isTaken_52 rfl (lv_at hl 3 rfl) ?_
            refine lv_icmp_ne (tgt := 58) hx hb dX6_isTaken_53 (by decide) (fun h => ?_) (fun h => ?_)
            · rw [if_neg h] at hf
              refine lv_iinc (v := (v5 + 1)) (lv' := [(5, .int (v5 + 1)), (0, .ref (q 5)), (1, .int v1), (2, .int v2), (3, .int v3), (4, .int (zz_b v4))]) hx hb dX6_isTaken_58 hl (k := 5) rfl (congrArg (fun z => v5 + z) (by decide)) (by decide) rfl (fun ls hl => ?_)
              refine lv_goto (tgt := 3) hx hb dX6_isTaken_61 (by decide) ?_
              exact ih _ _ _ _ _ _ _ _ _ _ hf hP hS (lv_sub hl [1, 2, 3, 4, 5, 0] rfl)
            · rw [if_pos h] at hf
              refine lv_iconst (v := 1) hx hb dX6_isTaken_56 (by decide) ?_
              rw [← (Option.some.inj hf)]
              exact zz_retz (v := true) C hr hP hS dX6_isTaken_57
def zX6_isTaken (v1 : Int32) (v2 : Int32) (v3 : Int32) (v4 : Bool) (st : zz_T) : Option Bool :=
  zX6_isTaken_3 zz_N v1 v2 v3 v4 0 st
set_option maxHeartbeats 4000000 in
set_option maxRecDepth 100000 in
theorem zc_X6_isTaken {l : Launch} {A : Nat → Prop} {D : va_G} {cI : ClassId} {q : Nat → Nat} (v1 : Int32) (v2 : Int32) (v3 : Int32) (v4 : Bool) (st : zz_T) (r : Bool) (hf : zX6_isTaken v1 v2 v3 v4 st = some r) : zz_Mi l A D cI q yX6_isTaken wsX6_isTaken zr_X6_isTaken [.ref (q 5), .int v1, .int v2, .int v3, .int (zz_b v4)] st (zz_b r) st := by
  refine zz_of (cc := cX6_isTaken) (nL := 6) (ret := some .boolean) (by decide) rfl (Nat.le_of_ble_eq_true rfl) ?_
  intro p e s m args below meth c ls C hr hP hS hl
  obtain ⟨hx, hb, hml, hown, hts⟩ := id C.1
  have hl : lv_has ls 6 [(0, .ref (q 5)), (1, .int v1), (2, .int v2), (3, .int v3), (4, .int (zz_b v4))] := hl
  rw [zX6_isTaken] at hf
  skip
  refine lv_iconst (v := 0) hx hb dX6_isTaken_0 (by decide) ?_
  refine lv_istore (lv' := [(5, .int 0), (0, .ref (q 5)), (1, .int v1), (2, .int v2), (3, .int v3), (4, .int (zz_b v4))]) hx hb dX6_isTaken_1 hl (by decide) rfl (fun ls hl => ?_)
  exact zt_X6_isTaken_3 C hr zz_N _ _ _ _ _ _ _ _ _ _ hf hP hS (lv_sub hl [1, 2, 3, 4, 5, 0] rfl)
/-! X6_waitAtStation PR -/
theorem zd_X6_waitAtStation : yX6_waitAtStation.cls = RX6 ∧ yX6_waitAtStation.cls ≠ "java/lang/invoke/MethodHandle" ∧ yX6_waitAtStation.cls ≠ "java/lang/invoke/VarHandle" ∧ (parseMethodDescriptor yX6_waitAtStation.desc).map (fun d => d.parameters.length) = some 2 := by decide +kernel
abbrev zr_X6_waitAtStation : Room := { frames := 3, cells := 0, slots := 0, locals := 71 }
theorem zk_X6_waitAtStation_16 : Cond.fieldLink yX6_waitAtStation.cls 16 RX6 "trains" "LThirteenthDay$Table;" ∈ wsX6_waitAtStation := by decide +kernel
theorem zi_X6_waitAtStation_X6 : ∀ w ∈ u_ws RX6 TX6 3, w ∈ wsX6_waitAtStation := by decide +kernel
def zX6_waitAtStation_149 (v5 : Int32) (v6 : Bool) (v7 : Bool) (k0 : Int32) (st : zz_T) : Option Int32 :=
  (zX6_isTaken v5 k0 (zz_b v7) v6 st).bind fun x5 =>
  if x5 = true then
    some 2
  else
    if v6 = true then
      some 0
    else
      (zX6_isComing v5 (zz_b v7) st).bind fun x7 =>
      if x7 = true then
        some 2
      else
        some 0
set_option maxHeartbeats 4000000 in
set_option maxRecDepth 100000 in
theorem zt_X6_waitAtStation_149 {l : Launch} {A : Nat → Prop} {D : va_G} {cI : ClassId} {q : Nat → Nat} {p : Program} {e : Env} {s : State} {m : MethodId} {args : Array Value} {below : List Frame} {meth : Method} {c : Code} (C : zz_C A D cI q p s m args meth c cX6_waitAtStation 10 wsX6_waitAtStation yX6_waitAtStation.cls) (hr : meth.sig.returnType = some .int) : ∀ (v5 : Int32) (v6 : Bool) (v7 : Bool) (k0 : Int32) (st : zz_T) (H : Heap) (locs : List Loc) (ls : Array Slot) (r : Int32), zX6_waitAtStation_149 v5 v6 v7 k0 st = some r → va_P D vwCl (zz_c q cI st) H → va_S A s.heap H locs → lv_has ls 10 [(0, .ref (q 5)), (5, .int v5), (6, .int (zz_b v6)), (7, .int (zz_b v7))] → W p l e zr_X6_waitAtStation s m args below meth c H locs 0 0 (zz_Qi A D cI q r st below args s) (F0 m 149 ls [.int k0]) := by
  obtain ⟨hx, hb, hml, hown, hts⟩ := id C.1
  intro v5 v6 v7 k0 st H locs ls r hf hP hS hl
  rw [zX6_waitAtStation_149] at hf
  refine lv_istore (lv' := [(8, .int k0), (0, .ref (q 5)), (5, .int v5), (6, .int (zz_b v6)), (7, .int (zz_b v7))]) hx hb dX6_waitAtStation_149 hl (by decide) rfl (fun ls hl => ?_)
  refine lv_aload_n hx hb dX6_waitAtStation_151 rfl (lv_at hl 1 rfl) ?_
  refine lv_iload hx hb dX6_waitAtStation_152 (lv_at hl 2 rfl) ?_
  refine lv_iload hx hb dX6_waitAtStation_154 (lv_at hl 0 rfl) ?_
  refine lv_iload hx hb dX6_waitAtStation_156 (lv_at hl 4 rfl) ?_
  refine lv_iload hx hb dX6_waitAtStation_158 (lv_at hl 3 rfl) ?_
  obtain ⟨x5, e6, hf⟩ := zz_bo hf
  refine zz_callVi C (As := [.int v5, .int k0, .int (zz_b v7), .int (zz_b v6)]) (rest := []) (zc_X6_isTaken _ _ _ v6 _ _ e6) (cwV 4 hts gX6_waitAtStation_X6_isTaken rfl rfl rfl zd_X6_isTaken ⟨Nat.le_of_ble_eq_true rfl, Nat.le_of_ble_eq_true rfl⟩) hP hS 5 rfl rfl rfl hl rfl (Nat.le_of_ble_eq_true rfl) dX6_waitAtStation_160 ⟨Nat.zero_le _, Nat.zero_le _⟩ (fun H locs hP hS => ?_)
  refine lv_if_ne (tgt := 186) hx hb dX6_waitAtStation_163 (by decide) (fun h => ?_) (fun h => ?_)
  · rw [zz_if1 (zz_b1 h)] at hf
    refine lv_iconst (v := 0) hx hb dX6_waitAtStation_186 (by decide) ?_
    refine lv_istore (lv' := [(9, .int 0), (8, .int k0), (0, .ref (q 5)), (5, .int v5), (6, .int (zz_b v6)), (7, .int (zz_b v7))]) hx hb dX6_waitAtStation_187 hl (by decide) rfl (fun ls hl => ?_)
    refine lv_iload hx hb dX6_waitAtStation_189 (lv_at hl 0 rfl) ?_
    refine lv_if_eq (tgt := 198) hx hb dX6_waitAtStation_191 (by decide) (fun _ => ?_) (fun h => absurd (by decide) h)
    refine lv_iconst (v := 2) hx hb dX6_waitAtStation_198 (by decide) ?_
    rw [← (Option.some.inj hf)]
    exact zz_reti C hr hP hS dX6_waitAtStation_199
  · rw [zz_if0 (zz_b0 h)] at hf
    refine lv_iload hx hb dX6_waitAtStation_166 (lv_at hl 3 rfl) ?_
    refine lv_if_ne (tgt := 182) hx hb dX6_waitAtStation_168 (by decide) (fun h => ?_) (fun h => ?_)
    · rw [zz_if1 (zz_b1 h)] at hf
      refine lv_iconst (v := 1) hx hb dX6_waitAtStation_182 (by decide) ?_
      refine lv_goto (tgt := 187) hx hb dX6_waitAtStation_183 (by decide) ?_
      refine lv_istore (lv' := [(9, .int 1), (8, .int k0), (0, .ref (q 5)), (5, .int v5), (6, .int (zz_b v6)), (7, .int (zz_b v7))]) hx hb dX6_waitAtStation_187 hl (by decide) rfl (fun ls hl => ?_)
      refine lv_iload hx hb dX6_waitAtStation_189 (lv_at hl 0 rfl) ?_
      refine lv_if_eq (tgt := 198) hx hb dX6_waitAtStation_191 (by decide) (fun h => absurd h (by decide)) (fun _ => ?_)
      refine lv_iconst (v := 0) hx hb dX6_waitAtStation_194 (by decide) ?_
      refine lv_goto (tgt := 199) hx hb dX6_waitAtStation_195 (by decide) ?_
      rw [← (Option.some.inj hf)]
      exact zz_reti C hr hP hS dX6_waitAtStation_199
    · rw [zz_if0 (zz_b0 h)] at hf
      refine lv_aload_n hx hb dX6_waitAtStation_171 rfl (lv_at hl 1 rfl) ?_
      refine lv_iload hx hb dX6_waitAtStation_172 (lv_at hl 2 rfl) ?_
      refine lv_iload hx hb dX6_waitAtStation_174 (lv_at hl 4 rfl) ?_
      obtain ⟨x7, e8, hf⟩ := zz_bo hf
      refine zz_callVi C (As := [.int v5, .int (zz_b v7)]) (rest := []) (zc_X6_isComing _ _ _ _ e8) (cwV 2 hts gX6_waitAtStation_X6_isComing rfl rfl rfl zd_X6_isComing ⟨Nat.le_of_ble_eq_true rfl, Nat.le_of_ble_eq_true rfl⟩) hP hS 5 rfl rfl rfl hl rfl (Nat.le_of_ble_eq_true rfl) dX6_waitAtStation_176 ⟨Nat.zero_le _, Nat.zero_le _⟩ (fun H locs hP hS => ?_)
      refine lv_if_ne (tgt := 186) hx hb dX6_waitAtStation_179 (by decide) (fun h => ?_) (fun h => ?_)
      · rw [zz_if1 (zz_b1 h)] at hf
        refine lv_iconst (v := 0) hx hb dX6_waitAtStation_186 (by decide) ?_
        refine lv_istore (lv' := [(9, .int 0), (8, .int k0), (0, .ref (q 5)), (5, .int v5), (6, .int (zz_b v6)), (7, .int (zz_b v7))]) hx hb dX6_waitAtStation_187 hl (by decide) rfl (fun ls hl => ?_)
        refine lv_iload hx hb dX6_waitAtStation_189 (lv_at hl 0 rfl) ?_
        refine lv_if_eq (tgt := 198) hx hb dX6_waitAtStation_191 (by decide) (fun _ => ?_) (fun h => absurd (by decide) h)
        refine lv_iconst (v := 2) hx hb dX6_waitAtStation_198 (by decide) ?_
        rw [← (Option.some.inj hf)]
        exact zz_reti C hr hP hS dX6_waitAtStation_199
      · rw [zz_if0 (zz_b0 h)] at hf
        refine lv_iconst (v := 1) hx hb dX6_waitAtStation_182 (by decide) ?_
        refine lv_goto (tgt := 187) hx hb dX6_waitAtStation_183 (by decide) ?_
        refine lv_istore (lv' := [(9, .int 1), (8, .int k0), (0, .ref (q 5)), (5, .int v5), (6, .int (zz_b v6)), (7, .int (zz_b v7))]) hx hb dX6_waitAtStation_187 hl (by decide) rfl (fun ls hl => ?_)
        refine lv_iload hx hb dX6_waitAtStation_189 (lv_at hl 0 rfl) ?_
        refine lv_if_eq (tgt := 198) hx hb dX6_waitAtStation_191 (by decide) (fun h => absurd h (by decide)) (fun _ => ?_)
        refine lv_iconst (v := 0) hx hb dX6_waitAtStation_194 (by decide) ?_
        refine lv_goto (tgt := 199) hx hb dX6_waitAtStation_195 (by decide) ?_
        rw [← (Option.some.inj hf)]
        exact zz_reti C hr hP hS dX6_waitAtStation_199
def zX6_waitAtStation_128 (v5 : Int32) (v6 : Bool) (k0 : Bool) (st : zz_T) : Option Int32 :=
  if (zz_b k0) = 1 then
    zX6_waitAtStation_149 v5 v6 k0 0 st
  else
    zX6_waitAtStation_149 v5 v6 k0 ((zX1_getLine v5 2 st) - 1) st
set_option maxHeartbeats 4000000 in
set_option maxRecDepth 100000 in
theorem zt_X6_waitAtStation_128 {l : Launch} {A : Nat → Prop} {D : va_G} {cI : ClassId} {q : Nat → Nat} {p : Program} {e : Env} {s : State} {m : MethodId} {args : Array Value} {below : List Frame} {meth : Method} {c : Code} (C : zz_C A D cI q p s m args meth c cX6_waitAtStation 10 wsX6_waitAtStation yX6_waitAtStation.cls) (hr : meth.sig.returnType = some .int) : ∀ (v5 : Int32) (v6 : Bool) (k0 : Bool) (st : zz_T) (H : Heap) (locs : List Loc) (ls : Array Slot) (r : Int32), zX6_waitAtStation_128 v5 v6 k0 st = some r → va_P D vwCl (zz_c q cI st) H → va_S A s.heap H locs → lv_has ls 10 [(0, .ref (q 5)), (2, .ref (q 1)), (5, .int v5), (6, .int (zz_b v6))] → W p l e zr_X6_waitAtStation s m args below meth c H locs 0 0 (zz_Qi A D cI q r st below args s) (F0 m 128 ls [.int (zz_b k0)]) := by
  obtain ⟨hx, hb, hml, hown, hts⟩ := id C.1
  intro v5 v6 k0 st H locs ls r hf hP hS hl
  rw [zX6_waitAtStation_128] at hf
  refine lv_istore (lv' := [(7, .int (zz_b k0)), (0, .ref (q 5)), (2, .ref (q 1)), (5, .int v5), (6, .int (zz_b v6))]) hx hb dX6_waitAtStation_128 hl (by decide) rfl (fun ls hl => ?_)
  refine lv_iload hx hb dX6_waitAtStation_130 (lv_at hl 0 rfl) ?_
  refine lv_iconst (v := 1) hx hb dX6_waitAtStation_132 (by decide) ?_
  refine lv_icmp_ne (tgt := 140) hx hb dX6_waitAtStation_133 (by decide) (fun h => ?_) (fun h => ?_)
  · rw [if_neg h] at hf
    refine lv_aload_n hx hb dX6_waitAtStation_140 rfl (lv_at hl 2 rfl) ?_
    refine lv_iload hx hb dX6_waitAtStation_141 (lv_at hl 3 rfl) ?_
    refine lv_iconst (v := 2) hx hb dX6_waitAtStation_143 (by decide) ?_
    refine zz_callVi C (As := [.int v5, .int 2]) (rest := []) (zc_X1_getLine _ _ _) (cwV 2 hts gX6_waitAtStation_X1_getLine rfl rfl rfl zd_X1_getLine ⟨Nat.le_of_ble_eq_true rfl, Nat.le_of_ble_eq_true rfl⟩) hP hS 1 rfl rfl rfl hl rfl (Nat.le_of_ble_eq_true rfl) dX6_waitAtStation_144 ⟨Nat.zero_le _, Nat.zero_le _⟩ (fun H locs hP hS => ?_)
    refine lv_iconst (v := 1) hx hb dX6_waitAtStation_147 (by decide) ?_
    refine lv_isub hx hb dX6_waitAtStation_148 ?_
    exact zt_X6_waitAtStation_149 C hr _ _ _ _ _ _ _ _ _ hf hP hS (lv_sub hl [1, 3, 4, 0] rfl)
  · rw [if_pos h] at hf
    refine lv_iconst (v := 0) hx hb dX6_waitAtStation_136 (by decide) ?_
    refine lv_goto (tgt := 149) hx hb dX6_waitAtStation_137 (by decide) ?_
    exact zt_X6_waitAtStation_149 C hr _ _ _ _ _ _ _ _ _ hf hP hS (lv_sub hl [1, 3, 4, 0] rfl)
def zX6_waitAtStation (v1 : Int32) (st : zz_T) : Option Int32 :=
  zz_v (zz_g 16 v1 3 st) fun w1 =>
  zz_v (zz_g 16 v1 9 st) fun w2 =>
  if (zz_g 16 v1 6 st) ≤ 0 then
    if w1 = w2 then
      (zX6_countUnloadingAt w1 st).bind fun x9 =>
      if (zX1_getStation w1 0 st) ≤ x9 then
        some 4
      else
        some 0
    else
      if (zX1_getStation w1 4 st) ≤ 0 then
        zz_v (zX1_firstOf w1 w2 st) fun w3 =>
        if w3 = (-1) then
          some 6
        else
          zz_v (zX1_isDouble w3 st) fun w4 =>
          if (zX1_getLine w3 0 st) = w1 then
            zX6_waitAtStation_128 w3 w4 true st
          else
            zX6_waitAtStation_128 w3 w4 false st
      else
        some 5
  else
    some 1
set_option maxHeartbeats 4000000 in
set_option maxRecDepth 100000 in
theorem zc_X6_waitAtStation {l : Launch} {A : Nat → Prop} {D : va_G} {cI : ClassId} {q : Nat → Nat} (v1 : Int32) (st : zz_T) (r : Int32) (hf : zX6_waitAtStation v1 st = some r) : zz_Mi l A D cI q yX6_waitAtStation wsX6_waitAtStation zr_X6_waitAtStation [.ref (q 5), .int v1, .ref (q 1)] st r st := by
  refine zz_of (cc := cX6_waitAtStation) (nL := 10) (ret := some .int) (by decide) rfl (Nat.le_of_ble_eq_true rfl) ?_
  intro p e s m args below meth c ls C hr hP hS hl
  obtain ⟨hx, hb, hml, hown, hts⟩ := id C.1
  have hl : lv_has ls 10 [(0, .ref (q 5)), (1, .int v1), (2, .ref (q 1))] := hl
  rw [zX6_waitAtStation] at hf
  skip
  refine lv_aload_n hx hb dX6_waitAtStation_0 rfl (lv_at hl 0 rfl) ?_
  refine zz_getf C zi_X6_waitAtStation_X6 hP 5 rfl rfl 0 (nm := "trains") (ds := "LThirteenthDay$Table;") (fin := true) rfl (by decide) zk_X6_waitAtStation_16 rfl dX6_waitAtStation_1 ?_
  refine lv_iload_n hx hb dX6_waitAtStation_4 rfl (lv_at hl 1 rfl) ?_
  refine lv_iconst (v := 3) hx hb dX6_waitAtStation_5 (by decide) ?_
  refine zz_callVi C (As := [.int v1, .int 3]) (rest := []) (zc_X5_get 16 (by decide) _ _ _) (cwV 2 hts gX6_waitAtStation_X5_get rfl rfl rfl zd_X5_get ⟨Nat.le_of_ble_eq_true rfl, Nat.le_of_ble_eq_true rfl⟩) hP hS (9 + 16) (zz_c_tab (by decide)) rfl rfl hl rfl (Nat.le_of_ble_eq_true rfl) dX6_waitAtStation_6 ⟨Nat.zero_le _, Nat.zero_le _⟩ (fun H locs hP hS => ?_)
  refine lv_topi (fun w1 e1 => ?_)
  replace hf := zz_vi hf e1
  refine lv_istore_n (lv' := [(3, .int w1), (0, .ref (q 5)), (1, .int v1), (2, .ref (q 1))]) hx hb dX6_waitAtStation_9 rfl hl (by decide) rfl (fun ls hl => ?_)
  refine lv_aload_n hx hb dX6_waitAtStation_10 rfl (lv_at hl 1 rfl) ?_
  refine zz_getf C zi_X6_waitAtStation_X6 hP 5 rfl rfl 0 (nm := "trains") (ds := "LThirteenthDay$Table;") (fin := true) rfl (by decide) zk_X6_waitAtStation_16 rfl dX6_waitAtStation_11 ?_
  refine lv_iload_n hx hb dX6_waitAtStation_14 rfl (lv_at hl 2 rfl) ?_
  refine lv_bipush (v := 9) hx hb dX6_waitAtStation_15 (by decide) ?_
  refine zz_callVi C (As := [.int v1, .int 9]) (rest := []) (zc_X5_get 16 (by decide) _ _ _) (cwV 2 hts gX6_waitAtStation_X5_get rfl rfl rfl zd_X5_get ⟨Nat.le_of_ble_eq_true rfl, Nat.le_of_ble_eq_true rfl⟩) hP hS (9 + 16) (zz_c_tab (by decide)) rfl rfl hl rfl (Nat.le_of_ble_eq_true rfl) dX6_waitAtStation_17 ⟨Nat.zero_le _, Nat.zero_le _⟩ (fun H locs hP hS => ?_)
  refine lv_topi (fun w2 e2 => ?_)
  replace hf := zz_vi hf e2
  refine lv_istore (lv' := [(4, .int w2), (3, .int w1), (0, .ref (q 5)), (1, .int v1), (2, .ref (q 1))]) hx hb dX6_waitAtStation_20 hl (by decide) rfl (fun ls hl => ?_)
  refine lv_aload_n hx hb dX6_waitAtStation_22 rfl (lv_at hl 2 rfl) ?_
  refine zz_getf C zi_X6_waitAtStation_X6 hP 5 rfl rfl 0 (nm := "trains") (ds := "LThirteenthDay$Table;") (fin := true) rfl (by decide) zk_X6_waitAtStation_16 rfl dX6_waitAtStation_23 ?_
  refine lv_iload_n hx hb dX6_waitAtStation_26 rfl (lv_at hl 3 rfl) ?_
  refine lv_bipush (v := 6) hx hb dX6_waitAtStation_27 (by decide) ?_
  refine zz_callVi C (As := [.int v1, .int 6]) (rest := []) (zc_X5_get 16 (by decide) _ _ _) (cwV 2 hts gX6_waitAtStation_X5_get rfl rfl rfl zd_X5_get ⟨Nat.le_of_ble_eq_true rfl, Nat.le_of_ble_eq_true rfl⟩) hP hS (9 + 16) (zz_c_tab (by decide)) rfl rfl hl rfl (Nat.le_of_ble_eq_true rfl) dX6_waitAtStation_29 ⟨Nat.zero_le _, Nat.zero_le _⟩ (fun H locs hP hS => ?_)
  refine lv_if_le (tgt := 37) hx hb dX6_waitAtStation_32 (by decide) (fun h => ?_) (fun h => ?_)
  · rw [if_pos h] at hf
    refine lv_iload_n hx hb dX6_waitAtStation_37 rfl (lv_at hl 1 rfl) ?_
    refine lv_iload hx hb dX6_waitAtStation_38 (lv_at hl 0 rfl) ?_
    refine lv_icmp_ne (tgt := 75) hx hb dX6_waitAtStation_40 (by decide) (fun h => ?_) (fun h => ?_)
    · rw [if_neg h] at hf
      refine lv_aload_n hx hb dX6_waitAtStation_75 rfl (lv_at hl 4 rfl) ?_
      refine lv_iload_n hx hb dX6_waitAtStation_76 rfl (lv_at hl 1 rfl) ?_
      refine lv_iconst (v := 4) hx hb dX6_waitAtStation_77 (by decide) ?_
      refine zz_callVi C (As := [.int w1, .int 4]) (rest := []) (zc_X1_getStation _ _ _) (cwV 2 hts gX6_waitAtStation_X1_getStation rfl rfl rfl zd_X1_getStation ⟨Nat.le_of_ble_eq_true rfl, Nat.le_of_ble_eq_true rfl⟩) hP hS 1 rfl rfl rfl hl rfl (Nat.le_of_ble_eq_true rfl) dX6_waitAtStation_78 ⟨Nat.zero_le _, Nat.zero_le _⟩ (fun H locs hP hS => ?_)
      refine lv_if_le (tgt := 86) hx hb dX6_waitAtStation_81 (by decide) (fun h => ?_) (fun h => ?_)
      · rw [if_pos h] at hf
        refine lv_aload_n hx hb dX6_waitAtStation_86 rfl (lv_at hl 4 rfl) ?_
        refine lv_iload_n hx hb dX6_waitAtStation_87 rfl (lv_at hl 1 rfl) ?_
        refine lv_iload hx hb dX6_waitAtStation_88 (lv_at hl 0 rfl) ?_
        refine zz_callVi C (As := [.int w1, .int w2]) (rest := []) (zc_X1_firstOf _ _ _) (cwV 2 hts gX6_waitAtStation_X1_firstOf rfl rfl rfl zd_X1_firstOf ⟨Nat.le_of_ble_eq_true rfl, Nat.le_of_ble_eq_true rfl⟩) hP hS 1 rfl rfl rfl hl rfl (Nat.le_of_ble_eq_true rfl) dX6_waitAtStation_90 ⟨Nat.zero_le _, Nat.zero_le _⟩ (fun H locs hP hS => ?_)
        refine lv_topi (fun w3 e3 => ?_)
        replace hf := zz_vi hf e3
        refine lv_istore (lv' := [(5, .int w3), (4, .int w2), (3, .int w1), (0, .ref (q 5)), (1, .int v1), (2, .ref (q 1))]) hx hb dX6_waitAtStation_93 hl (by decide) rfl (fun ls hl => ?_)
        refine lv_iload hx hb dX6_waitAtStation_95 (lv_at hl 0 rfl) ?_
        refine lv_iconst (v := (-1)) hx hb dX6_waitAtStation_97 (by decide) ?_
        refine lv_icmp_ne (tgt := 104) hx hb dX6_waitAtStation_98 (by decide) (fun h => ?_) (fun h => ?_)
        · rw [if_neg h] at hf
          refine lv_aload_n hx hb dX6_waitAtStation_104 rfl (lv_at hl 5 rfl) ?_
          refine lv_iload hx hb dX6_waitAtStation_105 (lv_at hl 0 rfl) ?_
          refine zz_callVi C (As := [.int w3]) (rest := []) (zc_X1_isDouble _ _) (cwV 1 hts gX6_waitAtStation_X1_isDouble rfl rfl rfl zd_X1_isDouble ⟨Nat.le_of_ble_eq_true rfl, Nat.le_of_ble_eq_true rfl⟩) hP hS 1 rfl rfl rfl hl rfl (Nat.le_of_ble_eq_true rfl) dX6_waitAtStation_107 ⟨Nat.zero_le _, Nat.zero_le _⟩ (fun H locs hP hS => ?_)
          refine zz_topz (fun w4 e4 => ?_)
          replace hf := zz_vi hf e4
          refine lv_istore (lv' := [(6, .int (zz_b w4)), (5, .int w3), (4, .int w2), (3, .int w1), (0, .ref (q 5)), (1, .int v1), (2, .ref (q 1))]) hx hb dX6_waitAtStation_110 hl (by decide) rfl (fun ls hl => ?_)
          refine lv_aload_n hx hb dX6_waitAtStation_112 rfl (lv_at hl 6 rfl) ?_
          refine lv_iload hx hb dX6_waitAtStation_113 (lv_at hl 1 rfl) ?_
          refine lv_iconst (v := 0) hx hb dX6_waitAtStation_115 (by decide) ?_
          refine zz_callVi C (As := [.int w3, .int 0]) (rest := []) (zc_X1_getLine _ _ _) (cwV 2 hts gX6_waitAtStation_X1_getLine rfl rfl rfl zd_X1_getLine ⟨Nat.le_of_ble_eq_true rfl, Nat.le_of_ble_eq_true rfl⟩) hP hS 1 rfl rfl rfl hl rfl (Nat.le_of_ble_eq_true rfl) dX6_waitAtStation_116 ⟨Nat.zero_le _, Nat.zero_le _⟩ (fun H locs hP hS => ?_)
          refine lv_iload_n hx hb dX6_waitAtStation_119 rfl (lv_at hl 3 rfl) ?_
          refine lv_icmp_ne (tgt := 127) hx hb dX6_waitAtStation_120 (by decide) (fun h => ?_) (fun h => ?_)
          · rw [if_neg h] at hf
            refine lv_iconst (v := 0) hx hb dX6_waitAtStation_127 (by decide) ?_
            exact zt_X6_waitAtStation_128 C hr _ _ _ _ _ _ _ _ hf hP hS (lv_sub hl [4, 6, 1, 0] rfl)
          · rw [if_pos h] at hf
            refine lv_iconst (v := 1) hx hb dX6_waitAtStation_123 (by decide) ?_
            refine lv_goto (tgt := 128) hx hb dX6_waitAtStation_124 (by decide) ?_
            exact zt_X6_waitAtStation_128 C hr _ _ _ _ _ _ _ _ hf hP hS (lv_sub hl [4, 6, 1, 0] rfl)
        · rw [if_pos h] at hf
          refine lv_bipush (v := 6) hx hb dX6_waitAtStation_101 (by decide) ?_
          rw [← (Option.some.inj hf)]
          exact zz_reti C hr hP hS dX6_waitAtStation_103
      · rw [if_neg h] at hf
        refine lv_iconst (v := 5) hx hb dX6_waitAtStation_84 (by decide) ?_
        rw [← (Option.some.inj hf)]
        exact zz_reti C hr hP hS dX6_waitAtStation_85
    · rw [if_pos h] at hf
      refine lv_aload_n hx hb dX6_waitAtStation_43 rfl (lv_at hl 2 rfl) ?_
      refine lv_iload_n hx hb dX6_waitAtStation_44 rfl (lv_at hl 1 rfl) ?_
      obtain ⟨x9, e10, hf⟩ := zz_bo hf
      refine zz_callVi C (As := [.int w1]) (rest := []) (zc_X6_countUnloadingAt _ _ _ e10) (cwV 1 hts gX6_waitAtStation_X6_countUnloadingAt rfl rfl rfl zd_X6_countUnloadingAt ⟨Nat.le_of_ble_eq_true rfl, Nat.le_of_ble_eq_true rfl⟩) hP hS 5 rfl rfl rfl hl rfl (Nat.le_of_ble_eq_true rfl) dX6_waitAtStation_45 ⟨Nat.zero_le _, Nat.zero_le _⟩ (fun H locs hP hS => ?_)
      refine lv_aload_n hx hb dX6_waitAtStation_48 rfl (lv_at hl 4 rfl) ?_
      refine lv_iload_n hx hb dX6_waitAtStation_49 rfl (lv_at hl 1 rfl) ?_
      refine lv_iconst (v := 0) hx hb dX6_waitAtStation_50 (by decide) ?_
      refine zz_callVi C (As := [.int w1, .int 0]) (rest := [.int x9]) (zc_X1_getStation _ _ _) (cwV 2 hts gX6_waitAtStation_X1_getStation rfl rfl rfl zd_X1_getStation ⟨Nat.le_of_ble_eq_true rfl, Nat.le_of_ble_eq_true rfl⟩) hP hS 1 rfl rfl rfl hl rfl (Nat.le_of_ble_eq_true rfl) dX6_waitAtStation_51 ⟨Nat.zero_le _, Nat.zero_le _⟩ (fun H locs hP hS => ?_)
      refine lv_icmp_ge (tgt := 61) hx hb dX6_waitAtStation_54 (by decide) (fun h => ?_) (fun h => ?_)
      · rw [if_pos h] at hf
        refine lv_iconst (v := 0) hx hb dX6_waitAtStation_61 (by decide) ?_
        refine lv_istore (lv' := [(5, .int 0), (4, .int w2), (3, .int w1), (0, .ref (q 5)), (1, .int v1), (2, .ref (q 1))]) hx hb dX6_waitAtStation_62 hl (by decide) rfl (fun ls hl => ?_)
        refine lv_iload hx hb dX6_waitAtStation_64 (lv_at hl 0 rfl) ?_
        refine lv_if_eq (tgt := 73) hx hb dX6_waitAtStation_66 (by decide) (fun _ => ?_) (fun h => absurd (by decide) h)
        refine lv_iconst (v := 4) hx hb dX6_waitAtStation_73 (by decide) ?_
        rw [← (Option.some.inj hf)]
        exact zz_reti C hr hP hS dX6_waitAtStation_74
      · rw [if_neg h] at hf
        refine lv_iconst (v := 1) hx hb dX6_waitAtStation_57 (by decide) ?_
        refine lv_goto (tgt := 62) hx hb dX6_waitAtStation_58 (by decide) ?_
        refine lv_istore (lv' := [(5, .int 1), (4, .int w2), (3, .int w1), (0, .ref (q 5)), (1, .int v1), (2, .ref (q 1))]) hx hb dX6_waitAtStation_62 hl (by decide) rfl (fun ls hl => ?_)
        refine lv_iload hx hb dX6_waitAtStation_64 (lv_at hl 0 rfl) ?_
        refine lv_if_eq (tgt := 73) hx hb dX6_waitAtStation_66 (by decide) (fun h => absurd h (by decide)) (fun _ => ?_)
        refine lv_iconst (v := 0) hx hb dX6_waitAtStation_69 (by decide) ?_
        refine lv_goto (tgt := 74) hx hb dX6_waitAtStation_70 (by decide) ?_
        rw [← (Option.some.inj hf)]
        exact zz_reti C hr hP hS dX6_waitAtStation_74
  · rw [if_neg h] at hf
    refine lv_iconst (v := 1) hx hb dX6_waitAtStation_35 (by decide) ?_
    rw [← (Option.some.inj hf)]
    exact zz_reti C hr hP hS dX6_waitAtStation_36
/-! X6_nextBlock TR -/
theorem zd_X6_nextBlock : yX6_nextBlock.cls = RX6 ∧ yX6_nextBlock.cls ≠ "java/lang/invoke/MethodHandle" ∧ yX6_nextBlock.cls ≠ "java/lang/invoke/VarHandle" ∧ (parseMethodDescriptor yX6_nextBlock.desc).map (fun d => d.parameters.length) = some 1 := by decide +kernel
abbrev zr_X6_nextBlock : Room := { frames := 1, cells := 0, slots := 0, locals := 24 }
theorem zk_X6_nextBlock_16 : Cond.fieldLink yX6_nextBlock.cls 16 RX6 "trains" "LThirteenthDay$Table;" ∈ wsX6_nextBlock := by decide +kernel
theorem zi_X6_nextBlock_X6 : ∀ w ∈ u_ws RX6 TX6 3, w ∈ wsX6_nextBlock := by decide +kernel
def zX6_nextBlock (v1 : Int32) (st : zz_T) : Int32 :=
  if (zz_g 16 v1 11 st) = 1 then
    ((zz_g 16 v1 4 st) + 1)
  else
    ((zz_g 16 v1 4 st) + (-1))
set_option maxHeartbeats 4000000 in
set_option maxRecDepth 100000 in
theorem zc_X6_nextBlock {l : Launch} {A : Nat → Prop} {D : va_G} {cI : ClassId} {q : Nat → Nat} (v1 : Int32) (st : zz_T) : zz_Mi l A D cI q yX6_nextBlock wsX6_nextBlock zr_X6_nextBlock [.ref (q 5), .int v1] st (zX6_nextBlock v1 st) st := by
  refine zz_of (cc := cX6_nextBlock) (nL := 2) (ret := some .int) (by decide) rfl (Nat.le_of_ble_eq_true rfl) ?_
  intro p e s m args below meth c ls C hr hP hS hl
  obtain ⟨hx, hb, hml, hown, hts⟩ := id C.1
  have hl : lv_has ls 2 [(0, .ref (q 5)), (1, .int v1)] := hl
  obtain ⟨r, hf⟩ : ∃ r, zX6_nextBlock v1 st = r := ⟨_, rfl⟩
  rw [hf]
  rw [zX6_nextBlock] at hf
  skip
  refine lv_aload_n hx hb dX6_nextBlock_0 rfl (lv_at hl 0 rfl) ?_
  refine zz_getf C zi_X6_nextBlock_X6 hP 5 rfl rfl 0 (nm := "trains") (ds := "LThirteenthDay$Table;") (fin := true) rfl (by decide) zk_X6_nextBlock_16 rfl dX6_nextBlock_1 ?_
  refine lv_iload_n hx hb dX6_nextBlock_4 rfl (lv_at hl 1 rfl) ?_
  refine lv_iconst (v := 4) hx hb dX6_nextBlock_5 (by decide) ?_
  refine zz_callVi C (As := [.int v1, .int 4]) (rest := []) (zc_X5_get 16 (by decide) _ _ _) (cwV 2 hts gX6_nextBlock_X5_get rfl rfl rfl zd_X5_get ⟨Nat.le_of_ble_eq_true rfl, Nat.le_of_ble_eq_true rfl⟩) hP hS (9 + 16) (zz_c_tab (by decide)) rfl rfl hl rfl (Nat.le_of_ble_eq_true rfl) dX6_nextBlock_6 ⟨Nat.zero_le _, Nat.zero_le _⟩ (fun H locs hP hS => ?_)
  refine lv_aload_n hx hb dX6_nextBlock_9 rfl (lv_at hl 0 rfl) ?_
  refine zz_getf C zi_X6_nextBlock_X6 hP 5 rfl rfl 0 (nm := "trains") (ds := "LThirteenthDay$Table;") (fin := true) rfl (by decide) zk_X6_nextBlock_16 rfl dX6_nextBlock_10 ?_
  refine lv_iload_n hx hb dX6_nextBlock_13 rfl (lv_at hl 1 rfl) ?_
  refine lv_bipush (v := 11) hx hb dX6_nextBlock_14 (by decide) ?_
  refine zz_callVi C (As := [.int v1, .int 11]) (rest := [.int (zz_g 16 v1 4 st)]) (zc_X5_get 16 (by decide) _ _ _) (cwV 2 hts gX6_nextBlock_X5_get rfl rfl rfl zd_X5_get ⟨Nat.le_of_ble_eq_true rfl, Nat.le_of_ble_eq_true rfl⟩) hP hS (9 + 16) (zz_c_tab (by decide)) rfl rfl hl rfl (Nat.le_of_ble_eq_true rfl) dX6_nextBlock_16 ⟨Nat.zero_le _, Nat.zero_le _⟩ (fun H locs hP hS => ?_)
  refine lv_iconst (v := 1) hx hb dX6_nextBlock_19 (by decide) ?_
  refine lv_icmp_ne (tgt := 27) hx hb dX6_nextBlock_20 (by decide) (fun h => ?_) (fun h => ?_)
  · rw [if_neg h] at hf
    refine lv_iconst (v := (-1)) hx hb dX6_nextBlock_27 (by decide) ?_
    refine lv_iadd hx hb dX6_nextBlock_28 ?_
    rw [← hf]
    exact zz_reti C hr hP hS dX6_nextBlock_29
  · rw [if_pos h] at hf
    refine lv_iconst (v := 1) hx hb dX6_nextBlock_23 (by decide) ?_
    refine lv_goto (tgt := 28) hx hb dX6_nextBlock_24 (by decide) ?_
    refine lv_iadd hx hb dX6_nextBlock_28 ?_
    rw [← hf]
    exact zz_reti C hr hP hS dX6_nextBlock_29
/-! X6_waitOnBlock PR -/
theorem zd_X6_waitOnBlock : yX6_waitOnBlock.cls = RX6 ∧ yX6_waitOnBlock.cls ≠ "java/lang/invoke/MethodHandle" ∧ yX6_waitOnBlock.cls ≠ "java/lang/invoke/VarHandle" ∧ (parseMethodDescriptor yX6_waitOnBlock.desc).map (fun d => d.parameters.length) = some 2 := by decide +kernel
abbrev zr_X6_waitOnBlock : Room := { frames := 3, cells := 0, slots := 0, locals := 71 }
theorem zk_X6_waitOnBlock_16 : Cond.fieldLink yX6_waitOnBlock.cls 16 RX6 "trains" "LThirteenthDay$Table;" ∈ wsX6_waitOnBlock := by decide +kernel
theorem zi_X6_waitOnBlock_X6 : ∀ w ∈ u_ws RX6 TX6 3, w ∈ wsX6_waitOnBlock := by decide +kernel
def zX6_waitOnBlock_81 (k1 : Int32) (k2 : Bool) (st : zz_T) : Option Int32 :=
  zz_v (zX1_endOf k1 k2 st) fun w4 =>
  if (zX1_getStation w4 4 st) ≤ 0 then
    zz_v ((zX1_getStation w4 0 st) + (zX1_getStation w4 1 st)) fun w5 =>
    (zX6_countAt w4 st).bind fun x6 =>
    if w5 ≤ x6 then
      some 3
    else
      some 0
  else
    some 5
set_option maxHeartbeats 4000000 in
set_option maxRecDepth 100000 in
theorem zt_X6_waitOnBlock_81 {l : Launch} {A : Nat → Prop} {D : va_G} {cI : ClassId} {q : Nat → Nat} {p : Program} {e : Env} {s : State} {m : MethodId} {args : Array Value} {below : List Frame} {meth : Method} {c : Code} (C : zz_C A D cI q p s m args meth c cX6_waitOnBlock 8 wsX6_waitOnBlock yX6_waitOnBlock.cls) (hr : meth.sig.returnType = some .int) : ∀ (k1 : Int32) (k2 : Bool) (st : zz_T) (H : Heap) (locs : List Loc) (ls : Array Slot) (r : Int32), zX6_waitOnBlock_81 k1 k2 st = some r → va_P D vwCl (zz_c q cI st) H → va_S A s.heap H locs → lv_has ls 8 [(0, .ref (q 5)), (2, .ref (q 1))] → W p l e zr_X6_waitOnBlock s m args below meth c H locs 0 0 (zz_Qi A D cI q r st below args s) (F0 m 81 ls [.int (zz_b k2), .int k1, .ref (q 1)]) := by
  obtain ⟨hx, hb, hml, hown, hts⟩ := id C.1
  intro k1 k2 st H locs ls r hf hP hS hl
  rw [zX6_waitOnBlock_81] at hf
  refine zz_callVi C (As := [.int k1, .int (zz_b k2)]) (rest := []) (zc_X1_endOf _ k2 _) (cwV 2 hts gX6_waitOnBlock_X1_endOf rfl rfl rfl zd_X1_endOf ⟨Nat.le_of_ble_eq_true rfl, Nat.le_of_ble_eq_true rfl⟩) hP hS 1 rfl rfl rfl hl rfl (Nat.le_of_ble_eq_true rfl) dX6_waitOnBlock_81 ⟨Nat.zero_le _, Nat.zero_le _⟩ (fun H locs hP hS => ?_)
  refine lv_topi (fun w4 e4 => ?_)
  replace hf := zz_vi hf e4
  refine lv_istore (lv' := [(6, .int w4), (0, .ref (q 5)), (2, .ref (q 1))]) hx hb dX6_waitOnBlock_84 hl (by decide) rfl (fun ls hl => ?_)
  refine lv_aload_n hx hb dX6_waitOnBlock_86 rfl (lv_at hl 2 rfl) ?_
  refine lv_iload hx hb dX6_waitOnBlock_87 (lv_at hl 0 rfl) ?_
  refine lv_iconst (v := 4) hx hb dX6_waitOnBlock_89 (by decide) ?_
  refine zz_callVi C (As := [.int w4, .int 4]) (rest := []) (zc_X1_getStation _ _ _) (cwV 2 hts gX6_waitOnBlock_X1_getStation rfl rfl rfl zd_X1_getStation ⟨Nat.le_of_ble_eq_true rfl, Nat.le_of_ble_eq_true rfl⟩) hP hS 1 rfl rfl rfl hl rfl (Nat.le_of_ble_eq_true rfl) dX6_waitOnBlock_90 ⟨Nat.zero_le _, Nat.zero_le _⟩ (fun H locs hP hS => ?_)
  refine lv_if_le (tgt := 98) hx hb dX6_waitOnBlock_93 (by decide) (fun h => ?_) (fun h => ?_)
  · rw [if_pos h] at hf
    refine lv_aload_n hx hb dX6_waitOnBlock_98 rfl (lv_at hl 2 rfl) ?_
    refine lv_iload hx hb dX6_waitOnBlock_99 (lv_at hl 0 rfl) ?_
    refine lv_iconst (v := 0) hx hb dX6_waitOnBlock_101 (by decide) ?_
    refine zz_callVi C (As := [.int w4, .int 0]) (rest := []) (zc_X1_getStation _ _ _) (cwV 2 hts gX6_waitOnBlock_X1_getStation rfl rfl rfl zd_X1_getStation ⟨Nat.le_of_ble_eq_true rfl, Nat.le_of_ble_eq_true rfl⟩) hP hS 1 rfl rfl rfl hl rfl (Nat.le_of_ble_eq_true rfl) dX6_waitOnBlock_102 ⟨Nat.zero_le _, Nat.zero_le _⟩ (fun H locs hP hS => ?_)
    refine lv_aload_n hx hb dX6_waitOnBlock_105 rfl (lv_at hl 2 rfl) ?_
    refine lv_iload hx hb dX6_waitOnBlock_106 (lv_at hl 0 rfl) ?_
    refine lv_iconst (v := 1) hx hb dX6_waitOnBlock_108 (by decide) ?_
    refine zz_callVi C (As := [.int w4, .int 1]) (rest := [.int (zX1_getStation w4 0 st)]) (zc_X1_getStation _ _ _) (cwV 2 hts gX6_waitOnBlock_X1_getStation rfl rfl rfl zd_X1_getStation ⟨Nat.le_of_ble_eq_true rfl, Nat.le_of_ble_eq_true rfl⟩) hP hS 1 rfl rfl rfl hl rfl (Nat.le_of_ble_eq_true rfl) dX6_waitOnBlock_109 ⟨Nat.zero_le _, Nat.zero_le _⟩ (fun H locs hP hS => ?_)
    refine lv_iadd hx hb dX6_waitOnBlock_112 ?_
    refine lv_topi (fun w5 e5 => ?_)
    replace hf := zz_vi hf e5
    refine lv_istore (lv' := [(7, .int w5), (6, .int w4), (0, .ref (q 5)), (2, .ref (q 1))]) hx hb dX6_waitOnBlock_113 hl (by decide) rfl (fun ls hl => ?_)
    refine lv_aload_n hx hb dX6_waitOnBlock_115 rfl (lv_at hl 2 rfl) ?_
    refine lv_iload hx hb dX6_waitOnBlock_116 (lv_at hl 1 rfl) ?_
    obtain ⟨x6, e7, hf⟩ := zz_bo hf
    refine zz_callVi C (As := [.int w4]) (rest := []) (zc_X6_countAt _ _ _ e7) (cwV 1 hts gX6_waitOnBlock_X6_countAt rfl rfl rfl zd_X6_countAt ⟨Nat.le_of_ble_eq_true rfl, Nat.le_of_ble_eq_true rfl⟩) hP hS 5 rfl rfl rfl hl rfl (Nat.le_of_ble_eq_true rfl) dX6_waitOnBlock_118 ⟨Nat.zero_le _, Nat.zero_le _⟩ (fun H locs hP hS => ?_)
    refine lv_iload hx hb dX6_waitOnBlock_121 (lv_at hl 0 rfl) ?_
    refine lv_icmp_ge (tgt := 130) hx hb dX6_waitOnBlock_123 (by decide) (fun h => ?_) (fun h => ?_)
    · rw [if_pos h] at hf
      refine lv_iconst (v := 3) hx hb dX6_waitOnBlock_130 (by decide) ?_
      rw [← (Option.some.inj hf)]
      exact zz_reti C hr hP hS dX6_waitOnBlock_131
    · rw [if_neg h] at hf
      refine lv_iconst (v := 0) hx hb dX6_waitOnBlock_126 (by decide) ?_
      refine lv_goto (tgt := 131) hx hb dX6_waitOnBlock_127 (by decide) ?_
      rw [← (Option.some.inj hf)]
      exact zz_reti C hr hP hS dX6_waitOnBlock_131
  · rw [if_neg h] at hf
    refine lv_iconst (v := 5) hx hb dX6_waitOnBlock_96 (by decide) ?_
    rw [← (Option.some.inj hf)]
    exact zz_reti C hr hP hS dX6_waitOnBlock_97
def zX6_waitOnBlock (v1 : Int32) (st : zz_T) : Option Int32 :=
  zz_v (zz_g 16 v1 3 st) fun w1 =>
  zz_v (zz_g 16 v1 11 st) fun w2 =>
  zz_v (zX6_nextBlock v1 st) fun w3 =>
  if w3 < 0 then
    if w2 = 1 then
      zX6_waitOnBlock_81 w1 true st
    else
      zX6_waitOnBlock_81 w1 false st
  else
    if (zX1_getLine w1 2 st) ≤ w3 then
      if w2 = 1 then
        zX6_waitOnBlock_81 w1 true st
      else
        zX6_waitOnBlock_81 w1 false st
    else
      (zX6_isTaken w1 w3 w2 (zX1_isDouble w1 st) st).bind fun x8 =>
      if x8 = true then
        some 2
      else
        some 0
set_option maxHeartbeats 4000000 in
set_option maxRecDepth 100000 in
theorem zc_X6_waitOnBlock {l : Launch} {A : Nat → Prop} {D : va_G} {cI : ClassId} {q : Nat → Nat} (v1 : Int32) (st : zz_T) (r : Int32) (hf : zX6_waitOnBlock v1 st = some r) : zz_Mi l A D cI q yX6_waitOnBlock wsX6_waitOnBlock zr_X6_waitOnBlock [.ref (q 5), .int v1, .ref (q 1)] st r st := by
  refine zz_of (cc := cX6_waitOnBlock) (nL := 8) (ret := some .int) (by decide) rfl (Nat.le_of_ble_eq_true rfl) ?_
  intro p e s m args below meth c ls C hr hP hS hl
  obtain ⟨hx, hb, hml, hown, hts⟩ := id C.1
  have hl : lv_has ls 8 [(0, .ref (q 5)), (1, .int v1), (2, .ref (q 1))] := hl
  rw [zX6_waitOnBlock] at hf
  skip
  refine lv_aload_n hx hb dX6_waitOnBlock_0 rfl (lv_at hl 0 rfl) ?_
  refine zz_getf C zi_X6_waitOnBlock_X6 hP 5 rfl rfl 0 (nm := "trains") (ds := "LThirteenthDay$Table;") (fin := true) rfl (by decide) zk_X6_waitOnBlock_16 rfl dX6_waitOnBlock_1 ?_
  refine lv_iload_n hx hb dX6_waitOnBlock_4 rfl (lv_at hl 1 rfl) ?_
  refine lv_iconst (v := 3) hx hb dX6_waitOnBlock_5 (by decide) ?_
  refine zz_callVi C (As := [.int v1, .int 3]) (rest := []) (zc_X5_get 16 (by decide) _ _ _) (cwV 2 hts gX6_waitOnBlock_X5_get rfl rfl rfl zd_X5_get ⟨Nat.le_of_ble_eq_true rfl, Nat.le_of_ble_eq_true rfl⟩) hP hS (9 + 16) (zz_c_tab (by decide)) rfl rfl hl rfl (Nat.le_of_ble_eq_true rfl) dX6_waitOnBlock_6 ⟨Nat.zero_le _, Nat.zero_le _⟩ (fun H locs hP hS => ?_)
  refine lv_topi (fun w1 e1 => ?_)
  replace hf := zz_vi hf e1
  refine lv_istore_n (lv' := [(3, .int w1), (0, .ref (q 5)), (1, .int v1), (2, .ref (q 1))]) hx hb dX6_waitOnBlock_9 rfl hl (by decide) rfl (fun ls hl => ?_)
  refine lv_aload_n hx hb dX6_waitOnBlock_10 rfl (lv_at hl 1 rfl) ?_
  refine zz_getf C zi_X6_waitOnBlock_X6 hP 5 rfl rfl 0 (nm := "trains") (ds := "LThirteenthDay$Table;") (fin := true) rfl (by decide) zk_X6_waitOnBlock_16 rfl dX6_waitOnBlock_11 ?_
  refine lv_iload_n hx hb dX6_waitOnBlock_14 rfl (lv_at hl 2 rfl) ?_
  refine lv_bipush (v := 11) hx hb dX6_waitOnBlock_15 (by decide) ?_
  refine zz_callVi C (As := [.int v1, .int 11]) (rest := []) (zc_X5_get 16 (by decide) _ _ _) (cwV 2 hts gX6_waitOnBlock_X5_get rfl rfl rfl zd_X5_get ⟨Nat.le_of_ble_eq_true rfl, Nat.le_of_ble_eq_true rfl⟩) hP hS (9 + 16) (zz_c_tab (by decide)) rfl rfl hl rfl (Nat.le_of_ble_eq_true rfl) dX6_waitOnBlock_17 ⟨Nat.zero_le _, Nat.zero_le _⟩ (fun H locs hP hS => ?_)
  refine lv_topi (fun w2 e2 => ?_)
  replace hf := zz_vi hf e2
  refine lv_istore (lv' := [(4, .int w2), (3, .int w1), (0, .ref (q 5)), (1, .int v1), (2, .ref (q 1))]) hx hb dX6_waitOnBlock_20 hl (by decide) rfl (fun ls hl => ?_)
  refine lv_aload_n hx hb dX6_waitOnBlock_22 rfl (lv_at hl 2 rfl) ?_
  refine lv_iload_n hx hb dX6_waitOnBlock_23 rfl (lv_at hl 3 rfl) ?_
  refine zz_callVi C (As := [.int v1]) (rest := []) (zc_X6_nextBlock _ _) (cwV 1 hts gX6_waitOnBlock_X6_nextBlock rfl rfl rfl zd_X6_nextBlock ⟨Nat.le_of_ble_eq_true rfl, Nat.le_of_ble_eq_true rfl⟩) hP hS 5 rfl rfl rfl hl rfl (Nat.le_of_ble_eq_true rfl) dX6_waitOnBlock_24 ⟨Nat.zero_le _, Nat.zero_le _⟩ (fun H locs hP hS => ?_)
  refine lv_topi (fun w3 e3 => ?_)
  replace hf := zz_vi hf e3
  refine lv_istore (lv' := [(5, .int w3), (4, .int w2), (3, .int w1), (0, .ref (q 5)), (1, .int v1), (2, .ref (q 1))]) hx hb dX6_waitOnBlock_27 hl (by decide) rfl (fun ls hl => ?_)
  refine lv_iload hx hb dX6_waitOnBlock_29 (lv_at hl 0 rfl) ?_
  refine lv_if_lt (tgt := 68) hx hb dX6_waitOnBlock_31 (by decide) (fun h => ?_) (fun h => ?_)
  · rw [if_pos h] at hf
    refine lv_aload_n hx hb dX6_waitOnBlock_68 rfl (lv_at hl 5 rfl) ?_
    refine lv_iload_n hx hb dX6_waitOnBlock_69 rfl (lv_at hl 2 rfl) ?_
    refine lv_iload hx hb dX6_waitOnBlock_70 (lv_at hl 1 rfl) ?_
    refine lv_iconst (v := 1) hx hb dX6_waitOnBlock_72 (by decide) ?_
    refine lv_icmp_ne (tgt := 80) hx hb dX6_waitOnBlock_73 (by decide) (fun h => ?_) (fun h => ?_)
    · rw [if_neg h] at hf
      refine lv_iconst (v := 0) hx hb dX6_waitOnBlock_80 (by decide) ?_
      exact zt_X6_waitOnBlock_81 C hr _ _ _ _ _ _ _ hf hP hS (lv_sub hl [3, 5] rfl)
    · rw [if_pos h] at hf
      refine lv_iconst (v := 1) hx hb dX6_waitOnBlock_76 (by decide) ?_
      refine lv_goto (tgt := 81) hx hb dX6_waitOnBlock_77 (by decide) ?_
      exact zt_X6_waitOnBlock_81 C hr _ _ _ _ _ _ _ hf hP hS (lv_sub hl [3, 5] rfl)
  · rw [if_neg h] at hf
    refine lv_iload hx hb dX6_waitOnBlock_34 (lv_at hl 0 rfl) ?_
    refine lv_aload_n hx hb dX6_waitOnBlock_36 rfl (lv_at hl 5 rfl) ?_
    refine lv_iload_n hx hb dX6_waitOnBlock_37 rfl (lv_at hl 2 rfl) ?_
    refine lv_iconst (v := 2) hx hb dX6_waitOnBlock_38 (by decide) ?_
    refine zz_callVi C (As := [.int w1, .int 2]) (rest := [.int w3]) (zc_X1_getLine _ _ _) (cwV 2 hts gX6_waitOnBlock_X1_getLine rfl rfl rfl zd_X1_getLine ⟨Nat.le_of_ble_eq_true rfl, Nat.le_of_ble_eq_true rfl⟩) hP hS 1 rfl rfl rfl hl rfl (Nat.le_of_ble_eq_true rfl) dX6_waitOnBlock_39 ⟨Nat.zero_le _, Nat.zero_le _⟩ (fun H locs hP hS => ?_)
    refine lv_icmp_ge (tgt := 68) hx hb dX6_waitOnBlock_42 (by decide) (fun h => ?_) (fun h => ?_)
    · rw [if_pos h] at hf
      refine lv_aload_n hx hb dX6_waitOnBlock_68 rfl (lv_at hl 5 rfl) ?_
      refine lv_iload_n hx hb dX6_waitOnBlock_69 rfl (lv_at hl 2 rfl) ?_
      refine lv_iload hx hb dX6_waitOnBlock_70 (lv_at hl 1 rfl) ?_
      refine lv_iconst (v := 1) hx hb dX6_waitOnBlock_72 (by decide) ?_
      refine lv_icmp_ne (tgt := 80) hx hb dX6_waitOnBlock_73 (by decide) (fun h => ?_) (fun h => ?_)
      · rw [if_neg h] at hf
        refine lv_iconst (v := 0) hx hb dX6_waitOnBlock_80 (by decide) ?_
        exact zt_X6_waitOnBlock_81 C hr _ _ _ _ _ _ _ hf hP hS (lv_sub hl [3, 5] rfl)
      · rw [if_pos h] at hf
        refine lv_iconst (v := 1) hx hb dX6_waitOnBlock_76 (by decide) ?_
        refine lv_goto (tgt := 81) hx hb dX6_waitOnBlock_77 (by decide) ?_
        exact zt_X6_waitOnBlock_81 C hr _ _ _ _ _ _ _ hf hP hS (lv_sub hl [3, 5] rfl)
    · rw [if_neg h] at hf
      refine lv_aload_n hx hb dX6_waitOnBlock_45 rfl (lv_at hl 3 rfl) ?_
      refine lv_iload_n hx hb dX6_waitOnBlock_46 rfl (lv_at hl 2 rfl) ?_
      refine lv_iload hx hb dX6_waitOnBlock_47 (lv_at hl 0 rfl) ?_
      refine lv_iload hx hb dX6_waitOnBlock_49 (lv_at hl 1 rfl) ?_
      refine lv_aload_n hx hb dX6_waitOnBlock_51 rfl (lv_at hl 5 rfl) ?_
      refine lv_iload_n hx hb dX6_waitOnBlock_52 rfl (lv_at hl 2 rfl) ?_
      refine zz_callVi C (As := [.int w1]) (rest := [.int w2, .int w3, .int w1, .ref (q 5)]) (zc_X1_isDouble _ _) (cwV 1 hts gX6_waitOnBlock_X1_isDouble rfl rfl rfl zd_X1_isDouble ⟨Nat.le_of_ble_eq_true rfl, Nat.le_of_ble_eq_true rfl⟩) hP hS 1 rfl rfl rfl hl rfl (Nat.le_of_ble_eq_true rfl) dX6_waitOnBlock_53 ⟨Nat.zero_le _, Nat.zero_le _⟩ (fun H locs hP hS => ?_)
      obtain ⟨x8, e9, hf⟩ := zz_bo hf
      refine zz_callVi C (As := [.int w1, .int w3, .int w2, .int (zz_b (zX1_isDouble w1 st))]) (rest := []) (zc_X6_isTaken _ _ _ (zX1_isDouble w1 st) _ _ e9) (cwV 4 hts gX6_waitOnBlock_X6_isTaken rfl rfl rfl zd_X6_isTaken ⟨Nat.le_of_ble_eq_true rfl, Nat.le_of_ble_eq_true rfl⟩) hP hS 5 rfl rfl rfl hl rfl (Nat.le_of_ble_eq_true rfl) dX6_waitOnBlock_56 ⟨Nat.zero_le _, Nat.zero_le _⟩ (fun H locs hP hS => ?_)
      refine lv_if_eq (tgt := 66) hx hb dX6_waitOnBlock_59 (by decide) (fun h => ?_) (fun h => ?_)
      · rw [zz_if0 (zz_b0 h)] at hf
        refine lv_iconst (v := 0) hx hb dX6_waitOnBlock_66 (by decide) ?_
        rw [← (Option.some.inj hf)]
        exact zz_reti C hr hP hS dX6_waitOnBlock_67
      · rw [zz_if1 (zz_b1 h)] at hf
        refine lv_iconst (v := 2) hx hb dX6_waitOnBlock_62 (by decide) ?_
        refine lv_goto (tgt := 67) hx hb dX6_waitOnBlock_63 (by decide) ?_
        rw [← (Option.some.inj hf)]
        exact zz_reti C hr hP hS dX6_waitOnBlock_67
/-! X6_waitOf PR -/
theorem zd_X6_waitOf : yX6_waitOf.cls = RX6 ∧ yX6_waitOf.cls ≠ "java/lang/invoke/MethodHandle" ∧ yX6_waitOf.cls ≠ "java/lang/invoke/VarHandle" ∧ (parseMethodDescriptor yX6_waitOf.desc).map (fun d => d.parameters.length) = some 2 := by decide +kernel
abbrev zr_X6_waitOf : Room := { frames := 4, cells := 0, slots := 0, locals := 100 }
theorem zk_X6_waitOf_16 : Cond.fieldLink yX6_waitOf.cls 16 RX6 "trains" "LThirteenthDay$Table;" ∈ wsX6_waitOf := by decide +kernel
theorem zi_X6_waitOf_X6 : ∀ w ∈ u_ws RX6 TX6 3, w ∈ wsX6_waitOf := by decide +kernel
def zX6_waitOf (v1 : Int32) (st : zz_T) : Option Int32 :=
  zz_v (zz_g 16 v1 2 st) fun w1 =>
  if w1 = 0 then
    (zX6_waitAtStation v1 st).bind fun x4 =>
    some x4
  else
    if w1 = 1 then
      if 1 < (zz_g 16 v1 5 st) then
        some 0
      else
        (zX6_waitOnBlock v1 st).bind fun x2 =>
        some x2
    else
      some 0
set_option maxHeartbeats 4000000 in
set_option maxRecDepth 100000 in
theorem zc_X6_waitOf {l : Launch} {A : Nat → Prop} {D : va_G} {cI : ClassId} {q : Nat → Nat} (v1 : Int32) (st : zz_T) (r : Int32) (hf : zX6_waitOf v1 st = some r) : zz_Mi l A D cI q yX6_waitOf wsX6_waitOf zr_X6_waitOf [.ref (q 5), .int v1, .ref (q 1)] st r st := by
  refine zz_of (cc := cX6_waitOf) (nL := 4) (ret := some .int) (by decide) rfl (Nat.le_of_ble_eq_true rfl) ?_
  intro p e s m args below meth c ls C hr hP hS hl
  obtain ⟨hx, hb, hml, hown, hts⟩ := id C.1
  have hl : lv_has ls 4 [(0, .ref (q 5)), (1, .int v1), (2, .ref (q 1))] := hl
  rw [zX6_waitOf] at hf
  skip
  refine lv_aload_n hx hb dX6_waitOf_0 rfl (lv_at hl 0 rfl) ?_
  refine zz_getf C zi_X6_waitOf_X6 hP 5 rfl rfl 0 (nm := "trains") (ds := "LThirteenthDay$Table;") (fin := true) rfl (by decide) zk_X6_waitOf_16 rfl dX6_waitOf_1 ?_
  refine lv_iload_n hx hb dX6_waitOf_4 rfl (lv_at hl 1 rfl) ?_
  refine lv_iconst (v := 2) hx hb dX6_waitOf_5 (by decide) ?_
  refine zz_callVi C (As := [.int v1, .int 2]) (rest := []) (zc_X5_get 16 (by decide) _ _ _) (cwV 2 hts gX6_waitOf_X5_get rfl rfl rfl zd_X5_get ⟨Nat.le_of_ble_eq_true rfl, Nat.le_of_ble_eq_true rfl⟩) hP hS (9 + 16) (zz_c_tab (by decide)) rfl rfl hl rfl (Nat.le_of_ble_eq_true rfl) dX6_waitOf_6 ⟨Nat.zero_le _, Nat.zero_le _⟩ (fun H locs hP hS => ?_)
  refine lv_topi (fun w1 e1 => ?_)
  replace hf := zz_vi hf e1
  refine lv_istore_n (lv' := [(3, .int w1), (0, .ref (q 5)), (1, .int v1), (2, .ref (q 1))]) hx hb dX6_waitOf_9 rfl hl (by decide) rfl (fun ls hl => ?_)
  refine lv_iload_n hx hb dX6_waitOf_10 rfl (lv_at hl 0 rfl) ?_
  refine lv_if_ne (tgt := 21) hx hb dX6_waitOf_11 (by decide) (fun h => ?_) (fun h => ?_)
  · rw [if_neg h] at hf
    refine lv_iload_n hx hb dX6_waitOf_21 rfl (lv_at hl 0 rfl) ?_
    refine lv_iconst (v := 1) hx hb dX6_waitOf_22 (by decide) ?_
    refine lv_icmp_ne (tgt := 48) hx hb dX6_waitOf_23 (by decide) (fun h => ?_) (fun h => ?_)
    · rw [if_neg h] at hf
      refine lv_iconst (v := 0) hx hb dX6_waitOf_48 (by decide) ?_
      rw [← (Option.some.inj hf)]
      exact zz_reti C hr hP hS dX6_waitOf_49
    · rw [if_pos h] at hf
      refine lv_aload_n hx hb dX6_waitOf_26 rfl (lv_at hl 1 rfl) ?_
      refine zz_getf C zi_X6_waitOf_X6 hP 5 rfl rfl 0 (nm := "trains") (ds := "LThirteenthDay$Table;") (fin := true) rfl (by decide) zk_X6_waitOf_16 rfl dX6_waitOf_27 ?_
      refine lv_iload_n hx hb dX6_waitOf_30 rfl (lv_at hl 2 rfl) ?_
      refine lv_iconst (v := 5) hx hb dX6_waitOf_31 (by decide) ?_
      refine zz_callVi C (As := [.int v1, .int 5]) (rest := []) (zc_X5_get 16 (by decide) _ _ _) (cwV 2 hts gX6_waitOf_X5_get rfl rfl rfl zd_X5_get ⟨Nat.le_of_ble_eq_true rfl, Nat.le_of_ble_eq_true rfl⟩) hP hS (9 + 16) (zz_c_tab (by decide)) rfl rfl hl rfl (Nat.le_of_ble_eq_true rfl) dX6_waitOf_32 ⟨Nat.zero_le _, Nat.zero_le _⟩ (fun H locs hP hS => ?_)
      refine lv_iconst (v := 1) hx hb dX6_waitOf_35 (by decide) ?_
      refine lv_icmp_gt (tgt := 48) hx hb dX6_waitOf_36 (by decide) (fun h => ?_) (fun h => ?_)
      · rw [if_pos h] at hf
        refine lv_iconst (v := 0) hx hb dX6_waitOf_48 (by decide) ?_
        rw [← (Option.some.inj hf)]
        exact zz_reti C hr hP hS dX6_waitOf_49
      · rw [if_neg h] at hf
        refine lv_aload_n hx hb dX6_waitOf_39 rfl (lv_at hl 1 rfl) ?_
        refine lv_iload_n hx hb dX6_waitOf_40 rfl (lv_at hl 2 rfl) ?_
        refine lv_aload_n hx hb dX6_waitOf_41 rfl (lv_at hl 3 rfl) ?_
        obtain ⟨x2, e3, hf⟩ := zz_bo hf
        refine zz_callVi C (As := [.int v1, .ref (q 1)]) (rest := []) (zc_X6_waitOnBlock _ _ _ e3) (cwV 2 hts gX6_waitOf_X6_waitOnBlock rfl rfl rfl zd_X6_waitOnBlock ⟨Nat.le_of_ble_eq_true rfl, Nat.le_of_ble_eq_true rfl⟩) hP hS 5 rfl rfl rfl hl rfl (Nat.le_of_ble_eq_true rfl) dX6_waitOf_42 ⟨Nat.zero_le _, Nat.zero_le _⟩ (fun H locs hP hS => ?_)
        refine lv_goto (tgt := 49) hx hb dX6_waitOf_45 (by decide) ?_
        rw [← (Option.some.inj hf)]
        exact zz_reti C hr hP hS dX6_waitOf_49
  · rw [if_pos h] at hf
    refine lv_aload_n hx hb dX6_waitOf_14 rfl (lv_at hl 1 rfl) ?_
    refine lv_iload_n hx hb dX6_waitOf_15 rfl (lv_at hl 2 rfl) ?_
    refine lv_aload_n hx hb dX6_waitOf_16 rfl (lv_at hl 3 rfl) ?_
    obtain ⟨x4, e5, hf⟩ := zz_bo hf
    refine zz_callVi C (As := [.int v1, .ref (q 1)]) (rest := []) (zc_X6_waitAtStation _ _ _ e5) (cwV 2 hts gX6_waitOf_X6_waitAtStation rfl rfl rfl zd_X6_waitAtStation ⟨Nat.le_of_ble_eq_true rfl, Nat.le_of_ble_eq_true rfl⟩) hP hS 5 rfl rfl rfl hl rfl (Nat.le_of_ble_eq_true rfl) dX6_waitOf_17 ⟨Nat.zero_le _, Nat.zero_le _⟩ (fun H locs hP hS => ?_)
    rw [← (Option.some.inj hf)]
    exact zz_reti C hr hP hS dX6_waitOf_20
/-! X6_get TR -/
theorem zd_X6_get : yX6_get.cls = RX6 ∧ yX6_get.cls ≠ "java/lang/invoke/MethodHandle" ∧ yX6_get.cls ≠ "java/lang/invoke/VarHandle" ∧ (parseMethodDescriptor yX6_get.desc).map (fun d => d.parameters.length) = some 2 := by decide +kernel
abbrev zr_X6_get : Room := { frames := 1, cells := 0, slots := 0, locals := 24 }
theorem zk_X6_get_16 : Cond.fieldLink yX6_get.cls 16 RX6 "trains" "LThirteenthDay$Table;" ∈ wsX6_get := by decide +kernel
theorem zi_X6_get_X6 : ∀ w ∈ u_ws RX6 TX6 3, w ∈ wsX6_get := by decide +kernel
def zX6_get (v1 : Int32) (v2 : Int32) (st : zz_T) : Int32 :=
  (zz_g 16 v1 v2 st)
set_option maxHeartbeats 4000000 in
set_option maxRecDepth 100000 in
theorem zc_X6_get {l : Launch} {A : Nat → Prop} {D : va_G} {cI : ClassId} {q : Nat → Nat} (v1 : Int32) (v2 : Int32) (st : zz_T) : zz_Mi l A D cI q yX6_get wsX6_get zr_X6_get [.ref (q 5), .int v1, .int v2] st (zX6_get v1 v2 st) st := by
  refine zz_of (cc := cX6_get) (nL := 3) (ret := some .int) (by decide) rfl (Nat.le_of_ble_eq_true rfl) ?_
  intro p e s m args below meth c ls C hr hP hS hl
  obtain ⟨hx, hb, hml, hown, hts⟩ := id C.1
  have hl : lv_has ls 3 [(0, .ref (q 5)), (1, .int v1), (2, .int v2)] := hl
  obtain ⟨r, hf⟩ : ∃ r, zX6_get v1 v2 st = r := ⟨_, rfl⟩
  rw [hf]
  rw [zX6_get] at hf
  skip
  refine lv_aload_n hx hb dX6_get_0 rfl (lv_at hl 0 rfl) ?_
  refine zz_getf C zi_X6_get_X6 hP 5 rfl rfl 0 (nm := "trains") (ds := "LThirteenthDay$Table;") (fin := true) rfl (by decide) zk_X6_get_16 rfl dX6_get_1 ?_
  refine lv_iload_n hx hb dX6_get_4 rfl (lv_at hl 1 rfl) ?_
  refine lv_iload_n hx hb dX6_get_5 rfl (lv_at hl 2 rfl) ?_
  refine zz_callVi C (As := [.int v1, .int v2]) (rest := []) (zc_X5_get 16 (by decide) _ _ _) (cwV 2 hts gX6_get_X5_get rfl rfl rfl zd_X5_get ⟨Nat.le_of_ble_eq_true rfl, Nat.le_of_ble_eq_true rfl⟩) hP hS (9 + 16) (zz_c_tab (by decide)) rfl rfl hl rfl (Nat.le_of_ble_eq_true rfl) dX6_get_6 ⟨Nat.zero_le _, Nat.zero_le _⟩ (fun H locs hP hS => ?_)
  rw [← hf]
  exact zz_reti C hr hP hS dX6_get_9
/-! X6_lateOf TR -/
theorem zd_X6_lateOf : yX6_lateOf.cls = RX6 ∧ yX6_lateOf.cls ≠ "java/lang/invoke/MethodHandle" ∧ yX6_lateOf.cls ≠ "java/lang/invoke/VarHandle" ∧ (parseMethodDescriptor yX6_lateOf.desc).map (fun d => d.parameters.length) = some 2 := by decide +kernel
abbrev zr_X6_lateOf : Room := { frames := 1, cells := 0, slots := 0, locals := 24 }
theorem zq_X6_lateOf_max : Cond.methodLink yX6_lateOf.cls 38 Lib.Math.max.name ∈ wsX6_lateOf ∧ Cond.static Lib.Math.max.name ∈ wsX6_lateOf ∧ Cond.initialized "java/lang/Math" ∈ wsX6_lateOf ∧ Cond.code Lib.Math.max.name Lib.Math.max.code 2 (some .int) ∈ wsX6_lateOf := by decide +kernel
theorem zk_X6_lateOf_16 : Cond.fieldLink yX6_lateOf.cls 16 RX6 "trains" "LThirteenthDay$Table;" ∈ wsX6_lateOf := by decide +kernel
theorem zi_X6_lateOf_X6 : ∀ w ∈ u_ws RX6 TX6 3, w ∈ wsX6_lateOf := by decide +kernel
def zX6_lateOf (v1 : Int32) (v2 : Int32) (st : zz_T) : Int32 :=
  if (zz_g 16 v1 2 st) = 3 then
    0
  else
    (zz_max 0 (v2 - (zz_g 16 v1 7 st)))
set_option maxHeartbeats 4000000 in
set_option maxRecDepth 100000 in
theorem zc_X6_lateOf {l : Launch} {A : Nat → Prop} {D : va_G} {cI : ClassId} {q : Nat → Nat} (v1 : Int32) (v2 : Int32) (st : zz_T) : zz_Mi l A D cI q yX6_lateOf wsX6_lateOf zr_X6_lateOf [.ref (q 5), .int v1, .int v2] st (zX6_lateOf v1 v2 st) st := by
  refine zz_of (cc := cX6_lateOf) (nL := 3) (ret := some .int) (by decide) rfl (Nat.le_of_ble_eq_true rfl) ?_
  intro p e s m args below meth c ls C hr hP hS hl
  obtain ⟨hx, hb, hml, hown, hts⟩ := id C.1
  have hl : lv_has ls 3 [(0, .ref (q 5)), (1, .int v1), (2, .int v2)] := hl
  obtain ⟨r, hf⟩ : ∃ r, zX6_lateOf v1 v2 st = r := ⟨_, rfl⟩
  rw [hf]
  rw [zX6_lateOf] at hf
  skip
  refine lv_aload_n hx hb dX6_lateOf_0 rfl (lv_at hl 0 rfl) ?_
  refine zz_getf C zi_X6_lateOf_X6 hP 5 rfl rfl 0 (nm := "trains") (ds := "LThirteenthDay$Table;") (fin := true) rfl (by decide) zk_X6_lateOf_16 rfl dX6_lateOf_1 ?_
  refine lv_iload_n hx hb dX6_lateOf_4 rfl (lv_at hl 1 rfl) ?_
  refine lv_iconst (v := 2) hx hb dX6_lateOf_5 (by decide) ?_
  refine zz_callVi C (As := [.int v1, .int 2]) (rest := []) (zc_X5_get 16 (by decide) _ _ _) (cwV 2 hts gX6_lateOf_X5_get rfl rfl rfl zd_X5_get ⟨Nat.le_of_ble_eq_true rfl, Nat.le_of_ble_eq_true rfl⟩) hP hS (9 + 16) (zz_c_tab (by decide)) rfl rfl hl rfl (Nat.le_of_ble_eq_true rfl) dX6_lateOf_6 ⟨Nat.zero_le _, Nat.zero_le _⟩ (fun H locs hP hS => ?_)
  refine lv_iconst (v := 3) hx hb dX6_lateOf_9 (by decide) ?_
  refine lv_icmp_ne (tgt := 17) hx hb dX6_lateOf_10 (by decide) (fun h => ?_) (fun h => ?_)
  · rw [if_neg h] at hf
    refine lv_iconst (v := 0) hx hb dX6_lateOf_17 (by decide) ?_
    refine lv_iload_n hx hb dX6_lateOf_18 rfl (lv_at hl 2 rfl) ?_
    refine lv_aload_n hx hb dX6_lateOf_19 rfl (lv_at hl 0 rfl) ?_
    refine zz_getf C zi_X6_lateOf_X6 hP 5 rfl rfl 0 (nm := "trains") (ds := "LThirteenthDay$Table;") (fin := true) rfl (by decide) zk_X6_lateOf_16 rfl dX6_lateOf_20 ?_
    refine lv_iload_n hx hb dX6_lateOf_23 rfl (lv_at hl 1 rfl) ?_
    refine lv_bipush (v := 7) hx hb dX6_lateOf_24 (by decide) ?_
    refine zz_callVi C (As := [.int v1, .int 7]) (rest := [.int v2, .int 0]) (zc_X5_get 16 (by decide) _ _ _) (cwV 2 hts gX6_lateOf_X5_get rfl rfl rfl zd_X5_get ⟨Nat.le_of_ble_eq_true rfl, Nat.le_of_ble_eq_true rfl⟩) hP hS (9 + 16) (zz_c_tab (by decide)) rfl rfl hl rfl (Nat.le_of_ble_eq_true rfl) dX6_lateOf_26 ⟨Nat.zero_le _, Nat.zero_le _⟩ (fun H locs hP hS => ?_)
    refine lv_isub hx hb dX6_lateOf_29 ?_
    refine zz_mmax C zq_X6_lateOf_max hl (by decide) (Nat.le_of_ble_eq_true rfl) ⟨Nat.zero_le _, Nat.zero_le _⟩ dX6_lateOf_30 ?_
    rw [← hf]
    exact zz_reti C hr hP hS dX6_lateOf_33
  · rw [if_pos h] at hf
    refine lv_iconst (v := 0) hx hb dX6_lateOf_13 (by decide) ?_
    refine lv_goto (tgt := 33) hx hb dX6_lateOf_14 (by decide) ?_
    rw [← hf]
    exact zz_reti C hr hP hS dX6_lateOf_33
